set_option maxRecDepth 100000 in
theorem opq {α : Type} {h : HH} {x : Option (α × HH)} {y : HH → Option (α × HH)} {R N T : Nat → Nat} (a : α) (hc : x = some (a, sI h 0 16 (nI 0))) (hm : ∀ h1 g, MA g R N T → fX9_good 181 h1 = some g → y h1 = some (a, g)) : OpQ h x y (fun h1 => MA h1 R N T) :=
  ⟨a, 0, by omega, CQ.of hc, fun h1 M => by
    obtain ⟨g, hg, Mg, K, t0⟩ := mGood M
    exact MQ'.of (hm h1 g Mg hg) t0 K⟩
set_option maxRecDepth 100000 in
theorem opr {α : Type} {h : HH} {x : Option (α × HH)} {y : HH → Option (α × HH)} {R N T : Nat → Nat} (t : Nat) (ht : t ≠ 4 ∧ t < 100) (a : α) (hc : x = some (a, sI h 0 16 (nI t))) (hm : ∀ h1 g, MA g R N T → fX9_good 181 h1 = some g → y h1 = some (a, sI g 181 11 (nI t))) : OpQ h x y (fun h1 => MA h1 R N T) :=
  ⟨a, t, ht, CQ.of hc, fun h1 M => by
    obtain ⟨g, hg, Mg, K, t0⟩ := mGood M
    exact MQ'.no (hm h1 g Mg hg) K⟩
set_option maxRecDepth 100000 in
theorem mIts {h : HH} {N T : Nat → Nat} (M : MNRep h N T) {s k : Nat} (hs : s < 5) (hk : k < 4) : fX9_its 181 (nI s) (nI k) h = some (nI (N (4 * s + k)), h) := by
  simp (disch := omega) only [lI, lJ, gd_1, bd_1, bv_1, nm_1, ixN, inbN, eqN, leN, ltN, eqL, leL, ltL, beqN, beqL, nI_add, pk_mul, lN_add, lN_mul, nI_l, lN_i, pk_div, pk_lDiv, pk_sub, lN_sub, remN, remL, neg1, neg2, negL, negL2, M1e, M1f, M1g, M1h, M1i, M1j, M2e, M2f, L1g, L1h, L1i, L1j, les_eq, les_e, les_n, les_m, fX9_its, Nat.reduceAdd, M.1]
set_option maxRecDepth 100000 in
theorem mOf {h : HH} {R : Nat → Nat} (M : MRep h R) {s k : Nat} (hs : s < 5) (hk : k < 5) : fX9_of 181 (nI s) (nI k) h = some (nI (R (15 + 5 * s + k)), h) := by
  simp (disch := omega) only [lI, lJ, gd_1, bd_1, bv_1, nm_1, ixN, inbN, eqN, leN, ltN, eqL, leL, ltL, beqN, beqL, nI_add, pk_mul, lN_add, lN_mul, nI_l, lN_i, pk_div, pk_lDiv, pk_sub, lN_sub, remN, remL, neg1, neg2, negL, negL2, M1e, M1f, M1g, M1h, M1i, M1j, M2e, M2f, L1g, L1h, L1i, L1j, les_eq, les_e, les_n, les_m, fX9_of, Nat.reduceAdd, M (15 + 5 * s + k)]
section OPS
variable {h : HH} {d : Nat} {R N T : Nat → Nat}
set_option maxRecDepth 100000 in
theorem oQuick (C : CA h d R N T) (x : Int32) : OpQ h (fX8_quick 0 x h) (fun h1 => fX9_quick 181 x h1) (fun h1 => MA h1 R N T) := by
  have k := isKb_D C.2.1
  have v := C.2.2.2.2.1
  have vF := v.F
  rcases flC C x with ⟨f, hf, rfl, e1, e2⟩ | ⟨e1, e2⟩
  · refine opq (nI (qk R f)) ?_ (fun h1 g Mg hg => ?_)
    · simp (disch := omega) only [lI, lJ, gd_1, bd_1, bv_1, nm_1, ixN, inbN, eqN, leN, ltN, eqL, leL, ltL, beqN, beqL, nI_add, pk_mul, lN_add, lN_mul, nI_l, lN_i, pk_div, pk_lDiv, pk_sub, lN_sub, remN, remL, neg1, neg2, negL, negL2, M1e, M1f, M1g, M1h, M1i, M1j, M2e, M2f, L1g, L1h, L1i, L1j, les_eq, les_e, les_n, les_m, fX8_quick, e1, C.1, k, cQuick C.2.2.2.1 v hf, cond_true, fX8_allow]
    · simp (disch := omega) only [lI, lJ, gd_1, bd_1, bv_1, nm_1, ixN, inbN, eqN, leN, ltN, eqL, leL, ltL, beqN, beqL, nI_add, pk_mul, lN_add, lN_mul, nI_l, lN_i, pk_div, pk_lDiv, pk_sub, lN_sub, remN, remL, neg1, neg2, negL, negL2, M1e, M1f, M1g, M1h, M1i, M1j, M2e, M2f, L1g, L1h, L1i, L1j, les_eq, les_e, les_n, les_m, fX9_quick, hg, e2 g Mg, mQuick Mg.2.1 (f := f) (by omega), cond_true]
  · refine opr 1 (by omega) M1 ?_ (fun h1 g Mg hg => ?_)
    · simp (disch := omega) only [lI, lJ, gd_1, bd_1, bv_1, nm_1, ixN, inbN, eqN, leN, ltN, eqL, leL, ltL, beqN, beqL, nI_add, pk_mul, lN_add, lN_mul, nI_l, lN_i, pk_div, pk_lDiv, pk_sub, lN_sub, remN, remL, neg1, neg2, negL, negL2, M1e, M1f, M1g, M1h, M1i, M1j, M2e, M2f, L1g, L1h, L1i, L1j, les_eq, les_e, les_n, les_m, fX8_quick, e1, cond_false, fX8_refuse]
    · simp (disch := omega) only [lI, lJ, gd_1, bd_1, bv_1, nm_1, ixN, inbN, eqN, leN, ltN, eqL, leL, ltL, beqN, beqL, nI_add, pk_mul, lN_add, lN_mul, nI_l, lN_i, pk_div, pk_lDiv, pk_sub, lN_sub, remN, remL, neg1, neg2, negL, negL2, M1e, M1f, M1g, M1h, M1i, M1j, M2e, M2f, L1g, L1h, L1i, L1j, les_eq, les_e, les_n, les_m, fX9_quick, hg, e2 g Mg, cond_false, fX9_no]
set_option maxRecDepth 100000 in
theorem VN.t {R N T : Nat → Nat} (v : VR R) {B : Nat} (n : VN R N T B) (hB : B ≤ 2000) : T 0 ≤ 41472000 := Nat.le_trans n.1 (Nat.le_trans (Nat.mul_le_mul hB v.bt.2) (by decide))
set_option maxRecDepth 100000 in
theorem oClock (C : CA h d R N T) (x : Int32) : OpQ h (fX8_clock 0 x h) (fun h1 => fX9_clock 181 x h1) (fun h1 => MA h1 R N T) := by
  have k := isKb_D C.2.1
  have v := C.2.2.2.2.1
  have vF := v.F
  have hT := VN.t v C.2.2.2.2.2.2.1 (by omega)
  rcases flC C x with ⟨f, hf, rfl, e1, e2⟩ | ⟨e1, e2⟩
  · have hm := v.mn hf
    have hn : ¬ mn R f = 0 := by omega
    refine opq (lN (T 0 / mn R f)) ?_ (fun h1 g Mg hg => ?_)
    · simp (disch := omega) only [lI, lJ, gd_1, bd_1, bv_1, nm_1, ixN, inbN, eqN, leN, ltN, eqL, leL, ltL, beqN, beqL, nI_add, pk_mul, lN_add, lN_mul, nI_l, lN_i, pk_div, pk_lDiv, pk_sub, lN_sub, remN, remL, neg1, neg2, negL, negL2, M1e, M1f, M1g, M1h, M1i, M1j, M2e, M2f, L1g, L1h, L1i, L1j, les_eq, les_e, les_n, les_m, fX8_clock, fX8_clockOf, e1, C.1, k, cMinute C.2.2.2.1 v hf, cond_true, fX8_allow_, C.2.2.2.2.2.1.1, Nat.reduceAdd, cQuo]
    · simp (disch := omega) only [lI, lJ, gd_1, bd_1, bv_1, nm_1, ixN, inbN, eqN, leN, ltN, eqL, leL, ltL, beqN, beqL, nI_add, pk_mul, lN_add, lN_mul, nI_l, lN_i, pk_div, pk_lDiv, pk_sub, lN_sub, remN, remL, neg1, neg2, negL, negL2, M1e, M1f, M1g, M1h, M1i, M1j, M2e, M2f, L1g, L1h, L1i, L1j, les_eq, les_e, les_n, les_m, fX9_clock, hg, e2 g Mg, mMinute Mg.2.1 v hf, cond_true, Mg.2.2.2.1.2 0, Nat.reduceAdd, hn, decide_false, Bool.not_false]
  · refine opr 1 (by omega) M1.toInt64 ?_ (fun h1 g Mg hg => ?_)
    · simp (disch := omega) only [lI, lJ, gd_1, bd_1, bv_1, nm_1, ixN, inbN, eqN, leN, ltN, eqL, leL, ltL, beqN, beqL, nI_add, pk_mul, lN_add, lN_mul, nI_l, lN_i, pk_div, pk_lDiv, pk_sub, lN_sub, remN, remL, neg1, neg2, negL, negL2, M1e, M1f, M1g, M1h, M1i, M1j, M2e, M2f, L1g, L1h, L1i, L1j, les_eq, les_e, les_n, les_m, fX8_clock, e1, cond_false, fX8_refuse]
    · simp (disch := omega) only [lI, lJ, gd_1, bd_1, bv_1, nm_1, ixN, inbN, eqN, leN, ltN, eqL, leL, ltL, beqN, beqL, nI_add, pk_mul, lN_add, lN_mul, nI_l, lN_i, pk_div, pk_lDiv, pk_sub, lN_sub, remN, remL, neg1, neg2, negL, negL2, M1e, M1f, M1g, M1h, M1i, M1j, M2e, M2f, L1g, L1h, L1i, L1j, les_eq, les_e, les_n, les_m, fX9_clock, hg, e2 g Mg, cond_false, fX9_no]
set_option maxRecDepth 100000 in
theorem oTicks (C : CA h d R N T) : OpQ h (fX8_ticks 0 h) (fun h1 => fX9_ticks 181 h1) (fun h1 => MA h1 R N T) := by
  have z1 : ¬ (1 : Nat) = 0 := by omega
  refine opq (lN (T 0)) ?_ (fun h1 g Mg hg => ?_)
  · simp (disch := omega) only [lI, lJ, gd_1, bd_1, bv_1, nm_1, ixN, inbN, eqN, leN, ltN, eqL, leL, ltL, beqN, beqL, nI_add, pk_mul, lN_add, lN_mul, nI_l, lN_i, pk_div, pk_lDiv, pk_sub, lN_sub, remN, remL, neg1, neg2, negL, negL2, M1e, M1f, M1g, M1h, M1i, M1j, M2e, M2f, L1g, L1h, L1i, L1j, les_eq, les_e, les_n, les_m, fX8_ticks, C.2.2.1, z1, if_false, fX8_allow_, C.2.2.2.2.2.1.1, Nat.reduceAdd]
  · simp (disch := omega) only [lI, lJ, gd_1, bd_1, bv_1, nm_1, ixN, inbN, eqN, leN, ltN, eqL, leL, ltL, beqN, beqL, nI_add, pk_mul, lN_add, lN_mul, nI_l, lN_i, pk_div, pk_lDiv, pk_sub, lN_sub, remN, remL, neg1, neg2, negL, negL2, M1e, M1f, M1g, M1h, M1i, M1j, M2e, M2f, L1g, L1h, L1i, L1j, les_eq, les_e, les_n, les_m, fX9_ticks, hg, Mg.1, z1, if_false, Mg.2.2.2.1.2 0, Nat.reduceAdd]
set_option maxRecDepth 100000 in
theorem oMinutes (C : CA h d R N T) (x y z : Int32) (b : Bool) : OpQ h (fX8_minutes 0 x y z b h) (fun h1 => fX9_minutes 181 x y z b h1) (fun h1 => MA h1 R N T) := by
  have k := isKb_D C.2.1
  have v := C.2.2.2.2.1
  have vF := v.F
  rcases flC C x with ⟨f, hf, rfl, e1, e2⟩ | ⟨e1, e2⟩
  · rcases flC C y with ⟨f2, hf2, rfl, e3, e4⟩ | ⟨e3, e4⟩
    · have q1 := v.qk hf
      have q2 := v.qk hf2
      rcases rng z (n := 9999) (by omega) with ⟨j, hj, rfl⟩ | hx | ⟨hx1, hx2, hx3, hx4⟩ | hx
      · have hb : j * qk R f2 ≤ 9999 * 20736 := Nat.mul_le_mul hj q2.2
        refine opq (lN (lowF (j * qk R f2) (qk R f) b)) ?_ (fun h1 g Mg hg => ?_)
        · simp (disch := omega) only [lI, lJ, gd_1, bd_1, bv_1, nm_1, ixN, inbN, eqN, leN, ltN, eqL, leL, ltL, beqN, beqL, nI_add, pk_mul, lN_add, lN_mul, nI_l, lN_i, pk_div, pk_lDiv, pk_sub, lN_sub, remN, remL, neg1, neg2, negL, negL2, M1e, M1f, M1g, M1h, M1i, M1j, M2e, M2f, L1g, L1h, L1i, L1j, les_eq, les_e, les_n, les_m, fX8_minutes, e1, e3, C.1, k, cQuick C.2.2.2.1 v hf, cQuick C.2.2.2.1 v hf2, cond_true, fX8_allow_, hj, Nat.not_lt_zero, if_true, if_false, cLow b]
        · simp (disch := omega) only [lI, lJ, gd_1, bd_1, bv_1, nm_1, ixN, inbN, eqN, leN, ltN, eqL, leL, ltL, beqN, beqL, nI_add, pk_mul, lN_add, lN_mul, nI_l, lN_i, pk_div, pk_lDiv, pk_sub, lN_sub, remN, remL, neg1, neg2, negL, negL2, M1e, M1f, M1g, M1h, M1i, M1j, M2e, M2f, L1g, L1h, L1i, L1j, les_eq, les_e, les_n, les_m, fX9_minutes, hg, e2 g Mg, e4 g Mg, mQuick Mg.2.1 (f := f) (by omega), mQuick Mg.2.1 (f := f2) (by omega), cond_true, cond_false, wit3, mLow b]
      · refine opr 2 (by omega) M1.toInt64 ?_ (fun h1 g Mg hg => ?_)
        · simp (disch := omega) only [lI, lJ, gd_1, bd_1, bv_1, nm_1, ixN, inbN, eqN, leN, ltN, eqL, leL, ltL, beqN, beqL, nI_add, pk_mul, lN_add, lN_mul, nI_l, lN_i, pk_div, pk_lDiv, pk_sub, lN_sub, remN, remL, neg1, neg2, negL, negL2, M1e, M1f, M1g, M1h, M1i, M1j, M2e, M2f, L1g, L1h, L1i, L1j, les_eq, les_e, les_n, les_m, fX8_minutes, e1, e3, cond_true, hx, if_true, fX8_refuse]
        · simp (disch := omega) only [lI, lJ, gd_1, bd_1, bv_1, nm_1, ixN, inbN, eqN, leN, ltN, eqL, leL, ltL, beqN, beqL, nI_add, pk_mul, lN_add, lN_mul, nI_l, lN_i, pk_div, pk_lDiv, pk_sub, lN_sub, remN, remL, neg1, neg2, negL, negL2, M1e, M1f, M1g, M1h, M1i, M1j, M2e, M2f, L1g, L1h, L1i, L1j, les_eq, les_e, les_n, les_m, fX9_minutes, hg, e2 g Mg, e4 g Mg, cond_true, cond_false, wit hx, fX9_no]
      · refine opr 2 (by omega) M1.toInt64 ?_ (fun h1 g Mg hg => ?_)
        · simp (disch := omega) only [lI, lJ, gd_1, bd_1, bv_1, nm_1, ixN, inbN, eqN, leN, ltN, eqL, leL, ltL, beqN, beqL, nI_add, pk_mul, lN_add, lN_mul, nI_l, lN_i, pk_div, pk_lDiv, pk_sub, lN_sub, remN, remL, neg1, neg2, negL, negL2, M1e, M1f, M1g, M1h, M1i, M1j, M2e, M2f, L1g, L1h, L1i, L1j, les_eq, les_e, les_n, les_m, fX8_minutes, e1, e3, cond_true, hx1, hx2, if_false, fX8_refuse]
        · simp (disch := omega) only [lI, lJ, gd_1, bd_1, bv_1, nm_1, ixN, inbN, eqN, leN, ltN, eqL, leL, ltL, beqN, beqL, nI_add, pk_mul, lN_add, lN_mul, nI_l, lN_i, pk_div, pk_lDiv, pk_sub, lN_sub, remN, remL, neg1, neg2, negL, negL2, M1e, M1f, M1g, M1h, M1i, M1j, M2e, M2f, L1g, L1h, L1i, L1j, les_eq, les_e, les_n, les_m, fX9_minutes, hg, e2 g Mg, e4 g Mg, cond_true, cond_false, wit2 hx1 hx3, fX9_no]
      · omega
    · refine opr 1 (by omega) M1.toInt64 ?_ (fun h1 g Mg hg => ?_)
      · simp (disch := omega) only [lI, lJ, gd_1, bd_1, bv_1, nm_1, ixN, inbN, eqN, leN, ltN, eqL, leL, ltL, beqN, beqL, nI_add, pk_mul, lN_add, lN_mul, nI_l, lN_i, pk_div, pk_lDiv, pk_sub, lN_sub, remN, remL, neg1, neg2, negL, negL2, M1e, M1f, M1g, M1h, M1i, M1j, M2e, M2f, L1g, L1h, L1i, L1j, les_eq, les_e, les_n, les_m, fX8_minutes, e1, e3, cond_true, cond_false, fX8_refuse]
      · simp (disch := omega) only [lI, lJ, gd_1, bd_1, bv_1, nm_1, ixN, inbN, eqN, leN, ltN, eqL, leL, ltL, beqN, beqL, nI_add, pk_mul, lN_add, lN_mul, nI_l, lN_i, pk_div, pk_lDiv, pk_sub, lN_sub, remN, remL, neg1, neg2, negL, negL2, M1e, M1f, M1g, M1h, M1i, M1j, M2e, M2f, L1g, L1h, L1i, L1j, les_eq, les_e, les_n, les_m, fX9_minutes, hg, e2 g Mg, e4 g Mg, cond_true, cond_false, fX9_no]
  · refine opr 1 (by omega) M1.toInt64 ?_ (fun h1 g Mg hg => ?_)
    · simp (disch := omega) only [lI, lJ, gd_1, bd_1, bv_1, nm_1, ixN, inbN, eqN, leN, ltN, eqL, leL, ltL, beqN, beqL, nI_add, pk_mul, lN_add, lN_mul, nI_l, lN_i, pk_div, pk_lDiv, pk_sub, lN_sub, remN, remL, neg1, neg2, negL, negL2, M1e, M1f, M1g, M1h, M1i, M1j, M2e, M2f, L1g, L1h, L1i, L1j, les_eq, les_e, les_n, les_m, fX8_minutes, e1, cond_false, fX8_refuse]
    · simp (disch := omega) only [lI, lJ, gd_1, bd_1, bv_1, nm_1, ixN, inbN, eqN, leN, ltN, eqL, leL, ltL, beqN, beqL, nI_add, pk_mul, lN_add, lN_mul, nI_l, lN_i, pk_div, pk_lDiv, pk_sub, lN_sub, remN, remL, neg1, neg2, negL, negL2, M1e, M1f, M1g, M1h, M1i, M1j, M2e, M2f, L1g, L1h, L1i, L1j, les_eq, les_e, les_n, les_m, fX9_minutes, hg, e2 g Mg, cond_false, fX9_no]
end OPS
