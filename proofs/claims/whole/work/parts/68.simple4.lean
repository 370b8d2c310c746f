section OPS
variable {h : HH} {d : Nat} {R N T : Nat → Nat}
set_option maxRecDepth 100000 in
theorem offL (C : CA h d R N T) : ∀ m i, i + m = R 4 → ∃ a, (∀ n, m < n → lq1 (fX8_off_L15 0) n (nI i) h = some (a, sI h 0 16 (nI 0))) ∧ ∀ (g : HH) n, MA g R N T → m < n → lq1 (fX9_off_L19 181) n (nI i) g = some (a, g) := by
  have k := isKb_D C.2.1
  have v := C.2.2.2.2.1
  have vF := v.S
  have r4 := C.2.2.2.1.2.2.2.1.1.2
  intro m
  induction m with
  | zero =>
    intro i e
    have : i = R 4 := by omega
    subst this
    refine ⟨M2, fun n hn => ?_, fun g n Mg hn => ?_⟩
    · obtain ⟨n, rfl⟩ : ∃ q, n = q + 1 := ⟨n - 1, by omega⟩
      simp (disch := omega) only [lI, lJ, gd_1, bd_1, bv_1, nm_1, ixN, inbN, eqN, leN, ltN, eqL, leL, ltL, beqN, beqL, nI_add, pk_mul, lN_add, lN_mul, nI_l, lN_i, pk_div, pk_lDiv, pk_sub, lN_sub, remN, remL, neg1, neg2, negL, negL2, M1e, M1f, M1g, M1h, M1i, M1j, M2e, M2f, L1g, L1h, L1i, L1j, les_eq, les_e, les_n, les_m, cond_true, cond_false, if_true, if_false, fX8_refuse, fX8_allow, fX8_allow_, Nat.not_lt_zero, Nat.reduceAdd, Nat.reduceLT, Nat.reduceLeDiff, Nat.reduceEqDiff, decide_false, decide_true, Bool.not_false, Bool.not_true, C.1, k, lq1, fX8_off_L15, r4, Nat.le_refl]
    · obtain ⟨n, rfl⟩ : ∃ q, n = q + 1 := ⟨n - 1, by omega⟩
      simp (disch := omega) only [lI, lJ, gd_1, bd_1, bv_1, nm_1, ixN, inbN, eqN, leN, ltN, eqL, leL, ltL, beqN, beqL, nI_add, pk_mul, lN_add, lN_mul, nI_l, lN_i, pk_div, pk_lDiv, pk_sub, lN_sub, remN, remL, neg1, neg2, negL, negL2, M1e, M1f, M1g, M1h, M1i, M1j, M2e, M2f, L1g, L1h, L1i, L1j, les_eq, les_e, les_n, les_m, lq1, fX9_off_L19, Nat.reduceAdd, Mg.2.1 4, Nat.le_refl, if_true]
  | succ m ih =>
    intro i e
    have hi : i < R 4 := by omega
    have n1 : ¬ R 4 ≤ i := by omega
    obtain ⟨a, A, B⟩ := ih (i + 1) (by omega)
    have dS := C.2.2.2.1.2.2.2.2.1 i hi
    have q := C.2.2.2.2.2.1.2.1 i (by omega)
    have w := C.2.2.2.2.2.2.1.2.1 i (by omega)
    have vS := v.2.2.1 i hi
    have vR := v.F
    rcases Nat.eq_zero_or_pos (R (15 + 5 * i + 4)) with z | z
    · refine ⟨a, fun n hn => ?_, fun g n Mg hn => ?_⟩
      · obtain ⟨n, rfl⟩ : ∃ q, n = q + 1 := ⟨n - 1, by omega⟩
        simp (disch := omega) only [lI, lJ, gd_1, bd_1, bv_1, nm_1, ixN, inbN, eqN, leN, ltN, eqL, leL, ltL, beqN, beqL, nI_add, pk_mul, lN_add, lN_mul, nI_l, lN_i, pk_div, pk_lDiv, pk_sub, lN_sub, remN, remL, neg1, neg2, negL, negL2, M1e, M1f, M1g, M1h, M1i, M1j, M2e, M2f, L1g, L1h, L1i, L1j, les_eq, les_e, les_n, les_m, cond_true, cond_false, if_true, if_false, fX8_refuse, fX8_allow, fX8_allow_, Nat.not_lt_zero, Nat.reduceAdd, Nat.reduceLT, Nat.reduceLeDiff, Nat.reduceEqDiff, decide_false, decide_true, Bool.not_false, Bool.not_true, C.1, k, lq1, fX8_off_L15, r4, n1, cSl C.2.2.2.1 C.2.1 v hi, dS.2.1, z]
        exact A n (by omega)
      · obtain ⟨n, rfl⟩ : ∃ q, n = q + 1 := ⟨n - 1, by omega⟩
        simp (disch := omega) only [lI, lJ, gd_1, bd_1, bv_1, nm_1, ixN, inbN, eqN, leN, ltN, eqL, leL, ltL, beqN, beqL, nI_add, pk_mul, lN_add, lN_mul, nI_l, lN_i, pk_div, pk_lDiv, pk_sub, lN_sub, remN, remL, neg1, neg2, negL, negL2, M1e, M1f, M1g, M1h, M1i, M1j, M2e, M2f, L1g, L1h, L1i, L1j, les_eq, les_e, les_n, les_m, lq1, fX9_off_L19, Nat.reduceAdd, Mg.2.1 4, n1, mOf Mg.2.1, z, Nat.le_refl, if_true, if_false]
        exact B g n Mg (by omega)
    · obtain ⟨t, ht⟩ : ∃ t, R (15 + 5 * i + 4) = t + 1 := ⟨R (15 + 5 * i + 4) - 1, by omega⟩
      have n2 : ¬ t + 1 = 0 := by omega
      have n3 : ¬ t + 1 ≤ 0 := by omega
      have e3 : t + 1 - 1 = t := by omega
      by_cases y : t = N (4 * i + 0)
      · refine ⟨a, fun n hn => ?_, fun g n Mg hn => ?_⟩
        · obtain ⟨n, rfl⟩ : ∃ q, n = q + 1 := ⟨n - 1, by omega⟩
          simp (disch := omega) only [lI, lJ, gd_1, bd_1, bv_1, nm_1, ixN, inbN, eqN, leN, ltN, eqL, leL, ltL, beqN, beqL, nI_add, pk_mul, lN_add, lN_mul, nI_l, lN_i, pk_div, pk_lDiv, pk_sub, lN_sub, remN, remL, neg1, neg2, negL, negL2, M1e, M1f, M1g, M1h, M1i, M1j, M2e, M2f, L1g, L1h, L1i, L1j, les_eq, les_e, les_n, les_m, cond_true, cond_false, if_true, if_false, fX8_refuse, fX8_allow, fX8_allow_, Nat.not_lt_zero, Nat.reduceAdd, Nat.reduceLT, Nat.reduceLeDiff, Nat.reduceEqDiff, decide_false, decide_true, Bool.not_false, Bool.not_true, C.1, k, lq1, fX8_off_L15, r4, n1, cSl C.2.2.2.1 C.2.1 v hi, dS.2.1, ht, n2, les, q, eq_true y]
          exact A n (by omega)
        · obtain ⟨n, rfl⟩ : ∃ q, n = q + 1 := ⟨n - 1, by omega⟩
          simp (disch := omega) only [lI, lJ, gd_1, bd_1, bv_1, nm_1, ixN, inbN, eqN, leN, ltN, eqL, leL, ltL, beqN, beqL, nI_add, pk_mul, lN_add, lN_mul, nI_l, lN_i, pk_div, pk_lDiv, pk_sub, lN_sub, remN, remL, neg1, neg2, negL, negL2, M1e, M1f, M1g, M1h, M1i, M1j, M2e, M2f, L1g, L1h, L1i, L1j, les_eq, les_e, les_n, les_m, lq1, fX9_off_L19, Nat.reduceAdd, Mg.2.1 4, n1, mOf Mg.2.1, mIts Mg.2.2.2.1, ht, n3, e3, eq_true y, if_true, if_false]
          exact B g n Mg (by omega)
      · refine ⟨nI i, fun n hn => ?_, fun g n Mg hn => ?_⟩
        · obtain ⟨n, rfl⟩ : ∃ q, n = q + 1 := ⟨n - 1, by omega⟩
          simp (disch := omega) only [lI, lJ, gd_1, bd_1, bv_1, nm_1, ixN, inbN, eqN, leN, ltN, eqL, leL, ltL, beqN, beqL, nI_add, pk_mul, lN_add, lN_mul, nI_l, lN_i, pk_div, pk_lDiv, pk_sub, lN_sub, remN, remL, neg1, neg2, negL, negL2, M1e, M1f, M1g, M1h, M1i, M1j, M2e, M2f, L1g, L1h, L1i, L1j, les_eq, les_e, les_n, les_m, cond_true, cond_false, if_true, if_false, fX8_refuse, fX8_allow, fX8_allow_, Nat.not_lt_zero, Nat.reduceAdd, Nat.reduceLT, Nat.reduceLeDiff, Nat.reduceEqDiff, decide_false, decide_true, Bool.not_false, Bool.not_true, C.1, k, lq1, fX8_off_L15, r4, n1, cSl C.2.2.2.1 C.2.1 v hi, dS.2.1, ht, n2, les, q, y]
        · obtain ⟨n, rfl⟩ : ∃ q, n = q + 1 := ⟨n - 1, by omega⟩
          simp (disch := omega) only [lI, lJ, gd_1, bd_1, bv_1, nm_1, ixN, inbN, eqN, leN, ltN, eqL, leL, ltL, beqN, beqL, nI_add, pk_mul, lN_add, lN_mul, nI_l, lN_i, pk_div, pk_lDiv, pk_sub, lN_sub, remN, remL, neg1, neg2, negL, negL2, M1e, M1f, M1g, M1h, M1i, M1j, M2e, M2f, L1g, L1h, L1i, L1j, les_eq, les_e, les_n, les_m, lq1, fX9_off_L19, Nat.reduceAdd, Mg.2.1 4, n1, mOf Mg.2.1, mIts Mg.2.2.2.1, ht, n3, e3, y, if_false]
set_option maxRecDepth 100000 in
theorem oOff (C : CA h d R N T) : OpQ h (fX8_off 0 h) (fun h1 => fX9_off 181 h1) (fun h1 => MA h1 R N T) := by
  have z1 : ¬ (1 : Nat) = 0 := by omega
  have vF := C.2.2.2.2.1.S
  obtain ⟨a, A, B⟩ := offL C (R 4) 0 (by omega)
  refine opq a ?_ (fun h1 g Mg hg => ?_)
  · simp (disch := omega) only [lI, lJ, gd_1, bd_1, bv_1, nm_1, ixN, inbN, eqN, leN, ltN, eqL, leL, ltL, beqN, beqL, nI_add, pk_mul, lN_add, lN_mul, nI_l, lN_i, pk_div, pk_lDiv, pk_sub, lN_sub, remN, remL, neg1, neg2, negL, negL2, M1e, M1f, M1g, M1h, M1i, M1j, M2e, M2f, L1g, L1h, L1i, L1j, les_eq, les_e, les_n, les_m, fX8_off, C.2.2.1, z1, if_false]
    exact A FU (by unfold FU; omega)
  · simp (disch := omega) only [lI, lJ, gd_1, bd_1, bv_1, nm_1, ixN, inbN, eqN, leN, ltN, eqL, leL, ltL, beqN, beqL, nI_add, pk_mul, lN_add, lN_mul, nI_l, lN_i, pk_div, pk_lDiv, pk_sub, lN_sub, remN, remL, neg1, neg2, negL, negL2, M1e, M1f, M1g, M1h, M1i, M1j, M2e, M2f, L1g, L1h, L1i, L1j, les_eq, les_e, les_n, les_m, fX9_off, hg, Mg.1, z1, if_false]
    exact B g FU Mg (by unfold FU; omega)
set_option maxRecDepth 100000 in
theorem cDread (C : CA h d R N T) {s f : Nat} (hs : s < R 4) (hf : f < 5) : fX0_dreadOn d (nI s) (nI f) h = some (lN (R (15 + 5 * s + 2) * f * f), h) := by
  have v := C.2.2.2.2.1
  have dS := (C.2.2.2.1.2.2.2.2.1 s hs).1 2 (by omega)
  have vS := v.2.2.1 s hs
  simp (disch := omega) only [lI, lJ, gd_1, bd_1, bv_1, nm_1, ixN, inbN, eqN, leN, ltN, eqL, leL, ltL, beqN, beqL, nI_add, pk_mul, lN_add, lN_mul, nI_l, lN_i, pk_div, pk_lDiv, pk_sub, lN_sub, remN, remL, neg1, neg2, negL, negL2, M1e, M1f, M1g, M1h, M1i, M1j, M2e, M2f, L1g, L1h, L1i, L1j, les_eq, les_e, les_n, les_m, fX0_dreadOn, cSl C.2.2.2.1 C.2.1 v hs, dS]
set_option maxRecDepth 100000 in
theorem dread_le (v : VR R) {s f : Nat} (hs : s < R 4) (hf : f < 5) : R (15 + 5 * s + 2) * f * f ≤ 15984 := by
  have vS := v.2.2.1 s hs
  exact Nat.le_trans (Nat.mul_le_mul (Nat.mul_le_mul vS.2.2.2.1 (show f ≤ 4 by omega)) (show f ≤ 4 by omega)) (by decide)
set_option maxRecDepth 100000 in
theorem oEnough (C : CA h d R N T) (x y : Int32) : OpQ h (fX8_enough 0 x y h) (fun h1 => fX9_enough 181 x y h1) (fun h1 => MA h1 R N T) := by
  have k := isKb_D C.2.1
  have v := C.2.2.2.2.1
  have vF := v.F
  have vS := v.S
  rcases slC C x with ⟨s, hs, rfl, e1, e2⟩ | ⟨e1, e2⟩
  · rcases dfC C y with ⟨f, f1, hf, rfl, e3, e5, e4⟩ | ⟨e3, e4 | ⟨rfl, e4⟩⟩
    · have q := v.qk hf
      have n0 : ¬ f = 0 := by omega
      have n1 : ¬ qk R f = 0 := by omega
      have hd := dread_le v hs (f := f) (by omega)
      have e9 : (1 + R (15 + 5 * s + 2) * f * f + qk R f - 1) / qk R f = R (15 + 5 * s + 2) * f * f / qk R f + 1 := by
        rw [show 1 + R (15 + 5 * s + 2) * f * f + qk R f - 1 = R (15 + 5 * s + 2) * f * f + qk R f by omega]
        exact Nat.add_div_right _ (by omega)
      have hle : R (15 + 5 * s + 2) * f * f / qk R f + 1 ≤ 99999 := by
        have := Nat.div_le_self (R (15 + 5 * s + 2) * f * f) (qk R f)
        omega
      refine opq (nI (R (15 + 5 * s + 2) * f * f / qk R f + 1)) ?_ (fun h1 g Mg hg => ?_)
      · simp (disch := omega) only [lI, lJ, gd_1, bd_1, bv_1, nm_1, ixN, inbN, eqN, leN, ltN, eqL, leL, ltL, beqN, beqL, nI_add, pk_mul, lN_add, lN_mul, nI_l, lN_i, pk_div, pk_lDiv, pk_sub, lN_sub, remN, remL, neg1, neg2, negL, negL2, M1e, M1f, M1g, M1h, M1i, M1j, M2e, M2f, L1g, L1h, L1i, L1j, les_eq, les_e, les_n, les_m, cond_true, cond_false, if_true, if_false, fX8_refuse, fX8_allow, fX8_allow_, Nat.not_lt_zero, Nat.reduceAdd, Nat.reduceLT, Nat.reduceLeDiff, Nat.reduceEqDiff, decide_false, decide_true, Bool.not_false, Bool.not_true, C.1, k, fX8_enough, fX8_leastPay, e1, e3, cQuick C.2.2.2.1 v hf, cDread C hs (f := f) (by omega), cQuo, e9, hle]
      · simp (disch := omega) only [lI, lJ, gd_1, bd_1, bv_1, nm_1, ixN, inbN, eqN, leN, ltN, eqL, leL, ltL, beqN, beqL, nI_add, pk_mul, lN_add, lN_mul, nI_l, lN_i, pk_div, pk_lDiv, pk_sub, lN_sub, remN, remL, neg1, neg2, negL, negL2, M1e, M1f, M1g, M1h, M1i, M1j, M2e, M2f, L1g, L1h, L1i, L1j, les_eq, les_e, les_n, les_m, cond_true, cond_false, if_true, if_false, fX9_no, hg, Nat.not_lt_zero, Nat.reduceAdd, Nat.reduceLT, Nat.reduceLeDiff, Nat.reduceEqDiff, decide_false, decide_true, Bool.not_false, Bool.not_true, fX9_enough, e2 g Mg, e4 g Mg, n0, n1, mOf Mg.2.1, mQuick Mg.2.1 (f := f) (by omega), hle]
    · refine opr 1 (by omega) (M1) ?_ (fun h1 g Mg hg => ?_)
      · simp (disch := omega) only [lI, lJ, gd_1, bd_1, bv_1, nm_1, ixN, inbN, eqN, leN, ltN, eqL, leL, ltL, beqN, beqL, nI_add, pk_mul, lN_add, lN_mul, nI_l, lN_i, pk_div, pk_lDiv, pk_sub, lN_sub, remN, remL, neg1, neg2, negL, negL2, M1e, M1f, M1g, M1h, M1i, M1j, M2e, M2f, L1g, L1h, L1i, L1j, les_eq, les_e, les_n, les_m, cond_true, cond_false, if_true, if_false, fX8_refuse, fX8_allow, fX8_allow_, Nat.not_lt_zero, Nat.reduceAdd, Nat.reduceLT, Nat.reduceLeDiff, Nat.reduceEqDiff, decide_false, decide_true, Bool.not_false, Bool.not_true, C.1, k, fX8_enough, e1, e3]
      · simp (disch := omega) only [lI, lJ, gd_1, bd_1, bv_1, nm_1, ixN, inbN, eqN, leN, ltN, eqL, leL, ltL, beqN, beqL, nI_add, pk_mul, lN_add, lN_mul, nI_l, lN_i, pk_div, pk_lDiv, pk_sub, lN_sub, remN, remL, neg1, neg2, negL, negL2, M1e, M1f, M1g, M1h, M1i, M1j, M2e, M2f, L1g, L1h, L1i, L1j, les_eq, les_e, les_n, les_m, cond_true, cond_false, if_true, if_false, fX9_no, hg, Nat.not_lt_zero, Nat.reduceAdd, Nat.reduceLT, Nat.reduceLeDiff, Nat.reduceEqDiff, decide_false, decide_true, Bool.not_false, Bool.not_true, fX9_enough, e2 g Mg, e4 g Mg]
    · refine opr 1 (by omega) (M1) ?_ (fun h1 g Mg hg => ?_)
      · simp (disch := omega) only [lI, lJ, gd_1, bd_1, bv_1, nm_1, ixN, inbN, eqN, leN, ltN, eqL, leL, ltL, beqN, beqL, nI_add, pk_mul, lN_add, lN_mul, nI_l, lN_i, pk_div, pk_lDiv, pk_sub, lN_sub, remN, remL, neg1, neg2, negL, negL2, M1e, M1f, M1g, M1h, M1i, M1j, M2e, M2f, L1g, L1h, L1i, L1j, les_eq, les_e, les_n, les_m, cond_true, cond_false, if_true, if_false, fX8_refuse, fX8_allow, fX8_allow_, Nat.not_lt_zero, Nat.reduceAdd, Nat.reduceLT, Nat.reduceLeDiff, Nat.reduceEqDiff, decide_false, decide_true, Bool.not_false, Bool.not_true, C.1, k, fX8_enough, e1, e3]
      · simp (disch := omega) only [lI, lJ, gd_1, bd_1, bv_1, nm_1, ixN, inbN, eqN, leN, ltN, eqL, leL, ltL, beqN, beqL, nI_add, pk_mul, lN_add, lN_mul, nI_l, lN_i, pk_div, pk_lDiv, pk_sub, lN_sub, remN, remL, neg1, neg2, negL, negL2, M1e, M1f, M1g, M1h, M1i, M1j, M2e, M2f, L1g, L1h, L1i, L1j, les_eq, les_e, les_n, les_m, cond_true, cond_false, if_true, if_false, fX9_no, hg, Nat.not_lt_zero, Nat.reduceAdd, Nat.reduceLT, Nat.reduceLeDiff, Nat.reduceEqDiff, decide_false, decide_true, Bool.not_false, Bool.not_true, fX9_enough, e2 g Mg, e4 g Mg]
  · refine opr 1 (by omega) (M1) ?_ (fun h1 g Mg hg => ?_)
    · simp (disch := omega) only [lI, lJ, gd_1, bd_1, bv_1, nm_1, ixN, inbN, eqN, leN, ltN, eqL, leL, ltL, beqN, beqL, nI_add, pk_mul, lN_add, lN_mul, nI_l, lN_i, pk_div, pk_lDiv, pk_sub, lN_sub, remN, remL, neg1, neg2, negL, negL2, M1e, M1f, M1g, M1h, M1i, M1j, M2e, M2f, L1g, L1h, L1i, L1j, les_eq, les_e, les_n, les_m, cond_true, cond_false, if_true, if_false, fX8_refuse, fX8_allow, fX8_allow_, Nat.not_lt_zero, Nat.reduceAdd, Nat.reduceLT, Nat.reduceLeDiff, Nat.reduceEqDiff, decide_false, decide_true, Bool.not_false, Bool.not_true, C.1, k, fX8_enough, e1]
    · simp (disch := omega) only [lI, lJ, gd_1, bd_1, bv_1, nm_1, ixN, inbN, eqN, leN, ltN, eqL, leL, ltL, beqN, beqL, nI_add, pk_mul, lN_add, lN_mul, nI_l, lN_i, pk_div, pk_lDiv, pk_sub, lN_sub, remN, remL, neg1, neg2, negL, negL2, M1e, M1f, M1g, M1h, M1i, M1j, M2e, M2f, L1g, L1h, L1i, L1j, les_eq, les_e, les_n, les_m, cond_true, cond_false, if_true, if_false, fX9_no, hg, Nat.not_lt_zero, Nat.reduceAdd, Nat.reduceLT, Nat.reduceLeDiff, Nat.reduceEqDiff, decide_false, decide_true, Bool.not_false, Bool.not_true, fX9_enough, e2 g Mg]
set_option maxRecDepth 100000 in
theorem oMean (C : CA h d R N T) (x y : Int32) (b : Bool) : OpQ h (fX8_mean 0 x y b h) (fun h1 => fX9_mean 181 x y b h1) (fun h1 => MA h1 R N T) := by
  have k := isKb_D C.2.1
  have v := C.2.2.2.2.1
  have vF := v.F
  have vS := v.S
  rcases slC C x with ⟨s, hs, rfl, e1, e2⟩ | ⟨e1, e2⟩
  · have vs := v.2.2.1 s hs
    have dS := (C.2.2.2.1.2.2.2.2.1 s hs).1 3 (by omega)
    rcases flC C y with ⟨f, hf, rfl, e3, e4⟩ | ⟨e3, e4⟩
    · by_cases z : f = 0
      · subst z
        cases b
        · refine opq (lN 0) ?_ (fun h1 g Mg hg => ?_)
          · simp (disch := omega) only [lI, lJ, gd_1, bd_1, bv_1, nm_1, ixN, inbN, eqN, leN, ltN, eqL, leL, ltL, beqN, beqL, nI_add, pk_mul, lN_add, lN_mul, nI_l, lN_i, pk_div, pk_lDiv, pk_sub, lN_sub, remN, remL, neg1, neg2, negL, negL2, M1e, M1f, M1g, M1h, M1i, M1j, M2e, M2f, L1g, L1h, L1i, L1j, les_eq, les_e, les_n, les_m, cond_true, cond_false, if_true, if_false, fX8_refuse, fX8_allow, fX8_allow_, Nat.not_lt_zero, Nat.reduceAdd, Nat.reduceLT, Nat.reduceLeDiff, Nat.reduceEqDiff, decide_false, decide_true, Bool.not_false, Bool.not_true, C.1, k, fX8_mean, e1, e3, cSl C.2.2.2.1 C.2.1 v hs, dS, Nat.le_refl, Nat.mul_zero, cLow0]
          · simp (disch := omega) only [lI, lJ, gd_1, bd_1, bv_1, nm_1, ixN, inbN, eqN, leN, ltN, eqL, leL, ltL, beqN, beqL, nI_add, pk_mul, lN_add, lN_mul, nI_l, lN_i, pk_div, pk_lDiv, pk_sub, lN_sub, remN, remL, neg1, neg2, negL, negL2, M1e, M1f, M1g, M1h, M1i, M1j, M2e, M2f, L1g, L1h, L1i, L1j, les_eq, les_e, les_n, les_m, cond_true, cond_false, if_true, if_false, fX9_no, hg, Nat.not_lt_zero, Nat.reduceAdd, Nat.reduceLT, Nat.reduceLeDiff, Nat.reduceEqDiff, decide_false, decide_true, Bool.not_false, Bool.not_true, fX9_mean, e2 g Mg, e4 g Mg, mOf Mg.2.1]
        · refine opq (lN 1) ?_ (fun h1 g Mg hg => ?_)
          · simp (disch := omega) only [lI, lJ, gd_1, bd_1, bv_1, nm_1, ixN, inbN, eqN, leN, ltN, eqL, leL, ltL, beqN, beqL, nI_add, pk_mul, lN_add, lN_mul, nI_l, lN_i, pk_div, pk_lDiv, pk_sub, lN_sub, remN, remL, neg1, neg2, negL, negL2, M1e, M1f, M1g, M1h, M1i, M1j, M2e, M2f, L1g, L1h, L1i, L1j, les_eq, les_e, les_n, les_m, cond_true, cond_false, if_true, if_false, fX8_refuse, fX8_allow, fX8_allow_, Nat.not_lt_zero, Nat.reduceAdd, Nat.reduceLT, Nat.reduceLeDiff, Nat.reduceEqDiff, decide_false, decide_true, Bool.not_false, Bool.not_true, C.1, k, fX8_mean, e1, e3, cSl C.2.2.2.1 C.2.1 v hs, dS, Nat.le_refl, Nat.mul_zero, cLow0]
          · simp (disch := omega) only [lI, lJ, gd_1, bd_1, bv_1, nm_1, ixN, inbN, eqN, leN, ltN, eqL, leL, ltL, beqN, beqL, nI_add, pk_mul, lN_add, lN_mul, nI_l, lN_i, pk_div, pk_lDiv, pk_sub, lN_sub, remN, remL, neg1, neg2, negL, negL2, M1e, M1f, M1g, M1h, M1i, M1j, M2e, M2f, L1g, L1h, L1i, L1j, les_eq, les_e, les_n, les_m, cond_true, cond_false, if_true, if_false, fX9_no, hg, Nat.not_lt_zero, Nat.reduceAdd, Nat.reduceLT, Nat.reduceLeDiff, Nat.reduceEqDiff, decide_false, decide_true, Bool.not_false, Bool.not_true, fX9_mean, e2 g Mg, e4 g Mg, mOf Mg.2.1]
      · have n1 : ¬ f ≤ 0 := by omega
        by_cases y : R (15 + 5 * s + 3) = 0
        · refine opq (M2.toInt64) ?_ (fun h1 g Mg hg => ?_)
          · simp (disch := omega) only [lI, lJ, gd_1, bd_1, bv_1, nm_1, ixN, inbN, eqN, leN, ltN, eqL, leL, ltL, beqN, beqL, nI_add, pk_mul, lN_add, lN_mul, nI_l, lN_i, pk_div, pk_lDiv, pk_sub, lN_sub, remN, remL, neg1, neg2, negL, negL2, M1e, M1f, M1g, M1h, M1i, M1j, M2e, M2f, L1g, L1h, L1i, L1j, les_eq, les_e, les_n, les_m, cond_true, cond_false, if_true, if_false, fX8_refuse, fX8_allow, fX8_allow_, Nat.not_lt_zero, Nat.reduceAdd, Nat.reduceLT, Nat.reduceLeDiff, Nat.reduceEqDiff, decide_false, decide_true, Bool.not_false, Bool.not_true, C.1, k, fX8_mean, e1, e3, cSl C.2.2.2.1 C.2.1 v hs, dS, n1, y]
          · simp (disch := omega) only [lI, lJ, gd_1, bd_1, bv_1, nm_1, ixN, inbN, eqN, leN, ltN, eqL, leL, ltL, beqN, beqL, nI_add, pk_mul, lN_add, lN_mul, nI_l, lN_i, pk_div, pk_lDiv, pk_sub, lN_sub, remN, remL, neg1, neg2, negL, negL2, M1e, M1f, M1g, M1h, M1i, M1j, M2e, M2f, L1g, L1h, L1i, L1j, les_eq, les_e, les_n, les_m, cond_true, cond_false, if_true, if_false, fX9_no, hg, Nat.not_lt_zero, Nat.reduceAdd, Nat.reduceLT, Nat.reduceLeDiff, Nat.reduceEqDiff, decide_false, decide_true, Bool.not_false, Bool.not_true, fX9_mean, e2 g Mg, e4 g Mg, mOf Mg.2.1, z, y]
        · refine opq (lN (lowF (100 * f) (R (15 + 5 * s + 3)) b)) ?_ (fun h1 g Mg hg => ?_)
          · simp (disch := omega) only [lI, lJ, gd_1, bd_1, bv_1, nm_1, ixN, inbN, eqN, leN, ltN, eqL, leL, ltL, beqN, beqL, nI_add, pk_mul, lN_add, lN_mul, nI_l, lN_i, pk_div, pk_lDiv, pk_sub, lN_sub, remN, remL, neg1, neg2, negL, negL2, M1e, M1f, M1g, M1h, M1i, M1j, M2e, M2f, L1g, L1h, L1i, L1j, les_eq, les_e, les_n, les_m, cond_true, cond_false, if_true, if_false, fX8_refuse, fX8_allow, fX8_allow_, Nat.not_lt_zero, Nat.reduceAdd, Nat.reduceLT, Nat.reduceLeDiff, Nat.reduceEqDiff, decide_false, decide_true, Bool.not_false, Bool.not_true, C.1, k, fX8_mean, e1, e3, cSl C.2.2.2.1 C.2.1 v hs, dS, n1, y, cLow b]
          · simp (disch := omega) only [lI, lJ, gd_1, bd_1, bv_1, nm_1, ixN, inbN, eqN, leN, ltN, eqL, leL, ltL, beqN, beqL, nI_add, pk_mul, lN_add, lN_mul, nI_l, lN_i, pk_div, pk_lDiv, pk_sub, lN_sub, remN, remL, neg1, neg2, negL, negL2, M1e, M1f, M1g, M1h, M1i, M1j, M2e, M2f, L1g, L1h, L1i, L1j, les_eq, les_e, les_n, les_m, cond_true, cond_false, if_true, if_false, fX9_no, hg, Nat.not_lt_zero, Nat.reduceAdd, Nat.reduceLT, Nat.reduceLeDiff, Nat.reduceEqDiff, decide_false, decide_true, Bool.not_false, Bool.not_true, fX9_mean, e2 g Mg, e4 g Mg, mOf Mg.2.1, z, y, mLow b]
    · refine opr 1 (by omega) (M1.toInt64) ?_ (fun h1 g Mg hg => ?_)
      · simp (disch := omega) only [lI, lJ, gd_1, bd_1, bv_1, nm_1, ixN, inbN, eqN, leN, ltN, eqL, leL, ltL, beqN, beqL, nI_add, pk_mul, lN_add, lN_mul, nI_l, lN_i, pk_div, pk_lDiv, pk_sub, lN_sub, remN, remL, neg1, neg2, negL, negL2, M1e, M1f, M1g, M1h, M1i, M1j, M2e, M2f, L1g, L1h, L1i, L1j, les_eq, les_e, les_n, les_m, cond_true, cond_false, if_true, if_false, fX8_refuse, fX8_allow, fX8_allow_, Nat.not_lt_zero, Nat.reduceAdd, Nat.reduceLT, Nat.reduceLeDiff, Nat.reduceEqDiff, decide_false, decide_true, Bool.not_false, Bool.not_true, C.1, k, fX8_mean, e1, e3]
      · simp (disch := omega) only [lI, lJ, gd_1, bd_1, bv_1, nm_1, ixN, inbN, eqN, leN, ltN, eqL, leL, ltL, beqN, beqL, nI_add, pk_mul, lN_add, lN_mul, nI_l, lN_i, pk_div, pk_lDiv, pk_sub, lN_sub, remN, remL, neg1, neg2, negL, negL2, M1e, M1f, M1g, M1h, M1i, M1j, M2e, M2f, L1g, L1h, L1i, L1j, les_eq, les_e, les_n, les_m, cond_true, cond_false, if_true, if_false, fX9_no, hg, Nat.not_lt_zero, Nat.reduceAdd, Nat.reduceLT, Nat.reduceLeDiff, Nat.reduceEqDiff, decide_false, decide_true, Bool.not_false, Bool.not_true, fX9_mean, e2 g Mg, e4 g Mg]
  · refine opr 1 (by omega) (M1.toInt64) ?_ (fun h1 g Mg hg => ?_)
    · simp (disch := omega) only [lI, lJ, gd_1, bd_1, bv_1, nm_1, ixN, inbN, eqN, leN, ltN, eqL, leL, ltL, beqN, beqL, nI_add, pk_mul, lN_add, lN_mul, nI_l, lN_i, pk_div, pk_lDiv, pk_sub, lN_sub, remN, remL, neg1, neg2, negL, negL2, M1e, M1f, M1g, M1h, M1i, M1j, M2e, M2f, L1g, L1h, L1i, L1j, les_eq, les_e, les_n, les_m, cond_true, cond_false, if_true, if_false, fX8_refuse, fX8_allow, fX8_allow_, Nat.not_lt_zero, Nat.reduceAdd, Nat.reduceLT, Nat.reduceLeDiff, Nat.reduceEqDiff, decide_false, decide_true, Bool.not_false, Bool.not_true, C.1, k, fX8_mean, e1]
    · simp (disch := omega) only [lI, lJ, gd_1, bd_1, bv_1, nm_1, ixN, inbN, eqN, leN, ltN, eqL, leL, ltL, beqN, beqL, nI_add, pk_mul, lN_add, lN_mul, nI_l, lN_i, pk_div, pk_lDiv, pk_sub, lN_sub, remN, remL, neg1, neg2, negL, negL2, M1e, M1f, M1g, M1h, M1i, M1j, M2e, M2f, L1g, L1h, L1i, L1j, les_eq, les_e, les_n, les_m, cond_true, cond_false, if_true, if_false, fX9_no, hg, Nat.not_lt_zero, Nat.reduceAdd, Nat.reduceLT, Nat.reduceLeDiff, Nat.reduceEqDiff, decide_false, decide_true, Bool.not_false, Bool.not_true, fX9_mean, e2 g Mg]
/-! how deep -/
def sgn (R : Nat → Nat) (f k : Nat) : Bool := decide ((if R (154 + 3 * k) = 0 then R (154 + 3 * k + 1) * qk R f else R (154 + 3 * k + 1) / qk R f) = R (154 + 3 * k + 2))
def dpk (R : Nat → Nat) (f : Nat) : Nat → Bool
  | 0 => true
  | k + 1 => dpk R f k && sgn R f k
abbrev dp (R : Nat → Nat) (f : Nat) : Bool := dpk R f (R 8)
set_option maxRecDepth 100000 in
theorem dpk_f {f i j : Nat} (hij : i < j) (h : sgn R f i = false) : dpk R f j = false := by
  induction j with
  | zero => omega
  | succ j ih =>
    rcases Nat.lt_or_ge i j with z | z
    · simp [dpk, ih z]
    · have : i = j := by omega
      subst this; simp [dpk, h]
set_option maxRecDepth 100000 in
theorem cFits (D : DRep h d R) (hd : isD d) (v : VR R) {f : Nat} (hf : f ≤ R 0) : ∀ m i n, i + m = R 8 → dpk R f i = true → m < n → lq1 (fX0_fitsSigns_L2 d (nI f)) n (nI i) h = some (dp R f, h) := by
  have vF := v.F
  have v8 := v.2.1
  have r8 := D.2.2.2.1.2.2.2.2.1.2
  have q := v.qk hf
  intro m
  induction m with
  | zero =>
    intro i n e hi hn
    obtain ⟨n, rfl⟩ : ∃ q, n = q + 1 := ⟨n - 1, by omega⟩
    have : i = R 8 := by omega
    subst this
    simp (disch := omega) only [lI, lJ, gd_1, bd_1, bv_1, nm_1, ixN, inbN, eqN, leN, ltN, eqL, leL, ltL, beqN, beqL, nI_add, pk_mul, lN_add, lN_mul, nI_l, lN_i, pk_div, pk_lDiv, pk_sub, lN_sub, remN, remL, neg1, neg2, negL, negL2, M1e, M1f, M1g, M1h, M1i, M1j, M2e, M2f, L1g, L1h, L1i, L1j, les_eq, les_e, les_n, les_m, lq1, fX0_fitsSigns_L2, r8, Nat.le_refl, if_true, hi]
  | succ m ih =>
    intro i n e hi hn
    obtain ⟨n, rfl⟩ : ∃ q, n = q + 1 := ⟨n - 1, by omega⟩
    have hlt : i < R 8 := by omega
    have n1 : ¬ R 8 ≤ i := by omega
    have vi := v.2.2.2.2.2.2.2.1 i hlt
    have di := D.2.2.2.2.2.2.2.2.2.1 i hlt
    have sh := cShr D v (w := R (154 + 3 * i + 1)) (f := f) (t := 0) (by omega) hf (by omega)
    have fe := cFelt D v (w := R (154 + 3 * i + 1)) (f := 0) (t := f) (by omega) (by omega) hf
    rw [rt_0] at sh fe
    have hb1 : R (154 + 3 * i + 1) * qk R f ≤ 9999 * 20736 := Nat.mul_le_mul vi.2.2.1 q.2
    have hb2 := Nat.div_le_self (R (154 + 3 * i + 1)) (qk R f)
    by_cases c : R (154 + 3 * i) = 0
    · have c1 : ¬ R (154 + 3 * i) = 1 := by omega
      by_cases y : R (154 + 3 * i + 1) * qk R f = R (154 + 3 * i + 2)
      · simp (disch := omega) only [lI, lJ, gd_1, bd_1, bv_1, nm_1, ixN, inbN, eqN, leN, ltN, eqL, leL, ltL, beqN, beqL, nI_add, pk_mul, lN_add, lN_mul, nI_l, lN_i, pk_div, pk_lDiv, pk_sub, lN_sub, remN, remL, neg1, neg2, negL, negL2, M1e, M1f, M1g, M1h, M1i, M1j, M2e, M2f, L1g, L1h, L1i, L1j, les_eq, les_e, les_n, les_m, lq1, fX0_fitsSigns_L2, r8, n1, if_false, cSg D hd v hlt, di, c1, fe, y, if_true]
        exact ih (i + 1) n (by omega) (by simp [dpk, hi, sgn, c, y]) (by omega)
      · rw [show dp R f = false from dpk_f hlt (by simp [sgn, c, y])]
        simp (disch := omega) only [lI, lJ, gd_1, bd_1, bv_1, nm_1, ixN, inbN, eqN, leN, ltN, eqL, leL, ltL, beqN, beqL, nI_add, pk_mul, lN_add, lN_mul, nI_l, lN_i, pk_div, pk_lDiv, pk_sub, lN_sub, remN, remL, neg1, neg2, negL, negL2, M1e, M1f, M1g, M1h, M1i, M1j, M2e, M2f, L1g, L1h, L1i, L1j, les_eq, les_e, les_n, les_m, lq1, fX0_fitsSigns_L2, r8, n1, if_false, cSg D hd v hlt, di, c1, fe, y]
    · have c1 : R (154 + 3 * i) = 1 := by omega
      by_cases y : R (154 + 3 * i + 1) / qk R f = R (154 + 3 * i + 2)
      · simp (disch := omega) only [lI, lJ, gd_1, bd_1, bv_1, nm_1, ixN, inbN, eqN, leN, ltN, eqL, leL, ltL, beqN, beqL, nI_add, pk_mul, lN_add, lN_mul, nI_l, lN_i, pk_div, pk_lDiv, pk_sub, lN_sub, remN, remL, neg1, neg2, negL, negL2, M1e, M1f, M1g, M1h, M1i, M1j, M2e, M2f, L1g, L1h, L1i, L1j, les_eq, les_e, les_n, les_m, lq1, fX0_fitsSigns_L2, r8, n1, if_false, cSg D hd v hlt, di, c1, sh, y, if_true]
        exact ih (i + 1) n (by omega) (by simp [dpk, hi, sgn, c, y]) (by omega)
      · rw [show dp R f = false from dpk_f hlt (by simp [sgn, c, y])]
        simp (disch := omega) only [lI, lJ, gd_1, bd_1, bv_1, nm_1, ixN, inbN, eqN, leN, ltN, eqL, leL, ltL, beqN, beqL, nI_add, pk_mul, lN_add, lN_mul, nI_l, lN_i, pk_div, pk_lDiv, pk_sub, lN_sub, remN, remL, neg1, neg2, negL, negL2, M1e, M1f, M1g, M1h, M1i, M1j, M2e, M2f, L1g, L1h, L1i, L1j, les_eq, les_e, les_n, les_m, lq1, fX0_fitsSigns_L2, r8, n1, if_false, cSg D hd v hlt, di, c1, sh, y, if_true]
set_option maxRecDepth 100000 in
theorem mDeepL {g : HH} (v : VR R) (M : MRep g R) {f : Nat} (hf : f ≤ R 0) : ∀ m i n, i + m = R 8 → m < n → lq2 (fX9_isDeep_L4 181 (nI f)) n (dpk R f i) (nI i) g = some (dp R f, g) := by
  have vF := v.F
  have v8 := v.2.1
  have q := v.qk hf
  have nq : ¬ qk R f = 0 := by omega
  intro m
  induction m with
  | zero =>
    intro i n e hn
    obtain ⟨n, rfl⟩ : ∃ q, n = q + 1 := ⟨n - 1, by omega⟩
    have : i = R 8 := by omega
    subst this
    simp (disch := omega) only [lI, lJ, gd_1, bd_1, bv_1, nm_1, ixN, inbN, eqN, leN, ltN, eqL, leL, ltL, beqN, beqL, nI_add, pk_mul, lN_add, lN_mul, nI_l, lN_i, pk_div, pk_lDiv, pk_sub, lN_sub, remN, remL, neg1, neg2, negL, negL2, M1e, M1f, M1g, M1h, M1i, M1j, M2e, M2f, L1g, L1h, L1i, L1j, les_eq, les_e, les_n, les_m, lq2, fX9_isDeep_L4, Nat.reduceAdd, M 8, Nat.le_refl, if_true]
  | succ m ih =>
    intro i n e hn
    obtain ⟨n, rfl⟩ : ∃ q, n = q + 1 := ⟨n - 1, by omega⟩
    have hlt : i < R 8 := by omega
    have n1 : ¬ R 8 ≤ i := by omega
    have vi := v.2.2.2.2.2.2.2.1 i hlt
    have hb1 : R (154 + 3 * i + 1) * qk R f ≤ 9999 * 20736 := Nat.mul_le_mul vi.2.2.1 q.2
    have hb2 := Nat.div_le_self (R (154 + 3 * i + 1)) (qk R f)
    have key := ih (i + 1) n (by omega) (by omega)
    cases hp : dpk R f i
    · rw [show dpk R f (i + 1) = false by simp [dpk, hp]] at key
      simp (disch := omega) only [lI, lJ, gd_1, bd_1, bv_1, nm_1, ixN, inbN, eqN, leN, ltN, eqL, leL, ltL, beqN, beqL, nI_add, pk_mul, lN_add, lN_mul, nI_l, lN_i, pk_div, pk_lDiv, pk_sub, lN_sub, remN, remL, neg1, neg2, negL, negL2, M1e, M1f, M1g, M1h, M1i, M1j, M2e, M2f, L1g, L1h, L1i, L1j, les_eq, les_e, les_n, les_m, lq2, fX9_isDeep_L4, Nat.reduceAdd, M 8, M (154 + 3 * i + 1), n1, if_false, cond_false]
      exact key
    · rw [show dpk R f (i + 1) = sgn R f i by simp [dpk, hp]] at key
      by_cases c : R (154 + 3 * i) = 0
      · by_cases y : R (154 + 3 * i + 1) * qk R f = R (154 + 3 * i + 2)
        · rw [show sgn R f i = true by simp [sgn, c, y]] at key
          simp (disch := omega) only [lI, lJ, gd_1, bd_1, bv_1, nm_1, ixN, inbN, eqN, leN, ltN, eqL, leL, ltL, beqN, beqL, nI_add, pk_mul, lN_add, lN_mul, nI_l, lN_i, pk_div, pk_lDiv, pk_sub, lN_sub, remN, remL, neg1, neg2, negL, negL2, M1e, M1f, M1g, M1h, M1i, M1j, M2e, M2f, L1g, L1h, L1i, L1j, les_eq, les_e, les_n, les_m, lq2, fX9_isDeep_L4, Nat.reduceAdd, M 8, M (154 + 3 * i), M (154 + 3 * i + 1), M (154 + 3 * i + 2), n1, if_false, cond_true, c, if_true, mQuick M (f := f) (by omega), y]
          exact key
        · rw [show sgn R f i = false by simp [sgn, c, y]] at key
          simp (disch := omega) only [lI, lJ, gd_1, bd_1, bv_1, nm_1, ixN, inbN, eqN, leN, ltN, eqL, leL, ltL, beqN, beqL, nI_add, pk_mul, lN_add, lN_mul, nI_l, lN_i, pk_div, pk_lDiv, pk_sub, lN_sub, remN, remL, neg1, neg2, negL, negL2, M1e, M1f, M1g, M1h, M1i, M1j, M2e, M2f, L1g, L1h, L1i, L1j, les_eq, les_e, les_n, les_m, lq2, fX9_isDeep_L4, Nat.reduceAdd, M 8, M (154 + 3 * i), M (154 + 3 * i + 1), M (154 + 3 * i + 2), n1, if_false, cond_true, c, if_true, mQuick M (f := f) (by omega), y]
          exact key
      · by_cases y : R (154 + 3 * i + 1) / qk R f = R (154 + 3 * i + 2)
        · rw [show sgn R f i = true by simp [sgn, c, y]] at key
          simp (disch := omega) only [lI, lJ, gd_1, bd_1, bv_1, nm_1, ixN, inbN, eqN, leN, ltN, eqL, leL, ltL, beqN, beqL, nI_add, pk_mul, lN_add, lN_mul, nI_l, lN_i, pk_div, pk_lDiv, pk_sub, lN_sub, remN, remL, neg1, neg2, negL, negL2, M1e, M1f, M1g, M1h, M1i, M1j, M2e, M2f, L1g, L1h, L1i, L1j, les_eq, les_e, les_n, les_m, lq2, fX9_isDeep_L4, Nat.reduceAdd, M 8, M (154 + 3 * i), M (154 + 3 * i + 1), M (154 + 3 * i + 2), n1, if_false, cond_true, c, if_true, mQuick M (f := f) (by omega), y, nq, decide_false, Bool.not_false]
          exact key
        · rw [show sgn R f i = false by simp [sgn, c, y]] at key
          simp (disch := omega) only [lI, lJ, gd_1, bd_1, bv_1, nm_1, ixN, inbN, eqN, leN, ltN, eqL, leL, ltL, beqN, beqL, nI_add, pk_mul, lN_add, lN_mul, nI_l, lN_i, pk_div, pk_lDiv, pk_sub, lN_sub, remN, remL, neg1, neg2, negL, negL2, M1e, M1f, M1g, M1h, M1i, M1j, M2e, M2f, L1g, L1h, L1i, L1j, les_eq, les_e, les_n, les_m, lq2, fX9_isDeep_L4, Nat.reduceAdd, M 8, M (154 + 3 * i), M (154 + 3 * i + 1), M (154 + 3 * i + 2), n1, if_false, cond_true, c, if_true, mQuick M (f := f) (by omega), y, nq, decide_false, Bool.not_false]
          exact key
/-- the floors that the signs fit, as bits -/
def dset (R : Nat → Nat) : Nat → Nat
  | 0 => 0
  | f + 1 => dset R f + (bif dp R f then 2 ^ f else 0)
set_option maxRecDepth 100000 in
theorem dset_lt (R : Nat → Nat) : ∀ f, dset R f < 2 ^ f
  | 0 => by simp [dset]
  | f + 1 => by
    have := dset_lt R f
    unfold dset
    rw [Nat.pow_succ]
    cases dp R f <;> simp <;> omega
set_option maxRecDepth 100000 in
theorem cDeep (D : DRep h d R) (hd : isD d) (v : VR R) : ∀ m i n, i + m = R 0 + 1 → m < n → lq2 (fX0_deepOnes_L4 d) n (nI (dset R i)) (nI i) h = some (nI (dset R (R 0 + 1)), h) := by
  have vF := v.F
  have v8 := v.2.1
  intro m
  induction m with
  | zero =>
    intro i n e hn
    obtain ⟨n, rfl⟩ : ∃ q, n = q + 1 := ⟨n - 1, by omega⟩
    have : i = R 0 + 1 := by omega
    subst this
    have n1 : R 0 < R 0 + 1 := by omega
    simp (disch := omega) only [lI, lJ, gd_1, bd_1, bv_1, nm_1, ixN, inbN, eqN, leN, ltN, eqL, leL, ltL, beqN, beqL, nI_add, pk_mul, lN_add, lN_mul, nI_l, lN_i, pk_div, pk_lDiv, pk_sub, lN_sub, remN, remL, neg1, neg2, negL, negL2, M1e, M1f, M1g, M1h, M1i, M1j, M2e, M2f, L1g, L1h, L1i, L1j, les_eq, les_e, les_n, les_m, lq2, fX0_deepOnes_L4, D.2.2.1.1, n1, if_true]
  | succ m ih =>
    intro i n e hn
    obtain ⟨n, rfl⟩ : ∃ q, n = q + 1 := ⟨n - 1, by omega⟩
    have n1 : ¬ R 0 < i := by omega
    have fs : fX0_fitsSigns d (nI i) h = some (dp R i, h) := cFits D hd v (by omega) (R 8) 0 FU (by omega) rfl (by unfold FU; omega)
    have key := ih (i + 1) n (by omega) (by omega)
    have ob := orN i (by omega) (dset R i) (dset_lt R i)
    cases hp : dp R i
    · rw [show dset R (i + 1) = dset R i by simp [dset, hp]] at key
      simp (disch := omega) only [lI, lJ, gd_1, bd_1, bv_1, nm_1, ixN, inbN, eqN, leN, ltN, eqL, leL, ltL, beqN, beqL, nI_add, pk_mul, lN_add, lN_mul, nI_l, lN_i, pk_div, pk_lDiv, pk_sub, lN_sub, remN, remL, neg1, neg2, negL, negL2, M1e, M1f, M1g, M1h, M1i, M1j, M2e, M2f, L1g, L1h, L1i, L1j, les_eq, les_e, les_n, les_m, lq2, fX0_deepOnes_L4, D.2.2.1.1, n1, if_false, fs, hp, cond_false]
      exact key
    · rw [show dset R (i + 1) = dset R i + 2 ^ i by simp [dset, hp]] at key
      simp (disch := omega) only [lI, lJ, gd_1, bd_1, bv_1, nm_1, ixN, inbN, eqN, leN, ltN, eqL, leL, ltL, beqN, beqL, nI_add, pk_mul, lN_add, lN_mul, nI_l, lN_i, pk_div, pk_lDiv, pk_sub, lN_sub, remN, remL, neg1, neg2, negL, negL2, M1e, M1f, M1g, M1h, M1i, M1j, M2e, M2f, L1g, L1h, L1i, L1j, les_eq, les_e, les_n, les_m, lq2, fX0_deepOnes_L4, D.2.2.1.1, n1, if_false, fs, hp, cond_true, ob]
      exact key
set_option maxRecDepth 100000 in
theorem cDeepO (D : DRep h d R) (hd : isD d) (v : VR R) : fX0_deepOnes d h = some (nI (dset R (R 0 + 1)), h) := cDeep D hd v (R 0 + 1) 0 FU (by omega) (by have := v.F; unfold FU; omega)
set_option maxRecDepth 100000 in
theorem mDeepO {g : HH} (v : VR R) (M : MRep g R) : fX9_deepOnes 181 g = some (nI (dset R (R 0 + 1)), g) := by
  have vF := v.F
  have v8 := v.2.1
  have main : ∀ m i n, i + m = R 0 + 1 → m < n → lq2 (fX9_deepOnes_L4 181) n (nI (dset R i)) (nI i) g = some (nI (dset R (R 0 + 1)), g) := by
    intro m
    induction m with
    | zero =>
      intro i n e hn
      obtain ⟨n, rfl⟩ : ∃ q, n = q + 1 := ⟨n - 1, by omega⟩
      have : i = R 0 + 1 := by omega
      subst this
      have n1 : R 0 < R 0 + 1 := by omega
      simp (disch := omega) only [lI, lJ, gd_1, bd_1, bv_1, nm_1, ixN, inbN, eqN, leN, ltN, eqL, leL, ltL, beqN, beqL, nI_add, pk_mul, lN_add, lN_mul, nI_l, lN_i, pk_div, pk_lDiv, pk_sub, lN_sub, remN, remL, neg1, neg2, negL, negL2, M1e, M1f, M1g, M1h, M1i, M1j, M2e, M2f, L1g, L1h, L1i, L1j, les_eq, les_e, les_n, les_m, lq2, fX9_deepOnes_L4, Nat.reduceAdd, M 0, n1, if_true]
    | succ m ih =>
      intro i n e hn
      obtain ⟨n, rfl⟩ : ∃ q, n = q + 1 := ⟨n - 1, by omega⟩
      have n1 : ¬ R 0 < i := by omega
      have fs : fX9_isDeep 181 (nI i) g = some (dp R i, g) := mDeepL v M (by omega) (R 8) 0 FU (by omega) (by unfold FU; omega)
      have key := ih (i + 1) n (by omega) (by omega)
      have ob := orN i (by omega) (dset R i) (dset_lt R i)
      cases hp : dp R i
      · rw [show dset R (i + 1) = dset R i by simp [dset, hp]] at key
        simp (disch := omega) only [lI, lJ, gd_1, bd_1, bv_1, nm_1, ixN, inbN, eqN, leN, ltN, eqL, leL, ltL, beqN, beqL, nI_add, pk_mul, lN_add, lN_mul, nI_l, lN_i, pk_div, pk_lDiv, pk_sub, lN_sub, remN, remL, neg1, neg2, negL, negL2, M1e, M1f, M1g, M1h, M1i, M1j, M2e, M2f, L1g, L1h, L1i, L1j, les_eq, les_e, les_n, les_m, lq2, fX9_deepOnes_L4, Nat.reduceAdd, M 0, n1, if_false, fs, hp, cond_false, or0]
        exact key
      · rw [show dset R (i + 1) = dset R i + 2 ^ i by simp [dset, hp]] at key
        simp (disch := omega) only [lI, lJ, gd_1, bd_1, bv_1, nm_1, ixN, inbN, eqN, leN, ltN, eqL, leL, ltL, beqN, beqL, nI_add, pk_mul, lN_add, lN_mul, nI_l, lN_i, pk_div, pk_lDiv, pk_sub, lN_sub, remN, remL, neg1, neg2, negL, negL2, M1e, M1f, M1g, M1h, M1i, M1j, M2e, M2f, L1g, L1h, L1i, L1j, les_eq, les_e, les_n, les_m, lq2, fX9_deepOnes_L4, Nat.reduceAdd, M 0, n1, if_false, fs, hp, cond_true, ob]
        exact key
  exact main (R 0 + 1) 0 FU (by omega) (by unfold FU; omega)
set_option maxRecDepth 100000 in
theorem oDeep (C : CA h d R N T) : OpQ h (fX8_deep 0 h) (fun h1 => fX9_deep 181 h1) (fun h1 => MA h1 R N T) := by
  have k := isKb_D C.2.1
  have z1 : ¬ (1 : Nat) = 0 := by omega
  refine opq (nI (dset R (R 0 + 1))) ?_ (fun h1 g Mg hg => ?_)
  · simp (disch := omega) only [lI, lJ, gd_1, bd_1, bv_1, nm_1, ixN, inbN, eqN, leN, ltN, eqL, leL, ltL, beqN, beqL, nI_add, pk_mul, lN_add, lN_mul, nI_l, lN_i, pk_div, pk_lDiv, pk_sub, lN_sub, remN, remL, neg1, neg2, negL, negL2, M1e, M1f, M1g, M1h, M1i, M1j, M2e, M2f, L1g, L1h, L1i, L1j, les_eq, les_e, les_n, les_m, cond_true, cond_false, if_true, if_false, fX8_refuse, fX8_allow, fX8_allow_, Nat.not_lt_zero, Nat.reduceAdd, Nat.reduceLT, Nat.reduceLeDiff, Nat.reduceEqDiff, decide_false, decide_true, Bool.not_false, Bool.not_true, C.1, k, fX8_deep, C.2.2.1, z1, cDeepO C.2.2.2.1 C.2.1 C.2.2.2.2.1]
  · simp (disch := omega) only [lI, lJ, gd_1, bd_1, bv_1, nm_1, ixN, inbN, eqN, leN, ltN, eqL, leL, ltL, beqN, beqL, nI_add, pk_mul, lN_add, lN_mul, nI_l, lN_i, pk_div, pk_lDiv, pk_sub, lN_sub, remN, remL, neg1, neg2, negL, negL2, M1e, M1f, M1g, M1h, M1i, M1j, M2e, M2f, L1g, L1h, L1i, L1j, les_eq, les_e, les_n, les_m, cond_true, cond_false, if_true, if_false, fX9_no, hg, Nat.not_lt_zero, Nat.reduceAdd, Nat.reduceLT, Nat.reduceLeDiff, Nat.reduceEqDiff, decide_false, decide_true, Bool.not_false, Bool.not_true, fX9_deep, Mg.1, z1, mDeepO Mg.2.2.1 Mg.2.1]
end OPS
