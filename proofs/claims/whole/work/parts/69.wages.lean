section OPS
variable {h : HH} {d : Nat} {R N T : Nat → Nat}
/-- what one gains on a floor for the told pay -/
def gn (R : Nat → Nat) (s f : Nat) : Int64 := if f = 0 then lN 0 else lN (R (150 + f - 1) * qk R f) - lN (R (15 + 5 * s + 2) * f * f)
set_option maxRecDepth 100000 in
theorem cGain (C : CA h d R N T) (hp : R 10 = 1) {s f : Nat} (hs : s < R 4) (hf : f ≤ R 0) : fX0_gainOn d (nI s) (nI f) h = some (gn R s f, h) := by
  have v := C.2.2.2.2.1
  have vF := v.F
  rcases Nat.eq_zero_or_pos f with z | z
  · subst z
    simp (disch := omega) only [lI, lJ, gd_1, bd_1, bv_1, nm_1, ixN, inbN, eqN, leN, ltN, eqL, leL, ltL, beqN, beqL, nI_add, pk_mul, lN_add, lN_mul, nI_l, lN_i, pk_div, pk_lDiv, pk_sub, lN_sub, remN, remL, neg1, neg2, negL, negL2, M1e, M1f, M1g, M1h, M1i, M1j, M2e, M2f, L1g, L1h, L1i, L1j, les_eq, les_e, les_n, les_m, fX0_gainOn, gn, Nat.reduceLT, if_true]
  · have n0 : ¬ f = 0 := by omega
    have n1 : ¬ f < 1 := by omega
    have pf := C.2.2.2.1.2.1 hp f z hf
    have vp := v.2.2.2.2.2.2.1 (f - 1) (by omega)
    have vp' : R (150 + f - 1) ≤ 999 := by rw [show 150 + f - 1 = 150 + (f - 1) by omega]; exact vp
    have q := v.qk hf
    simp (disch := omega) only [lI, lJ, gd_1, bd_1, bv_1, nm_1, ixN, inbN, eqN, leN, ltN, eqL, leL, ltL, beqN, beqL, nI_add, pk_mul, lN_add, lN_mul, nI_l, lN_i, pk_div, pk_lDiv, pk_sub, lN_sub, remN, remL, neg1, neg2, negL, negL2, M1e, M1f, M1g, M1h, M1i, M1j, M2e, M2f, L1g, L1h, L1i, L1j, les_eq, les_e, les_n, les_m, fX0_gainOn, gn, n0, n1, if_false, hf, if_true, C.2.2.2.1.2.2.1.1, cQuick C.2.2.2.1 v hf, cDread C hs (f := f) (by omega), pf]
set_option maxRecDepth 100000 in
theorem mGain0 {g : HH} (s : Nat) (p : Int64) : fX9_gainOf 181 (nI s) (nI 0) p g = some (lN 0, g) := by
  simp (disch := omega) only [lI, lJ, gd_1, bd_1, bv_1, nm_1, ixN, inbN, eqN, leN, ltN, eqL, leL, ltL, beqN, beqL, nI_add, pk_mul, lN_add, lN_mul, nI_l, lN_i, pk_div, pk_lDiv, pk_sub, lN_sub, remN, remL, neg1, neg2, negL, negL2, M1e, M1f, M1g, M1h, M1i, M1j, M2e, M2f, L1g, L1h, L1i, L1j, les_eq, les_e, les_n, les_m, fX9_gainOf, if_true]
set_option maxRecDepth 100000 in
theorem mGain {g : HH} (v : VR R) (M : MRep g R) {s f : Nat} (p : Int64) (hs : s < R 4) (h1 : 1 ≤ f) (hf : f ≤ R 0) : fX9_gainOf 181 (nI s) (nI f) p g = some (p * lN (qk R f) - lN (R (15 + 5 * s + 2) * f * f), g) := by
  have vF := v.F
  have vS := v.S
  have n0 : ¬ f = 0 := by omega
  have q := v.qk hf
  have vs := v.2.2.1 s hs
  simp (disch := omega) only [lI, lJ, gd_1, bd_1, bv_1, nm_1, ixN, inbN, eqN, leN, ltN, eqL, leL, ltL, beqN, beqL, nI_add, pk_mul, lN_add, lN_mul, nI_l, lN_i, pk_div, pk_lDiv, pk_sub, lN_sub, remN, remL, neg1, neg2, negL, negL2, M1e, M1f, M1g, M1h, M1i, M1j, M2e, M2f, L1g, L1h, L1i, L1j, les_eq, les_e, les_n, les_m, fX9_gainOf, n0, if_false, mQuick M (f := f) (by omega), mOf M]
set_option maxRecDepth 100000 in
theorem mGainT {g : HH} (v : VR R) (M : MRep g R) {s f : Nat} (hs : s < R 4) (h1 : 1 ≤ f) (hf : f ≤ R 0) : fX9_gainOf 181 (nI s) (nI f) (lN (R (150 + f - 1))) g = some (gn R s f, g) := by
  have n0 : ¬ f = 0 := by omega
  rw [mGain v M _ hs h1 hf, lN_mul, gn, if_neg n0]
set_option maxRecDepth 100000 in
theorem takL (C : CA h d R N T) (hp : R 10 = 1) {s : Nat} (hs : s < R 4) : ∀ m i b, i + m = R 0 + 1 → 1 ≤ i → b ≤ R 0 → ∃ a, a ≤ R 0 ∧ (∀ n, m < n → lq2 (fX8_floorTaken_L4 0 (nI s)) n (nI b) (nI i) h = some (nI a, h)) ∧ ∀ (g : HH) n, MA g R N T → m < n → lq2 (fX9_takesOf_L4 181 (nI s)) n (nI b) (nI i) g = some (nI a, g) := by
  have k := isKb_D C.2.1
  have v := C.2.2.2.2.1
  have vF := v.F
  intro m
  induction m with
  | zero =>
    intro i b e hi hb
    have : i = R 0 + 1 := by omega
    subst this
    have n1 : R 0 < R 0 + 1 := by omega
    refine ⟨b, hb, fun n hn => ?_, fun g n Mg hn => ?_⟩
    · obtain ⟨n, rfl⟩ : ∃ q, n = q + 1 := ⟨n - 1, by omega⟩
      simp (disch := omega) only [lI, lJ, gd_1, bd_1, bv_1, nm_1, ixN, inbN, eqN, leN, ltN, eqL, leL, ltL, beqN, beqL, nI_add, pk_mul, lN_add, lN_mul, nI_l, lN_i, pk_div, pk_lDiv, pk_sub, lN_sub, remN, remL, neg1, neg2, negL, negL2, M1e, M1f, M1g, M1h, M1i, M1j, M2e, M2f, L1g, L1h, L1i, L1j, les_eq, les_e, les_n, les_m, cond_true, cond_false, if_true, if_false, fX8_refuse, fX8_allow, fX8_allow_, Nat.not_lt_zero, Nat.reduceAdd, Nat.reduceLT, Nat.reduceLeDiff, Nat.reduceEqDiff, decide_false, decide_true, Bool.not_false, Bool.not_true, C.1, k, lq2, fX8_floorTaken_L4, C.2.2.2.1.2.2.1.1, n1]
    · obtain ⟨n, rfl⟩ : ∃ q, n = q + 1 := ⟨n - 1, by omega⟩
      simp (disch := omega) only [lI, lJ, gd_1, bd_1, bv_1, nm_1, ixN, inbN, eqN, leN, ltN, eqL, leL, ltL, beqN, beqL, nI_add, pk_mul, lN_add, lN_mul, nI_l, lN_i, pk_div, pk_lDiv, pk_sub, lN_sub, remN, remL, neg1, neg2, negL, negL2, M1e, M1f, M1g, M1h, M1i, M1j, M2e, M2f, L1g, L1h, L1i, L1j, les_eq, les_e, les_n, les_m, lq2, fX9_takesOf_L4, Nat.reduceAdd, Mg.2.1 0, n1, if_true]
  | succ m ih =>
    intro i b e hi hb
    have n1 : ¬ R 0 < i := by omega
    have vp := v.2.2.2.2.2.2.1 (i - 1) (by omega)
    have vp' : R (150 + i - 1) ≤ 999 := by rw [show 150 + i - 1 = 150 + (i - 1) by omega]; exact vp
    by_cases c : gn R s i ≤ gn R s b
    · obtain ⟨a, ha, A, B⟩ := ih (i + 1) b (by omega) (by omega) hb
      refine ⟨a, ha, fun n hn => ?_, fun g n Mg hn => ?_⟩
      · obtain ⟨n, rfl⟩ : ∃ q, n = q + 1 := ⟨n - 1, by omega⟩
        simp (disch := omega) only [lI, lJ, gd_1, bd_1, bv_1, nm_1, ixN, inbN, eqN, leN, ltN, eqL, leL, ltL, beqN, beqL, nI_add, pk_mul, lN_add, lN_mul, nI_l, lN_i, pk_div, pk_lDiv, pk_sub, lN_sub, remN, remL, neg1, neg2, negL, negL2, M1e, M1f, M1g, M1h, M1i, M1j, M2e, M2f, L1g, L1h, L1i, L1j, les_eq, les_e, les_n, les_m, cond_true, cond_false, if_true, if_false, fX8_refuse, fX8_allow, fX8_allow_, Nat.not_lt_zero, Nat.reduceAdd, Nat.reduceLT, Nat.reduceLeDiff, Nat.reduceEqDiff, decide_false, decide_true, Bool.not_false, Bool.not_true, C.1, k, lq2, fX8_floorTaken_L4, C.2.2.2.1.2.2.1.1, n1, cGain C hp hs (f := i) (by omega), cGain C hp hs hb, c]
        exact A n (by omega)
      · obtain ⟨n, rfl⟩ : ∃ q, n = q + 1 := ⟨n - 1, by omega⟩
        rcases Nat.eq_zero_or_pos b with z | z
        · subst z
          rw [show gn R s 0 = lN 0 from rfl] at c
          simp (disch := omega) only [lI, lJ, gd_1, bd_1, bv_1, nm_1, ixN, inbN, eqN, leN, ltN, eqL, leL, ltL, beqN, beqL, nI_add, pk_mul, lN_add, lN_mul, nI_l, lN_i, pk_div, pk_lDiv, pk_sub, lN_sub, remN, remL, neg1, neg2, negL, negL2, M1e, M1f, M1g, M1h, M1i, M1j, M2e, M2f, L1g, L1h, L1i, L1j, les_eq, les_e, les_n, les_m, lq2, fX9_takesOf_L4, Nat.reduceAdd, Mg.2.1 0, Mg.2.1 (150 + i - 1), n1, if_false, if_true, mGainT v Mg.2.1 hs hi, mGain0, c]
          exact B g n Mg (by omega)
        · have n2 : ¬ b = 0 := by omega
          have vb := v.2.2.2.2.2.2.1 (b - 1) (by omega)
          have vb' : R (150 + b - 1) ≤ 999 := by rw [show 150 + b - 1 = 150 + (b - 1) by omega]; exact vb
          simp (disch := omega) only [lI, lJ, gd_1, bd_1, bv_1, nm_1, ixN, inbN, eqN, leN, ltN, eqL, leL, ltL, beqN, beqL, nI_add, pk_mul, lN_add, lN_mul, nI_l, lN_i, pk_div, pk_lDiv, pk_sub, lN_sub, remN, remL, neg1, neg2, negL, negL2, M1e, M1f, M1g, M1h, M1i, M1j, M2e, M2f, L1g, L1h, L1i, L1j, les_eq, les_e, les_n, les_m, lq2, fX9_takesOf_L4, Nat.reduceAdd, Mg.2.1 0, Mg.2.1 (150 + i - 1), Mg.2.1 (150 + b - 1), n1, n2, if_false, if_true, mGainT v Mg.2.1 hs hi, mGainT v Mg.2.1 hs z, c]
          exact B g n Mg (by omega)
    · obtain ⟨a, ha, A, B⟩ := ih (i + 1) i (by omega) (by omega) (by omega)
      refine ⟨a, ha, fun n hn => ?_, fun g n Mg hn => ?_⟩
      · obtain ⟨n, rfl⟩ : ∃ q, n = q + 1 := ⟨n - 1, by omega⟩
        simp (disch := omega) only [lI, lJ, gd_1, bd_1, bv_1, nm_1, ixN, inbN, eqN, leN, ltN, eqL, leL, ltL, beqN, beqL, nI_add, pk_mul, lN_add, lN_mul, nI_l, lN_i, pk_div, pk_lDiv, pk_sub, lN_sub, remN, remL, neg1, neg2, negL, negL2, M1e, M1f, M1g, M1h, M1i, M1j, M2e, M2f, L1g, L1h, L1i, L1j, les_eq, les_e, les_n, les_m, cond_true, cond_false, if_true, if_false, fX8_refuse, fX8_allow, fX8_allow_, Nat.not_lt_zero, Nat.reduceAdd, Nat.reduceLT, Nat.reduceLeDiff, Nat.reduceEqDiff, decide_false, decide_true, Bool.not_false, Bool.not_true, C.1, k, lq2, fX8_floorTaken_L4, C.2.2.2.1.2.2.1.1, n1, cGain C hp hs (f := i) (by omega), cGain C hp hs hb, c]
        exact A n (by omega)
      · obtain ⟨n, rfl⟩ : ∃ q, n = q + 1 := ⟨n - 1, by omega⟩
        rcases Nat.eq_zero_or_pos b with z | z
        · subst z
          rw [show gn R s 0 = lN 0 from rfl] at c
          simp (disch := omega) only [lI, lJ, gd_1, bd_1, bv_1, nm_1, ixN, inbN, eqN, leN, ltN, eqL, leL, ltL, beqN, beqL, nI_add, pk_mul, lN_add, lN_mul, nI_l, lN_i, pk_div, pk_lDiv, pk_sub, lN_sub, remN, remL, neg1, neg2, negL, negL2, M1e, M1f, M1g, M1h, M1i, M1j, M2e, M2f, L1g, L1h, L1i, L1j, les_eq, les_e, les_n, les_m, lq2, fX9_takesOf_L4, Nat.reduceAdd, Mg.2.1 0, Mg.2.1 (150 + i - 1), n1, if_false, if_true, mGainT v Mg.2.1 hs hi, mGain0, c]
          exact B g n Mg (by omega)
        · have n2 : ¬ b = 0 := by omega
          have vb := v.2.2.2.2.2.2.1 (b - 1) (by omega)
          have vb' : R (150 + b - 1) ≤ 999 := by rw [show 150 + b - 1 = 150 + (b - 1) by omega]; exact vb
          simp (disch := omega) only [lI, lJ, gd_1, bd_1, bv_1, nm_1, ixN, inbN, eqN, leN, ltN, eqL, leL, ltL, beqN, beqL, nI_add, pk_mul, lN_add, lN_mul, nI_l, lN_i, pk_div, pk_lDiv, pk_sub, lN_sub, remN, remL, neg1, neg2, negL, negL2, M1e, M1f, M1g, M1h, M1i, M1j, M2e, M2f, L1g, L1h, L1i, L1j, les_eq, les_e, les_n, les_m, lq2, fX9_takesOf_L4, Nat.reduceAdd, Mg.2.1 0, Mg.2.1 (150 + i - 1), Mg.2.1 (150 + b - 1), n1, n2, if_false, if_true, mGainT v Mg.2.1 hs hi, mGainT v Mg.2.1 hs z, c]
          exact B g n Mg (by omega)
set_option maxRecDepth 100000 in
theorem takF (C : CA h d R N T) (hp : R 10 = 1) {s : Nat} (hs : s < R 4) : ∃ a, a ≤ R 0 ∧ fX8_floorTaken 0 (nI s) h = some (nI a, h) ∧ ∀ g, MA g R N T → fX9_takesOf 181 (nI s) g = some (nI a, g) := by
  have vF := C.2.2.2.2.1.F
  obtain ⟨a, ha, A, B⟩ := takL C hp hs (R 0) 1 0 (by omega) (by omega) (by omega)
  exact ⟨a, ha, A FU (by unfold FU; omega), fun g Mg => B g FU Mg (by unfold FU; omega)⟩
set_option maxRecDepth 100000 in
theorem oTakes (C : CA h d R N T) (x : Int32) : OpQ h (fX8_takes 0 x h) (fun h1 => fX9_takes 181 x h1) (fun h1 => MA h1 R N T) := by
  have k := isKb_D C.2.1
  have v := C.2.2.2.2.1
  have z1 : ¬ (1 : Nat) = 0 := by omega
  have z6 : ¬ (6 : Nat) = 0 := by omega
  have vp := v.2.1
  have c13 := C.2.2.2.1.2.2.1.2.2.2.2
  rcases slC C x with ⟨s, hs, rfl, e1, e2⟩ | ⟨e1, e2⟩
  · by_cases hp : R 10 = 1
    · obtain ⟨a, ha, A, B⟩ := takF C hp hs
      refine opq (nI a) ?_ (fun h1 g Mg hg => ?_)
      · simp (disch := omega) only [lI, lJ, gd_1, bd_1, bv_1, nm_1, ixN, inbN, eqN, leN, ltN, eqL, leL, ltL, beqN, beqL, nI_add, pk_mul, lN_add, lN_mul, nI_l, lN_i, pk_div, pk_lDiv, pk_sub, lN_sub, remN, remL, neg1, neg2, negL, negL2, M1e, M1f, M1g, M1h, M1i, M1j, M2e, M2f, L1g, L1h, L1i, L1j, les_eq, les_e, les_n, les_m, cond_true, cond_false, if_true, if_false, fX8_refuse, fX8_allow, fX8_allow_, Nat.not_lt_zero, Nat.reduceAdd, Nat.reduceLT, Nat.reduceLeDiff, Nat.reduceEqDiff, decide_false, decide_true, Bool.not_false, Bool.not_true, C.1, k, fX8_takes, fX8_whyNoWages, e1, c13, hp, z1, A]
      · simp (disch := omega) only [lI, lJ, gd_1, bd_1, bv_1, nm_1, ixN, inbN, eqN, leN, ltN, eqL, leL, ltL, beqN, beqL, nI_add, pk_mul, lN_add, lN_mul, nI_l, lN_i, pk_div, pk_lDiv, pk_sub, lN_sub, remN, remL, neg1, neg2, negL, negL2, M1e, M1f, M1g, M1h, M1i, M1j, M2e, M2f, L1g, L1h, L1i, L1j, les_eq, les_e, les_n, les_m, cond_true, cond_false, if_true, if_false, fX9_no, hg, Nat.not_lt_zero, Nat.reduceAdd, Nat.reduceLT, Nat.reduceLeDiff, Nat.reduceEqDiff, decide_false, decide_true, Bool.not_false, Bool.not_true, fX9_takes, fX9_payWhy, e2 g Mg, Mg.2.1 10, hp, B g Mg]
    · have hp0 : R 10 = 0 := by omega
      have z0 : ¬ (0 : Nat) = 1 := by omega
      refine opr 6 (by omega) (M1) ?_ (fun h1 g Mg hg => ?_)
      · simp (disch := omega) only [lI, lJ, gd_1, bd_1, bv_1, nm_1, ixN, inbN, eqN, leN, ltN, eqL, leL, ltL, beqN, beqL, nI_add, pk_mul, lN_add, lN_mul, nI_l, lN_i, pk_div, pk_lDiv, pk_sub, lN_sub, remN, remL, neg1, neg2, negL, negL2, M1e, M1f, M1g, M1h, M1i, M1j, M2e, M2f, L1g, L1h, L1i, L1j, les_eq, les_e, les_n, les_m, cond_true, cond_false, if_true, if_false, fX8_refuse, fX8_allow, fX8_allow_, Nat.not_lt_zero, Nat.reduceAdd, Nat.reduceLT, Nat.reduceLeDiff, Nat.reduceEqDiff, decide_false, decide_true, Bool.not_false, Bool.not_true, C.1, k, fX8_takes, fX8_whyNoWages, e1, c13, hp0, z6]
      · simp (disch := omega) only [lI, lJ, gd_1, bd_1, bv_1, nm_1, ixN, inbN, eqN, leN, ltN, eqL, leL, ltL, beqN, beqL, nI_add, pk_mul, lN_add, lN_mul, nI_l, lN_i, pk_div, pk_lDiv, pk_sub, lN_sub, remN, remL, neg1, neg2, negL, negL2, M1e, M1f, M1g, M1h, M1i, M1j, M2e, M2f, L1g, L1h, L1i, L1j, les_eq, les_e, les_n, les_m, cond_true, cond_false, if_true, if_false, fX9_no, hg, Nat.not_lt_zero, Nat.reduceAdd, Nat.reduceLT, Nat.reduceLeDiff, Nat.reduceEqDiff, decide_false, decide_true, Bool.not_false, Bool.not_true, fX9_takes, fX9_payWhy, e2 g Mg, Mg.2.1 10, hp0, z0, z6]
  · refine opr 1 (by omega) (M1) ?_ (fun h1 g Mg hg => ?_)
    · simp (disch := omega) only [lI, lJ, gd_1, bd_1, bv_1, nm_1, ixN, inbN, eqN, leN, ltN, eqL, leL, ltL, beqN, beqL, nI_add, pk_mul, lN_add, lN_mul, nI_l, lN_i, pk_div, pk_lDiv, pk_sub, lN_sub, remN, remL, neg1, neg2, negL, negL2, M1e, M1f, M1g, M1h, M1i, M1j, M2e, M2f, L1g, L1h, L1i, L1j, les_eq, les_e, les_n, les_m, cond_true, cond_false, if_true, if_false, fX8_refuse, fX8_allow, fX8_allow_, Nat.not_lt_zero, Nat.reduceAdd, Nat.reduceLT, Nat.reduceLeDiff, Nat.reduceEqDiff, decide_false, decide_true, Bool.not_false, Bool.not_true, C.1, k, fX8_takes, fX8_whyNoWages, e1, z1]
    · simp (disch := omega) only [lI, lJ, gd_1, bd_1, bv_1, nm_1, ixN, inbN, eqN, leN, ltN, eqL, leL, ltL, beqN, beqL, nI_add, pk_mul, lN_add, lN_mul, nI_l, lN_i, pk_div, pk_lDiv, pk_sub, lN_sub, remN, remL, neg1, neg2, negL, negL2, M1e, M1f, M1g, M1h, M1i, M1j, M2e, M2f, L1g, L1h, L1i, L1j, les_eq, les_e, les_n, les_m, cond_true, cond_false, if_true, if_false, fX9_no, hg, Nat.not_lt_zero, Nat.reduceAdd, Nat.reduceLT, Nat.reduceLeDiff, Nat.reduceEqDiff, decide_false, decide_true, Bool.not_false, Bool.not_true, fX9_takes, fX9_payWhy, e2 g Mg, z1]
set_option maxRecDepth 100000 in
theorem oGains (C : CA h d R N T) (x : Int32) : OpQ h (fX8_gains 0 x h) (fun h1 => fX9_gains 181 x h1) (fun h1 => MA h1 R N T) := by
  have k := isKb_D C.2.1
  have v := C.2.2.2.2.1
  have z1 : ¬ (1 : Nat) = 0 := by omega
  have z6 : ¬ (6 : Nat) = 0 := by omega
  have vp := v.2.1
  have vF := v.F
  have c13 := C.2.2.2.1.2.2.1.2.2.2.2
  rcases slC C x with ⟨s, hs, rfl, e1, e2⟩ | ⟨e1, e2⟩
  · by_cases hp : R 10 = 1
    · obtain ⟨a, ha, A, B⟩ := takF C hp hs
      refine opq (gn R s a) ?_ (fun h1 g Mg hg => ?_)
      · simp (disch := omega) only [lI, lJ, gd_1, bd_1, bv_1, nm_1, ixN, inbN, eqN, leN, ltN, eqL, leL, ltL, beqN, beqL, nI_add, pk_mul, lN_add, lN_mul, nI_l, lN_i, pk_div, pk_lDiv, pk_sub, lN_sub, remN, remL, neg1, neg2, negL, negL2, M1e, M1f, M1g, M1h, M1i, M1j, M2e, M2f, L1g, L1h, L1i, L1j, les_eq, les_e, les_n, les_m, cond_true, cond_false, if_true, if_false, fX8_refuse, fX8_allow, fX8_allow_, Nat.not_lt_zero, Nat.reduceAdd, Nat.reduceLT, Nat.reduceLeDiff, Nat.reduceEqDiff, decide_false, decide_true, Bool.not_false, Bool.not_true, C.1, k, fX8_gains, fX8_whyNoWages, e1, c13, hp, z1, A, cGain C hp hs ha]
      · rcases Nat.eq_zero_or_pos a with z | z
        · subst z
          simp (disch := omega) only [lI, lJ, gd_1, bd_1, bv_1, nm_1, ixN, inbN, eqN, leN, ltN, eqL, leL, ltL, beqN, beqL, nI_add, pk_mul, lN_add, lN_mul, nI_l, lN_i, pk_div, pk_lDiv, pk_sub, lN_sub, remN, remL, neg1, neg2, negL, negL2, M1e, M1f, M1g, M1h, M1i, M1j, M2e, M2f, L1g, L1h, L1i, L1j, les_eq, les_e, les_n, les_m, cond_true, cond_false, if_true, if_false, fX9_no, hg, Nat.not_lt_zero, Nat.reduceAdd, Nat.reduceLT, Nat.reduceLeDiff, Nat.reduceEqDiff, decide_false, decide_true, Bool.not_false, Bool.not_true, fX9_gains, fX9_payWhy, e2 g Mg, Mg.2.1 10, hp, B g Mg, mGain0]
          rfl
        · have n2 : ¬ a = 0 := by omega
          have vb := v.2.2.2.2.2.2.1 (a - 1) (by omega)
          have vb' : R (150 + a - 1) ≤ 999 := by rw [show 150 + a - 1 = 150 + (a - 1) by omega]; exact vb
          simp (disch := omega) only [lI, lJ, gd_1, bd_1, bv_1, nm_1, ixN, inbN, eqN, leN, ltN, eqL, leL, ltL, beqN, beqL, nI_add, pk_mul, lN_add, lN_mul, nI_l, lN_i, pk_div, pk_lDiv, pk_sub, lN_sub, remN, remL, neg1, neg2, negL, negL2, M1e, M1f, M1g, M1h, M1i, M1j, M2e, M2f, L1g, L1h, L1i, L1j, les_eq, les_e, les_n, les_m, cond_true, cond_false, if_true, if_false, fX9_no, hg, Nat.not_lt_zero, Nat.reduceAdd, Nat.reduceLT, Nat.reduceLeDiff, Nat.reduceEqDiff, decide_false, decide_true, Bool.not_false, Bool.not_true, fX9_gains, fX9_payWhy, e2 g Mg, Mg.2.1 10, hp, B g Mg, n2, Mg.2.1 (150 + a - 1), mGainT v Mg.2.1 hs z ha]
    · have hp0 : R 10 = 0 := by omega
      have z0 : ¬ (0 : Nat) = 1 := by omega
      refine opr 6 (by omega) (M1.toInt64) ?_ (fun h1 g Mg hg => ?_)
      · simp (disch := omega) only [lI, lJ, gd_1, bd_1, bv_1, nm_1, ixN, inbN, eqN, leN, ltN, eqL, leL, ltL, beqN, beqL, nI_add, pk_mul, lN_add, lN_mul, nI_l, lN_i, pk_div, pk_lDiv, pk_sub, lN_sub, remN, remL, neg1, neg2, negL, negL2, M1e, M1f, M1g, M1h, M1i, M1j, M2e, M2f, L1g, L1h, L1i, L1j, les_eq, les_e, les_n, les_m, cond_true, cond_false, if_true, if_false, fX8_refuse, fX8_allow, fX8_allow_, Nat.not_lt_zero, Nat.reduceAdd, Nat.reduceLT, Nat.reduceLeDiff, Nat.reduceEqDiff, decide_false, decide_true, Bool.not_false, Bool.not_true, C.1, k, fX8_gains, fX8_whyNoWages, e1, c13, hp0, z6]
      · simp (disch := omega) only [lI, lJ, gd_1, bd_1, bv_1, nm_1, ixN, inbN, eqN, leN, ltN, eqL, leL, ltL, beqN, beqL, nI_add, pk_mul, lN_add, lN_mul, nI_l, lN_i, pk_div, pk_lDiv, pk_sub, lN_sub, remN, remL, neg1, neg2, negL, negL2, M1e, M1f, M1g, M1h, M1i, M1j, M2e, M2f, L1g, L1h, L1i, L1j, les_eq, les_e, les_n, les_m, cond_true, cond_false, if_true, if_false, fX9_no, hg, Nat.not_lt_zero, Nat.reduceAdd, Nat.reduceLT, Nat.reduceLeDiff, Nat.reduceEqDiff, decide_false, decide_true, Bool.not_false, Bool.not_true, fX9_gains, fX9_payWhy, e2 g Mg, Mg.2.1 10, hp0, z0, z6]
  · refine opr 1 (by omega) (M1.toInt64) ?_ (fun h1 g Mg hg => ?_)
    · simp (disch := omega) only [lI, lJ, gd_1, bd_1, bv_1, nm_1, ixN, inbN, eqN, leN, ltN, eqL, leL, ltL, beqN, beqL, nI_add, pk_mul, lN_add, lN_mul, nI_l, lN_i, pk_div, pk_lDiv, pk_sub, lN_sub, remN, remL, neg1, neg2, negL, negL2, M1e, M1f, M1g, M1h, M1i, M1j, M2e, M2f, L1g, L1h, L1i, L1j, les_eq, les_e, les_n, les_m, cond_true, cond_false, if_true, if_false, fX8_refuse, fX8_allow, fX8_allow_, Nat.not_lt_zero, Nat.reduceAdd, Nat.reduceLT, Nat.reduceLeDiff, Nat.reduceEqDiff, decide_false, decide_true, Bool.not_false, Bool.not_true, C.1, k, fX8_gains, fX8_whyNoWages, e1, z1]
    · simp (disch := omega) only [lI, lJ, gd_1, bd_1, bv_1, nm_1, ixN, inbN, eqN, leN, ltN, eqL, leL, ltL, beqN, beqL, nI_add, pk_mul, lN_add, lN_mul, nI_l, lN_i, pk_div, pk_lDiv, pk_sub, lN_sub, remN, remL, neg1, neg2, negL, negL2, M1e, M1f, M1g, M1h, M1i, M1j, M2e, M2f, L1g, L1h, L1i, L1j, les_eq, les_e, les_n, les_m, cond_true, cond_false, if_true, if_false, fX9_no, hg, Nat.not_lt_zero, Nat.reduceAdd, Nat.reduceLT, Nat.reduceLeDiff, Nat.reduceEqDiff, decide_false, decide_true, Bool.not_false, Bool.not_true, fX9_gains, fX9_payWhy, e2 g Mg, z1]
/-! wakings by chance -/
def wp : Nat → Nat → Nat → Nat
  | n, 0, _ => 100 ^ n
  | 0, _ + 1, _ => 0
  | n + 1, f + 1, c => c * wp n f c + (100 - c) * wp n (f + 1) c
set_option maxRecDepth 100000 in
theorem wp_le {c : Nat} (hc : c ≤ 100) : ∀ n f, wp n f c ≤ 100 ^ n
  | n, 0 => by unfold wp; exact Nat.le_refl _
  | 0, f + 1 => by unfold wp; exact Nat.zero_le _
  | n + 1, f + 1 => by
    have h1 := wp_le hc n f
    have h2 := wp_le hc n (f + 1)
    unfold wp
    have h3 : c * wp n f c ≤ c * 100 ^ n := Nat.mul_le_mul_left _ h1
    have h4 : (100 - c) * wp n (f + 1) c ≤ (100 - c) * 100 ^ n := Nat.mul_le_mul_left _ h2
    have h5 : c * 100 ^ n + (100 - c) * 100 ^ n = 100 ^ (n + 1) := by rw [← Nat.add_mul, Nat.add_sub_cancel' hc, Nat.pow_succ, Nat.mul_comm]
    omega
set_option maxRecDepth 100000 in
theorem cHun {n : Nat} (hn : n ≤ 8) : fX8_hundreds (nI n) h = some (lN (100 ^ n), h) := by
  have main : ∀ m i q, i + m = n → m < q → lq2 (fX8_hundreds_L4 (nI n)) q (lN (100 ^ i)) (nI i) h = some (lN (100 ^ n), h) := by
    intro m
    induction m with
    | zero =>
      intro i q e hq
      obtain ⟨q, rfl⟩ : ∃ r, q = r + 1 := ⟨q - 1, by omega⟩
      have : i = n := by omega
      subst this
      simp (disch := omega) only [lI, lJ, gd_1, bd_1, bv_1, nm_1, ixN, inbN, eqN, leN, ltN, eqL, leL, ltL, beqN, beqL, nI_add, pk_mul, lN_add, lN_mul, nI_l, lN_i, pk_div, pk_lDiv, pk_sub, lN_sub, remN, remL, neg1, neg2, negL, negL2, M1e, M1f, M1g, M1h, M1i, M1j, M2e, M2f, L1g, L1h, L1i, L1j, les_eq, les_e, les_n, les_m, lq2, fX8_hundreds_L4, Nat.le_refl, if_true]
    | succ m ih =>
      intro i q e hq
      obtain ⟨q, rfl⟩ : ∃ r, q = r + 1 := ⟨q - 1, by omega⟩
      have n1 : ¬ n ≤ i := by omega
      have key := ih (i + 1) q (by omega) (by omega)
      rw [Nat.pow_succ] at key
      simp (disch := omega) only [lI, lJ, gd_1, bd_1, bv_1, nm_1, ixN, inbN, eqN, leN, ltN, eqL, leL, ltL, beqN, beqL, nI_add, pk_mul, lN_add, lN_mul, nI_l, lN_i, pk_div, pk_lDiv, pk_sub, lN_sub, remN, remL, neg1, neg2, negL, negL2, M1e, M1f, M1g, M1h, M1i, M1j, M2e, M2f, L1g, L1h, L1i, L1j, les_eq, les_e, les_n, les_m, lq2, fX8_hundreds_L4, n1, if_false]
      exact key
  exact main n 0 FU (by omega) (by unfold FU; omega)
set_option maxRecDepth 100000 in
theorem cWak {c : Nat} (hc : c ≤ 100) : ∀ n f q, n ≤ 8 → f ≤ 8 → n < q → lq3 fX8_wakingParts_0 q (nI f) (nI n) (nI c) h = some (lN (wp n f c), h) := by
  intro n
  induction n with
  | zero =>
    intro f q hn hf hq
    obtain ⟨q, rfl⟩ : ∃ r, q = r + 1 := ⟨q - 1, by omega⟩
    rcases Nat.eq_zero_or_pos f with z | z
    · subst z
      simp (disch := omega) only [lI, lJ, gd_1, bd_1, bv_1, nm_1, ixN, inbN, eqN, leN, ltN, eqL, leL, ltL, beqN, beqL, nI_add, pk_mul, lN_add, lN_mul, nI_l, lN_i, pk_div, pk_lDiv, pk_sub, lN_sub, remN, remL, neg1, neg2, negL, negL2, M1e, M1f, M1g, M1h, M1i, M1j, M2e, M2f, L1g, L1h, L1i, L1j, les_eq, les_e, les_n, les_m, lq3, fX8_wakingParts_0, Nat.lt_irrefl, if_false, cHun, wp]
    · have n1 : ¬ f ≤ 0 := by omega
      obtain ⟨f, rfl⟩ : ∃ r, f = r + 1 := ⟨f - 1, by omega⟩
      simp (disch := omega) only [lI, lJ, gd_1, bd_1, bv_1, nm_1, ixN, inbN, eqN, leN, ltN, eqL, leL, ltL, beqN, beqL, nI_add, pk_mul, lN_add, lN_mul, nI_l, lN_i, pk_div, pk_lDiv, pk_sub, lN_sub, remN, remL, neg1, neg2, negL, negL2, M1e, M1f, M1g, M1h, M1i, M1j, M2e, M2f, L1g, L1h, L1i, L1j, les_eq, les_e, les_n, les_m, lq3, fX8_wakingParts_0, Nat.lt_irrefl, Nat.zero_lt_succ, if_true, if_false, wp]
  | succ n ih =>
    intro f q hn hf hq
    obtain ⟨q, rfl⟩ : ∃ r, q = r + 1 := ⟨q - 1, by omega⟩
    rcases Nat.eq_zero_or_pos f with z | z
    · subst z
      simp (disch := omega) only [lI, lJ, gd_1, bd_1, bv_1, nm_1, ixN, inbN, eqN, leN, ltN, eqL, leL, ltL, beqN, beqL, nI_add, pk_mul, lN_add, lN_mul, nI_l, lN_i, pk_div, pk_lDiv, pk_sub, lN_sub, remN, remL, neg1, neg2, negL, negL2, M1e, M1f, M1g, M1h, M1i, M1j, M2e, M2f, L1g, L1h, L1i, L1j, les_eq, les_e, les_n, les_m, lq3, fX8_wakingParts_0, Nat.lt_irrefl, if_false, cHun, wp]
    · have n1 : ¬ f ≤ 0 := by omega
      have n2 : ¬ n + 1 ≤ 0 := by omega
      obtain ⟨f, rfl⟩ : ∃ r, f = r + 1 := ⟨f - 1, by omega⟩
      have k1 := ih f q (by omega) (by omega) (by omega)
      have k2 := ih (f + 1) q (by omega) (by omega) (by omega)
      have e1 : f + 1 - 1 = f := rfl
      have e2 : n + 1 - 1 = n := rfl
      simp (disch := omega) only [lI, lJ, gd_1, bd_1, bv_1, nm_1, ixN, inbN, eqN, leN, ltN, eqL, leL, ltL, beqN, beqL, nI_add, pk_mul, lN_add, lN_mul, nI_l, lN_i, pk_div, pk_lDiv, pk_sub, lN_sub, remN, remL, neg1, neg2, negL, negL2, M1e, M1f, M1g, M1h, M1i, M1j, M2e, M2f, L1g, L1h, L1i, L1j, les_eq, les_e, les_n, les_m, lq3, fX8_wakingParts_0, Nat.zero_lt_succ, if_true, e1, e2, k1, k2, wp]
def chs (n : Nat) : Nat → Nat
  | 0 => 1
  | i + 1 => chs n i * (n - i) / (i + 1)
def pr (k c w : Nat) : Nat → Nat
  | 0 => w
  | i + 1 => pr k c w i * (if i < k then c else 100 - c)
def trm (n k c : Nat) : Nat := pr k c (chs n k) n
def tot (n f c : Nat) : Nat → Nat
  | 0 => 0
  | j + 1 => tot n f c j + trm n (f + j) c
set_option maxRecDepth 100000 in
theorem chs_le : ∀ n, n < 9 → ∀ i, i < 9 → chs n i ≤ 70 := by decide +kernel
set_option maxRecDepth 100000 in
theorem pr_le {k c w : Nat} (hc : c ≤ 100) : ∀ i, pr k c w i ≤ w * 100 ^ i
  | 0 => by simp [pr]
  | i + 1 => by
    have h1 := pr_le (k := k) (w := w) hc i
    unfold pr
    rw [Nat.pow_succ, ← Nat.mul_assoc]
    exact Nat.mul_le_mul h1 (by split <;> omega)
set_option maxRecDepth 100000 in
theorem trm_le {n k c : Nat} (hn : n ≤ 8) (hk : k ≤ 8) (hc : c ≤ 100) : trm n k c ≤ 700000000000000000 := by
  have h1 := pr_le (k := k) (w := chs n k) hc n
  have h2 := chs_le n (by omega) k (by omega)
  have h3 : 100 ^ n ≤ 100 ^ 8 := Nat.pow_le_pow_right (by omega) hn
  exact Nat.le_trans h1 (Nat.le_trans (Nat.mul_le_mul h2 h3) (by decide))
set_option maxRecDepth 100000 in
theorem tot_le {n f c : Nat} (hn : n ≤ 8) (hc : c ≤ 100) : ∀ j, f + j ≤ 9 → tot n f c j ≤ j * 700000000000000000
  | 0, _ => by simp [tot]
  | j + 1, h => by
    have h1 := tot_le (f := f) hn hc j (by omega)
    have h2 := trm_le (n := n) (k := f + j) hn (by omega) hc
    unfold tot
    omega
set_option maxHeartbeats 4000000 in
set_option maxRecDepth 100000 in
theorem wk : ∀ c, c < 101 → ∀ n, n < 9 → ∀ f, f < 5 → tot n f c (n + 1 - f) = wp n f c := by decide +kernel
end OPS
