set_option maxRecDepth 100000 in
theorem orN : ∀ f, f < 5 → ∀ a, a < 2 ^ f → nI a ||| (nI 1 <<< (nI f &&& nI 31)) = nI (a + 2 ^ f) := by decide +kernel
set_option maxRecDepth 100000 in
theorem bitN : ∀ k, k < 5 → ∀ a, a < 32 → (nI a >>> (nI k &&& nI 31)) &&& nI 1 = nI (a / 2 ^ k % 2) := by decide +kernel
set_option maxRecDepth 100000 in
theorem or0 (x : Int32) : x ||| nI 0 = x := Int32.or_zero
section OPS
variable {h : HH} {d : Nat} {R N T : Nat → Nat}
set_option maxRecDepth 100000 in
theorem oSleeper (C : CA h d R N T) (x y : Int32) : OpQ h (fX8_sleeper 0 x y h) (fun h1 => fX9_sleeper 181 x y h1) (fun h1 => MA h1 R N T) := by
  have k := isKb_D C.2.1
  have v := C.2.2.2.2.1
  have vF := v.S
  have hT := VN.t v C.2.2.2.2.2.2.1 (by omega)
  rcases slC C x with ⟨s, hs, rfl, e1, e2⟩ | ⟨e1, e2⟩
  · have q := C.2.2.2.2.2.1.2.1 s (by omega)
    have w := C.2.2.2.2.2.2.1.2.1 s (by omega)
    have vS := v.2.2.1 s hs
    have dS := C.2.2.2.1.2.2.2.2.1 s hs
    have dc0 := dS.1 0 (by omega)
    have dc1 := dS.1 1 (by omega)
    have hm := v.mn w.1
    have hn : ¬ mn R (N (4 * s + 0)) = 0 := by omega
    have hk := v.H
    by_cases y0 : y = nI 0
    · subst y0
      refine opq (nI (N (4 * s + 0))) ?_ (fun h1 g Mg hg => ?_)
      · simp (disch := omega) only [lI, lJ, gd_1, bd_1, bv_1, nm_1, ixN, inbN, eqN, leN, ltN, eqL, leL, ltL, beqN, beqL, nI_add, pk_mul, lN_add, lN_mul, nI_l, lN_i, pk_div, pk_lDiv, pk_sub, lN_sub, remN, remL, neg1, neg2, negL, negL2, M1e, M1f, M1g, M1h, M1i, M1j, M2e, M2f, L1g, L1h, L1i, L1j, les_eq, les_e, les_n, les_m, cond_true, cond_false, if_true, if_false, fX8_refuse, fX8_allow, fX8_allow_, Nat.not_lt_zero, Nat.reduceAdd, Nat.reduceLT, Nat.reduceLeDiff, Nat.reduceEqDiff, decide_false, decide_true, Bool.not_false, Bool.not_true, C.1, k, fX8_sleeper, e1, q]
      · simp (disch := omega) only [lI, lJ, gd_1, bd_1, bv_1, nm_1, ixN, inbN, eqN, leN, ltN, eqL, leL, ltL, beqN, beqL, nI_add, pk_mul, lN_add, lN_mul, nI_l, lN_i, pk_div, pk_lDiv, pk_sub, lN_sub, remN, remL, neg1, neg2, negL, negL2, M1e, M1f, M1g, M1h, M1i, M1j, M2e, M2f, L1g, L1h, L1i, L1j, les_eq, les_e, les_n, les_m, cond_true, cond_false, if_true, if_false, fX9_no, hg, Nat.not_lt_zero, Nat.reduceAdd, Nat.reduceLT, Nat.reduceLeDiff, Nat.reduceEqDiff, decide_false, decide_true, Bool.not_false, Bool.not_true, fX9_sleeper, e2 g Mg, mIts Mg.2.2.2.1]
    by_cases y1 : y = nI 1
    · subst y1
      refine opq (les M2 (N (4 * s + 1))) ?_ (fun h1 g Mg hg => ?_)
      · simp (disch := omega) only [lI, lJ, gd_1, bd_1, bv_1, nm_1, ixN, inbN, eqN, leN, ltN, eqL, leL, ltL, beqN, beqL, nI_add, pk_mul, lN_add, lN_mul, nI_l, lN_i, pk_div, pk_lDiv, pk_sub, lN_sub, remN, remL, neg1, neg2, negL, negL2, M1e, M1f, M1g, M1h, M1i, M1j, M2e, M2f, L1g, L1h, L1i, L1j, les_eq, les_e, les_n, les_m, cond_true, cond_false, if_true, if_false, fX8_refuse, fX8_allow, fX8_allow_, Nat.not_lt_zero, Nat.reduceAdd, Nat.reduceLT, Nat.reduceLeDiff, Nat.reduceEqDiff, decide_false, decide_true, Bool.not_false, Bool.not_true, C.1, k, fX8_sleeper, e1, q]
      · simp (disch := omega) only [lI, lJ, gd_1, bd_1, bv_1, nm_1, ixN, inbN, eqN, leN, ltN, eqL, leL, ltL, beqN, beqL, nI_add, pk_mul, lN_add, lN_mul, nI_l, lN_i, pk_div, pk_lDiv, pk_sub, lN_sub, remN, remL, neg1, neg2, negL, negL2, M1e, M1f, M1g, M1h, M1i, M1j, M2e, M2f, L1g, L1h, L1i, L1j, les_eq, les_e, les_n, les_m, cond_true, cond_false, if_true, if_false, fX9_no, hg, Nat.not_lt_zero, Nat.reduceAdd, Nat.reduceLT, Nat.reduceLeDiff, Nat.reduceEqDiff, decide_false, decide_true, Bool.not_false, Bool.not_true, fX9_sleeper, e2 g Mg, mIts Mg.2.2.2.1]
        rcases Nat.eq_zero_or_pos (N (4 * s + 1)) with z | z
        · simp only [z, if_true, les]
        · obtain ⟨m, hm9⟩ : ∃ m, N (4 * s + 1) = m + 1 := ⟨N (4 * s + 1) - 1, by omega⟩
          have z2 : ¬ m + 1 = 0 := by omega
          simp only [hm9, z2, if_false, les, Nat.add_sub_cancel]
    by_cases y2 : y = nI 2
    · subst y2
      refine opq (nI (N (4 * s + 2))) ?_ (fun h1 g Mg hg => ?_)
      · simp (disch := omega) only [lI, lJ, gd_1, bd_1, bv_1, nm_1, ixN, inbN, eqN, leN, ltN, eqL, leL, ltL, beqN, beqL, nI_add, pk_mul, lN_add, lN_mul, nI_l, lN_i, pk_div, pk_lDiv, pk_sub, lN_sub, remN, remL, neg1, neg2, negL, negL2, M1e, M1f, M1g, M1h, M1i, M1j, M2e, M2f, L1g, L1h, L1i, L1j, les_eq, les_e, les_n, les_m, cond_true, cond_false, if_true, if_false, fX8_refuse, fX8_allow, fX8_allow_, Nat.not_lt_zero, Nat.reduceAdd, Nat.reduceLT, Nat.reduceLeDiff, Nat.reduceEqDiff, decide_false, decide_true, Bool.not_false, Bool.not_true, C.1, k, fX8_sleeper, e1, q]
      · simp (disch := omega) only [lI, lJ, gd_1, bd_1, bv_1, nm_1, ixN, inbN, eqN, leN, ltN, eqL, leL, ltL, beqN, beqL, nI_add, pk_mul, lN_add, lN_mul, nI_l, lN_i, pk_div, pk_lDiv, pk_sub, lN_sub, remN, remL, neg1, neg2, negL, negL2, M1e, M1f, M1g, M1h, M1i, M1j, M2e, M2f, L1g, L1h, L1i, L1j, les_eq, les_e, les_n, les_m, cond_true, cond_false, if_true, if_false, fX9_no, hg, Nat.not_lt_zero, Nat.reduceAdd, Nat.reduceLT, Nat.reduceLeDiff, Nat.reduceEqDiff, decide_false, decide_true, Bool.not_false, Bool.not_true, fX9_sleeper, e2 g Mg, mIts Mg.2.2.2.1]
    by_cases y3 : y = nI 3
    · subst y3
      have hc := w.2.2.2.2
      refine opq (nI ((T 0 - T (1 + s)) / mn R (N (4 * s + 0)))) ?_ (fun h1 g Mg hg => ?_)
      · simp (disch := omega) only [lI, lJ, gd_1, bd_1, bv_1, nm_1, ixN, inbN, eqN, leN, ltN, eqL, leL, ltL, beqN, beqL, nI_add, pk_mul, lN_add, lN_mul, nI_l, lN_i, pk_div, pk_lDiv, pk_sub, lN_sub, remN, remL, neg1, neg2, negL, negL2, M1e, M1f, M1g, M1h, M1i, M1j, M2e, M2f, L1g, L1h, L1i, L1j, les_eq, les_e, les_n, les_m, cond_true, cond_false, if_true, if_false, fX8_refuse, fX8_allow, fX8_allow_, Nat.not_lt_zero, Nat.reduceAdd, Nat.reduceLT, Nat.reduceLeDiff, Nat.reduceEqDiff, decide_false, decide_true, Bool.not_false, Bool.not_true, C.1, k, fX8_sleeper, e1, q, cMinute C.2.2.2.1 v w.1, C.2.2.2.2.2.1.1, cQuo]
      · simp (disch := omega) only [lI, lJ, gd_1, bd_1, bv_1, nm_1, ixN, inbN, eqN, leN, ltN, eqL, leL, ltL, beqN, beqL, nI_add, pk_mul, lN_add, lN_mul, nI_l, lN_i, pk_div, pk_lDiv, pk_sub, lN_sub, remN, remL, neg1, neg2, negL, negL2, M1e, M1f, M1g, M1h, M1i, M1j, M2e, M2f, L1g, L1h, L1i, L1j, les_eq, les_e, les_n, les_m, cond_true, cond_false, if_true, if_false, fX9_no, hg, Nat.not_lt_zero, Nat.reduceAdd, Nat.reduceLT, Nat.reduceLeDiff, Nat.reduceEqDiff, decide_false, decide_true, Bool.not_false, Bool.not_true, fX9_sleeper, e2 g Mg, mIts Mg.2.2.2.1, mMinute Mg.2.1 v w.1, Mg.2.2.2.1.2 0, Mg.2.2.2.1.2 (1 + s), hn]
    by_cases y4 : y = nI 4
    · subst y4
      refine opq (nI (R (15 + 5 * s + 0))) ?_ (fun h1 g Mg hg => ?_)
      · simp (disch := omega) only [lI, lJ, gd_1, bd_1, bv_1, nm_1, ixN, inbN, eqN, leN, ltN, eqL, leL, ltL, beqN, beqL, nI_add, pk_mul, lN_add, lN_mul, nI_l, lN_i, pk_div, pk_lDiv, pk_sub, lN_sub, remN, remL, neg1, neg2, negL, negL2, M1e, M1f, M1g, M1h, M1i, M1j, M2e, M2f, L1g, L1h, L1i, L1j, les_eq, les_e, les_n, les_m, cond_true, cond_false, if_true, if_false, fX8_refuse, fX8_allow, fX8_allow_, Nat.not_lt_zero, Nat.reduceAdd, Nat.reduceLT, Nat.reduceLeDiff, Nat.reduceEqDiff, decide_false, decide_true, Bool.not_false, Bool.not_true, C.1, k, fX8_sleeper, e1, cSl C.2.2.2.1 C.2.1 v hs, dc0]
      · simp (disch := omega) only [lI, lJ, gd_1, bd_1, bv_1, nm_1, ixN, inbN, eqN, leN, ltN, eqL, leL, ltL, beqN, beqL, nI_add, pk_mul, lN_add, lN_mul, nI_l, lN_i, pk_div, pk_lDiv, pk_sub, lN_sub, remN, remL, neg1, neg2, negL, negL2, M1e, M1f, M1g, M1h, M1i, M1j, M2e, M2f, L1g, L1h, L1i, L1j, les_eq, les_e, les_n, les_m, cond_true, cond_false, if_true, if_false, fX9_no, hg, Nat.not_lt_zero, Nat.reduceAdd, Nat.reduceLT, Nat.reduceLeDiff, Nat.reduceEqDiff, decide_false, decide_true, Bool.not_false, Bool.not_true, fX9_sleeper, e2 g Mg, mOf Mg.2.1]
    by_cases y5 : y = nI 5
    · subst y5
      refine opq (nI (R (15 + 5 * s + 1))) ?_ (fun h1 g Mg hg => ?_)
      · simp (disch := omega) only [lI, lJ, gd_1, bd_1, bv_1, nm_1, ixN, inbN, eqN, leN, ltN, eqL, leL, ltL, beqN, beqL, nI_add, pk_mul, lN_add, lN_mul, nI_l, lN_i, pk_div, pk_lDiv, pk_sub, lN_sub, remN, remL, neg1, neg2, negL, negL2, M1e, M1f, M1g, M1h, M1i, M1j, M2e, M2f, L1g, L1h, L1i, L1j, les_eq, les_e, les_n, les_m, cond_true, cond_false, if_true, if_false, fX8_refuse, fX8_allow, fX8_allow_, Nat.not_lt_zero, Nat.reduceAdd, Nat.reduceLT, Nat.reduceLeDiff, Nat.reduceEqDiff, decide_false, decide_true, Bool.not_false, Bool.not_true, C.1, k, fX8_sleeper, e1, cSl C.2.2.2.1 C.2.1 v hs, dc1]
      · simp (disch := omega) only [lI, lJ, gd_1, bd_1, bv_1, nm_1, ixN, inbN, eqN, leN, ltN, eqL, leL, ltL, beqN, beqL, nI_add, pk_mul, lN_add, lN_mul, nI_l, lN_i, pk_div, pk_lDiv, pk_sub, lN_sub, remN, remL, neg1, neg2, negL, negL2, M1e, M1f, M1g, M1h, M1i, M1j, M2e, M2f, L1g, L1h, L1i, L1j, les_eq, les_e, les_n, les_m, cond_true, cond_false, if_true, if_false, fX9_no, hg, Nat.not_lt_zero, Nat.reduceAdd, Nat.reduceLT, Nat.reduceLeDiff, Nat.reduceEqDiff, decide_false, decide_true, Bool.not_false, Bool.not_true, fX9_sleeper, e2 g Mg, mOf Mg.2.1]
    by_cases y6 : y = nI 6
    · subst y6
      refine opq (les M2 (R (15 + 5 * s + 4))) ?_ (fun h1 g Mg hg => ?_)
      · simp (disch := omega) only [lI, lJ, gd_1, bd_1, bv_1, nm_1, ixN, inbN, eqN, leN, ltN, eqL, leL, ltL, beqN, beqL, nI_add, pk_mul, lN_add, lN_mul, nI_l, lN_i, pk_div, pk_lDiv, pk_sub, lN_sub, remN, remL, neg1, neg2, negL, negL2, M1e, M1f, M1g, M1h, M1i, M1j, M2e, M2f, L1g, L1h, L1i, L1j, les_eq, les_e, les_n, les_m, cond_true, cond_false, if_true, if_false, fX8_refuse, fX8_allow, fX8_allow_, Nat.not_lt_zero, Nat.reduceAdd, Nat.reduceLT, Nat.reduceLeDiff, Nat.reduceEqDiff, decide_false, decide_true, Bool.not_false, Bool.not_true, C.1, k, fX8_sleeper, e1, cSl C.2.2.2.1 C.2.1 v hs, dS.2.1]
      · simp (disch := omega) only [lI, lJ, gd_1, bd_1, bv_1, nm_1, ixN, inbN, eqN, leN, ltN, eqL, leL, ltL, beqN, beqL, nI_add, pk_mul, lN_add, lN_mul, nI_l, lN_i, pk_div, pk_lDiv, pk_sub, lN_sub, remN, remL, neg1, neg2, negL, negL2, M1e, M1f, M1g, M1h, M1i, M1j, M2e, M2f, L1g, L1h, L1i, L1j, les_eq, les_e, les_n, les_m, cond_true, cond_false, if_true, if_false, fX9_no, hg, Nat.not_lt_zero, Nat.reduceAdd, Nat.reduceLT, Nat.reduceLeDiff, Nat.reduceEqDiff, decide_false, decide_true, Bool.not_false, Bool.not_true, fX9_sleeper, e2 g Mg, mOf Mg.2.1]
        rcases Nat.eq_zero_or_pos (R (15 + 5 * s + 4)) with z | z
        · simp only [z, if_true, les]
        · obtain ⟨m, hm9⟩ : ∃ m, R (15 + 5 * s + 4) = m + 1 := ⟨R (15 + 5 * s + 4) - 1, by omega⟩
          have z2 : ¬ m + 1 = 0 := by omega
          simp only [hm9, z2, if_false, les, Nat.add_sub_cancel]
    refine opr 1 (by omega) (M1) ?_ (fun h1 g Mg hg => ?_)
    · simp (disch := omega) only [lI, lJ, gd_1, bd_1, bv_1, nm_1, ixN, inbN, eqN, leN, ltN, eqL, leL, ltL, beqN, beqL, nI_add, pk_mul, lN_add, lN_mul, nI_l, lN_i, pk_div, pk_lDiv, pk_sub, lN_sub, remN, remL, neg1, neg2, negL, negL2, M1e, M1f, M1g, M1h, M1i, M1j, M2e, M2f, L1g, L1h, L1i, L1j, les_eq, les_e, les_n, les_m, cond_true, cond_false, if_true, if_false, fX8_refuse, fX8_allow, fX8_allow_, Nat.not_lt_zero, Nat.reduceAdd, Nat.reduceLT, Nat.reduceLeDiff, Nat.reduceEqDiff, decide_false, decide_true, Bool.not_false, Bool.not_true, C.1, k, fX8_sleeper, e1, y0, y1, y2, y3, y4, y5, y6]
    · simp (disch := omega) only [lI, lJ, gd_1, bd_1, bv_1, nm_1, ixN, inbN, eqN, leN, ltN, eqL, leL, ltL, beqN, beqL, nI_add, pk_mul, lN_add, lN_mul, nI_l, lN_i, pk_div, pk_lDiv, pk_sub, lN_sub, remN, remL, neg1, neg2, negL, negL2, M1e, M1f, M1g, M1h, M1i, M1j, M2e, M2f, L1g, L1h, L1i, L1j, les_eq, les_e, les_n, les_m, cond_true, cond_false, if_true, if_false, fX9_no, hg, Nat.not_lt_zero, Nat.reduceAdd, Nat.reduceLT, Nat.reduceLeDiff, Nat.reduceEqDiff, decide_false, decide_true, Bool.not_false, Bool.not_true, fX9_sleeper, e2 g Mg, y0, y1, y2, y3, y4, y5, y6]
  · refine opr 1 (by omega) (M1) ?_ (fun h1 g Mg hg => ?_)
    · simp (disch := omega) only [lI, lJ, gd_1, bd_1, bv_1, nm_1, ixN, inbN, eqN, leN, ltN, eqL, leL, ltL, beqN, beqL, nI_add, pk_mul, lN_add, lN_mul, nI_l, lN_i, pk_div, pk_lDiv, pk_sub, lN_sub, remN, remL, neg1, neg2, negL, negL2, M1e, M1f, M1g, M1h, M1i, M1j, M2e, M2f, L1g, L1h, L1i, L1j, les_eq, les_e, les_n, les_m, cond_true, cond_false, if_true, if_false, fX8_refuse, fX8_allow, fX8_allow_, Nat.not_lt_zero, Nat.reduceAdd, Nat.reduceLT, Nat.reduceLeDiff, Nat.reduceEqDiff, decide_false, decide_true, Bool.not_false, Bool.not_true, C.1, k, fX8_sleeper, e1]
    · simp (disch := omega) only [lI, lJ, gd_1, bd_1, bv_1, nm_1, ixN, inbN, eqN, leN, ltN, eqL, leL, ltL, beqN, beqL, nI_add, pk_mul, lN_add, lN_mul, nI_l, lN_i, pk_div, pk_lDiv, pk_sub, lN_sub, remN, remL, neg1, neg2, negL, negL2, M1e, M1f, M1g, M1h, M1i, M1j, M2e, M2f, L1g, L1h, L1i, L1j, les_eq, les_e, les_n, les_m, cond_true, cond_false, if_true, if_false, fX9_no, hg, Nat.not_lt_zero, Nat.reduceAdd, Nat.reduceLT, Nat.reduceLeDiff, Nat.reduceEqDiff, decide_false, decide_true, Bool.not_false, Bool.not_true, fX9_sleeper, e2 g Mg]
/-- ticks times quick, floor by floor -/
def lsum (R T : Nat → Nat) (s : Nat) : Nat → Nat
  | 0 => 0
  | f + 1 => lsum R T s f + T (6 + 5 * s + f) * qk R f
def tsum (T : Nat → Nat) (s : Nat) : Nat → Nat
  | 0 => 0
  | f + 1 => tsum T s f + T (6 + 5 * s + f)
set_option maxRecDepth 100000 in
theorem lsum_le {R T : Nat → Nat} (v : VR R) (s : Nat) : ∀ f, f ≤ R 0 + 1 → lsum R T s f ≤ tsum T s f * 20736
  | 0, _ => by simp [lsum]
  | f + 1, h => by
    have h1 := lsum_le (T := T) v s f (by omega)
    have h2 : T (6 + 5 * s + f) * qk R f ≤ T (6 + 5 * s + f) * 20736 := Nat.mul_le_mul_left _ (qk_le v (by omega))
    simp only [lsum, tsum, Nat.add_mul]
    omega
set_option maxRecDepth 100000 in
theorem tsum_le (T : Nat → Nat) (s : Nat) {a b : Nat} (h : a ≤ b) : tsum T s a ≤ tsum T s b := by
  induction b with
  | zero => have : a = 0 := by omega
            subst this; exact Nat.le_refl _
  | succ b ih =>
    rcases Nat.lt_or_ge a (b + 1) with z | z
    · exact Nat.le_trans (ih (by omega)) (Nat.le_add_right _ _)
    · have : a = b + 1 := by omega
      subst this; exact Nat.le_refl _
set_option maxRecDepth 100000 in
theorem lsum_all {R N T : Nat → Nat} {B : Nat} (v : VR R) (n : VN R N T B) {s : Nat} (hs : s < R 4) : lsum R T s (R 0 + 1) = T (6 + 5 * s + 0) * qk R 0 + T (6 + 5 * s + 1) * qk R 1 + T (6 + 5 * s + 2) * qk R 2 + T (6 + 5 * s + 3) * qk R 3 + T (6 + 5 * s + 4) * qk R 4 ∧ tsum T s (R 0 + 1) ≤ T 0 := by
  obtain ⟨n1, n2⟩ := n.2.2 s hs
  have vF := v.F
  constructor
  · rcases (show R 0 = 1 ∨ R 0 = 2 ∨ R 0 = 3 ∨ R 0 = 4 by omega) with e | e | e | e
    · have a := n2 2 (by omega) (by omega)
      have b := n2 3 (by omega) (by omega)
      have c := n2 4 (by omega) (by omega)
      simp only [e, lsum, a, b, c, Nat.zero_mul, Nat.add_zero, Nat.zero_add]
    · have b := n2 3 (by omega) (by omega)
      have c := n2 4 (by omega) (by omega)
      simp only [e, lsum, b, c, Nat.zero_mul, Nat.add_zero, Nat.zero_add]
    · have c := n2 4 (by omega) (by omega)
      simp only [e, lsum, c, Nat.zero_mul, Nat.add_zero, Nat.zero_add]
    · simp only [e, lsum, Nat.zero_add]
  · refine Nat.le_trans (tsum_le T s (b := 5) (by omega)) ?_
    simp only [tsum, Nat.zero_add]
    omega
set_option maxRecDepth 100000 in
theorem mLived {g : HH} (v : VR R) (M : MRep g R) (Q : MNRep g N T) {s : Nat} (hs : s < R 4) (b : Bool) (hb : ∀ f, f ≤ R 0 + 1 → lsum R T s f < 2 ^ 62) : ∀ m i n, i + m = R 0 + 1 → m < n → lq2 (fX9_lived_L24 181 (nI s) b) n (lN (lsum R T s i)) (nI i) g = some (lN (lowF (lsum R T s (R 0 + 1)) (bt R) b), g) := by
  have vF := v.F
  have vS := v.S
  have vb := v.bt
  intro m
  induction m with
  | zero =>
    intro i n e hn
    obtain ⟨n, rfl⟩ : ∃ q, n = q + 1 := ⟨n - 1, by omega⟩
    have : i = R 0 + 1 := by omega
    subst this
    have hB := hb (R 0 + 1) (by omega)
    have h1 : R 0 < R 0 + 1 := by omega
    simp (disch := omega) only [lI, lJ, gd_1, bd_1, bv_1, nm_1, ixN, inbN, eqN, leN, ltN, eqL, leL, ltL, beqN, beqL, nI_add, pk_mul, lN_add, lN_mul, nI_l, lN_i, pk_div, pk_lDiv, pk_sub, lN_sub, remN, remL, neg1, neg2, negL, negL2, M1e, M1f, M1g, M1h, M1i, M1j, M2e, M2f, L1g, L1h, L1i, L1j, les_eq, les_e, les_n, les_m, lq2, fX9_lived_L24, Nat.reduceAdd, M 0, h1, if_true, mBottom M v, mLow b]
  | succ m ih =>
    intro i n e hn
    obtain ⟨n, rfl⟩ : ∃ q, n = q + 1 := ⟨n - 1, by omega⟩
    have h1 : ¬ R 0 < i := by omega
    have hq := v.qk (f := i) (by omega)
    simp (disch := omega) only [lI, lJ, gd_1, bd_1, bv_1, nm_1, ixN, inbN, eqN, leN, ltN, eqL, leL, ltL, beqN, beqL, nI_add, pk_mul, lN_add, lN_mul, nI_l, lN_i, pk_div, pk_lDiv, pk_sub, lN_sub, remN, remL, neg1, neg2, negL, negL2, M1e, M1f, M1g, M1h, M1i, M1j, M2e, M2f, L1g, L1h, L1i, L1j, les_eq, les_e, les_n, les_m, lq2, fX9_lived_L24, Nat.reduceAdd, M 0, h1, if_false, mQuick M (f := i) (by omega), Q.2 (6 + 5 * s + i)]
    exact ih (i + 1) n (by omega) (by omega)
set_option maxRecDepth 100000 in
theorem oLived (C : CA h d R N T) (x : Int32) (b : Bool) : OpQ h (fX8_lived 0 x b h) (fun h1 => fX9_lived 181 x b h1) (fun h1 => MA h1 R N T) := by
  have k := isKb_D C.2.1
  have v := C.2.2.2.2.1
  have vF := v.S
  have vb := v.bt
  have hT := VN.t v C.2.2.2.2.2.2.1 (by omega)
  rcases slC C x with ⟨s, hs, rfl, e1, e2⟩ | ⟨e1, e2⟩
  · have q := C.2.2.2.2.2.1.2.1 s (by omega)
    obtain ⟨p, hp1, hp2⟩ := C.2.2.2.2.2.1.2.2 s hs
    have w := C.2.2.2.2.2.2.1.2.1 s (by omega)
    have hc := w.2.2.2.2
    obtain ⟨l1, l2⟩ := lsum_all v C.2.2.2.2.2.2.1 hs
    rw [← l1] at hp2
    have hb : ∀ f, f ≤ R 0 + 1 → lsum R T s f < 2 ^ 62 := fun f hf => by
      have h1 := lsum_le (T := T) v s f hf
      have h2 := tsum_le T s hf
      omega
    have hb9 := hb (R 0 + 1) (by omega)
    have hq := v.qk w.1
    refine opq (lN (lowF (lsum R T s (R 0 + 1)) (bt R) b)) ?_ (fun h1 g Mg hg => ?_)
    · simp (disch := omega) only [lI, lJ, gd_1, bd_1, bv_1, nm_1, ixN, inbN, eqN, leN, ltN, eqL, leL, ltL, beqN, beqL, nI_add, pk_mul, lN_add, lN_mul, nI_l, lN_i, pk_div, pk_lDiv, pk_sub, lN_sub, remN, remL, neg1, neg2, negL, negL2, M1e, M1f, M1g, M1h, M1i, M1j, M2e, M2f, L1g, L1h, L1i, L1j, les_eq, les_e, les_n, les_m, cond_true, cond_false, if_true, if_false, fX8_refuse, fX8_allow, fX8_allow_, Nat.not_lt_zero, Nat.reduceAdd, Nat.reduceLT, Nat.reduceLeDiff, Nat.reduceEqDiff, decide_false, decide_true, Bool.not_false, Bool.not_true, C.1, k, fX8_lived, fX2_livedBy, e1, q, hp1, hp2, C.2.2.2.2.2.1.1, cQuick C.2.2.2.1 v w.1, cBottom C.2.2.2.1 v, cLow b]
    · simp (disch := omega) only [lI, lJ, gd_1, bd_1, bv_1, nm_1, ixN, inbN, eqN, leN, ltN, eqL, leL, ltL, beqN, beqL, nI_add, pk_mul, lN_add, lN_mul, nI_l, lN_i, pk_div, pk_lDiv, pk_sub, lN_sub, remN, remL, neg1, neg2, negL, negL2, M1e, M1f, M1g, M1h, M1i, M1j, M2e, M2f, L1g, L1h, L1i, L1j, les_eq, les_e, les_n, les_m, cond_true, cond_false, if_true, if_false, fX9_no, hg, Nat.not_lt_zero, Nat.reduceAdd, Nat.reduceLT, Nat.reduceLeDiff, Nat.reduceEqDiff, decide_false, decide_true, Bool.not_false, Bool.not_true, fX9_lived, e2 g Mg]
      exact mLived v Mg.2.1 Mg.2.2.2.1 hs b hb (R 0 + 1) 0 FU (by omega) (by have := v.F; unfold FU; omega)
  · refine opr 1 (by omega) (M1.toInt64) ?_ (fun h1 g Mg hg => ?_)
    · simp (disch := omega) only [lI, lJ, gd_1, bd_1, bv_1, nm_1, ixN, inbN, eqN, leN, ltN, eqL, leL, ltL, beqN, beqL, nI_add, pk_mul, lN_add, lN_mul, nI_l, lN_i, pk_div, pk_lDiv, pk_sub, lN_sub, remN, remL, neg1, neg2, negL, negL2, M1e, M1f, M1g, M1h, M1i, M1j, M2e, M2f, L1g, L1h, L1i, L1j, les_eq, les_e, les_n, les_m, cond_true, cond_false, if_true, if_false, fX8_refuse, fX8_allow, fX8_allow_, Nat.not_lt_zero, Nat.reduceAdd, Nat.reduceLT, Nat.reduceLeDiff, Nat.reduceEqDiff, decide_false, decide_true, Bool.not_false, Bool.not_true, C.1, k, fX8_lived, e1]
    · simp (disch := omega) only [lI, lJ, gd_1, bd_1, bv_1, nm_1, ixN, inbN, eqN, leN, ltN, eqL, leL, ltL, beqN, beqL, nI_add, pk_mul, lN_add, lN_mul, nI_l, lN_i, pk_div, pk_lDiv, pk_sub, lN_sub, remN, remL, neg1, neg2, negL, negL2, M1e, M1f, M1g, M1h, M1i, M1j, M2e, M2f, L1g, L1h, L1i, L1j, les_eq, les_e, les_n, les_m, cond_true, cond_false, if_true, if_false, fX9_no, hg, Nat.not_lt_zero, Nat.reduceAdd, Nat.reduceLT, Nat.reduceLeDiff, Nat.reduceEqDiff, decide_false, decide_true, Bool.not_false, Bool.not_true, fX9_lived, e2 g Mg]
/-- whether two are in one place -/
def met (N : Nat → Nat) (s q : Nat) : Bool := decide (0 < N (4 * s + 0) ∧ N (4 * s + 0) = N (4 * q + 0) ∧ N (4 * s + 1) = N (4 * q + 1))
set_option maxRecDepth 100000 in
theorem cMet {a B : Nat} (v : VR R) (Q : NRep h a R N T) (W : VN R N T B) {s q : Nat} (hs : s < 5) (hq : q < 5) : fX2_haveMet a (nI s) (nI q) h = some (met N s q, h) := by
  have q1 := Q.2.1 s hs
  have q2 := Q.2.1 q hq
  have w1 := W.2.1 s hs
  have w2 := W.2.1 q hq
  have vF := v.F
  have vH := v.H
  by_cases c1 : N (4 * s + 0) ≤ 0
  · rw [show met N s q = false from decide_eq_false (by omega)]
    simp (disch := omega) only [lI, lJ, gd_1, bd_1, bv_1, nm_1, ixN, inbN, eqN, leN, ltN, eqL, leL, ltL, beqN, beqL, nI_add, pk_mul, lN_add, lN_mul, nI_l, lN_i, pk_div, pk_lDiv, pk_sub, lN_sub, remN, remL, neg1, neg2, negL, negL2, M1e, M1f, M1g, M1h, M1i, M1j, M2e, M2f, L1g, L1h, L1i, L1j, les_eq, les_e, les_n, les_m, fX2_haveMet, q1, c1, if_true]
  by_cases c2 : N (4 * s + 0) = N (4 * q + 0)
  · by_cases c3 : N (4 * s + 1) = N (4 * q + 1)
    · rw [show met N s q = true from decide_eq_true (by omega)]
      simp (disch := omega) only [lI, lJ, gd_1, bd_1, bv_1, nm_1, ixN, inbN, eqN, leN, ltN, eqL, leL, ltL, beqN, beqL, nI_add, pk_mul, lN_add, lN_mul, nI_l, lN_i, pk_div, pk_lDiv, pk_sub, lN_sub, remN, remL, neg1, neg2, negL, negL2, M1e, M1f, M1g, M1h, M1i, M1j, M2e, M2f, L1g, L1h, L1i, L1j, les_eq, les_e, les_n, les_m, fX2_haveMet, q1, q2, c1, if_true, if_false, eq_true c2, eq_true c3]
    · rw [show met N s q = false from decide_eq_false (by omega)]
      simp (disch := omega) only [lI, lJ, gd_1, bd_1, bv_1, nm_1, ixN, inbN, eqN, leN, ltN, eqL, leL, ltL, beqN, beqL, nI_add, pk_mul, lN_add, lN_mul, nI_l, lN_i, pk_div, pk_lDiv, pk_sub, lN_sub, remN, remL, neg1, neg2, negL, negL2, M1e, M1f, M1g, M1h, M1i, M1j, M2e, M2f, L1g, L1h, L1i, L1j, les_eq, les_e, les_n, les_m, fX2_haveMet, q1, q2, c1, if_true, if_false, eq_true c2, c3]
  · rw [show met N s q = false from decide_eq_false (by omega)]
    simp (disch := omega) only [lI, lJ, gd_1, bd_1, bv_1, nm_1, ixN, inbN, eqN, leN, ltN, eqL, leL, ltL, beqN, beqL, nI_add, pk_mul, lN_add, lN_mul, nI_l, lN_i, pk_div, pk_lDiv, pk_sub, lN_sub, remN, remL, neg1, neg2, negL, negL2, M1e, M1f, M1g, M1h, M1i, M1j, M2e, M2f, L1g, L1h, L1i, L1j, les_eq, les_e, les_n, les_m, fX2_haveMet, q1, q2, c1, if_false, c2]
set_option maxRecDepth 100000 in
theorem mMet {g : HH} {B : Nat} (v : VR R) (Q : MNRep g N T) (W : VN R N T B) {s q : Nat} (hs : s < 5) (hq : q < 5) : fX9_doMeet 181 (nI s) (nI q) g = some (met N s q, g) := by
  have w1 := W.2.1 s hs
  have w2 := W.2.1 q hq
  have vF := v.F
  have vH := v.H
  by_cases c1 : N (4 * s + 0) ≤ 0
  · rw [show met N s q = false from decide_eq_false (by omega)]
    simp (disch := omega) only [lI, lJ, gd_1, bd_1, bv_1, nm_1, ixN, inbN, eqN, leN, ltN, eqL, leL, ltL, beqN, beqL, nI_add, pk_mul, lN_add, lN_mul, nI_l, lN_i, pk_div, pk_lDiv, pk_sub, lN_sub, remN, remL, neg1, neg2, negL, negL2, M1e, M1f, M1g, M1h, M1i, M1j, M2e, M2f, L1g, L1h, L1i, L1j, les_eq, les_e, les_n, les_m, fX9_doMeet, mIts Q, c1, if_true]
  by_cases c2 : N (4 * s + 0) = N (4 * q + 0)
  · by_cases c3 : N (4 * s + 1) = N (4 * q + 1)
    · rw [show met N s q = true from decide_eq_true (by omega)]
      simp (disch := omega) only [lI, lJ, gd_1, bd_1, bv_1, nm_1, ixN, inbN, eqN, leN, ltN, eqL, leL, ltL, beqN, beqL, nI_add, pk_mul, lN_add, lN_mul, nI_l, lN_i, pk_div, pk_lDiv, pk_sub, lN_sub, remN, remL, neg1, neg2, negL, negL2, M1e, M1f, M1g, M1h, M1i, M1j, M2e, M2f, L1g, L1h, L1i, L1j, les_eq, les_e, les_n, les_m, fX9_doMeet, mIts Q, c1, if_true, if_false, eq_true c2, eq_true c3]
    · rw [show met N s q = false from decide_eq_false (by omega)]
      simp (disch := omega) only [lI, lJ, gd_1, bd_1, bv_1, nm_1, ixN, inbN, eqN, leN, ltN, eqL, leL, ltL, beqN, beqL, nI_add, pk_mul, lN_add, lN_mul, nI_l, lN_i, pk_div, pk_lDiv, pk_sub, lN_sub, remN, remL, neg1, neg2, negL, negL2, M1e, M1f, M1g, M1h, M1i, M1j, M2e, M2f, L1g, L1h, L1i, L1j, les_eq, les_e, les_n, les_m, fX9_doMeet, mIts Q, c1, if_true, if_false, eq_true c2, c3]
  · rw [show met N s q = false from decide_eq_false (by omega)]
    simp (disch := omega) only [lI, lJ, gd_1, bd_1, bv_1, nm_1, ixN, inbN, eqN, leN, ltN, eqL, leL, ltL, beqN, beqL, nI_add, pk_mul, lN_add, lN_mul, nI_l, lN_i, pk_div, pk_lDiv, pk_sub, lN_sub, remN, remL, neg1, neg2, negL, negL2, M1e, M1f, M1g, M1h, M1i, M1j, M2e, M2f, L1g, L1h, L1i, L1j, les_eq, les_e, les_n, les_m, fX9_doMeet, mIts Q, c1, if_false, c2]
set_option maxRecDepth 100000 in
theorem oMeet (C : CA h d R N T) (x y : Int32) : OpQ h (fX8_meet 0 x y h) (fun h1 => fX9_meet 181 x y h1) (fun h1 => MA h1 R N T) := by
  have k := isKb_D C.2.1
  have v := C.2.2.2.2.1
  have vF := v.S
  rcases slC C x with ⟨s, hs, rfl, e1, e2⟩ | ⟨e1, e2⟩
  · rcases slC C y with ⟨q, hq, rfl, e3, e4⟩ | ⟨e3, e4⟩
    · by_cases hsq : s = q
      · refine opr 1 (by omega) (M1) ?_ (fun h1 g Mg hg => ?_)
        · simp (disch := omega) only [lI, lJ, gd_1, bd_1, bv_1, nm_1, ixN, inbN, eqN, leN, ltN, eqL, leL, ltL, beqN, beqL, nI_add, pk_mul, lN_add, lN_mul, nI_l, lN_i, pk_div, pk_lDiv, pk_sub, lN_sub, remN, remL, neg1, neg2, negL, negL2, M1e, M1f, M1g, M1h, M1i, M1j, M2e, M2f, L1g, L1h, L1i, L1j, les_eq, les_e, les_n, les_m, cond_true, cond_false, if_true, if_false, fX8_refuse, fX8_allow, fX8_allow_, Nat.not_lt_zero, Nat.reduceAdd, Nat.reduceLT, Nat.reduceLeDiff, Nat.reduceEqDiff, decide_false, decide_true, Bool.not_false, Bool.not_true, C.1, k, fX8_meet, fX8_isPair, e1, e3, eq_true hsq]
        · simp (disch := omega) only [lI, lJ, gd_1, bd_1, bv_1, nm_1, ixN, inbN, eqN, leN, ltN, eqL, leL, ltL, beqN, beqL, nI_add, pk_mul, lN_add, lN_mul, nI_l, lN_i, pk_div, pk_lDiv, pk_sub, lN_sub, remN, remL, neg1, neg2, negL, negL2, M1e, M1f, M1g, M1h, M1i, M1j, M2e, M2f, L1g, L1h, L1i, L1j, les_eq, les_e, les_n, les_m, cond_true, cond_false, if_true, if_false, fX9_no, hg, Nat.not_lt_zero, Nat.reduceAdd, Nat.reduceLT, Nat.reduceLeDiff, Nat.reduceEqDiff, decide_false, decide_true, Bool.not_false, Bool.not_true, fX9_meet, e2 g Mg, e4 g Mg, eq_true hsq]
      · cases hm : met N s q
        · refine opq (nI 0) ?_ (fun h1 g Mg hg => ?_)
          · simp (disch := omega) only [lI, lJ, gd_1, bd_1, bv_1, nm_1, ixN, inbN, eqN, leN, ltN, eqL, leL, ltL, beqN, beqL, nI_add, pk_mul, lN_add, lN_mul, nI_l, lN_i, pk_div, pk_lDiv, pk_sub, lN_sub, remN, remL, neg1, neg2, negL, negL2, M1e, M1f, M1g, M1h, M1i, M1j, M2e, M2f, L1g, L1h, L1i, L1j, les_eq, les_e, les_n, les_m, cond_true, cond_false, if_true, if_false, fX8_refuse, fX8_allow, fX8_allow_, Nat.not_lt_zero, Nat.reduceAdd, Nat.reduceLT, Nat.reduceLeDiff, Nat.reduceEqDiff, decide_false, decide_true, Bool.not_false, Bool.not_true, C.1, k, fX8_meet, fX8_isPair, e1, e3, hsq, cMet v C.2.2.2.2.2.1 C.2.2.2.2.2.2.1, hm]
          · simp (disch := omega) only [lI, lJ, gd_1, bd_1, bv_1, nm_1, ixN, inbN, eqN, leN, ltN, eqL, leL, ltL, beqN, beqL, nI_add, pk_mul, lN_add, lN_mul, nI_l, lN_i, pk_div, pk_lDiv, pk_sub, lN_sub, remN, remL, neg1, neg2, negL, negL2, M1e, M1f, M1g, M1h, M1i, M1j, M2e, M2f, L1g, L1h, L1i, L1j, les_eq, les_e, les_n, les_m, cond_true, cond_false, if_true, if_false, fX9_no, hg, Nat.not_lt_zero, Nat.reduceAdd, Nat.reduceLT, Nat.reduceLeDiff, Nat.reduceEqDiff, decide_false, decide_true, Bool.not_false, Bool.not_true, fX9_meet, e2 g Mg, e4 g Mg, hsq, mMet v Mg.2.2.2.1 Mg.2.2.2.2.1, hm]
        · refine opq (nI 1) ?_ (fun h1 g Mg hg => ?_)
          · simp (disch := omega) only [lI, lJ, gd_1, bd_1, bv_1, nm_1, ixN, inbN, eqN, leN, ltN, eqL, leL, ltL, beqN, beqL, nI_add, pk_mul, lN_add, lN_mul, nI_l, lN_i, pk_div, pk_lDiv, pk_sub, lN_sub, remN, remL, neg1, neg2, negL, negL2, M1e, M1f, M1g, M1h, M1i, M1j, M2e, M2f, L1g, L1h, L1i, L1j, les_eq, les_e, les_n, les_m, cond_true, cond_false, if_true, if_false, fX8_refuse, fX8_allow, fX8_allow_, Nat.not_lt_zero, Nat.reduceAdd, Nat.reduceLT, Nat.reduceLeDiff, Nat.reduceEqDiff, decide_false, decide_true, Bool.not_false, Bool.not_true, C.1, k, fX8_meet, fX8_isPair, e1, e3, hsq, cMet v C.2.2.2.2.2.1 C.2.2.2.2.2.2.1, hm]
          · simp (disch := omega) only [lI, lJ, gd_1, bd_1, bv_1, nm_1, ixN, inbN, eqN, leN, ltN, eqL, leL, ltL, beqN, beqL, nI_add, pk_mul, lN_add, lN_mul, nI_l, lN_i, pk_div, pk_lDiv, pk_sub, lN_sub, remN, remL, neg1, neg2, negL, negL2, M1e, M1f, M1g, M1h, M1i, M1j, M2e, M2f, L1g, L1h, L1i, L1j, les_eq, les_e, les_n, les_m, cond_true, cond_false, if_true, if_false, fX9_no, hg, Nat.not_lt_zero, Nat.reduceAdd, Nat.reduceLT, Nat.reduceLeDiff, Nat.reduceEqDiff, decide_false, decide_true, Bool.not_false, Bool.not_true, fX9_meet, e2 g Mg, e4 g Mg, hsq, mMet v Mg.2.2.2.1 Mg.2.2.2.2.1, hm]
    · refine opr 1 (by omega) (M1) ?_ (fun h1 g Mg hg => ?_)
      · simp (disch := omega) only [lI, lJ, gd_1, bd_1, bv_1, nm_1, ixN, inbN, eqN, leN, ltN, eqL, leL, ltL, beqN, beqL, nI_add, pk_mul, lN_add, lN_mul, nI_l, lN_i, pk_div, pk_lDiv, pk_sub, lN_sub, remN, remL, neg1, neg2, negL, negL2, M1e, M1f, M1g, M1h, M1i, M1j, M2e, M2f, L1g, L1h, L1i, L1j, les_eq, les_e, les_n, les_m, cond_true, cond_false, if_true, if_false, fX8_refuse, fX8_allow, fX8_allow_, Nat.not_lt_zero, Nat.reduceAdd, Nat.reduceLT, Nat.reduceLeDiff, Nat.reduceEqDiff, decide_false, decide_true, Bool.not_false, Bool.not_true, C.1, k, fX8_meet, fX8_isPair, e1, e3]
      · simp (disch := omega) only [lI, lJ, gd_1, bd_1, bv_1, nm_1, ixN, inbN, eqN, leN, ltN, eqL, leL, ltL, beqN, beqL, nI_add, pk_mul, lN_add, lN_mul, nI_l, lN_i, pk_div, pk_lDiv, pk_sub, lN_sub, remN, remL, neg1, neg2, negL, negL2, M1e, M1f, M1g, M1h, M1i, M1j, M2e, M2f, L1g, L1h, L1i, L1j, les_eq, les_e, les_n, les_m, cond_true, cond_false, if_true, if_false, fX9_no, hg, Nat.not_lt_zero, Nat.reduceAdd, Nat.reduceLT, Nat.reduceLeDiff, Nat.reduceEqDiff, decide_false, decide_true, Bool.not_false, Bool.not_true, fX9_meet, e2 g Mg, e4 g Mg]
  · refine opr 1 (by omega) (M1) ?_ (fun h1 g Mg hg => ?_)
    · simp (disch := omega) only [lI, lJ, gd_1, bd_1, bv_1, nm_1, ixN, inbN, eqN, leN, ltN, eqL, leL, ltL, beqN, beqL, nI_add, pk_mul, lN_add, lN_mul, nI_l, lN_i, pk_div, pk_lDiv, pk_sub, lN_sub, remN, remL, neg1, neg2, negL, negL2, M1e, M1f, M1g, M1h, M1i, M1j, M2e, M2f, L1g, L1h, L1i, L1j, les_eq, les_e, les_n, les_m, cond_true, cond_false, if_true, if_false, fX8_refuse, fX8_allow, fX8_allow_, Nat.not_lt_zero, Nat.reduceAdd, Nat.reduceLT, Nat.reduceLeDiff, Nat.reduceEqDiff, decide_false, decide_true, Bool.not_false, Bool.not_true, C.1, k, fX8_meet, fX8_isPair, e1]
    · simp (disch := omega) only [lI, lJ, gd_1, bd_1, bv_1, nm_1, ixN, inbN, eqN, leN, ltN, eqL, leL, ltL, beqN, beqL, nI_add, pk_mul, lN_add, lN_mul, nI_l, lN_i, pk_div, pk_lDiv, pk_sub, lN_sub, remN, remL, neg1, neg2, negL, negL2, M1e, M1f, M1g, M1h, M1i, M1j, M2e, M2f, L1g, L1h, L1i, L1j, les_eq, les_e, les_n, les_m, cond_true, cond_false, if_true, if_false, fX9_no, hg, Nat.not_lt_zero, Nat.reduceAdd, Nat.reduceLT, Nat.reduceLeDiff, Nat.reduceEqDiff, decide_false, decide_true, Bool.not_false, Bool.not_true, fX9_meet, e2 g Mg]
end OPS
