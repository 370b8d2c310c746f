section OPS
variable {h : HH} {d : Nat} {R N T : Nat → Nat}
set_option maxRecDepth 100000 in
theorem mWak {g : HH} {c n f : Nat} (b : Bool) (hc : c ≤ 100) (hn : n ≤ 8) (hf : f ≤ 4) : ∀ m j q, f + j + m = max (n + 1) f → m < q → lq2 (fX9_waking_L85 (nI n) b (lN c) (lN (100 ^ n))) q (lN (tot n f c j)) (nI (f + j)) g = some (lN (lowF (tot n f c (n + 1 - f)) (100 ^ n) b), g) := by
  have hp : 1 ≤ 100 ^ n := Nat.pow_pos (by omega)
  have hp2 : 100 ^ n ≤ 100 ^ 8 := Nat.pow_le_pow_right (by omega) hn
  have hp3 : (100 : Nat) ^ 8 = 10000000000000000 := by decide
  intro m
  induction m with
  | zero =>
    intro j q e hq
    obtain ⟨q, rfl⟩ : ∃ r, q = r + 1 := ⟨q - 1, by omega⟩
    have ht := tot_le (f := f) (n := n) (c := c) hn hc j (by omega)
    have e1 : n + 1 - f = j := by omega
    have n1 : n < f + j := by omega
    simp (disch := omega) only [lI, lJ, gd_1, bd_1, bv_1, nm_1, ixN, inbN, eqN, leN, ltN, eqL, leL, ltL, beqN, beqL, nI_add, pk_mul, lN_add, lN_mul, nI_l, lN_i, pk_div, pk_lDiv, pk_sub, lN_sub, remN, remL, neg1, neg2, negL, negL2, M1e, M1f, M1g, M1h, M1i, M1j, M2e, M2f, L1g, L1h, L1i, L1j, les_eq, les_e, les_n, les_m, lq2, fX9_waking_L85, n1, if_true, mLow b, e1]
  | succ m ih =>
    intro j q e hq
    obtain ⟨q, rfl⟩ : ∃ r, q = r + 1 := ⟨q - 1, by omega⟩
    have n1 : ¬ n < f + j := by omega
    have key := ih (j + 1) q (by omega) (by omega)
    have ht := tot_le (f := f) (n := n) (c := c) hn hc j (by omega)
    have L1 : ∀ m i q1 g1, i + m = n → m < q1 → lq2 (fX9_waking_L129 (fun x12 h9 => nm (lN (tot n f c j) + x12) (fun y6 => lq2 (fX9_waking_L85 (nI n) b (lN c) (lN (100 ^ n))) q y6 (nI (f + j) + 1) h9)) (nI n) b (lN c) (lN (tot n f c j)) (lN (100 ^ n)) (nI (f + j))) q1 (lN (pr (f + j) c (chs n (f + j)) i)) (nI i) g1 = lq2 (fX9_waking_L85 (nI n) b (lN c) (lN (100 ^ n))) q (lN (tot n f c (j + 1))) (nI (f + j + 1)) g1 := by
      intro m
      induction m with
      | zero =>
        intro i q1 g1 e hq
        obtain ⟨q1, rfl⟩ : ∃ r, q1 = r + 1 := ⟨q1 - 1, by omega⟩
        have : i = n := by omega
        subst this
        simp (disch := omega) only [lI, lJ, gd_1, bd_1, bv_1, nm_1, ixN, inbN, eqN, leN, ltN, eqL, leL, ltL, beqN, beqL, nI_add, pk_mul, lN_add, lN_mul, nI_l, lN_i, pk_div, pk_lDiv, pk_sub, lN_sub, remN, remL, neg1, neg2, negL, negL2, M1e, M1f, M1g, M1h, M1i, M1j, M2e, M2f, L1g, L1h, L1i, L1j, les_eq, les_e, les_n, les_m, lq2, fX9_waking_L129, Nat.le_refl, if_true, tot, trm]
      | succ m ih2 =>
        intro i q1 g1 e hq
        obtain ⟨q1, rfl⟩ : ∃ r, q1 = r + 1 := ⟨q1 - 1, by omega⟩
        have n2 : ¬ n ≤ i := by omega
        have k2 := ih2 (i + 1) q1 g1 (by omega) (by omega)
        by_cases z : i < f + j
        · have n3 : ¬ f + j ≤ i := by omega
          rw [show pr (f + j) c (chs n (f + j)) (i + 1) = pr (f + j) c (chs n (f + j)) i * c by simp [pr, z]] at k2
          simp (disch := omega) only [lI, lJ, gd_1, bd_1, bv_1, nm_1, ixN, inbN, eqN, leN, ltN, eqL, leL, ltL, beqN, beqL, nI_add, pk_mul, lN_add, lN_mul, nI_l, lN_i, pk_div, pk_lDiv, pk_sub, lN_sub, remN, remL, neg1, neg2, negL, negL2, M1e, M1f, M1g, M1h, M1i, M1j, M2e, M2f, L1g, L1h, L1i, L1j, les_eq, les_e, les_n, les_m, lq2, fX9_waking_L129, n2, n3, if_false]
          simp (disch := omega) only [lI, lJ, gd_1, bd_1, bv_1, nm_1, ixN, inbN, eqN, leN, ltN, eqL, leL, ltL, beqN, beqL, nI_add, pk_mul, lN_add, lN_mul, nI_l, lN_i, pk_div, pk_lDiv, pk_sub, lN_sub, remN, remL, neg1, neg2, negL, negL2, M1e, M1f, M1g, M1h, M1i, M1j, M2e, M2f, L1g, L1h, L1i, L1j, les_eq, les_e, les_n, les_m] at k2
          exact k2
        · have n3 : f + j ≤ i := by omega
          rw [show pr (f + j) c (chs n (f + j)) (i + 1) = pr (f + j) c (chs n (f + j)) i * (100 - c) by simp [pr, z]] at k2
          simp (disch := omega) only [lI, lJ, gd_1, bd_1, bv_1, nm_1, ixN, inbN, eqN, leN, ltN, eqL, leL, ltL, beqN, beqL, nI_add, pk_mul, lN_add, lN_mul, nI_l, lN_i, pk_div, pk_lDiv, pk_sub, lN_sub, remN, remL, neg1, neg2, negL, negL2, M1e, M1f, M1g, M1h, M1i, M1j, M2e, M2f, L1g, L1h, L1i, L1j, les_eq, les_e, les_n, les_m, lq2, fX9_waking_L129, n2, n3, if_false, if_true]
          simp (disch := omega) only [lI, lJ, gd_1, bd_1, bv_1, nm_1, ixN, inbN, eqN, leN, ltN, eqL, leL, ltL, beqN, beqL, nI_add, pk_mul, lN_add, lN_mul, nI_l, lN_i, pk_div, pk_lDiv, pk_sub, lN_sub, remN, remL, neg1, neg2, negL, negL2, M1e, M1f, M1g, M1h, M1i, M1j, M2e, M2f, L1g, L1h, L1i, L1j, les_eq, les_e, les_n, les_m] at k2
          exact k2
    have L2 : ∀ m i q1 g1, i + m = f + j → m < q1 → lq2 (fX9_waking_L97 (fun x12 h9 => lq2 (fX9_waking_L129 (fun x12 h9 => nm (lN (tot n f c j) + x12) (fun y6 => lq2 (fX9_waking_L85 (nI n) b (lN c) (lN (100 ^ n))) q y6 (nI (f + j) + 1) h9)) (nI n) b (lN c) (lN (tot n f c j)) (lN (100 ^ n)) (nI (f + j))) FU x12 0 h9) (nI n) b (lN c) (lN (tot n f c j)) (lN (100 ^ n)) (nI (f + j))) q1 (lN (chs n i)) (nI i) g1 = lq2 (fX9_waking_L85 (nI n) b (lN c) (lN (100 ^ n))) q (lN (tot n f c (j + 1))) (nI (f + j + 1)) g1 := by
      intro m
      induction m with
      | zero =>
        intro i q1 g1 e hq
        obtain ⟨q1, rfl⟩ : ∃ r, q1 = r + 1 := ⟨q1 - 1, by omega⟩
        have : i = f + j := by omega
        subst this
        have l1 := L1 n 0 FU g1 (by omega) (by unfold FU; omega)
        rw [show pr (f + j) c (chs n (f + j)) 0 = chs n (f + j) from rfl] at l1
        simp only [lq2, fX9_waking_L97, leN (show f + j < 2 ^ 31 by omega) (show f + j < 2 ^ 31 by omega), Nat.le_refl, if_true]
        exact l1
      | succ m ih2 =>
        intro i q1 g1 e hq
        obtain ⟨q1, rfl⟩ : ∃ r, q1 = r + 1 := ⟨q1 - 1, by omega⟩
        have n2 : ¬ f + j ≤ i := by omega
        have k2 := ih2 (i + 1) q1 g1 (by omega) (by omega)
        have hcs := chs_le n (by omega) i (by omega)
        have hcm : chs n i * (n - i) ≤ 70 * 8 := Nat.mul_le_mul hcs (by omega)
        have n4 : ¬ i + 1 = 0 := by omega
        have e5 : nI i + 1 = nI (i + 1) := nI_1 i
        have e6 : nI n - nI i = nI (n - i) := pk_sub (by omega)
        have e7 : (nI (i + 1)).toInt64 = lN (i + 1) := nI_l (by omega)
        have e8 : (nI (n - i)).toInt64 = lN (n - i) := nI_l (by omega)
        have e9 : (lN (i + 1) == 0) = false := by rw [show (0 : Int64) = lN 0 from rfl, beqL (by omega) (by omega)]; simp
        have e10 : lN (chs n i) * lN (n - i) / lN (i + 1) = lN (chs n (i + 1)) := by rw [lN_mul, pk_lDiv (by omega) (by omega) (by omega)]; rfl
        simp only [lq2, fX9_waking_L97, leN (show f + j < 2 ^ 31 by omega) (show i < 2 ^ 31 by omega), n2, if_false, e5, e6, e7, e8, e9, Bool.not_false, gd_1, nm_1, e10]
        exact k2
    have l2 := L2 (f + j) 0 FU g (by omega) (by unfold FU; omega)
    rw [show chs n 0 = 1 from rfl] at l2
    simp only [lq2, fX9_waking_L85, ltN (show n < 2 ^ 31 by omega) (show f + j < 2 ^ 31 by omega), n1, if_false]
    exact l2.trans key
set_option maxRecDepth 100000 in
theorem oWaking (C : CA h d R N T) (x y z : Int32) (b : Bool) : OpQ h (fX8_waking 0 x y z b h) (fun h1 => fX9_waking 181 x y z b h1) (fun h1 => MA h1 R N T) := by
  have k := isKb_D C.2.1
  have v := C.2.2.2.2.1
  have vF := v.F
  have vS := v.S
  rcases slC C x with ⟨s, hs, rfl, e1, e2⟩ | ⟨e1, e2⟩
  · have vs := v.2.2.1 s hs
    have dS := (C.2.2.2.1.2.2.2.2.1 s hs).1 3 (by omega)
    rcases flC C y with ⟨f, hf, rfl, e3, e4⟩ | ⟨e3, e4⟩
    · rcases rg z (lo := 0) (hi := 8) (by omega) (by omega) with ⟨n, j1, hn, rfl⟩ | hx | ⟨hx1, hx2, hx3⟩
      · have hc := vs.2.2.2.2.1
        have w1 := wk (R (15 + 5 * s + 3)) (by omega) n (by omega) f (by omega)
        have w2 := wp_le hc n f
        have hp : 1 ≤ 100 ^ n := Nat.pow_pos (by omega)
        have hp2 : 100 ^ n ≤ 100 ^ 8 := Nat.pow_le_pow_right (by omega) hn
        have hp3 : (100 : Nat) ^ 8 = 10000000000000000 := by decide
        refine opq (lN (lowF (wp n f (R (15 + 5 * s + 3))) (100 ^ n) b)) ?_ (fun h1 g Mg hg => ?_)
        · have cw : fX8_wakingParts 14 (nI f) (nI n) (nI (R (15 + 5 * s + 3))) h = some (lN (wp n f (R (15 + 5 * s + 3))), h) := cWak hc n f 14 hn (by omega) (by omega)
          simp (disch := omega) only [lI, lJ, gd_1, bd_1, bv_1, nm_1, ixN, inbN, eqN, leN, ltN, eqL, leL, ltL, beqN, beqL, nI_add, pk_mul, lN_add, lN_mul, nI_l, lN_i, pk_div, pk_lDiv, pk_sub, lN_sub, remN, remL, neg1, neg2, negL, negL2, M1e, M1f, M1g, M1h, M1i, M1j, M2e, M2f, L1g, L1h, L1i, L1j, les_eq, les_e, les_n, les_m, cond_true, cond_false, if_true, if_false, fX8_refuse, fX8_allow, fX8_allow_, Nat.not_lt_zero, Nat.reduceAdd, Nat.reduceLT, Nat.reduceLeDiff, Nat.reduceEqDiff, decide_false, decide_true, Bool.not_false, Bool.not_true, C.1, k, fX8_waking, e1, e3, hn, cSl C.2.2.2.1 C.2.1 v hs, dS, cw, cHun, cLow b]
        · have ml := mWak (g := g) b hc hn (f := f) (by omega) (max (n + 1) f - f) 0 FU (by omega) (by unfold FU; omega)
          rw [w1] at ml
          have H : ∀ m i q, i + m = n → m < q → lq2 (fX9_waking_L62 (fun x9 h9 => lq2 (fX9_waking_L85 (nI n) b (lN (R (15 + 5 * s + 3))) x9) FU (lN 0) (nI f) h9) (nI f) (nI n) b (lN (R (15 + 5 * s + 3)))) q (lN (100 ^ i)) (nI i) g = some (lN (lowF (wp n f (R (15 + 5 * s + 3))) (100 ^ n) b), g) := by
            intro m
            induction m with
            | zero =>
              intro i q e hq
              obtain ⟨q, rfl⟩ : ∃ r, q = r + 1 := ⟨q - 1, by omega⟩
              have : i = n := by omega
              subst this
              simp only [lq2, fX9_waking_L62, leN (show i < 2 ^ 31 by omega) (show i < 2 ^ 31 by omega), Nat.le_refl, if_true]
              exact ml
            | succ m ih =>
              intro i q e hq
              obtain ⟨q, rfl⟩ : ∃ r, q = r + 1 := ⟨q - 1, by omega⟩
              have n1 : ¬ n ≤ i := by omega
              have key := ih (i + 1) q (by omega) (by omega)
              have e6 : lN (100 ^ i) * 100 = lN (100 ^ (i + 1)) := by rw [show (100 : Int64) = lN 100 from rfl, lN_mul, Nat.pow_succ]
              simp only [lq2, fX9_waking_L62, leN (show n < 2 ^ 31 by omega) (show i < 2 ^ 31 by omega), n1, if_false, nm_1, e6, show nI i + 1 = nI (i + 1) from nI_1 i]
              exact key
          simp (disch := omega) only [lI, lJ, gd_1, bd_1, bv_1, nm_1, ixN, inbN, eqN, leN, ltN, eqL, leL, ltL, beqN, beqL, nI_add, pk_mul, lN_add, lN_mul, nI_l, lN_i, pk_div, pk_lDiv, pk_sub, lN_sub, remN, remL, neg1, neg2, negL, negL2, M1e, M1f, M1g, M1h, M1i, M1j, M2e, M2f, L1g, L1h, L1i, L1j, les_eq, les_e, les_n, les_m, cond_true, cond_false, if_true, if_false, fX9_no, hg, Nat.not_lt_zero, Nat.reduceAdd, Nat.reduceLT, Nat.reduceLeDiff, Nat.reduceEqDiff, decide_false, decide_true, Bool.not_false, Bool.not_true, fX9_waking, e2 g Mg, e4 g Mg, wit3, mOf Mg.2.1]
          exact H n 0 FU (by omega) (by unfold FU; omega)
      · refine opr 2 (by omega) (M1.toInt64) ?_ (fun h1 g Mg hg => ?_)
        · simp (disch := omega) only [lI, lJ, gd_1, bd_1, bv_1, nm_1, ixN, inbN, eqN, leN, ltN, eqL, leL, ltL, beqN, beqL, nI_add, pk_mul, lN_add, lN_mul, nI_l, lN_i, pk_div, pk_lDiv, pk_sub, lN_sub, remN, remL, neg1, neg2, negL, negL2, M1e, M1f, M1g, M1h, M1i, M1j, M2e, M2f, L1g, L1h, L1i, L1j, les_eq, les_e, les_n, les_m, cond_true, cond_false, if_true, if_false, fX8_refuse, fX8_allow, fX8_allow_, Nat.not_lt_zero, Nat.reduceAdd, Nat.reduceLT, Nat.reduceLeDiff, Nat.reduceEqDiff, decide_false, decide_true, Bool.not_false, Bool.not_true, C.1, k, fX8_waking, e1, e3, hx]
        · simp (disch := omega) only [lI, lJ, gd_1, bd_1, bv_1, nm_1, ixN, inbN, eqN, leN, ltN, eqL, leL, ltL, beqN, beqL, nI_add, pk_mul, lN_add, lN_mul, nI_l, lN_i, pk_div, pk_lDiv, pk_sub, lN_sub, remN, remL, neg1, neg2, negL, negL2, M1e, M1f, M1g, M1h, M1i, M1j, M2e, M2f, L1g, L1h, L1i, L1j, les_eq, les_e, les_n, les_m, cond_true, cond_false, if_true, if_false, fX9_no, hg, Nat.not_lt_zero, Nat.reduceAdd, Nat.reduceLT, Nat.reduceLeDiff, Nat.reduceEqDiff, decide_false, decide_true, Bool.not_false, Bool.not_true, fX9_waking, e2 g Mg, e4 g Mg, wa hx]
      · refine opr 2 (by omega) (M1.toInt64) ?_ (fun h1 g Mg hg => ?_)
        · simp (disch := omega) only [lI, lJ, gd_1, bd_1, bv_1, nm_1, ixN, inbN, eqN, leN, ltN, eqL, leL, ltL, beqN, beqL, nI_add, pk_mul, lN_add, lN_mul, nI_l, lN_i, pk_div, pk_lDiv, pk_sub, lN_sub, remN, remL, neg1, neg2, negL, negL2, M1e, M1f, M1g, M1h, M1i, M1j, M2e, M2f, L1g, L1h, L1i, L1j, les_eq, les_e, les_n, les_m, cond_true, cond_false, if_true, if_false, fX8_refuse, fX8_allow, fX8_allow_, Nat.not_lt_zero, Nat.reduceAdd, Nat.reduceLT, Nat.reduceLeDiff, Nat.reduceEqDiff, decide_false, decide_true, Bool.not_false, Bool.not_true, C.1, k, fX8_waking, e1, e3, hx1, hx3]
        · simp (disch := omega) only [lI, lJ, gd_1, bd_1, bv_1, nm_1, ixN, inbN, eqN, leN, ltN, eqL, leL, ltL, beqN, beqL, nI_add, pk_mul, lN_add, lN_mul, nI_l, lN_i, pk_div, pk_lDiv, pk_sub, lN_sub, remN, remL, neg1, neg2, negL, negL2, M1e, M1f, M1g, M1h, M1i, M1j, M2e, M2f, L1g, L1h, L1i, L1j, les_eq, les_e, les_n, les_m, cond_true, cond_false, if_true, if_false, fX9_no, hg, Nat.not_lt_zero, Nat.reduceAdd, Nat.reduceLT, Nat.reduceLeDiff, Nat.reduceEqDiff, decide_false, decide_true, Bool.not_false, Bool.not_true, fX9_waking, e2 g Mg, e4 g Mg, wb hx1 hx2]
    · refine opr 1 (by omega) (M1.toInt64) ?_ (fun h1 g Mg hg => ?_)
      · simp (disch := omega) only [lI, lJ, gd_1, bd_1, bv_1, nm_1, ixN, inbN, eqN, leN, ltN, eqL, leL, ltL, beqN, beqL, nI_add, pk_mul, lN_add, lN_mul, nI_l, lN_i, pk_div, pk_lDiv, pk_sub, lN_sub, remN, remL, neg1, neg2, negL, negL2, M1e, M1f, M1g, M1h, M1i, M1j, M2e, M2f, L1g, L1h, L1i, L1j, les_eq, les_e, les_n, les_m, cond_true, cond_false, if_true, if_false, fX8_refuse, fX8_allow, fX8_allow_, Nat.not_lt_zero, Nat.reduceAdd, Nat.reduceLT, Nat.reduceLeDiff, Nat.reduceEqDiff, decide_false, decide_true, Bool.not_false, Bool.not_true, C.1, k, fX8_waking, e1, e3]
      · simp (disch := omega) only [lI, lJ, gd_1, bd_1, bv_1, nm_1, ixN, inbN, eqN, leN, ltN, eqL, leL, ltL, beqN, beqL, nI_add, pk_mul, lN_add, lN_mul, nI_l, lN_i, pk_div, pk_lDiv, pk_sub, lN_sub, remN, remL, neg1, neg2, negL, negL2, M1e, M1f, M1g, M1h, M1i, M1j, M2e, M2f, L1g, L1h, L1i, L1j, les_eq, les_e, les_n, les_m, cond_true, cond_false, if_true, if_false, fX9_no, hg, Nat.not_lt_zero, Nat.reduceAdd, Nat.reduceLT, Nat.reduceLeDiff, Nat.reduceEqDiff, decide_false, decide_true, Bool.not_false, Bool.not_true, fX9_waking, e2 g Mg, e4 g Mg]
  · refine opr 1 (by omega) (M1.toInt64) ?_ (fun h1 g Mg hg => ?_)
    · simp (disch := omega) only [lI, lJ, gd_1, bd_1, bv_1, nm_1, ixN, inbN, eqN, leN, ltN, eqL, leL, ltL, beqN, beqL, nI_add, pk_mul, lN_add, lN_mul, nI_l, lN_i, pk_div, pk_lDiv, pk_sub, lN_sub, remN, remL, neg1, neg2, negL, negL2, M1e, M1f, M1g, M1h, M1i, M1j, M2e, M2f, L1g, L1h, L1i, L1j, les_eq, les_e, les_n, les_m, cond_true, cond_false, if_true, if_false, fX8_refuse, fX8_allow, fX8_allow_, Nat.not_lt_zero, Nat.reduceAdd, Nat.reduceLT, Nat.reduceLeDiff, Nat.reduceEqDiff, decide_false, decide_true, Bool.not_false, Bool.not_true, C.1, k, fX8_waking, e1]
    · simp (disch := omega) only [lI, lJ, gd_1, bd_1, bv_1, nm_1, ixN, inbN, eqN, leN, ltN, eqL, leL, ltL, beqN, beqL, nI_add, pk_mul, lN_add, lN_mul, nI_l, lN_i, pk_div, pk_lDiv, pk_sub, lN_sub, remN, remL, neg1, neg2, negL, negL2, M1e, M1f, M1g, M1h, M1i, M1j, M2e, M2f, L1g, L1h, L1i, L1j, les_eq, les_e, les_n, les_m, cond_true, cond_false, if_true, if_false, fX9_no, hg, Nat.not_lt_zero, Nat.reduceAdd, Nat.reduceLT, Nat.reduceLeDiff, Nat.reduceEqDiff, decide_false, decide_true, Bool.not_false, Bool.not_true, fX9_waking, e2 g Mg]
end OPS
