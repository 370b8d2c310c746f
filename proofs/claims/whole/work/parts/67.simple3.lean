set_option maxRecDepth 100000 in
theorem maxL {a b : Nat} (ha : a < 2 ^ 63) (hb : b < 2 ^ 63) : jmmaxl (lN a) (lN b) = lN (max a b) := by
  unfold jmmaxl; simp only [ltL hb ha]
  split
  · congr 1; omega
  · congr 1; omega
set_option maxRecDepth 100000 in
theorem minL {a b : Nat} (ha : a < 2 ^ 63) (hb : b < 2 ^ 63) : jmminl (lN a) (lN b) = lN (min a b) := by
  unfold jmminl; simp only [ltL hb ha]
  split
  · congr 1; omega
  · congr 1; omega
set_option maxRecDepth 100000 in
theorem maxN {a b : Nat} (ha : a < 2 ^ 31) (hb : b < 2 ^ 31) : jmmax (nI a) (nI b) = nI (max a b) := by
  unfold jmmax; simp only [ltN ha hb]
  split
  · congr 1; omega
  · congr 1; omega
set_option maxRecDepth 100000 in
theorem minN {a b : Nat} (ha : a < 2 ^ 31) (hb : b < 2 ^ 31) : jmmin (nI a) (nI b) = nI (min a b) := by
  unfold jmmin; simp only [ltN hb ha]
  split
  · congr 1; omega
  · congr 1; omega
set_option maxRecDepth 100000 in
theorem mRatio {g : HH} {R : Nat → Nat} (v : VR R) (M : MRep g R) {f t : Nat} (hf : f ≤ R 0) (ht : t ≤ R 0) : fX9_ratio 181 (nI f) (nI t) g = some (nI (rt R t f), g) := by
  have vF := v.F
  have q1 := v.qk hf
  have q2 := v.qk ht
  have n4 : ¬ qk R t = 0 := by omega
  simp (disch := omega) only [lI, lJ, gd_1, bd_1, bv_1, nm_1, ixN, inbN, eqN, leN, ltN, eqL, leL, ltL, beqN, beqL, nI_add, pk_mul, lN_add, lN_mul, nI_l, lN_i, pk_div, pk_lDiv, pk_sub, lN_sub, remN, remL, neg1, neg2, negL, negL2, M1e, M1f, M1g, M1h, M1i, M1j, M2e, M2f, L1g, L1h, L1i, L1j, les_eq, les_e, les_n, les_m, fX9_ratio, mQuick M (f := f) (by omega), mQuick M (f := t) (by omega), n4, decide_false, Bool.not_false, rt]
set_option maxRecDepth 100000 in
theorem mFeel {g : HH} {R : Nat → Nat} (v : VR R) (M : MRep g R) {w f t : Nat} (hw : w < 2 ^ 31) (hf : f ≤ R 0) (ht : t ≤ R 0) : fX9_feelOf 181 (nI w) (nI f) (nI t) g = some (lN (w * rt R f t), g) := by
  have vF := v.F
  have q1 := v.qk hf
  have q2 := v.qk ht
  have n4 : ¬ qk R f = 0 := by omega
  have q3 : qk R t / qk R f < 2 ^ 31 := Nat.lt_of_le_of_lt (Nat.div_le_self _ _) (by omega)
  simp (disch := omega) only [lI, lJ, gd_1, bd_1, bv_1, nm_1, ixN, inbN, eqN, leN, ltN, eqL, leL, ltL, beqN, beqL, nI_add, pk_mul, lN_add, lN_mul, nI_l, lN_i, pk_div, pk_lDiv, pk_sub, lN_sub, remN, remL, neg1, neg2, negL, negL2, M1e, M1f, M1g, M1h, M1i, M1j, M2e, M2f, L1g, L1h, L1i, L1j, les_eq, les_e, les_n, les_m, fX9_feelOf, mQuick M (f := f) (by omega), mQuick M (f := t) (by omega), n4, decide_false, Bool.not_false, rt]
set_option maxRecDepth 100000 in
theorem cFelt {h : HH} {d : Nat} {R : Nat → Nat} (D : DRep h d R) (v : VR R) {w f t : Nat} (hw : w < 2 ^ 31) (hf : f ≤ R 0) (ht : t ≤ R 0) : fX0_feltOn d (nI w) (nI f) (nI t) h = some (lN (w * rt R f t), h) := by
  have q := rt_le v f ht
  simp (disch := omega) only [lI, lJ, gd_1, bd_1, bv_1, nm_1, ixN, inbN, eqN, leN, ltN, eqL, leL, ltL, beqN, beqL, nI_add, pk_mul, lN_add, lN_mul, nI_l, lN_i, pk_div, pk_lDiv, pk_sub, lN_sub, remN, remL, neg1, neg2, negL, negL2, M1e, M1f, M1g, M1h, M1i, M1j, M2e, M2f, L1g, L1h, L1i, L1j, les_eq, les_e, les_n, les_m, fX0_feltOn, cRatio D v hf ht]
set_option maxRecDepth 100000 in
theorem cShr {h : HH} {d : Nat} {R : Nat → Nat} (D : DRep h d R) (v : VR R) {w f t : Nat} (hw : w < 2 ^ 31) (hf : f ≤ R 0) (ht : t ≤ f) : fX0_shrunk d (nI w) (nI f) (nI t) h = some (nI (w / rt R t f), h) := by
  have q := v.rt ht hf
  simp (disch := omega) only [lI, lJ, gd_1, bd_1, bv_1, nm_1, ixN, inbN, eqN, leN, ltN, eqL, leL, ltL, beqN, beqL, nI_add, pk_mul, lN_add, lN_mul, nI_l, lN_i, pk_div, pk_lDiv, pk_sub, lN_sub, remN, remL, neg1, neg2, negL, negL2, M1e, M1f, M1g, M1h, M1i, M1j, M2e, M2f, L1g, L1h, L1i, L1j, les_eq, les_e, les_n, les_m, fX0_shrunk, cRatio D v (u := t) (l := f) (by omega) hf, cQuo]
section OPS
variable {h : HH} {d : Nat} {R N T : Nat → Nat}
set_option maxRecDepth 100000 in
theorem abC (C : CA h d R N T) (x y : Int32) : (∃ f t, f ≤ R 0 ∧ t < f ∧ x = nI f ∧ y = nI t ∧ fX8_isAbove 0 x y h = some (true, h) ∧ ∀ h1, MA h1 R N T → fX9_isUpward 181 x y h1 = some (true, h1)) ∨ (fX8_isAbove 0 x y h = some (false, h) ∧ ∀ h1, MA h1 R N T → fX9_isUpward 181 x y h1 = some (false, h1)) := by
  have vF := C.2.2.2.2.1.F
  rcases flC C x with ⟨f, hf, rfl, e1, e2⟩ | ⟨e1, e2⟩
  · rcases flC C y with ⟨t, ht, rfl, e3, e4⟩ | ⟨e3, e4⟩
    · by_cases z : f ≤ t
      · exact Or.inr ⟨by simp (disch := omega) only [lI, lJ, gd_1, bd_1, bv_1, nm_1, ixN, inbN, eqN, leN, ltN, eqL, leL, ltL, beqN, beqL, nI_add, pk_mul, lN_add, lN_mul, nI_l, lN_i, pk_div, pk_lDiv, pk_sub, lN_sub, remN, remL, neg1, neg2, negL, negL2, M1e, M1f, M1g, M1h, M1i, M1j, M2e, M2f, L1g, L1h, L1i, L1j, les_eq, les_e, les_n, les_m, fX8_isAbove, e1, e3, cond_true, z, if_true], fun h1 M => by simp (disch := omega) only [lI, lJ, gd_1, bd_1, bv_1, nm_1, ixN, inbN, eqN, leN, ltN, eqL, leL, ltL, beqN, beqL, nI_add, pk_mul, lN_add, lN_mul, nI_l, lN_i, pk_div, pk_lDiv, pk_sub, lN_sub, remN, remL, neg1, neg2, negL, negL2, M1e, M1f, M1g, M1h, M1i, M1j, M2e, M2f, L1g, L1h, L1i, L1j, les_eq, les_e, les_n, les_m, fX9_isUpward, e2 h1 M, e4 h1 M, cond_true, z, if_true]⟩
      · exact Or.inl ⟨f, t, hf, by omega, rfl, rfl, by simp (disch := omega) only [lI, lJ, gd_1, bd_1, bv_1, nm_1, ixN, inbN, eqN, leN, ltN, eqL, leL, ltL, beqN, beqL, nI_add, pk_mul, lN_add, lN_mul, nI_l, lN_i, pk_div, pk_lDiv, pk_sub, lN_sub, remN, remL, neg1, neg2, negL, negL2, M1e, M1f, M1g, M1h, M1i, M1j, M2e, M2f, L1g, L1h, L1i, L1j, les_eq, les_e, les_n, les_m, fX8_isAbove, e1, e3, cond_true, z, if_false], fun h1 M => by simp (disch := omega) only [lI, lJ, gd_1, bd_1, bv_1, nm_1, ixN, inbN, eqN, leN, ltN, eqL, leL, ltL, beqN, beqL, nI_add, pk_mul, lN_add, lN_mul, nI_l, lN_i, pk_div, pk_lDiv, pk_sub, lN_sub, remN, remL, neg1, neg2, negL, negL2, M1e, M1f, M1g, M1h, M1i, M1j, M2e, M2f, L1g, L1h, L1i, L1j, les_eq, les_e, les_n, les_m, fX9_isUpward, e2 h1 M, e4 h1 M, cond_true, z, if_false]⟩
    · exact Or.inr ⟨by simp (disch := omega) only [lI, lJ, gd_1, bd_1, bv_1, nm_1, ixN, inbN, eqN, leN, ltN, eqL, leL, ltL, beqN, beqL, nI_add, pk_mul, lN_add, lN_mul, nI_l, lN_i, pk_div, pk_lDiv, pk_sub, lN_sub, remN, remL, neg1, neg2, negL, negL2, M1e, M1f, M1g, M1h, M1i, M1j, M2e, M2f, L1g, L1h, L1i, L1j, les_eq, les_e, les_n, les_m, fX8_isAbove, e1, e3, cond_true, cond_false], fun h1 M => by simp (disch := omega) only [lI, lJ, gd_1, bd_1, bv_1, nm_1, ixN, inbN, eqN, leN, ltN, eqL, leL, ltL, beqN, beqL, nI_add, pk_mul, lN_add, lN_mul, nI_l, lN_i, pk_div, pk_lDiv, pk_sub, lN_sub, remN, remL, neg1, neg2, negL, negL2, M1e, M1f, M1g, M1h, M1i, M1j, M2e, M2f, L1g, L1h, L1i, L1j, les_eq, les_e, les_n, les_m, fX9_isUpward, e2 h1 M, e4 h1 M, cond_true, cond_false]⟩
  · exact Or.inr ⟨by simp (disch := omega) only [lI, lJ, gd_1, bd_1, bv_1, nm_1, ixN, inbN, eqN, leN, ltN, eqL, leL, ltL, beqN, beqL, nI_add, pk_mul, lN_add, lN_mul, nI_l, lN_i, pk_div, pk_lDiv, pk_sub, lN_sub, remN, remL, neg1, neg2, negL, negL2, M1e, M1f, M1g, M1h, M1i, M1j, M2e, M2f, L1g, L1h, L1i, L1j, les_eq, les_e, les_n, les_m, fX8_isAbove, e1, cond_false], fun h1 M => by simp (disch := omega) only [lI, lJ, gd_1, bd_1, bv_1, nm_1, ixN, inbN, eqN, leN, ltN, eqL, leL, ltL, beqN, beqL, nI_add, pk_mul, lN_add, lN_mul, nI_l, lN_i, pk_div, pk_lDiv, pk_sub, lN_sub, remN, remL, neg1, neg2, negL, negL2, M1e, M1f, M1g, M1h, M1i, M1j, M2e, M2f, L1g, L1h, L1i, L1j, les_eq, les_e, les_n, les_m, fX9_isUpward, e2 h1 M, cond_false]⟩
set_option maxRecDepth 100000 in
theorem dfC (C : CA h d R N T) (x : Int32) : (∃ f, 1 ≤ f ∧ f ≤ R 0 ∧ x = nI f ∧ fX8_isDreamFloor 0 x h = some (true, h) ∧ fX8_isFloor 0 x h = some (true, h) ∧ ∀ h1, MA h1 R N T → fX9_isFloor 181 x h1 = some (true, h1)) ∨ (fX8_isDreamFloor 0 x h = some (false, h) ∧ ((∀ h1, MA h1 R N T → fX9_isFloor 181 x h1 = some (false, h1)) ∨ (x = nI 0 ∧ ∀ h1, MA h1 R N T → fX9_isFloor 181 x h1 = some (true, h1)))) := by
  have vF := C.2.2.2.2.1.F
  rcases flC C x with ⟨f, hf, rfl, e1, e2⟩ | ⟨e1, e2⟩
  · by_cases z : f ≤ 0
    · refine Or.inr ⟨by simp (disch := omega) only [lI, lJ, gd_1, bd_1, bv_1, nm_1, ixN, inbN, eqN, leN, ltN, eqL, leL, ltL, beqN, beqL, nI_add, pk_mul, lN_add, lN_mul, nI_l, lN_i, pk_div, pk_lDiv, pk_sub, lN_sub, remN, remL, neg1, neg2, negL, negL2, M1e, M1f, M1g, M1h, M1i, M1j, M2e, M2f, L1g, L1h, L1i, L1j, les_eq, les_e, les_n, les_m, fX8_isDreamFloor, e1, cond_true, z, if_true], Or.inr ⟨by congr 1; omega, e2⟩⟩
    · exact Or.inl ⟨f, by omega, hf, rfl, by simp (disch := omega) only [lI, lJ, gd_1, bd_1, bv_1, nm_1, ixN, inbN, eqN, leN, ltN, eqL, leL, ltL, beqN, beqL, nI_add, pk_mul, lN_add, lN_mul, nI_l, lN_i, pk_div, pk_lDiv, pk_sub, lN_sub, remN, remL, neg1, neg2, negL, negL2, M1e, M1f, M1g, M1h, M1i, M1j, M2e, M2f, L1g, L1h, L1i, L1j, les_eq, les_e, les_n, les_m, fX8_isDreamFloor, e1, cond_true, z, if_false], e1, e2⟩
  · exact Or.inr ⟨by simp (disch := omega) only [lI, lJ, gd_1, bd_1, bv_1, nm_1, ixN, inbN, eqN, leN, ltN, eqL, leL, ltL, beqN, beqL, nI_add, pk_mul, lN_add, lN_mul, nI_l, lN_i, pk_div, pk_lDiv, pk_sub, lN_sub, remN, remL, neg1, neg2, negL, negL2, M1e, M1f, M1g, M1h, M1i, M1j, M2e, M2f, L1g, L1h, L1i, L1j, les_eq, les_e, les_n, les_m, fX8_isDreamFloor, e1, cond_false], Or.inl e2⟩
set_option maxRecDepth 100000 in
theorem oFelt (C : CA h d R N T) (w x y : Int32) : OpQ h (fX8_felt 0 w x y h) (fun h1 => fX9_felt 181 w x y h1) (fun h1 => MA h1 R N T) := by
  have k := isKb_D C.2.1
  have v := C.2.2.2.2.1
  have vF := v.F
  rcases flC C x with ⟨f, hf, rfl, e1, e2⟩ | ⟨e1, e2⟩
  · rcases flC C y with ⟨t, ht, rfl, e3, e4⟩ | ⟨e3, e4⟩
    · by_cases z : f < t
      · rcases rg w (lo := 1) (hi := 99) (by omega) (by omega) with ⟨j, j1, j2, rfl⟩ | hx | ⟨hx1, hx2, hx3⟩
        · have n1 : ¬ j < 1 := by omega
          have n2 : ¬ 99 < j := by omega
          refine opq (lN (j * rt R f t)) ?_ (fun h1 g Mg hg => ?_)
          · simp (disch := omega) only [lI, lJ, gd_1, bd_1, bv_1, nm_1, ixN, inbN, eqN, leN, ltN, eqL, leL, ltL, beqN, beqL, nI_add, pk_mul, lN_add, lN_mul, nI_l, lN_i, pk_div, pk_lDiv, pk_sub, lN_sub, remN, remL, neg1, neg2, negL, negL2, M1e, M1f, M1g, M1h, M1i, M1j, M2e, M2f, L1g, L1h, L1i, L1j, les_eq, les_e, les_n, les_m, cond_true, cond_false, if_true, if_false, fX8_refuse, fX8_allow, fX8_allow_, Nat.not_lt_zero, Nat.reduceAdd, Nat.reduceLT, Nat.reduceLeDiff, Nat.reduceEqDiff, decide_false, decide_true, Bool.not_false, Bool.not_true, C.1, k, fX8_felt, fX8_isStrong, e1, e3, z, n1, n2, cFelt C.2.2.2.1 v (w := j) (by omega) hf ht]
          · simp (disch := omega) only [lI, lJ, gd_1, bd_1, bv_1, nm_1, ixN, inbN, eqN, leN, ltN, eqL, leL, ltL, beqN, beqL, nI_add, pk_mul, lN_add, lN_mul, nI_l, lN_i, pk_div, pk_lDiv, pk_sub, lN_sub, remN, remL, neg1, neg2, negL, negL2, M1e, M1f, M1g, M1h, M1i, M1j, M2e, M2f, L1g, L1h, L1i, L1j, les_eq, les_e, les_n, les_m, cond_true, cond_false, if_true, if_false, fX9_no, hg, Nat.not_lt_zero, Nat.reduceAdd, Nat.reduceLT, Nat.reduceLeDiff, Nat.reduceEqDiff, decide_false, decide_true, Bool.not_false, Bool.not_true, fX9_felt, e2 g Mg, e4 g Mg, z, wit3, mFeel v Mg.2.1 (w := j) (by omega) hf ht]
        · refine opr 2 (by omega) (M1.toInt64) ?_ (fun h1 g Mg hg => ?_)
          · simp (disch := omega) only [lI, lJ, gd_1, bd_1, bv_1, nm_1, ixN, inbN, eqN, leN, ltN, eqL, leL, ltL, beqN, beqL, nI_add, pk_mul, lN_add, lN_mul, nI_l, lN_i, pk_div, pk_lDiv, pk_sub, lN_sub, remN, remL, neg1, neg2, negL, negL2, M1e, M1f, M1g, M1h, M1i, M1j, M2e, M2f, L1g, L1h, L1i, L1j, les_eq, les_e, les_n, les_m, cond_true, cond_false, if_true, if_false, fX8_refuse, fX8_allow, fX8_allow_, Nat.not_lt_zero, Nat.reduceAdd, Nat.reduceLT, Nat.reduceLeDiff, Nat.reduceEqDiff, decide_false, decide_true, Bool.not_false, Bool.not_true, C.1, k, fX8_felt, fX8_isStrong, e1, e3, z, hx]
          · simp (disch := omega) only [lI, lJ, gd_1, bd_1, bv_1, nm_1, ixN, inbN, eqN, leN, ltN, eqL, leL, ltL, beqN, beqL, nI_add, pk_mul, lN_add, lN_mul, nI_l, lN_i, pk_div, pk_lDiv, pk_sub, lN_sub, remN, remL, neg1, neg2, negL, negL2, M1e, M1f, M1g, M1h, M1i, M1j, M2e, M2f, L1g, L1h, L1i, L1j, les_eq, les_e, les_n, les_m, cond_true, cond_false, if_true, if_false, fX9_no, hg, Nat.not_lt_zero, Nat.reduceAdd, Nat.reduceLT, Nat.reduceLeDiff, Nat.reduceEqDiff, decide_false, decide_true, Bool.not_false, Bool.not_true, fX9_felt, e2 g Mg, e4 g Mg, z, wa hx]
        · refine opr 2 (by omega) (M1.toInt64) ?_ (fun h1 g Mg hg => ?_)
          · simp (disch := omega) only [lI, lJ, gd_1, bd_1, bv_1, nm_1, ixN, inbN, eqN, leN, ltN, eqL, leL, ltL, beqN, beqL, nI_add, pk_mul, lN_add, lN_mul, nI_l, lN_i, pk_div, pk_lDiv, pk_sub, lN_sub, remN, remL, neg1, neg2, negL, negL2, M1e, M1f, M1g, M1h, M1i, M1j, M2e, M2f, L1g, L1h, L1i, L1j, les_eq, les_e, les_n, les_m, cond_true, cond_false, if_true, if_false, fX8_refuse, fX8_allow, fX8_allow_, Nat.not_lt_zero, Nat.reduceAdd, Nat.reduceLT, Nat.reduceLeDiff, Nat.reduceEqDiff, decide_false, decide_true, Bool.not_false, Bool.not_true, C.1, k, fX8_felt, fX8_isStrong, e1, e3, z, hx1, hx2]
          · simp (disch := omega) only [lI, lJ, gd_1, bd_1, bv_1, nm_1, ixN, inbN, eqN, leN, ltN, eqL, leL, ltL, beqN, beqL, nI_add, pk_mul, lN_add, lN_mul, nI_l, lN_i, pk_div, pk_lDiv, pk_sub, lN_sub, remN, remL, neg1, neg2, negL, negL2, M1e, M1f, M1g, M1h, M1i, M1j, M2e, M2f, L1g, L1h, L1i, L1j, les_eq, les_e, les_n, les_m, cond_true, cond_false, if_true, if_false, fX9_no, hg, Nat.not_lt_zero, Nat.reduceAdd, Nat.reduceLT, Nat.reduceLeDiff, Nat.reduceEqDiff, decide_false, decide_true, Bool.not_false, Bool.not_true, fX9_felt, e2 g Mg, e4 g Mg, z, wb hx1 hx2]
      · refine opr 1 (by omega) (M1.toInt64) ?_ (fun h1 g Mg hg => ?_)
        · simp (disch := omega) only [lI, lJ, gd_1, bd_1, bv_1, nm_1, ixN, inbN, eqN, leN, ltN, eqL, leL, ltL, beqN, beqL, nI_add, pk_mul, lN_add, lN_mul, nI_l, lN_i, pk_div, pk_lDiv, pk_sub, lN_sub, remN, remL, neg1, neg2, negL, negL2, M1e, M1f, M1g, M1h, M1i, M1j, M2e, M2f, L1g, L1h, L1i, L1j, les_eq, les_e, les_n, les_m, cond_true, cond_false, if_true, if_false, fX8_refuse, fX8_allow, fX8_allow_, Nat.not_lt_zero, Nat.reduceAdd, Nat.reduceLT, Nat.reduceLeDiff, Nat.reduceEqDiff, decide_false, decide_true, Bool.not_false, Bool.not_true, C.1, k, fX8_felt, e1, e3, z]
        · simp (disch := omega) only [lI, lJ, gd_1, bd_1, bv_1, nm_1, ixN, inbN, eqN, leN, ltN, eqL, leL, ltL, beqN, beqL, nI_add, pk_mul, lN_add, lN_mul, nI_l, lN_i, pk_div, pk_lDiv, pk_sub, lN_sub, remN, remL, neg1, neg2, negL, negL2, M1e, M1f, M1g, M1h, M1i, M1j, M2e, M2f, L1g, L1h, L1i, L1j, les_eq, les_e, les_n, les_m, cond_true, cond_false, if_true, if_false, fX9_no, hg, Nat.not_lt_zero, Nat.reduceAdd, Nat.reduceLT, Nat.reduceLeDiff, Nat.reduceEqDiff, decide_false, decide_true, Bool.not_false, Bool.not_true, fX9_felt, e2 g Mg, e4 g Mg, z]
    · refine opr 1 (by omega) (M1.toInt64) ?_ (fun h1 g Mg hg => ?_)
      · simp (disch := omega) only [lI, lJ, gd_1, bd_1, bv_1, nm_1, ixN, inbN, eqN, leN, ltN, eqL, leL, ltL, beqN, beqL, nI_add, pk_mul, lN_add, lN_mul, nI_l, lN_i, pk_div, pk_lDiv, pk_sub, lN_sub, remN, remL, neg1, neg2, negL, negL2, M1e, M1f, M1g, M1h, M1i, M1j, M2e, M2f, L1g, L1h, L1i, L1j, les_eq, les_e, les_n, les_m, cond_true, cond_false, if_true, if_false, fX8_refuse, fX8_allow, fX8_allow_, Nat.not_lt_zero, Nat.reduceAdd, Nat.reduceLT, Nat.reduceLeDiff, Nat.reduceEqDiff, decide_false, decide_true, Bool.not_false, Bool.not_true, C.1, k, fX8_felt, e1, e3]
      · simp (disch := omega) only [lI, lJ, gd_1, bd_1, bv_1, nm_1, ixN, inbN, eqN, leN, ltN, eqL, leL, ltL, beqN, beqL, nI_add, pk_mul, lN_add, lN_mul, nI_l, lN_i, pk_div, pk_lDiv, pk_sub, lN_sub, remN, remL, neg1, neg2, negL, negL2, M1e, M1f, M1g, M1h, M1i, M1j, M2e, M2f, L1g, L1h, L1i, L1j, les_eq, les_e, les_n, les_m, cond_true, cond_false, if_true, if_false, fX9_no, hg, Nat.not_lt_zero, Nat.reduceAdd, Nat.reduceLT, Nat.reduceLeDiff, Nat.reduceEqDiff, decide_false, decide_true, Bool.not_false, Bool.not_true, fX9_felt, e2 g Mg, e4 g Mg]
  · refine opr 1 (by omega) (M1.toInt64) ?_ (fun h1 g Mg hg => ?_)
    · simp (disch := omega) only [lI, lJ, gd_1, bd_1, bv_1, nm_1, ixN, inbN, eqN, leN, ltN, eqL, leL, ltL, beqN, beqL, nI_add, pk_mul, lN_add, lN_mul, nI_l, lN_i, pk_div, pk_lDiv, pk_sub, lN_sub, remN, remL, neg1, neg2, negL, negL2, M1e, M1f, M1g, M1h, M1i, M1j, M2e, M2f, L1g, L1h, L1i, L1j, les_eq, les_e, les_n, les_m, cond_true, cond_false, if_true, if_false, fX8_refuse, fX8_allow, fX8_allow_, Nat.not_lt_zero, Nat.reduceAdd, Nat.reduceLT, Nat.reduceLeDiff, Nat.reduceEqDiff, decide_false, decide_true, Bool.not_false, Bool.not_true, C.1, k, fX8_felt, e1]
    · simp (disch := omega) only [lI, lJ, gd_1, bd_1, bv_1, nm_1, ixN, inbN, eqN, leN, ltN, eqL, leL, ltL, beqN, beqL, nI_add, pk_mul, lN_add, lN_mul, nI_l, lN_i, pk_div, pk_lDiv, pk_sub, lN_sub, remN, remL, neg1, neg2, negL, negL2, M1e, M1f, M1g, M1h, M1i, M1j, M2e, M2f, L1g, L1h, L1i, L1j, les_eq, les_e, les_n, les_m, cond_true, cond_false, if_true, if_false, fX9_no, hg, Nat.not_lt_zero, Nat.reduceAdd, Nat.reduceLT, Nat.reduceLeDiff, Nat.reduceEqDiff, decide_false, decide_true, Bool.not_false, Bool.not_true, fX9_felt, e2 g Mg]
set_option maxRecDepth 100000 in
theorem oLetter (C : CA h d R N T) (x y w : Int32) : OpQ h (fX8_letter 0 x y w h) (fun h1 => fX9_letter 181 x y w h1) (fun h1 => MA h1 R N T) := by
  have k := isKb_D C.2.1
  have v := C.2.2.2.2.1
  have vF := v.F
  rcases abC C x y with ⟨f, t, hf, ht, rfl, rfl, e1, e2⟩ | ⟨e1, e2⟩
  · have q := v.rt (u := t) (l := f) (by omega) hf
    have n4 : ¬ rt R t f = 0 := by omega
    rcases rg w (lo := 0) (hi := 9999) (by omega) (by omega) with ⟨j, j1, j2, rfl⟩ | hx | ⟨hx1, hx2, hx3⟩
    · refine opq (nI (j / rt R t f)) ?_ (fun h1 g Mg hg => ?_)
      · simp (disch := omega) only [lI, lJ, gd_1, bd_1, bv_1, nm_1, ixN, inbN, eqN, leN, ltN, eqL, leL, ltL, beqN, beqL, nI_add, pk_mul, lN_add, lN_mul, nI_l, lN_i, pk_div, pk_lDiv, pk_sub, lN_sub, remN, remL, neg1, neg2, negL, negL2, M1e, M1f, M1g, M1h, M1i, M1j, M2e, M2f, L1g, L1h, L1i, L1j, les_eq, les_e, les_n, les_m, cond_true, cond_false, if_true, if_false, fX8_refuse, fX8_allow, fX8_allow_, Nat.not_lt_zero, Nat.reduceAdd, Nat.reduceLT, Nat.reduceLeDiff, Nat.reduceEqDiff, decide_false, decide_true, Bool.not_false, Bool.not_true, C.1, k, fX8_letter, e1, j2, cShr C.2.2.2.1 v (w := j) (f := f) (t := t) (by omega) hf (by omega)]
      · simp (disch := omega) only [lI, lJ, gd_1, bd_1, bv_1, nm_1, ixN, inbN, eqN, leN, ltN, eqL, leL, ltL, beqN, beqL, nI_add, pk_mul, lN_add, lN_mul, nI_l, lN_i, pk_div, pk_lDiv, pk_sub, lN_sub, remN, remL, neg1, neg2, negL, negL2, M1e, M1f, M1g, M1h, M1i, M1j, M2e, M2f, L1g, L1h, L1i, L1j, les_eq, les_e, les_n, les_m, cond_true, cond_false, if_true, if_false, fX9_no, hg, Nat.not_lt_zero, Nat.reduceAdd, Nat.reduceLT, Nat.reduceLeDiff, Nat.reduceEqDiff, decide_false, decide_true, Bool.not_false, Bool.not_true, fX9_letter, e2 g Mg, wit3, mRatio v Mg.2.1 (f := f) (t := t) hf (by omega), n4]
    · refine opr 2 (by omega) (M1) ?_ (fun h1 g Mg hg => ?_)
      · simp (disch := omega) only [lI, lJ, gd_1, bd_1, bv_1, nm_1, ixN, inbN, eqN, leN, ltN, eqL, leL, ltL, beqN, beqL, nI_add, pk_mul, lN_add, lN_mul, nI_l, lN_i, pk_div, pk_lDiv, pk_sub, lN_sub, remN, remL, neg1, neg2, negL, negL2, M1e, M1f, M1g, M1h, M1i, M1j, M2e, M2f, L1g, L1h, L1i, L1j, les_eq, les_e, les_n, les_m, cond_true, cond_false, if_true, if_false, fX8_refuse, fX8_allow, fX8_allow_, Nat.not_lt_zero, Nat.reduceAdd, Nat.reduceLT, Nat.reduceLeDiff, Nat.reduceEqDiff, decide_false, decide_true, Bool.not_false, Bool.not_true, C.1, k, fX8_letter, e1, hx]
      · simp (disch := omega) only [lI, lJ, gd_1, bd_1, bv_1, nm_1, ixN, inbN, eqN, leN, ltN, eqL, leL, ltL, beqN, beqL, nI_add, pk_mul, lN_add, lN_mul, nI_l, lN_i, pk_div, pk_lDiv, pk_sub, lN_sub, remN, remL, neg1, neg2, negL, negL2, M1e, M1f, M1g, M1h, M1i, M1j, M2e, M2f, L1g, L1h, L1i, L1j, les_eq, les_e, les_n, les_m, cond_true, cond_false, if_true, if_false, fX9_no, hg, Nat.not_lt_zero, Nat.reduceAdd, Nat.reduceLT, Nat.reduceLeDiff, Nat.reduceEqDiff, decide_false, decide_true, Bool.not_false, Bool.not_true, fX9_letter, e2 g Mg, wa hx]
    · refine opr 2 (by omega) (M1) ?_ (fun h1 g Mg hg => ?_)
      · simp (disch := omega) only [lI, lJ, gd_1, bd_1, bv_1, nm_1, ixN, inbN, eqN, leN, ltN, eqL, leL, ltL, beqN, beqL, nI_add, pk_mul, lN_add, lN_mul, nI_l, lN_i, pk_div, pk_lDiv, pk_sub, lN_sub, remN, remL, neg1, neg2, negL, negL2, M1e, M1f, M1g, M1h, M1i, M1j, M2e, M2f, L1g, L1h, L1i, L1j, les_eq, les_e, les_n, les_m, cond_true, cond_false, if_true, if_false, fX8_refuse, fX8_allow, fX8_allow_, Nat.not_lt_zero, Nat.reduceAdd, Nat.reduceLT, Nat.reduceLeDiff, Nat.reduceEqDiff, decide_false, decide_true, Bool.not_false, Bool.not_true, C.1, k, fX8_letter, e1, hx1, hx3]
      · simp (disch := omega) only [lI, lJ, gd_1, bd_1, bv_1, nm_1, ixN, inbN, eqN, leN, ltN, eqL, leL, ltL, beqN, beqL, nI_add, pk_mul, lN_add, lN_mul, nI_l, lN_i, pk_div, pk_lDiv, pk_sub, lN_sub, remN, remL, neg1, neg2, negL, negL2, M1e, M1f, M1g, M1h, M1i, M1j, M2e, M2f, L1g, L1h, L1i, L1j, les_eq, les_e, les_n, les_m, cond_true, cond_false, if_true, if_false, fX9_no, hg, Nat.not_lt_zero, Nat.reduceAdd, Nat.reduceLT, Nat.reduceLeDiff, Nat.reduceEqDiff, decide_false, decide_true, Bool.not_false, Bool.not_true, fX9_letter, e2 g Mg, wb hx1 hx2]
  · refine opr 1 (by omega) (M1) ?_ (fun h1 g Mg hg => ?_)
    · simp (disch := omega) only [lI, lJ, gd_1, bd_1, bv_1, nm_1, ixN, inbN, eqN, leN, ltN, eqL, leL, ltL, beqN, beqL, nI_add, pk_mul, lN_add, lN_mul, nI_l, lN_i, pk_div, pk_lDiv, pk_sub, lN_sub, remN, remL, neg1, neg2, negL, negL2, M1e, M1f, M1g, M1h, M1i, M1j, M2e, M2f, L1g, L1h, L1i, L1j, les_eq, les_e, les_n, les_m, cond_true, cond_false, if_true, if_false, fX8_refuse, fX8_allow, fX8_allow_, Nat.not_lt_zero, Nat.reduceAdd, Nat.reduceLT, Nat.reduceLeDiff, Nat.reduceEqDiff, decide_false, decide_true, Bool.not_false, Bool.not_true, C.1, k, fX8_letter, e1]
    · simp (disch := omega) only [lI, lJ, gd_1, bd_1, bv_1, nm_1, ixN, inbN, eqN, leN, ltN, eqL, leL, ltL, beqN, beqL, nI_add, pk_mul, lN_add, lN_mul, nI_l, lN_i, pk_div, pk_lDiv, pk_sub, lN_sub, remN, remL, neg1, neg2, negL, negL2, M1e, M1f, M1g, M1h, M1i, M1j, M2e, M2f, L1g, L1h, L1i, L1j, les_eq, les_e, les_n, les_m, cond_true, cond_false, if_true, if_false, fX9_no, hg, Nat.not_lt_zero, Nat.reduceAdd, Nat.reduceLT, Nat.reduceLeDiff, Nat.reduceEqDiff, decide_false, decide_true, Bool.not_false, Bool.not_true, fX9_letter, e2 g Mg]
set_option maxRecDepth 100000 in
theorem tellsL {kk come : Nat} (h2 : 2 ≤ kk) (h26 : kk ≤ 26) (hc : come < 10000) : ∀ m i v, i + m = come → v ≤ 26000000 → ∃ a, (∀ n, m < n → lq2 (fX8_tells_L58 0 (nI kk) (nI come)) n (lN v) (nI i) h = some (a, sI h 0 16 (nI 0))) ∧ ∀ (g : HH) n, m < n → lq2 (fX9_tells_L60 (nI kk)) n (nI v) (nI m) g = some (a, g) := by
  intro m
  induction m with
  | zero =>
    intro i v e hv
    have : i = come := by omega
    subst this
    refine ⟨nI (min v 1000000), fun n hn => ?_, fun g n hn => ?_⟩
    · obtain ⟨n, rfl⟩ : ∃ q, n = q + 1 := ⟨n - 1, by omega⟩
      simp (disch := omega) only [lI, lJ, gd_1, bd_1, bv_1, nm_1, ixN, inbN, eqN, leN, ltN, eqL, leL, ltL, beqN, beqL, nI_add, pk_mul, lN_add, lN_mul, nI_l, lN_i, pk_div, pk_lDiv, pk_sub, lN_sub, remN, remL, neg1, neg2, negL, negL2, M1e, M1f, M1g, M1h, M1i, M1j, M2e, M2f, L1g, L1h, L1i, L1j, les_eq, les_e, les_n, les_m, lq2, fX8_tells_L58, Nat.le_refl, if_true, minL, fX8_allow]
    · obtain ⟨n, rfl⟩ : ∃ q, n = q + 1 := ⟨n - 1, by omega⟩
      by_cases z : v ≤ 1000000
      · rw [Nat.min_eq_left z]
        simp (disch := omega) only [lI, lJ, gd_1, bd_1, bv_1, nm_1, ixN, inbN, eqN, leN, ltN, eqL, leL, ltL, beqN, beqL, nI_add, pk_mul, lN_add, lN_mul, nI_l, lN_i, pk_div, pk_lDiv, pk_sub, lN_sub, remN, remL, neg1, neg2, negL, negL2, M1e, M1f, M1g, M1h, M1i, M1j, M2e, M2f, L1g, L1h, L1i, L1j, les_eq, les_e, les_n, les_m, lq2, fX9_tells_L60, Nat.le_refl, if_true, z]
      · rw [Nat.min_eq_right (by omega)]
        simp (disch := omega) only [lI, lJ, gd_1, bd_1, bv_1, nm_1, ixN, inbN, eqN, leN, ltN, eqL, leL, ltL, beqN, beqL, nI_add, pk_mul, lN_add, lN_mul, nI_l, lN_i, pk_div, pk_lDiv, pk_sub, lN_sub, remN, remL, neg1, neg2, negL, negL2, M1e, M1f, M1g, M1h, M1i, M1j, M2e, M2f, L1g, L1h, L1i, L1j, les_eq, les_e, les_n, les_m, lq2, fX9_tells_L60, Nat.le_refl, if_true, z, if_false]
  | succ m ih =>
    intro i v e hv
    have n1 : ¬ come ≤ i := by omega
    have n2 : ¬ m + 1 ≤ 0 := by omega
    by_cases w : 1000000 ≤ v
    · refine ⟨nI 1000000, fun n hn => ?_, fun g n hn => ?_⟩
      · obtain ⟨n, rfl⟩ : ∃ q, n = q + 1 := ⟨n - 1, by omega⟩
        have e9 : min v 1000000 = 1000000 := by omega
        simp (disch := omega) only [lI, lJ, gd_1, bd_1, bv_1, nm_1, ixN, inbN, eqN, leN, ltN, eqL, leL, ltL, beqN, beqL, nI_add, pk_mul, lN_add, lN_mul, nI_l, lN_i, pk_div, pk_lDiv, pk_sub, lN_sub, remN, remL, neg1, neg2, negL, negL2, M1e, M1f, M1g, M1h, M1i, M1j, M2e, M2f, L1g, L1h, L1i, L1j, les_eq, les_e, les_n, les_m, lq2, fX8_tells_L58, n1, w, if_true, if_false, minL, fX8_allow, e9]
      · obtain ⟨n, rfl⟩ : ∃ q, n = q + 1 := ⟨n - 1, by omega⟩
        by_cases z : v ≤ 1000000
        · have : v = 1000000 := by omega
          subst this
          simp (disch := omega) only [lI, lJ, gd_1, bd_1, bv_1, nm_1, ixN, inbN, eqN, leN, ltN, eqL, leL, ltL, beqN, beqL, nI_add, pk_mul, lN_add, lN_mul, nI_l, lN_i, pk_div, pk_lDiv, pk_sub, lN_sub, remN, remL, neg1, neg2, negL, negL2, M1e, M1f, M1g, M1h, M1i, M1j, M2e, M2f, L1g, L1h, L1i, L1j, les_eq, les_e, les_n, les_m, lq2, fX9_tells_L60, Nat.le_refl, if_true, if_false, n2]
        · simp (disch := omega) only [lI, lJ, gd_1, bd_1, bv_1, nm_1, ixN, inbN, eqN, leN, ltN, eqL, leL, ltL, beqN, beqL, nI_add, pk_mul, lN_add, lN_mul, nI_l, lN_i, pk_div, pk_lDiv, pk_sub, lN_sub, remN, remL, neg1, neg2, negL, negL2, M1e, M1f, M1g, M1h, M1i, M1j, M2e, M2f, L1g, L1h, L1i, L1j, les_eq, les_e, les_n, les_m, lq2, fX9_tells_L60, if_true, z, w, n2, if_false]
    · have hv2 : v * kk ≤ 1000000 * 26 := Nat.mul_le_mul (by omega) h26
      obtain ⟨a, A, B⟩ := ih (i + 1) (v * kk) (by omega) (by omega)
      refine ⟨a, fun n hn => ?_, fun g n hn => ?_⟩
      · obtain ⟨n, rfl⟩ : ∃ q, n = q + 1 := ⟨n - 1, by omega⟩
        simp (disch := omega) only [lI, lJ, gd_1, bd_1, bv_1, nm_1, ixN, inbN, eqN, leN, ltN, eqL, leL, ltL, beqN, beqL, nI_add, pk_mul, lN_add, lN_mul, nI_l, lN_i, pk_div, pk_lDiv, pk_sub, lN_sub, remN, remL, neg1, neg2, negL, negL2, M1e, M1f, M1g, M1h, M1i, M1j, M2e, M2f, L1g, L1h, L1i, L1j, les_eq, les_e, les_n, les_m, lq2, fX8_tells_L58, n1, w, if_false]
        exact A n (by omega)
      · obtain ⟨n, rfl⟩ : ∃ q, n = q + 1 := ⟨n - 1, by omega⟩
        have e9 : nI (m + 1) + M1 = nI m := pk_m1 m
        simp (disch := omega) only [lI, lJ, gd_1, bd_1, bv_1, nm_1, ixN, inbN, eqN, leN, ltN, eqL, leL, ltL, beqN, beqL, nI_add, pk_mul, lN_add, lN_mul, nI_l, lN_i, pk_div, pk_lDiv, pk_sub, lN_sub, remN, remL, neg1, neg2, negL, negL2, M1e, M1f, M1g, M1h, M1i, M1j, M2e, M2f, L1g, L1h, L1i, L1j, les_eq, les_e, les_n, les_m, lq2, fX9_tells_L60, n2, w, if_false, e9]
        exact B g n (by omega)
set_option maxRecDepth 100000 in
theorem oTells (C : CA h d R N T) (x y w z : Int32) : OpQ h (fX8_tells 0 x y w z h) (fun h1 => fX9_tells 181 x y w z h1) (fun h1 => MA h1 R N T) := by
  have k := isKb_D C.2.1
  have v := C.2.2.2.2.1
  have vF := v.F
  rcases abC C x y with ⟨f, t, hf, ht, rfl, rfl, e1, e2⟩ | ⟨e1, e2⟩
  · have q := v.rt (u := t) (l := f) (by omega) hf
    have n4 : ¬ rt R t f = 0 := by omega
    rcases rg w (lo := 0) (hi := 9999) (by omega) (by omega) with ⟨j, j1, j2, rfl⟩ | hx | ⟨hx1, hx2, hx3⟩
    · have n5 : ¬ 9999 < j := by omega
      rcases rg z (lo := 2) (hi := 26) (by omega) (by omega) with ⟨kk, k1, k2, rfl⟩ | hz | ⟨hz1, hz2, hz3⟩
      · have n6 : ¬ kk < 2 := by omega
        have n7 : ¬ 26 < kk := by omega
        have hd : j / rt R t f < 10000 := Nat.lt_of_le_of_lt (Nat.div_le_self _ _) (by omega)
        have hFU : j / rt R t f < FU := Nat.lt_of_lt_of_le hd (by decide)
        obtain ⟨a, A, B⟩ := tellsL (h := h) (kk := kk) k1 k2 hd (j / rt R t f) 0 1 (by omega) (by omega)
        refine opq a ?_ (fun h1 g Mg hg => ?_)
        · simp (disch := omega) only [lI, lJ, gd_1, bd_1, bv_1, nm_1, ixN, inbN, eqN, leN, ltN, eqL, leL, ltL, beqN, beqL, nI_add, pk_mul, lN_add, lN_mul, nI_l, lN_i, pk_div, pk_lDiv, pk_sub, lN_sub, remN, remL, neg1, neg2, negL, negL2, M1e, M1f, M1g, M1h, M1i, M1j, M2e, M2f, L1g, L1h, L1i, L1j, les_eq, les_e, les_n, les_m, cond_true, cond_false, if_true, if_false, fX8_refuse, fX8_allow, fX8_allow_, Nat.not_lt_zero, Nat.reduceAdd, Nat.reduceLT, Nat.reduceLeDiff, Nat.reduceEqDiff, decide_false, decide_true, Bool.not_false, Bool.not_true, C.1, k, fX8_tells, fX8_isVocabulary, e1, n5, n6, n7, cShr C.2.2.2.1 v (w := j) (f := f) (t := t) (by omega) hf (by omega)]
          exact A FU hFU
        · simp (disch := omega) only [lI, lJ, gd_1, bd_1, bv_1, nm_1, ixN, inbN, eqN, leN, ltN, eqL, leL, ltL, beqN, beqL, nI_add, pk_mul, lN_add, lN_mul, nI_l, lN_i, pk_div, pk_lDiv, pk_sub, lN_sub, remN, remL, neg1, neg2, negL, negL2, M1e, M1f, M1g, M1h, M1i, M1j, M2e, M2f, L1g, L1h, L1i, L1j, les_eq, les_e, les_n, les_m, cond_true, cond_false, if_true, if_false, fX9_no, hg, Nat.not_lt_zero, Nat.reduceAdd, Nat.reduceLT, Nat.reduceLeDiff, Nat.reduceEqDiff, decide_false, decide_true, Bool.not_false, Bool.not_true, fX9_tells, e2 g Mg, wit3, mRatio v Mg.2.1 (f := f) (t := t) hf (by omega), n4]
          exact B g FU hFU
      · refine opr 2 (by omega) (M1) ?_ (fun h1 g Mg hg => ?_)
        · simp (disch := omega) only [lI, lJ, gd_1, bd_1, bv_1, nm_1, ixN, inbN, eqN, leN, ltN, eqL, leL, ltL, beqN, beqL, nI_add, pk_mul, lN_add, lN_mul, nI_l, lN_i, pk_div, pk_lDiv, pk_sub, lN_sub, remN, remL, neg1, neg2, negL, negL2, M1e, M1f, M1g, M1h, M1i, M1j, M2e, M2f, L1g, L1h, L1i, L1j, les_eq, les_e, les_n, les_m, cond_true, cond_false, if_true, if_false, fX8_refuse, fX8_allow, fX8_allow_, Nat.not_lt_zero, Nat.reduceAdd, Nat.reduceLT, Nat.reduceLeDiff, Nat.reduceEqDiff, decide_false, decide_true, Bool.not_false, Bool.not_true, C.1, k, fX8_tells, fX8_isVocabulary, e1, n5, hz]
        · simp (disch := omega) only [lI, lJ, gd_1, bd_1, bv_1, nm_1, ixN, inbN, eqN, leN, ltN, eqL, leL, ltL, beqN, beqL, nI_add, pk_mul, lN_add, lN_mul, nI_l, lN_i, pk_div, pk_lDiv, pk_sub, lN_sub, remN, remL, neg1, neg2, negL, negL2, M1e, M1f, M1g, M1h, M1i, M1j, M2e, M2f, L1g, L1h, L1i, L1j, les_eq, les_e, les_n, les_m, cond_true, cond_false, if_true, if_false, fX9_no, hg, Nat.not_lt_zero, Nat.reduceAdd, Nat.reduceLT, Nat.reduceLeDiff, Nat.reduceEqDiff, decide_false, decide_true, Bool.not_false, Bool.not_true, fX9_tells, e2 g Mg, wit3, wa hz]
      · refine opr 2 (by omega) (M1) ?_ (fun h1 g Mg hg => ?_)
        · simp (disch := omega) only [lI, lJ, gd_1, bd_1, bv_1, nm_1, ixN, inbN, eqN, leN, ltN, eqL, leL, ltL, beqN, beqL, nI_add, pk_mul, lN_add, lN_mul, nI_l, lN_i, pk_div, pk_lDiv, pk_sub, lN_sub, remN, remL, neg1, neg2, negL, negL2, M1e, M1f, M1g, M1h, M1i, M1j, M2e, M2f, L1g, L1h, L1i, L1j, les_eq, les_e, les_n, les_m, cond_true, cond_false, if_true, if_false, fX8_refuse, fX8_allow, fX8_allow_, Nat.not_lt_zero, Nat.reduceAdd, Nat.reduceLT, Nat.reduceLeDiff, Nat.reduceEqDiff, decide_false, decide_true, Bool.not_false, Bool.not_true, C.1, k, fX8_tells, fX8_isVocabulary, e1, n5, hz1, hz2]
        · simp (disch := omega) only [lI, lJ, gd_1, bd_1, bv_1, nm_1, ixN, inbN, eqN, leN, ltN, eqL, leL, ltL, beqN, beqL, nI_add, pk_mul, lN_add, lN_mul, nI_l, lN_i, pk_div, pk_lDiv, pk_sub, lN_sub, remN, remL, neg1, neg2, negL, negL2, M1e, M1f, M1g, M1h, M1i, M1j, M2e, M2f, L1g, L1h, L1i, L1j, les_eq, les_e, les_n, les_m, cond_true, cond_false, if_true, if_false, fX9_no, hg, Nat.not_lt_zero, Nat.reduceAdd, Nat.reduceLT, Nat.reduceLeDiff, Nat.reduceEqDiff, decide_false, decide_true, Bool.not_false, Bool.not_true, fX9_tells, e2 g Mg, wit3, wb hz1 hz2]
    · refine opr 2 (by omega) (M1) ?_ (fun h1 g Mg hg => ?_)
      · simp (disch := omega) only [lI, lJ, gd_1, bd_1, bv_1, nm_1, ixN, inbN, eqN, leN, ltN, eqL, leL, ltL, beqN, beqL, nI_add, pk_mul, lN_add, lN_mul, nI_l, lN_i, pk_div, pk_lDiv, pk_sub, lN_sub, remN, remL, neg1, neg2, negL, negL2, M1e, M1f, M1g, M1h, M1i, M1j, M2e, M2f, L1g, L1h, L1i, L1j, les_eq, les_e, les_n, les_m, cond_true, cond_false, if_true, if_false, fX8_refuse, fX8_allow, fX8_allow_, Nat.not_lt_zero, Nat.reduceAdd, Nat.reduceLT, Nat.reduceLeDiff, Nat.reduceEqDiff, decide_false, decide_true, Bool.not_false, Bool.not_true, C.1, k, fX8_tells, e1, hx]
      · simp (disch := omega) only [lI, lJ, gd_1, bd_1, bv_1, nm_1, ixN, inbN, eqN, leN, ltN, eqL, leL, ltL, beqN, beqL, nI_add, pk_mul, lN_add, lN_mul, nI_l, lN_i, pk_div, pk_lDiv, pk_sub, lN_sub, remN, remL, neg1, neg2, negL, negL2, M1e, M1f, M1g, M1h, M1i, M1j, M2e, M2f, L1g, L1h, L1i, L1j, les_eq, les_e, les_n, les_m, cond_true, cond_false, if_true, if_false, fX9_no, hg, Nat.not_lt_zero, Nat.reduceAdd, Nat.reduceLT, Nat.reduceLeDiff, Nat.reduceEqDiff, decide_false, decide_true, Bool.not_false, Bool.not_true, fX9_tells, e2 g Mg, wa hx]
    · refine opr 2 (by omega) (M1) ?_ (fun h1 g Mg hg => ?_)
      · simp (disch := omega) only [lI, lJ, gd_1, bd_1, bv_1, nm_1, ixN, inbN, eqN, leN, ltN, eqL, leL, ltL, beqN, beqL, nI_add, pk_mul, lN_add, lN_mul, nI_l, lN_i, pk_div, pk_lDiv, pk_sub, lN_sub, remN, remL, neg1, neg2, negL, negL2, M1e, M1f, M1g, M1h, M1i, M1j, M2e, M2f, L1g, L1h, L1i, L1j, les_eq, les_e, les_n, les_m, cond_true, cond_false, if_true, if_false, fX8_refuse, fX8_allow, fX8_allow_, Nat.not_lt_zero, Nat.reduceAdd, Nat.reduceLT, Nat.reduceLeDiff, Nat.reduceEqDiff, decide_false, decide_true, Bool.not_false, Bool.not_true, C.1, k, fX8_tells, e1, hx1, hx2]
      · simp (disch := omega) only [lI, lJ, gd_1, bd_1, bv_1, nm_1, ixN, inbN, eqN, leN, ltN, eqL, leL, ltL, beqN, beqL, nI_add, pk_mul, lN_add, lN_mul, nI_l, lN_i, pk_div, pk_lDiv, pk_sub, lN_sub, remN, remL, neg1, neg2, negL, negL2, M1e, M1f, M1g, M1h, M1i, M1j, M2e, M2f, L1g, L1h, L1i, L1j, les_eq, les_e, les_n, les_m, cond_true, cond_false, if_true, if_false, fX9_no, hg, Nat.not_lt_zero, Nat.reduceAdd, Nat.reduceLT, Nat.reduceLeDiff, Nat.reduceEqDiff, decide_false, decide_true, Bool.not_false, Bool.not_true, fX9_tells, e2 g Mg, wb hx1 hx2]
  · refine opr 1 (by omega) (M1) ?_ (fun h1 g Mg hg => ?_)
    · simp (disch := omega) only [lI, lJ, gd_1, bd_1, bv_1, nm_1, ixN, inbN, eqN, leN, ltN, eqL, leL, ltL, beqN, beqL, nI_add, pk_mul, lN_add, lN_mul, nI_l, lN_i, pk_div, pk_lDiv, pk_sub, lN_sub, remN, remL, neg1, neg2, negL, negL2, M1e, M1f, M1g, M1h, M1i, M1j, M2e, M2f, L1g, L1h, L1i, L1j, les_eq, les_e, les_n, les_m, cond_true, cond_false, if_true, if_false, fX8_refuse, fX8_allow, fX8_allow_, Nat.not_lt_zero, Nat.reduceAdd, Nat.reduceLT, Nat.reduceLeDiff, Nat.reduceEqDiff, decide_false, decide_true, Bool.not_false, Bool.not_true, C.1, k, fX8_tells, e1]
    · simp (disch := omega) only [lI, lJ, gd_1, bd_1, bv_1, nm_1, ixN, inbN, eqN, leN, ltN, eqL, leL, ltL, beqN, beqL, nI_add, pk_mul, lN_add, lN_mul, nI_l, lN_i, pk_div, pk_lDiv, pk_sub, lN_sub, remN, remL, neg1, neg2, negL, negL2, M1e, M1f, M1g, M1h, M1i, M1j, M2e, M2f, L1g, L1h, L1i, L1j, les_eq, les_e, les_n, les_m, cond_true, cond_false, if_true, if_false, fX9_no, hg, Nat.not_lt_zero, Nat.reduceAdd, Nat.reduceLT, Nat.reduceLeDiff, Nat.reduceEqDiff, decide_false, decide_true, Bool.not_false, Bool.not_true, fX9_tells, e2 g Mg]
set_option maxRecDepth 100000 in
theorem wordsL (C : CA h d R N T) {f t m kk : Nat} (hf : f ≤ R 0) (ht : t < f) (hm : m ≤ 1000000) (h2 : 2 ≤ kk) (h26 : kk ≤ 26) : ∀ j w v, w + j = 20 → 2 ^ w ≤ v → v ≤ 26000000 → ∃ a, (∀ n, j < n → lq2 (fX8_words_L49 0 (nI f) (nI t) (nI m) (nI kk)) n (lN w) (lN v) h = some (a, sI h 0 16 (nI 0))) ∧ ∀ (g : HH) n, MA g R N T → j < n → lq2 (fX9_words_L55 181 (nI f) (nI t) (nI m) (nI kk)) n (lN w) (lN v) g = some (a, g) := by
  have k := isKb_D C.2.1
  have vv := C.2.2.2.2.1
  have q := vv.rt (u := t) (l := f) (by omega) hf
  intro j
  induction j with
  | zero =>
    intro w v e hw hv
    have : w = 20 := by omega
    subst this
    have hle : m ≤ v := by omega
    refine ⟨lN (20 * rt R t f), fun n hn => ?_, fun g n Mg hn => ?_⟩
    · obtain ⟨n, rfl⟩ : ∃ q, n = q + 1 := ⟨n - 1, by omega⟩
      simp (disch := omega) only [lI, lJ, gd_1, bd_1, bv_1, nm_1, ixN, inbN, eqN, leN, ltN, eqL, leL, ltL, beqN, beqL, nI_add, pk_mul, lN_add, lN_mul, nI_l, lN_i, pk_div, pk_lDiv, pk_sub, lN_sub, remN, remL, neg1, neg2, negL, negL2, M1e, M1f, M1g, M1h, M1i, M1j, M2e, M2f, L1g, L1h, L1i, L1j, les_eq, les_e, les_n, les_m, cond_true, cond_false, if_true, if_false, fX8_refuse, fX8_allow, fX8_allow_, Nat.not_lt_zero, Nat.reduceAdd, Nat.reduceLT, Nat.reduceLeDiff, Nat.reduceEqDiff, decide_false, decide_true, Bool.not_false, Bool.not_true, C.1, k, lq2, fX8_words_L49, hle, cRatio C.2.2.2.1 vv (u := t) (l := f) (by omega) hf]
    · obtain ⟨n, rfl⟩ : ∃ q, n = q + 1 := ⟨n - 1, by omega⟩
      simp (disch := omega) only [lI, lJ, gd_1, bd_1, bv_1, nm_1, ixN, inbN, eqN, leN, ltN, eqL, leL, ltL, beqN, beqL, nI_add, pk_mul, lN_add, lN_mul, nI_l, lN_i, pk_div, pk_lDiv, pk_sub, lN_sub, remN, remL, neg1, neg2, negL, negL2, M1e, M1f, M1g, M1h, M1i, M1j, M2e, M2f, L1g, L1h, L1i, L1j, les_eq, les_e, les_n, les_m, lq2, fX9_words_L55, hle, if_true, mRatio vv Mg.2.1 (f := f) (t := t) hf (by omega)]
  | succ j ih =>
    intro w v e hw hv
    by_cases hle : m ≤ v
    · refine ⟨lN (w * rt R t f), fun n hn => ?_, fun g n Mg hn => ?_⟩
      · obtain ⟨n, rfl⟩ : ∃ q, n = q + 1 := ⟨n - 1, by omega⟩
        simp (disch := omega) only [lI, lJ, gd_1, bd_1, bv_1, nm_1, ixN, inbN, eqN, leN, ltN, eqL, leL, ltL, beqN, beqL, nI_add, pk_mul, lN_add, lN_mul, nI_l, lN_i, pk_div, pk_lDiv, pk_sub, lN_sub, remN, remL, neg1, neg2, negL, negL2, M1e, M1f, M1g, M1h, M1i, M1j, M2e, M2f, L1g, L1h, L1i, L1j, les_eq, les_e, les_n, les_m, cond_true, cond_false, if_true, if_false, fX8_refuse, fX8_allow, fX8_allow_, Nat.not_lt_zero, Nat.reduceAdd, Nat.reduceLT, Nat.reduceLeDiff, Nat.reduceEqDiff, decide_false, decide_true, Bool.not_false, Bool.not_true, C.1, k, lq2, fX8_words_L49, hle, cRatio C.2.2.2.1 vv (u := t) (l := f) (by omega) hf]
      · obtain ⟨n, rfl⟩ : ∃ q, n = q + 1 := ⟨n - 1, by omega⟩
        simp (disch := omega) only [lI, lJ, gd_1, bd_1, bv_1, nm_1, ixN, inbN, eqN, leN, ltN, eqL, leL, ltL, beqN, beqL, nI_add, pk_mul, lN_add, lN_mul, nI_l, lN_i, pk_div, pk_lDiv, pk_sub, lN_sub, remN, remL, neg1, neg2, negL, negL2, M1e, M1f, M1g, M1h, M1i, M1j, M2e, M2f, L1g, L1h, L1i, L1j, les_eq, les_e, les_n, les_m, lq2, fX9_words_L55, hle, if_true, mRatio vv Mg.2.1 (f := f) (t := t) hf (by omega)]
    · have n5 : ¬ 1000000 ≤ w := by omega
      have hv2 : v * kk ≤ 1000000 * 26 := Nat.mul_le_mul (by omega) h26
      have hv3 : 2 ^ w * 2 ≤ v * kk := Nat.mul_le_mul hw h2
      obtain ⟨a, A, B⟩ := ih (w + 1) (v * kk) (by omega) (by rw [Nat.pow_succ]; exact hv3) (by omega)
      refine ⟨a, fun n hn => ?_, fun g n Mg hn => ?_⟩
      · obtain ⟨n, rfl⟩ : ∃ q, n = q + 1 := ⟨n - 1, by omega⟩
        simp (disch := omega) only [lI, lJ, gd_1, bd_1, bv_1, nm_1, ixN, inbN, eqN, leN, ltN, eqL, leL, ltL, beqN, beqL, nI_add, pk_mul, lN_add, lN_mul, nI_l, lN_i, pk_div, pk_lDiv, pk_sub, lN_sub, remN, remL, neg1, neg2, negL, negL2, M1e, M1f, M1g, M1h, M1i, M1j, M2e, M2f, L1g, L1h, L1i, L1j, les_eq, les_e, les_n, les_m, lq2, fX8_words_L49, hle, n5, if_false]
        exact A n (by omega)
      · obtain ⟨n, rfl⟩ : ∃ q, n = q + 1 := ⟨n - 1, by omega⟩
        simp (disch := omega) only [lI, lJ, gd_1, bd_1, bv_1, nm_1, ixN, inbN, eqN, leN, ltN, eqL, leL, ltL, beqN, beqL, nI_add, pk_mul, lN_add, lN_mul, nI_l, lN_i, pk_div, pk_lDiv, pk_sub, lN_sub, remN, remL, neg1, neg2, negL, negL2, M1e, M1f, M1g, M1h, M1i, M1j, M2e, M2f, L1g, L1h, L1i, L1j, les_eq, les_e, les_n, les_m, lq2, fX9_words_L55, hle, if_false]
        exact B g n Mg (by omega)
set_option maxRecDepth 100000 in
theorem oWords (C : CA h d R N T) (x y w z : Int32) : OpQ h (fX8_words 0 x y w z h) (fun h1 => fX9_words 181 x y w z h1) (fun h1 => MA h1 R N T) := by
  have k := isKb_D C.2.1
  have v := C.2.2.2.2.1
  have vF := v.F
  rcases abC C x y with ⟨f, t, hf, ht, rfl, rfl, e1, e2⟩ | ⟨e1, e2⟩
  · rcases rg w (lo := 1) (hi := 1000000) (by omega) (by omega) with ⟨j, j1, j2, rfl⟩ | hx | ⟨hx1, hx2, hx3⟩
    · have n5 : ¬ 1000000 < j := by omega
      have n8 : ¬ j < 1 := by omega
      rcases rg z (lo := 2) (hi := 26) (by omega) (by omega) with ⟨kk, k1, k2, rfl⟩ | hz | ⟨hz1, hz2, hz3⟩
      · have n6 : ¬ kk < 2 := by omega
        have n7 : ¬ 26 < kk := by omega
        obtain ⟨a, A, B⟩ := wordsL C (m := j) (kk := kk) hf ht j2 k1 k2 20 0 1 (by omega) (by omega) (by omega)
        refine opq a ?_ (fun h1 g Mg hg => ?_)
        · simp (disch := omega) only [lI, lJ, gd_1, bd_1, bv_1, nm_1, ixN, inbN, eqN, leN, ltN, eqL, leL, ltL, beqN, beqL, nI_add, pk_mul, lN_add, lN_mul, nI_l, lN_i, pk_div, pk_lDiv, pk_sub, lN_sub, remN, remL, neg1, neg2, negL, negL2, M1e, M1f, M1g, M1h, M1i, M1j, M2e, M2f, L1g, L1h, L1i, L1j, les_eq, les_e, les_n, les_m, cond_true, cond_false, if_true, if_false, fX8_refuse, fX8_allow, fX8_allow_, Nat.not_lt_zero, Nat.reduceAdd, Nat.reduceLT, Nat.reduceLeDiff, Nat.reduceEqDiff, decide_false, decide_true, Bool.not_false, Bool.not_true, C.1, k, fX8_words, fX8_isVocabulary, e1, n5, n6, n7, n8]
          exact A FU (by unfold FU; omega)
        · simp (disch := omega) only [lI, lJ, gd_1, bd_1, bv_1, nm_1, ixN, inbN, eqN, leN, ltN, eqL, leL, ltL, beqN, beqL, nI_add, pk_mul, lN_add, lN_mul, nI_l, lN_i, pk_div, pk_lDiv, pk_sub, lN_sub, remN, remL, neg1, neg2, negL, negL2, M1e, M1f, M1g, M1h, M1i, M1j, M2e, M2f, L1g, L1h, L1i, L1j, les_eq, les_e, les_n, les_m, cond_true, cond_false, if_true, if_false, fX9_no, hg, Nat.not_lt_zero, Nat.reduceAdd, Nat.reduceLT, Nat.reduceLeDiff, Nat.reduceEqDiff, decide_false, decide_true, Bool.not_false, Bool.not_true, fX9_words, e2 g Mg, wit3]
          exact B g FU Mg (by unfold FU; omega)
      · refine opr 2 (by omega) (M1.toInt64) ?_ (fun h1 g Mg hg => ?_)
        · simp (disch := omega) only [lI, lJ, gd_1, bd_1, bv_1, nm_1, ixN, inbN, eqN, leN, ltN, eqL, leL, ltL, beqN, beqL, nI_add, pk_mul, lN_add, lN_mul, nI_l, lN_i, pk_div, pk_lDiv, pk_sub, lN_sub, remN, remL, neg1, neg2, negL, negL2, M1e, M1f, M1g, M1h, M1i, M1j, M2e, M2f, L1g, L1h, L1i, L1j, les_eq, les_e, les_n, les_m, cond_true, cond_false, if_true, if_false, fX8_refuse, fX8_allow, fX8_allow_, Nat.not_lt_zero, Nat.reduceAdd, Nat.reduceLT, Nat.reduceLeDiff, Nat.reduceEqDiff, decide_false, decide_true, Bool.not_false, Bool.not_true, C.1, k, fX8_words, fX8_isVocabulary, e1, n5, n8, hz]
        · simp (disch := omega) only [lI, lJ, gd_1, bd_1, bv_1, nm_1, ixN, inbN, eqN, leN, ltN, eqL, leL, ltL, beqN, beqL, nI_add, pk_mul, lN_add, lN_mul, nI_l, lN_i, pk_div, pk_lDiv, pk_sub, lN_sub, remN, remL, neg1, neg2, negL, negL2, M1e, M1f, M1g, M1h, M1i, M1j, M2e, M2f, L1g, L1h, L1i, L1j, les_eq, les_e, les_n, les_m, cond_true, cond_false, if_true, if_false, fX9_no, hg, Nat.not_lt_zero, Nat.reduceAdd, Nat.reduceLT, Nat.reduceLeDiff, Nat.reduceEqDiff, decide_false, decide_true, Bool.not_false, Bool.not_true, fX9_words, e2 g Mg, wit3, wa hz]
      · refine opr 2 (by omega) (M1.toInt64) ?_ (fun h1 g Mg hg => ?_)
        · simp (disch := omega) only [lI, lJ, gd_1, bd_1, bv_1, nm_1, ixN, inbN, eqN, leN, ltN, eqL, leL, ltL, beqN, beqL, nI_add, pk_mul, lN_add, lN_mul, nI_l, lN_i, pk_div, pk_lDiv, pk_sub, lN_sub, remN, remL, neg1, neg2, negL, negL2, M1e, M1f, M1g, M1h, M1i, M1j, M2e, M2f, L1g, L1h, L1i, L1j, les_eq, les_e, les_n, les_m, cond_true, cond_false, if_true, if_false, fX8_refuse, fX8_allow, fX8_allow_, Nat.not_lt_zero, Nat.reduceAdd, Nat.reduceLT, Nat.reduceLeDiff, Nat.reduceEqDiff, decide_false, decide_true, Bool.not_false, Bool.not_true, C.1, k, fX8_words, fX8_isVocabulary, e1, n5, n8, hz1, hz2]
        · simp (disch := omega) only [lI, lJ, gd_1, bd_1, bv_1, nm_1, ixN, inbN, eqN, leN, ltN, eqL, leL, ltL, beqN, beqL, nI_add, pk_mul, lN_add, lN_mul, nI_l, lN_i, pk_div, pk_lDiv, pk_sub, lN_sub, remN, remL, neg1, neg2, negL, negL2, M1e, M1f, M1g, M1h, M1i, M1j, M2e, M2f, L1g, L1h, L1i, L1j, les_eq, les_e, les_n, les_m, cond_true, cond_false, if_true, if_false, fX9_no, hg, Nat.not_lt_zero, Nat.reduceAdd, Nat.reduceLT, Nat.reduceLeDiff, Nat.reduceEqDiff, decide_false, decide_true, Bool.not_false, Bool.not_true, fX9_words, e2 g Mg, wit3, wb hz1 hz2]
    · refine opr 2 (by omega) (M1.toInt64) ?_ (fun h1 g Mg hg => ?_)
      · simp (disch := omega) only [lI, lJ, gd_1, bd_1, bv_1, nm_1, ixN, inbN, eqN, leN, ltN, eqL, leL, ltL, beqN, beqL, nI_add, pk_mul, lN_add, lN_mul, nI_l, lN_i, pk_div, pk_lDiv, pk_sub, lN_sub, remN, remL, neg1, neg2, negL, negL2, M1e, M1f, M1g, M1h, M1i, M1j, M2e, M2f, L1g, L1h, L1i, L1j, les_eq, les_e, les_n, les_m, cond_true, cond_false, if_true, if_false, fX8_refuse, fX8_allow, fX8_allow_, Nat.not_lt_zero, Nat.reduceAdd, Nat.reduceLT, Nat.reduceLeDiff, Nat.reduceEqDiff, decide_false, decide_true, Bool.not_false, Bool.not_true, C.1, k, fX8_words, e1, hx]
      · simp (disch := omega) only [lI, lJ, gd_1, bd_1, bv_1, nm_1, ixN, inbN, eqN, leN, ltN, eqL, leL, ltL, beqN, beqL, nI_add, pk_mul, lN_add, lN_mul, nI_l, lN_i, pk_div, pk_lDiv, pk_sub, lN_sub, remN, remL, neg1, neg2, negL, negL2, M1e, M1f, M1g, M1h, M1i, M1j, M2e, M2f, L1g, L1h, L1i, L1j, les_eq, les_e, les_n, les_m, cond_true, cond_false, if_true, if_false, fX9_no, hg, Nat.not_lt_zero, Nat.reduceAdd, Nat.reduceLT, Nat.reduceLeDiff, Nat.reduceEqDiff, decide_false, decide_true, Bool.not_false, Bool.not_true, fX9_words, e2 g Mg, wa hx]
    · refine opr 2 (by omega) (M1.toInt64) ?_ (fun h1 g Mg hg => ?_)
      · simp (disch := omega) only [lI, lJ, gd_1, bd_1, bv_1, nm_1, ixN, inbN, eqN, leN, ltN, eqL, leL, ltL, beqN, beqL, nI_add, pk_mul, lN_add, lN_mul, nI_l, lN_i, pk_div, pk_lDiv, pk_sub, lN_sub, remN, remL, neg1, neg2, negL, negL2, M1e, M1f, M1g, M1h, M1i, M1j, M2e, M2f, L1g, L1h, L1i, L1j, les_eq, les_e, les_n, les_m, cond_true, cond_false, if_true, if_false, fX8_refuse, fX8_allow, fX8_allow_, Nat.not_lt_zero, Nat.reduceAdd, Nat.reduceLT, Nat.reduceLeDiff, Nat.reduceEqDiff, decide_false, decide_true, Bool.not_false, Bool.not_true, C.1, k, fX8_words, e1, hx1, hx2]
      · simp (disch := omega) only [lI, lJ, gd_1, bd_1, bv_1, nm_1, ixN, inbN, eqN, leN, ltN, eqL, leL, ltL, beqN, beqL, nI_add, pk_mul, lN_add, lN_mul, nI_l, lN_i, pk_div, pk_lDiv, pk_sub, lN_sub, remN, remL, neg1, neg2, negL, negL2, M1e, M1f, M1g, M1h, M1i, M1j, M2e, M2f, L1g, L1h, L1i, L1j, les_eq, les_e, les_n, les_m, cond_true, cond_false, if_true, if_false, fX9_no, hg, Nat.not_lt_zero, Nat.reduceAdd, Nat.reduceLT, Nat.reduceLeDiff, Nat.reduceEqDiff, decide_false, decide_true, Bool.not_false, Bool.not_true, fX9_words, e2 g Mg, wb hx1 hx2]
  · refine opr 1 (by omega) (M1.toInt64) ?_ (fun h1 g Mg hg => ?_)
    · simp (disch := omega) only [lI, lJ, gd_1, bd_1, bv_1, nm_1, ixN, inbN, eqN, leN, ltN, eqL, leL, ltL, beqN, beqL, nI_add, pk_mul, lN_add, lN_mul, nI_l, lN_i, pk_div, pk_lDiv, pk_sub, lN_sub, remN, remL, neg1, neg2, negL, negL2, M1e, M1f, M1g, M1h, M1i, M1j, M2e, M2f, L1g, L1h, L1i, L1j, les_eq, les_e, les_n, les_m, cond_true, cond_false, if_true, if_false, fX8_refuse, fX8_allow, fX8_allow_, Nat.not_lt_zero, Nat.reduceAdd, Nat.reduceLT, Nat.reduceLeDiff, Nat.reduceEqDiff, decide_false, decide_true, Bool.not_false, Bool.not_true, C.1, k, fX8_words, e1]
    · simp (disch := omega) only [lI, lJ, gd_1, bd_1, bv_1, nm_1, ixN, inbN, eqN, leN, ltN, eqL, leL, ltL, beqN, beqL, nI_add, pk_mul, lN_add, lN_mul, nI_l, lN_i, pk_div, pk_lDiv, pk_sub, lN_sub, remN, remL, neg1, neg2, negL, negL2, M1e, M1f, M1g, M1h, M1i, M1j, M2e, M2f, L1g, L1h, L1i, L1j, les_eq, les_e, les_n, les_m, cond_true, cond_false, if_true, if_false, fX9_no, hg, Nat.not_lt_zero, Nat.reduceAdd, Nat.reduceLT, Nat.reduceLeDiff, Nat.reduceEqDiff, decide_false, decide_true, Bool.not_false, Bool.not_true, fX9_words, e2 g Mg]
end OPS
