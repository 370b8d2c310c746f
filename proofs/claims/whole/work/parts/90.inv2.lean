section OPG2
variable {h : HH} {d n : Nat} {R N T : Nat → Nat}
set_option maxRecDepth 100000 in
theorem gRates (G : GR h) (B : TRB h) (D : GD h d R N T) {q : Nat} (hq : q ≤ n) (Q : MtR h q) : OpG h n (fun h => fX8_rates 0 h) (fun h => fX9_rates 181 h) := by
  have C := D.1
  have k := isKb_D C.2.1
  have v := C.2.2.2.2.1
  have c3 := C.2.2.1
  have z1 : ¬ (1 : Nat) = 0 := by omega
  obtain ⟨h', e1, r1, F1, K1⟩ := cFit C.2.2.2.1 C.2.1 v D.2.2.2.2.2
  have K2 : Keep PZ h (sI h' 0 16 (nI 0)) := Keep.sI (K1.mono (fun x k hp => by unfold PZ at hp; unfold PF3; omega)) (by unfold PZ; omega)
  have f1 := F1.1
  refine opZ G B D (nI (cf (vd R (R 0) 1 1) (11 ^ R 0))) 0 (by omega) (h1 := sI h' 0 16 (nI 0)) ?_ (gIs _ _ _ _) K2 (D.2.2.2.2.1.keep (Keep.sI (K1.mono (fun x k hp => by unfold PF3; omega)) (by omega))) (Or.inr ⟨by rw [gIa (by omega)]; exact r1, F1.keep (Keep.sI Keep.rfl (by omega))⟩) (show q ≤ n + 1 by omega) (Q.keep (Keep.sI (K1.mono (fun x k hp => by unfold PF3; omega)) (by omega))) (mAns (fun h1 g Mg hg => ?_))
  · simp (disch := omega) only [lI, lJ, gd_1, bd_1, bv_1, nm_1, ixN, inbN, eqN, leN, ltN, eqL, leL, ltL, beqN, beqL, nI_add, pk_mul, lN_add, lN_mul, nI_l, lN_i, pk_div, pk_lDiv, pk_sub, lN_sub, remN, remL, neg1, neg2, negL, negL2, M1e, M1f, M1g, M1h, M1i, M1j, M2e, M2f, L1g, L1h, L1i, L1j, les_eq, les_e, les_n, les_m, cond_true, cond_false, if_true, if_false, fX8_refuse, fX8_allow, fX8_allow_, Nat.not_lt_zero, Nat.reduceAdd, Nat.reduceLT, Nat.reduceLeDiff, Nat.reduceEqDiff, decide_false, decide_true, Bool.not_false, Bool.not_true, C.1, k, fX8_rates, c3, z1, e1, f1]
  · obtain ⟨g', e, F, K⟩ := mRates Mg.2.1 v
    have f41 := F.1
    refine ⟨g', ?_, K.mono PT_PM, (K 181 11 (by unfold PT; omega)).1⟩
    simp (disch := omega) only [lI, gd_1, bd_1, bv_1, inbN, ixN, eqN, fX9_rates, hg, Mg.1, z1, if_false, e, f41]
/-- the only rate -/
def oR (b : Int32) : Nat → Nat → Int32
  | 0, _ => M2
  | n + 1, x => if b = nI 1 <<< (nI x &&& nI 31) then nI x else oR b n (x + 1)
set_option maxRecDepth 100000 in
theorem cOnly {f : Nat} (h1 : 1 ≤ f) (h4 : f ≤ 4) : fX1_onlyRate 39 (nI f) h = some (oR (gI h 40 f) 11 2, h) := by
  have main : ∀ m x fu, x + m = 13 → m < fu → lq1 (fX1_onlyRate_L15 39 (nI f)) fu (nI x) h = some (oR (gI h 40 f) m x, h) := by
    intro m
    induction m with
    | zero =>
      intro x fu e hf
      obtain ⟨fu, rfl⟩ : ∃ q, fu = q + 1 := ⟨fu - 1, by omega⟩
      have n1 : 12 < x := by omega
      simp (disch := omega) only [lI, neg2, lq1, fX1_onlyRate_L15, ltN, n1, if_true, oR]
    | succ m ih =>
      intro x fu e hf
      obtain ⟨fu, rfl⟩ : ∃ q, fu = q + 1 := ⟨fu - 1, by omega⟩
      have n1 : ¬ 12 < x := by omega
      have key := ih (x + 1) fu (by omega) (by omega)
      show _ = some (if gI h 40 f = nI 1 <<< (nI x &&& nI 31) then nI x else oR (gI h 40 f) m (x + 1), h)
      by_cases c : gI h 40 f = nI 1 <<< (nI x &&& nI 31)
      · rw [if_pos c]
        simp (disch := omega) only [lI, gd_1, inbN, ixN, lq1, fX1_onlyRate_L15, ltN, n1, if_false, Nat.reduceAdd, eq_true c, if_true]
      · rw [if_neg c]
        simp (disch := omega) only [lI, gd_1, inbN, ixN, nI_add, lq1, fX1_onlyRate_L15, ltN, n1, if_false, Nat.reduceAdd, c]
        exact key
  have n1 : ¬ f < 1 := by omega
  simp (disch := omega) only [lI, fX1_onlyRate, ltN, n1, if_false, leN, h4, if_true]
  exact main 11 2 FU (by omega) (by unfold FU; omega)
set_option maxRecDepth 100000 in
theorem mOnly {g : HH} {f : Nat} (h1 : 1 ≤ f) (h4 : f ≤ 4) : ∀ m x fu, x + m = 13 → m < fu → lq1 (fX9_rate_L28 181 (nI f)) fu (nI x) g = some (oR (gI g 199 (f - 1)) m x, g) := by
  intro m
  induction m with
  | zero =>
    intro x fu e hf
    obtain ⟨fu, rfl⟩ : ∃ q, fu = q + 1 := ⟨fu - 1, by omega⟩
    have n1 : 13 ≤ x := by omega
    simp (disch := omega) only [lI, neg2, lq1, fX9_rate_L28, leN, n1, if_true, oR]
  | succ m ih =>
    intro x fu e hf
    obtain ⟨fu, rfl⟩ : ∃ q, fu = q + 1 := ⟨fu - 1, by omega⟩
    have n1 : ¬ 13 ≤ x := by omega
    have key := ih (x + 1) fu (by omega) (by omega)
    show _ = some (if gI g 199 (f - 1) = nI 1 <<< (nI x &&& nI 31) then nI x else oR (gI g 199 (f - 1)) m (x + 1), g)
    by_cases c : gI g 199 (f - 1) = nI 1 <<< (nI x &&& nI 31)
    · rw [if_pos c]
      simp (disch := omega) only [lI, gd_1, inbN, ixN, pk_sub, lq1, fX9_rate_L28, leN, n1, if_false, Nat.reduceAdd, eq_true c, if_true]
    · rw [if_neg c]
      simp (disch := omega) only [lI, gd_1, inbN, ixN, pk_sub, nI_add, lq1, fX9_rate_L28, leN, n1, if_false, Nat.reduceAdd, c]
      exact key
set_option maxRecDepth 100000 in
theorem gRate (G : GR h) (B : TRB h) (D : GD h d R N T) {q : Nat} (hq : q ≤ n) (Q : MtR h q) (x : Int32) : OpG h n (fun h => fX8_rate 0 x h) (fun h => fX9_rate 181 x h) := by
  have C := D.1
  have k := isKb_D C.2.1
  have v := C.2.2.2.2.1
  have vF := v.F
  rcases dfC C x with ⟨f, hf1, hf2, rfl, e1, e2, e3⟩ | ⟨e1, e3⟩
  · obtain ⟨h', e4, r1, F1, K1⟩ := cFit C.2.2.2.1 C.2.1 v D.2.2.2.2.2
    have K2 : Keep PZ h (sI h' 0 16 (nI 0)) := Keep.sI (K1.mono (fun x k hp => by unfold PZ at hp; unfold PF3; omega)) (by unfold PZ; omega)
    have f0 : ¬ f = 0 := by omega
    refine opZ G B D (oR (gI h' 40 f) 11 2) 0 (by omega) (h1 := sI h' 0 16 (nI 0)) ?_ (gIs _ _ _ _) K2 (D.2.2.2.2.1.keep (Keep.sI (K1.mono (fun x k hp => by unfold PF3; omega)) (by omega))) (Or.inr ⟨by rw [gIa (by omega)]; exact r1, F1.keep (Keep.sI Keep.rfl (by omega))⟩) (show q ≤ n + 1 by omega) (Q.keep (Keep.sI (K1.mono (fun x k hp => by unfold PF3; omega)) (by omega))) (mAns (fun h1 g Mg hg => ?_))
    · simp (disch := omega) only [lI, lJ, gd_1, bd_1, bv_1, nm_1, ixN, inbN, eqN, leN, ltN, eqL, leL, ltL, beqN, beqL, nI_add, pk_mul, lN_add, lN_mul, nI_l, lN_i, pk_div, pk_lDiv, pk_sub, lN_sub, remN, remL, neg1, neg2, negL, negL2, M1e, M1f, M1g, M1h, M1i, M1j, M2e, M2f, L1g, L1h, L1i, L1j, les_eq, les_e, les_n, les_m, cond_true, cond_false, if_true, if_false, fX8_refuse, fX8_allow, fX8_allow_, Nat.not_lt_zero, Nat.reduceAdd, Nat.reduceLT, Nat.reduceLeDiff, Nat.reduceEqDiff, decide_false, decide_true, Bool.not_false, Bool.not_true, C.1, k, fX8_rate, e1, e4, cOnly hf1 (show f ≤ 4 by omega)]
    · obtain ⟨g', e, F, K⟩ := mRates Mg.2.1 v
      have eb : gI h' 40 f = gI g' 199 (f - 1) := (F1.2 f hf1 hf2).eq (F.2 (f - 1) (by omega))
      rw [eb]
      have mo := mOnly (g := g') hf1 (show f ≤ 4 by omega) 11 2 FU (by omega) (by unfold FU; omega)
      refine ⟨g', ?_, K.mono PT_PM, (K 181 11 (by unfold PT; omega)).1⟩
      simp (disch := omega) only [lI, gd_1, bd_1, bv_1, inbN, ixN, eqN, fX9_rate, hg, e3 g Mg, cond_true, f0, if_false, e]
      exact mo
  · refine OpW.G G B D hq Q ⟨M1, 1, by omega, ⟨_, by simp (disch := omega) only [lI, lJ, gd_1, bd_1, bv_1, nm_1, ixN, inbN, eqN, leN, ltN, eqL, leL, ltL, beqN, beqL, nI_add, pk_mul, lN_add, lN_mul, nI_l, lN_i, pk_div, pk_lDiv, pk_sub, lN_sub, remN, remL, neg1, neg2, negL, negL2, M1e, M1f, M1g, M1h, M1i, M1j, M2e, M2f, L1g, L1h, L1i, L1j, les_eq, les_e, les_n, les_m, cond_true, cond_false, if_true, if_false, fX8_refuse, fX8_allow, fX8_allow_, Nat.not_lt_zero, Nat.reduceAdd, Nat.reduceLT, Nat.reduceLeDiff, Nat.reduceEqDiff, decide_false, decide_true, Bool.not_false, Bool.not_true, C.1, k, fX8_rate, e1], gIs _ _ _ _, Keep.sI Keep.rfl (by unfold PQ; omega)⟩, mRef (fun h1 g Mg hg => ?_)⟩
    rcases e3 with z | ⟨z0, z⟩
    · simp (disch := omega) only [lI, gd_1, bd_1, bv_1, neg1, fX9_rate, fX9_no, hg, z g Mg, cond_false]
    · subst z0
      simp (disch := omega) only [lI, gd_1, bd_1, bv_1, neg1, fX9_rate, fX9_no, hg, z g Mg, cond_true, if_true]
/-! together -/
def wt (N : Nat → Nat) (b : Nat) : Nat → Nat → Nat → Bool
  | 0, _, _ => true
  | m + 1, s, hd => if bb b s then (if N (4 * s + 0) = 0 ∨ (0 < hd ∧ N (4 * s + 1) ≠ hd) then false else wt N b m (s + 1) (N (4 * s + 1))) else wt N b m (s + 1) hd
set_option maxRecDepth 100000 in
theorem wt_ok {N : Nat → Nat} {b : Nat} : ∀ m s hd, wt N b m s hd = true → ∀ q, s ≤ q → q < s + m → bb b q → 1 ≤ N (4 * q + 0) := by
  intro m
  induction m with
  | zero => intro s hd _ q h1 h2; omega
  | succ m ih =>
    intro s hd h q h1 h2 hb
    have e : wt N b (m + 1) s hd = if bb b s then (if N (4 * s + 0) = 0 ∨ (0 < hd ∧ N (4 * s + 1) ≠ hd) then false else wt N b m (s + 1) (N (4 * s + 1))) else wt N b m (s + 1) hd := rfl
    rw [e] at h
    by_cases c : bb b s
    · rw [if_pos c] at h
      by_cases c2 : N (4 * s + 0) = 0 ∨ (0 < hd ∧ N (4 * s + 1) ≠ hd)
      · rw [if_pos c2] at h; cases h
      · rw [if_neg c2] at h
        by_cases z : q = s
        · subst z; omega
        · exact ih (s + 1) _ h q (by omega) (by omega) hb
    · rw [if_neg c] at h
      by_cases z : q = s
      · subst z; exact absurd hb c
      · exact ih (s + 1) _ h q (by omega) (by omega) hb
set_option maxRecDepth 100000 in
theorem les0 : les M2 0 = M2 := rfl
set_option maxRecDepth 100000 in
theorem cWtL (C : CA h d R N T) {b : Nat} (hb : b < 32) : ∀ m s hd f, s + m = R 4 → m < f → hd ≤ 3 → lq2 (fX8_whyNotTogether_L37 0 (nI b)) f (les M2 hd) (nI s) h = some (if wt N b m s hd then nI 0 else nI 5, h) := by
  have k := isKb_D C.2.1
  obtain ⟨c1, c2, c3, D, v, Q, W, S⟩ := C
  have vS := v.S
  have vH := v.H
  have vF := v.F
  have d4 := D.2.2.2.1.1.2
  intro m
  induction m with
  | zero =>
    intro s hd f e hf h3
    obtain ⟨f, rfl⟩ : ∃ q, f = q + 1 := ⟨f - 1, by omega⟩
    have n1 : R 4 ≤ s := by omega
    simp (disch := omega) only [lI, gd_1, lq2, fX8_whyNotTogether_L37, c1, k, d4, leN, n1, if_true, wt]
  | succ m ih =>
    intro s hd f e hf h3
    obtain ⟨f, rfl⟩ : ∃ q, f = q + 1 := ⟨f - 1, by omega⟩
    have n1 : ¬ R 4 ≤ s := by omega
    have q := Q.2.1 s (by omega)
    have w := W.2.1 s (by omega)
    have e1 : wt N b (m + 1) s hd = if bb b s then (if N (4 * s + 0) = 0 ∨ (0 < hd ∧ N (4 * s + 1) ≠ hd) then false else wt N b m (s + 1) (N (4 * s + 1))) else wt N b m (s + 1) hd := rfl
    rw [e1]
    by_cases c : bb b s
    · rw [if_pos c]
      have nc : ¬ ¬ bb b s := fun z => z c
      have key := ih (s + 1) (N (4 * s + 1)) f (by omega) (by omega) (by omega)
      by_cases hz : hd = 0
      · subst hz
        by_cases c0 : N (4 * s + 0) = 0
        · rw [if_pos (Or.inl c0)]
          simp (disch := omega) only [lI, gd_1, nm_1, inbN, ixN, neg2, lq2, fX8_whyNotTogether_L37, c1, k, d4, leN, n1, if_false, bit0, nc, les0, if_true, Nat.reduceAdd, q, eqN, eq_true c0, Bool.false_eq_true]
        · rw [if_neg (show ¬ (N (4 * s + 0) = 0 ∨ (0 < 0 ∧ N (4 * s + 1) ≠ 0)) by omega)]
          simp (disch := omega) only [lI, gd_1, nm_1, inbN, ixN, neg2, nI_add, lq2, fX8_whyNotTogether_L37, c1, k, d4, leN, n1, if_false, bit0, nc, les0, if_true, Nat.reduceAdd, q, eqN, c0]
          exact key
      · by_cases c1' : hd = N (4 * s + 1)
        · have les_x : (les M2 hd = les M2 (N (4 * s + 1))) = True := eq_true (by rw [c1'])
          by_cases c0 : N (4 * s + 0) = 0
          · rw [if_pos (Or.inl c0)]
            simp (disch := omega) only [lI, gd_1, nm_1, inbN, ixN, neg2, les_e, hz, lq2, fX8_whyNotTogether_L37, c1, k, d4, leN, n1, if_false, bit0, nc, if_true, Nat.reduceAdd, q, les_x, eqN, eq_true c0, Bool.false_eq_true]
          · rw [if_neg (show ¬ (N (4 * s + 0) = 0 ∨ (0 < hd ∧ N (4 * s + 1) ≠ hd)) by omega)]
            simp (disch := omega) only [lI, gd_1, nm_1, inbN, ixN, neg2, les_e, hz, nI_add, lq2, fX8_whyNotTogether_L37, c1, k, d4, leN, n1, if_false, bit0, nc, if_true, Nat.reduceAdd, q, les_x, eqN, c0]
            exact key
        · have les_x : (les M2 hd = les M2 (N (4 * s + 1))) = False := by rw [les_eq (by omega) (by omega)]; exact eq_false c1'
          rw [if_pos (Or.inr ⟨by omega, fun z => c1' z.symm⟩)]
          by_cases c0 : N (4 * s + 0) = 0
          · simp (disch := omega) only [lI, gd_1, nm_1, inbN, ixN, neg2, les_e, hz, lq2, fX8_whyNotTogether_L37, c1, k, d4, leN, n1, if_false, bit0, nc, if_true, Nat.reduceAdd, q, les_x, eqN, eq_true c0, Bool.false_eq_true]
          · simp (disch := omega) only [lI, gd_1, nm_1, inbN, ixN, neg2, les_e, hz, lq2, fX8_whyNotTogether_L37, c1, k, d4, leN, n1, if_false, bit0, nc, if_true, Nat.reduceAdd, q, les_x, eqN, c0, Bool.false_eq_true]
    · rw [if_neg c]
      have key := ih (s + 1) hd f (by omega) (by omega) h3
      have nc : ¬ bb b s := c
      simp (disch := omega) only [lI, gd_1, nI_add, lq2, fX8_whyNotTogether_L37, c1, k, d4, leN, n1, if_false, bit0, eq_true nc, if_true]
      exact key
set_option maxRecDepth 100000 in
theorem mWtL {g : HH} (M : MA g R N T) {b : Nat} (hb : b < 32) : ∀ m s hd f, s + m = R 4 → m < f → hd ≤ 3 → lq2 (fX9_setWhy_L33 181 (nI b)) f (nI hd) (nI s) g = some (if wt N b m s hd then nI 0 else nI 5, g) := by
  obtain ⟨a1, Mr, v, Q, W, S⟩ := M
  have vS := v.S
  have vH := v.H
  have vF := v.F
  intro m
  induction m with
  | zero =>
    intro s hd f e hf h3
    obtain ⟨f, rfl⟩ : ∃ q, f = q + 1 := ⟨f - 1, by omega⟩
    have n1 : R 4 ≤ s := by omega
    simp (disch := omega) only [lI, gd_1, inbN, ixN, lq2, fX9_setWhy_L33, Nat.reduceAdd, Mr 4, leN, n1, if_true, wt]
  | succ m ih =>
    intro s hd f e hf h3
    obtain ⟨f, rfl⟩ : ∃ q, f = q + 1 := ⟨f - 1, by omega⟩
    have n1 : ¬ R 4 ≤ s := by omega
    have w := W.2.1 s (by omega)
    have e1 : wt N b (m + 1) s hd = if bb b s then (if N (4 * s + 0) = 0 ∨ (0 < hd ∧ N (4 * s + 1) ≠ hd) then false else wt N b m (s + 1) (N (4 * s + 1))) else wt N b m (s + 1) hd := rfl
    rw [e1]
    have mh := mHasB (g := g) hb (show s < 5 by omega)
    by_cases c : bb b s
    · rw [if_pos c]
      rw [decide_eq_true c] at mh
      have key := ih (s + 1) (N (4 * s + 1)) f (by omega) (by omega) (by omega)
      by_cases c0 : N (4 * s + 0) = 0
      · rw [if_pos (Or.inl c0)]
        simp (disch := omega) only [lI, gd_1, bd_1, inbN, ixN, lq2, fX9_setWhy_L33, Nat.reduceAdd, Mr 4, leN, n1, if_false, mh, cond_true, mIts Q, eqN, eq_true c0, if_true, Bool.false_eq_true]
      · by_cases hz : hd ≤ 0
        · rw [if_neg (show ¬ (N (4 * s + 0) = 0 ∨ (0 < hd ∧ N (4 * s + 1) ≠ hd)) by omega)]
          simp (disch := omega) only [lI, gd_1, bd_1, inbN, ixN, nI_add, lq2, fX9_setWhy_L33, Nat.reduceAdd, Mr 4, leN, n1, if_false, mh, cond_true, mIts Q, eqN, c0, hz, if_true]
          exact key
        · by_cases c1' : N (4 * s + 1) = hd
          · rw [if_neg (show ¬ (N (4 * s + 0) = 0 ∨ (0 < hd ∧ N (4 * s + 1) ≠ hd)) by omega)]
            simp (disch := omega) only [lI, gd_1, bd_1, inbN, ixN, nI_add, lq2, fX9_setWhy_L33, Nat.reduceAdd, Mr 4, leN, n1, if_false, mh, cond_true, mIts Q, eqN, c0, hz, eq_true c1', if_true]
            exact key
          · rw [if_pos (Or.inr ⟨by omega, c1'⟩)]
            simp (disch := omega) only [lI, gd_1, bd_1, inbN, ixN, lq2, fX9_setWhy_L33, Nat.reduceAdd, Mr 4, leN, n1, if_false, mh, cond_true, mIts Q, eqN, c0, hz, c1', Bool.false_eq_true]
    · rw [if_neg c]
      rw [decide_eq_false c] at mh
      have key := ih (s + 1) hd f (by omega) (by omega) h3
      simp (disch := omega) only [lI, gd_1, bd_1, inbN, ixN, nI_add, lq2, fX9_setWhy_L33, Nat.reduceAdd, Mr 4, leN, n1, if_false, mh, cond_false]
      exact key
/-! why not together -/
set_option maxRecDepth 100000 in
theorem wtC (C : CA h d R N T) (x : Int32) : (∃ b, 1 ≤ b ∧ b < 2 ^ R 4 ∧ x = nI b ∧ (∀ s, s < R 4 → bb b s → 1 ≤ N (4 * s + 0) ∧ N (4 * s + 0) ≤ R 0) ∧ fX8_whyNotTogether 0 x h = some (nI 0, h) ∧ ∀ g, MA g R N T → fX9_setWhy 181 x g = some (nI 0, g)) ∨ (∃ w, (w = 2 ∨ w = 5) ∧ fX8_whyNotTogether 0 x h = some (nI w, h) ∧ ∀ g, MA g R N T → fX9_setWhy 181 x g = some (nI w, g)) := by
  have k := isKb_D C.2.1
  have v := C.2.2.2.2.1
  have vS := v.S
  have c3 := C.2.2.1
  have d4 := C.2.2.2.1.2.2.2.1.1.2
  have z1 : ¬ (1 : Nat) = 0 := by omega
  have s1 := sh1 (R 4) (by omega)
  have hp : 2 ^ R 4 ≤ 32 := Nat.le_trans (Nat.pow_le_pow_right (by omega) vS.2) (by decide)
  have hp1 : 1 ≤ 2 ^ R 4 := Nat.one_le_two_pow
  have em : nI (2 ^ R 4) - nI 1 = nI (2 ^ R 4 - 1) := pk_sub hp1
  rcases rg x (lo := 1) (hi := 2 ^ R 4 - 1) (by omega) (by omega) with ⟨b, b1, b2, rfl⟩ | hx | ⟨hx1, hx2, hx3⟩
  · have hb : b < 32 := by omega
    have n1 : ¬ b < 1 := by omega
    have n2 : b < 2 ^ R 4 := by omega
    have cw := cWtL C hb (R 4) 0 0 FU (by omega) (by unfold FU; omega) (by omega)
    have cw' : lq2 (fX8_whyNotTogether_L37 0 (nI b)) FU M2 (nI 0) h = _ := cw
    have cl : fX8_whyNotTogether 0 (nI b) h = some (if wt N b (R 4) 0 0 then nI 0 else nI 5, h) := by
      simp (disch := omega) only [lI, gd_1, neg2, eqN, ltN, fX8_whyNotTogether, c3, z1, if_false, n1, C.1, k, d4, s1, n2, if_true]
      exact cw'
    have ml : ∀ g, MA g R N T → fX9_setWhy 181 (nI b) g = some (if wt N b (R 4) 0 0 then nI 0 else nI 5, g) := fun g Mg => by
      have m4 := Mg.2.1 4 (by omega)
      have mw := mWtL Mg hb (R 4) 0 0 FU (by omega) (by unfold FU; omega) (by omega)
      simp (disch := omega) only [lI, gd_1, bd_1, inbN, ixN, eqN, fX9_setWhy, Mg.1, z1, if_false, Nat.reduceAdd, m4, s1, em, wit3, cond_true]
      exact mw
    cases hw : wt N b (R 4) 0 0 with
    | true =>
      rw [hw] at cl ml
      refine Or.inl ⟨b, b1, n2, rfl, fun s hs hbs => ⟨wt_ok (R 4) 0 0 hw s (by omega) (by omega) hbs, (C.2.2.2.2.2.2.1.2.1 s (by omega)).1⟩, cl, ml⟩
    | false =>
      rw [hw] at cl ml
      exact Or.inr ⟨5, Or.inr rfl, cl, ml⟩
  · refine Or.inr ⟨2, Or.inl rfl, ?_, fun g Mg => ?_⟩
    · simp (disch := omega) only [lI, eqN, fX8_whyNotTogether, c3, z1, if_false, hx, if_true]
    · have m4 := Mg.2.1 4 (by omega)
      simp (disch := omega) only [lI, gd_1, bd_1, inbN, ixN, eqN, fX9_setWhy, Mg.1, z1, if_false, Nat.reduceAdd, m4, s1, em, wa hx, cond_false]
  · have n3 : ¬ x < nI (2 ^ R 4) := by
      intro z
      apply hx3
      rw [Int32.lt_iff_toInt_lt, nI_toInt (by omega)] at z
      rw [Int32.le_iff_toInt_le, nI_toInt (by omega)]
      omega
    refine Or.inr ⟨2, Or.inl rfl, ?_, fun g Mg => ?_⟩
    · simp (disch := omega) only [lI, gd_1, eqN, fX8_whyNotTogether, c3, z1, if_false, hx1, C.1, k, d4, s1, n3]
    · have m4 := Mg.2.1 4 (by omega)
      simp (disch := omega) only [lI, gd_1, bd_1, inbN, ixN, eqN, fX9_setWhy, Mg.1, z1, if_false, Nat.reduceAdd, m4, s1, em, wb hx1 hx2, cond_false]
set_option maxRecDepth 100000 in
theorem PR6_PZ : ∀ x k, PZ x k → PR6 x k := fun x k hp => by unfold PZ at hp; unfold PR6; omega
set_option maxRecDepth 100000 in
theorem gTog (G : GR h) (B : TRB h) (D : GD h d R N T) {q : Nat} (hq : q ≤ n) (hn : n ≤ 600) (Q : MtR h q) (x : Int32) : OpG h n (fun h => fX8_together 0 x h) (fun h => fX9_together 181 x h) := by
  have C := D.1
  have k := isKb_D C.2.1
  have v := C.2.2.2.2.1
  rcases wtC C x with ⟨b, b1, b2, rfl, hm, e1, e2⟩ | ⟨w, hw, e1, e2⟩
  · obtain ⟨r1, r2⟩ := cSeek C.2.2.2.1 C.2.1 v C.2.2.2.2.2.1 b1 b2 (show q + 1 < 2 ^ 30 by omega) hm Q
    have tt : ∀ (a : Int32) (h' : HH), fX6_seek 31 d 6 (nI b) h = some (a, h') → MtR h' (q + 1) → Keep PR6 h h' → (∀ g, MA g R N T → ∃ g', fX9_togetherOf 181 (nI b) g = some (a, g') ∧ Keep PMt g g') → OpG h n (fun h => fX8_together 0 (nI b) h) (fun h => fX9_together 181 (nI b) h) := by
      intro a h' e3 M3 K3 mm
      refine opZ G B D a 0 (by omega) (h1 := sI h' 0 16 (nI 0)) ?_ (gIs _ _ _ _) (Keep.sI (K3.mono PR6_PZ) (by unfold PZ; omega)) (D.2.2.2.2.1.keep (Keep.sI (K3.mono (fun x k hp => by unfold PR6; omega)) (by omega))) (D.2.2.2.2.2.keep (Keep.sI (K3.mono (fun x k hp => by unfold PR6; omega)) (by omega))) (show q + 1 ≤ n + 1 by omega) (M3.keep (Keep.sI Keep.rfl (by omega))) (mAns (fun h1 g Mg hg => ?_))
      · simp (disch := omega) only [lI, lJ, gd_1, bd_1, bv_1, nm_1, ixN, inbN, eqN, leN, ltN, eqL, leL, ltL, beqN, beqL, nI_add, pk_mul, lN_add, lN_mul, nI_l, lN_i, pk_div, pk_lDiv, pk_sub, lN_sub, remN, remL, neg1, neg2, negL, negL2, M1e, M1f, M1g, M1h, M1i, M1j, M2e, M2f, L1g, L1h, L1i, L1j, les_eq, les_e, les_n, les_m, cond_true, cond_false, if_true, if_false, fX8_refuse, fX8_allow, fX8_allow_, Nat.not_lt_zero, Nat.reduceAdd, Nat.reduceLT, Nat.reduceLeDiff, Nat.reduceEqDiff, decide_false, decide_true, Bool.not_false, Bool.not_true, C.1, k, fX8_together, e1, e3]
      · obtain ⟨g', e4, K4⟩ := mm g Mg
        refine ⟨g', ?_, K4.mono PMt_PM, (K4 181 11 (by unfold PMt; omega)).1⟩
        simp (disch := omega) only [lI, bd_1, bv_1, eqN, fX9_together, hg, e2 g Mg, if_true, e4]
    cases hs : srch R N b with
    | mk o A' =>
      cases o with
      | some p =>
        obtain ⟨i, s⟩ := p
        obtain ⟨h', e3, -, -, -, M3, K3⟩ := r1 i s A' hs
        refine tt _ h' e3 M3 K3 (fun g Mg => ?_)
        obtain ⟨g', e4, -, -, -, -, -, -, -, K4⟩ := (mTog Mg.2.1 v Mg.2.2.2.1 b2 hm).1 i s A' hs
        exact ⟨g', e4, K4⟩
      | none =>
        obtain ⟨h', e3, M3, K3⟩ := r2 A' hs
        refine tt _ h' e3 M3 K3 (fun g Mg => ?_)
        exact (mTog Mg.2.1 v Mg.2.2.2.1 b2 hm).2 A' hs
  · have w0 : ¬ w = 0 := by omega
    refine OpW.G G B D hq Q ⟨M1, w, by omega, ⟨_, by simp (disch := omega) only [lI, lJ, gd_1, bd_1, bv_1, nm_1, ixN, inbN, eqN, leN, ltN, eqL, leL, ltL, beqN, beqL, nI_add, pk_mul, lN_add, lN_mul, nI_l, lN_i, pk_div, pk_lDiv, pk_sub, lN_sub, remN, remL, neg1, neg2, negL, negL2, M1e, M1f, M1g, M1h, M1i, M1j, M2e, M2f, L1g, L1h, L1i, L1j, les_eq, les_e, les_n, les_m, cond_true, cond_false, if_true, if_false, fX8_refuse, fX8_allow, fX8_allow_, Nat.not_lt_zero, Nat.reduceAdd, Nat.reduceLT, Nat.reduceLeDiff, Nat.reduceEqDiff, decide_false, decide_true, Bool.not_false, Bool.not_true, C.1, k, fX8_together, e1, w0], gIs _ _ _ _, Keep.sI Keep.rfl (by unfold PQ; omega)⟩, mRef (fun h1 g Mg hg => ?_)⟩
    simp (disch := omega) only [lI, bd_1, bv_1, eqN, neg1, fX9_together, fX9_no, hg, e2 g Mg, w0, if_false]
/-! the i-th knock, of the model -/
set_option maxRecDepth 100000 in
theorem mAt {g : HH} {b i j : Nat} {A : BS} (C : MBs g R A) (W : WB R b A) (v : VR R) (hi : i < A.1) {st : Nat} (h1 : 1 ≤ st) (h9 : st ≤ 9) (hj : j ≤ A.2.2.2.2 i) : lq3 (fX9_togetherAt_L63 181 (nI j)) FU (nI st) (nI (A.2.1 i)) (nI (A.2.2.2.2 i)) g = some (nI (if j = A.2.2.2.2 i then st else A.2.2.2.1 (an A.2.2.1 i (A.2.2.2.2 i - 1 - j))), g) := by
  have hp5 := p5_le v
  have ok := an_ok W hi
  have hD : A.2.2.2.2 i ≤ 20 := by have := (W.2.1 i hi).2.1; omega
  have main : ∀ m t f x, t + m = A.2.2.2.2 i - j → m < f → (t = 0 → x = st) → (0 < t → x = A.2.2.2.1 (an A.2.2.1 i (t - 1))) → x < 100 → lq3 (fX9_togetherAt_L63 181 (nI j)) f (nI x) (nI (A.2.1 (an A.2.2.1 i t))) (nI (A.2.2.2.2 i - t)) g = some (nI (if j = A.2.2.2.2 i then st else A.2.2.2.1 (an A.2.2.1 i (A.2.2.2.2 i - 1 - j))), g) := by
    intro m
    induction m with
    | zero =>
      intro t f x e hf x0 x1 hx
      obtain ⟨f, rfl⟩ : ∃ q, f = q + 1 := ⟨f - 1, by omega⟩
      have n1 : A.2.2.2.2 i - t ≤ j := by omega
      have ex : x = if j = A.2.2.2.2 i then st else A.2.2.2.1 (an A.2.2.1 i (A.2.2.2.2 i - 1 - j)) := by
        by_cases c : j = A.2.2.2.2 i
        · rw [if_pos c]; exact x0 (by omega)
        · rw [if_neg c, show A.2.2.2.2 i - 1 - j = t - 1 by omega]; exact x1 (by omega)
      rw [← ex]
      simp (disch := omega) only [lq3, fX9_togetherAt_L63, leN, n1, if_true]
    | succ m ih =>
      intro t f x e hf x0 x1 hx
      obtain ⟨f, rfl⟩ : ∃ q, f = q + 1 := ⟨f - 1, by omega⟩
      have n1 : ¬ A.2.2.2.2 i - t ≤ j := by omega
      obtain ⟨a1, a2, a3⟩ := ok t (by omega)
      have a4 := a3 (by omega)
      have w := (W.2.1 _ a1)
      have wx := w.2.2 a4
      have hq := w.1.1
      have wp := (W.2.1 (A.2.2.1 (an A.2.2.1 i t)) (by omega)).1.1
      have c6 := (C.2.1 _ a1).2.2 a4
      have key := ih (t + 1) f (A.2.2.2.1 (an A.2.2.1 i t)) (by omega) (by omega) (fun z => by omega) (fun _ => by rw [Nat.add_sub_cancel]) (by omega)
      rw [show an A.2.2.1 i (t + 1) = A.2.2.1 (an A.2.2.1 i t) from rfl] at key
      have e1 : (10 * A.2.1 (A.2.2.1 (an A.2.2.1 i t)) + A.2.2.2.1 (an A.2.2.1 i t)) / 10 = A.2.1 (A.2.2.1 (an A.2.2.1 i t)) := by omega
      have e2 : (10 * A.2.1 (A.2.2.1 (an A.2.2.1 i t)) + A.2.2.2.1 (an A.2.2.1 i t)) % 10 = A.2.2.2.1 (an A.2.2.1 i t) := by omega
      have e4 : 10 * A.2.1 (A.2.2.1 (an A.2.2.1 i t)) + A.2.2.2.1 (an A.2.2.1 i t) - A.2.1 (A.2.2.1 (an A.2.2.1 i t)) * 10 = A.2.2.2.1 (an A.2.2.1 i t) := by omega
      have e3 : nI (A.2.2.2.2 i - t) + M1 = nI (A.2.2.2.2 i - (t + 1)) := by
        rw [show A.2.2.2.2 i - t = (A.2.2.2.2 i - (t + 1)) + 1 by omega, adM1]
      simp (disch := omega) only [lI, gd_1, nm_1, inbN, ixN, neg1, pk_div, pk_mul, remN, lq3, fX9_togetherAt_L63, leN, n1, if_false, Nat.reduceAdd, c6, e1, pk_sub, e4, e2, e3]
      exact key
  exact main (A.2.2.2.2 i - j) 0 FU st (by omega) (by unfold FU; omega) (fun _ => rfl) (fun z => by omega) (by omega)
set_option maxRecDepth 100000 in
theorem gTogAt (G : GR h) (B : TRB h) (D : GD h d R N T) {q : Nat} (hq : q ≤ n) (hn : n ≤ 600) (Q : MtR h q) (x y : Int32) : OpG h n (fun h => fX8_togetherAt 0 x y h) (fun h => fX9_togetherAt 181 x y h) := by
  have C := D.1
  have k := isKb_D C.2.1
  have v := C.2.2.2.2.1
  rcases wtC C x with ⟨b, b1, b2, rfl, hm, e1, e2⟩ | ⟨w, hw, e1, e2⟩
  · obtain ⟨r1, r2⟩ := cSeek C.2.2.2.1 C.2.1 v C.2.2.2.2.2.1 b1 b2 (show q + 1 < 2 ^ 30 by omega) hm Q
    have tt : ∀ (a : Int32) (t : Nat) (h' : HH), (t ≠ 4 ∧ t < 100) → fX8_togetherAt 0 (nI b) y h = some (a, sI h' 0 16 (nI t)) → MtR h' (q + 1) → Keep PR6 h h' → (∀ g, MA g R N T → ∃ g', fX9_togetherAt 181 (nI b) y g = some (a, g') ∧ gI g' 181 11 = nI t ∧ Keep PM2 g g' ∧ MA g' R N T) → OpG h n (fun h => fX8_togetherAt 0 (nI b) y h) (fun h => fX9_togetherAt 181 (nI b) y h) := by
      intro a t h' ht e3 M3 K3 mm
      exact opZ G B D a t ht (h1 := sI h' 0 16 (nI t)) e3 (gIs _ _ _ _) (Keep.sI (K3.mono PR6_PZ) (by unfold PZ; omega)) (D.2.2.2.2.1.keep (Keep.sI (K3.mono (fun x k hp => by unfold PR6; omega)) (by omega))) (D.2.2.2.2.2.keep (Keep.sI (K3.mono (fun x k hp => by unfold PR6; omega)) (by omega))) (show q + 1 ≤ n + 1 by omega) (M3.keep (Keep.sI Keep.rfl (by omega))) mm
    cases hs : srch R N b with
    | mk o A' =>
      cases o with
      | some p =>
        obtain ⟨i, s⟩ := p
        obtain ⟨h', e3, R3, W3, i3, M3, K3⟩ := r1 i s A' hs
        have hD : A'.2.2.2.2 i ≤ 19 := by
          have w := W3.2.1 i i3
          obtain ⟨r5, r52, r53⟩ := rk_5 b (b32 v b2)
          obtain ⟨m1, m2, m3⟩ := mem_ok b (b32 v b2) 0 (by omega) (r53 b1)
          have := tfl_pos w.1 (bb_lt b2 m2) m2
          omega
        have mt := fun g (Mg : MA g R N T) => (mTog Mg.2.1 v Mg.2.2.2.1 b2 hm).1 i s A' hs
        rcases cut y (m := A'.2.2.2.2 i + 1) (by omega) with ⟨j, hj, rfl, wt⟩ | ⟨hx, wf⟩
        · have row : gI h' 32 j = nI (if j = A'.2.2.2.2 i then s else A'.2.2.2.1 (an A'.2.2.1 i (A'.2.2.2.2 i - 1 - j))) := by
            by_cases c : j = A'.2.2.2.2 i
            · rw [if_pos c, c]; exact R3.1
            · rw [if_neg c]
              have := R3.2 (A'.2.2.2.2 i - 1 - j) (by omega)
              rw [show A'.2.2.2.2 i - 1 - (A'.2.2.2.2 i - 1 - j) = j by omega] at this
              exact this
          refine tt (nI (if j = A'.2.2.2.2 i then s else A'.2.2.2.1 (an A'.2.2.1 i (A'.2.2.2.2 i - 1 - j)))) 0 h' (by omega) ?_ M3 K3 (mAns (fun h1 g Mg hg => ?_))
          · simp (disch := omega) only [lI, lJ, gd_1, bd_1, bv_1, nm_1, ixN, inbN, eqN, leN, ltN, eqL, leL, ltL, beqN, beqL, nI_add, pk_mul, lN_add, lN_mul, nI_l, lN_i, pk_div, pk_lDiv, pk_sub, lN_sub, remN, remL, neg1, neg2, negL, negL2, M1e, M1f, M1g, M1h, M1i, M1j, M2e, M2f, L1g, L1h, L1i, L1j, les_eq, les_e, les_n, les_m, cond_true, cond_false, if_true, if_false, fX8_refuse, fX8_allow, fX8_allow_, Nat.not_lt_zero, Nat.reduceAdd, Nat.reduceLT, Nat.reduceLeDiff, Nat.reduceEqDiff, decide_false, decide_true, Bool.not_false, Bool.not_true, C.1, k, fX8_togetherAt, e1, e3, hj, row]
          · obtain ⟨g', e4, C4, W4, i4, s1, s9, g37, g38, K4⟩ := mt g Mg
            have ma := mAt C4 W4 v i4 s1 s9 (show j ≤ A'.2.2.2.2 i by omega)
            have es : nI (A'.2.2.2.2 i + 1) - nI 1 = nI (A'.2.2.2.2 i) := by rw [pk_sub (by omega)]; rfl
            refine ⟨g', ?_, K4.mono PMt_PM, (K4 181 11 (by unfold PMt; omega)).1⟩
            rw [es] at wt
            simp (disch := omega) only [lI, bd_1, bv_1, nm_1, eqN, fX9_togetherAt, hg, e2 g Mg, if_true, e4, es, wt, cond_true, g37, g38]
            exact ma
        · refine tt M1 1 h' (by omega) ?_ M3 K3 (fun h1 M => ?_)
          · rcases hx with z | ⟨z1, z2, z3⟩
            · simp (disch := omega) only [lI, gd_1, bd_1, if_true, fX8_togetherAt, e1, C.1, k, Nat.reduceAdd, e3, z, fX8_refuse, neg1]
            · simp (disch := omega) only [lI, gd_1, bd_1, if_true, if_false, fX8_togetherAt, e1, C.1, k, Nat.reduceAdd, e3, z1, z3, fX8_refuse, neg1]
          · obtain ⟨g, hg, Mg, K, t0⟩ := mGood M
            obtain ⟨g', e4, C4, W4, i4, s1, s9, g37, g38, K4⟩ := mt g Mg
            have K5 : Keep PM h1 (sI g' 181 11 (nI 1)) := Keep.sI (K.trans (K4.mono PMt_PM)) (by unfold PM; omega)
            refine ⟨sI g' 181 11 (nI 1), ?_, gIs _ _ _ _, K5.mono (fun x k hp => hp.1), M.keep K5⟩
            simp (disch := omega) only [lI, bd_1, bv_1, nm_1, eqN, neg1, fX9_togetherAt, fX9_no, hg, e2 g Mg, if_true, e4, wf, cond_false]
      | none =>
        obtain ⟨h', e3, M3, K3⟩ := r2 A' hs
        have mt := fun g (Mg : MA g R N T) => (mTog Mg.2.1 v Mg.2.2.2.1 b2 hm).2 A' hs
        have m2 : ∀ z : Int32, ¬ z < nI 0 → ¬ z < M2 := fun z hz y => by
          apply hz
          rw [Int32.lt_iff_toInt_lt, M2_toInt] at y
          rw [Int32.lt_iff_toInt_lt, show (nI 0).toInt = 0 by decide]
          omega
        refine tt M1 1 h' (by omega) ?_ M3 K3 (fun h1 M => ?_)
        · by_cases z : y < nI 0
          · simp (disch := omega) only [lI, gd_1, bd_1, if_true, fX8_togetherAt, e1, C.1, k, Nat.reduceAdd, e3, z, fX8_refuse, neg1]
          · simp (disch := omega) only [lI, gd_1, bd_1, if_true, if_false, fX8_togetherAt, e1, C.1, k, Nat.reduceAdd, e3, z, m2 y z, fX8_refuse, neg1]
        · obtain ⟨g, hg, Mg, K, t0⟩ := mGood M
          obtain ⟨g', e4, K4⟩ := mt g Mg
          have K5 : Keep PM h1 (sI g' 181 11 (nI 1)) := Keep.sI (K.trans (K4.mono PMt_PM)) (by unfold PM; omega)
          have wf : fX9_within y (nI 0) (M2 - nI 1) g' = some (false, g') := by
            have e0 : (M2 - nI 1).toInt = -3 := by decide +kernel
            by_cases z : y < nI 0
            · simp only [fX9_within, z, if_true]
            · have z2 : M2 - nI 1 < y := by
                rw [Int32.lt_iff_toInt_lt, show (nI 0).toInt = 0 by decide] at z
                rw [Int32.lt_iff_toInt_lt, e0]; omega
              simp only [fX9_within, z, z2, if_true, if_false]
          refine ⟨sI g' 181 11 (nI 1), ?_, gIs _ _ _ _, K5.mono (fun x k hp => hp.1), M.keep K5⟩
          simp (disch := omega) only [lI, bd_1, bv_1, nm_1, eqN, neg1, fX9_togetherAt, fX9_no, hg, e2 g Mg, if_true, e4, wf, cond_false]
  · have w0 : ¬ w = 0 := by omega
    refine OpW.G G B D hq Q ⟨M1, w, by omega, ⟨_, by simp (disch := omega) only [lI, lJ, gd_1, bd_1, bv_1, nm_1, ixN, inbN, eqN, leN, ltN, eqL, leL, ltL, beqN, beqL, nI_add, pk_mul, lN_add, lN_mul, nI_l, lN_i, pk_div, pk_lDiv, pk_sub, lN_sub, remN, remL, neg1, neg2, negL, negL2, M1e, M1f, M1g, M1h, M1i, M1j, M2e, M2f, L1g, L1h, L1i, L1j, les_eq, les_e, les_n, les_m, cond_true, cond_false, if_true, if_false, fX8_refuse, fX8_allow, fX8_allow_, Nat.not_lt_zero, Nat.reduceAdd, Nat.reduceLT, Nat.reduceLeDiff, Nat.reduceEqDiff, decide_false, decide_true, Bool.not_false, Bool.not_true, C.1, k, fX8_togetherAt, e1, w0], gIs _ _ _ _, Keep.sI Keep.rfl (by unfold PQ; omega)⟩, mRef (fun h1 g Mg hg => ?_)⟩
    simp (disch := omega) only [lI, bd_1, bv_1, eqN, neg1, fX9_togetherAt, fX9_no, hg, e2 g Mg, w0, if_false]
end OPG2
