/-! what holds on where little changes -/
set_option maxRecDepth 100000 in
theorem GI.keep {h h' : HH} {n : Nat} (I : GI h n) (K : Keep (fun b k => ¬ (b = 181 ∧ k = 0) ∧ b ≠ 201) h h') : GI h' (n + 1) := by
  obtain ⟨G, B, ⟨q, hq, Q⟩, S⟩ := I
  refine ⟨G.keep (K.mono (fun x k hp => by unfold PGR at hp; omega)), ⟨?_, ?_, fun z => ?_⟩, ⟨q, by omega, Q.keep (K.mono (fun x k hp => by omega))⟩, ?_⟩
  · rw [(K 0 16 (by omega)).1, (K 181 11 (by omega)).1]; exact B.1
  · rw [(K 0 17 (by omega)).1, (K 181 9 (by omega)).1]; exact B.2.1
  · rw [(K 0 16 (by omega)).1] at z
    rw [(K 0 18 (by omega)).1, (K 181 10 (by omega)).1]; exact B.2.2 z
  · rcases S with Z | ⟨d, R, N, T, C, ⟨a1, a2, a3, a4, a5, a6⟩, A, I, P, F⟩
    · left
      obtain ⟨z1, z2, z3, z4, z5, z6⟩ := Z
      exact ⟨(K 0 12 (by omega)).1.trans z1, (K 181 14 (by omega)).1.trans z2, (K 0 14 (by omega)).1.trans z3, (K 181 25 (by omega)).1.trans z4, (K 0 15 (by omega)).1.trans z5, (K 181 26 (by omega)).1.trans z6⟩
    · right
      exact ⟨d, R, N, T, C.keep3 (K.mono (fun x k hp => by omega)), ⟨(K 181 14 (by omega)).1.trans a1, a2.keep K (fun k => by omega), a3, a4.keep K (fun k => by omega) (fun k => by omega), a5, a6⟩, A.keep G.2.2.1 (K.mono (fun x k hp => by unfold PAC at hp; omega)), I.keep (K.mono (fun x k hp => by unfold PIM at hp; omega)), P.keep (K.mono (fun x k hp => by omega)), F.keep (K.mono (fun x k hp => by omega))⟩
set_option maxRecDepth 100000 in
theorem opT {α : Type} {h : HH} {n : Nat} {x y : HH → Option (α × HH)} (I : GI h n) (a : α) (v : Int32) (e1 : x h = some (a, h)) (e2 : y h = some (a, sI h 181 0 v)) : OpG h n x y := ⟨a, h, _, e1, e2, I.keep (Keep.sI Keep.rfl (fun z => z.1 ⟨rfl, rfl⟩))⟩
set_option maxRecDepth 100000 in
theorem nI1z : (nI 1 = nI 0) = False := by decide +kernel
section REST
variable {h : HH} {d n : Nat} {R N T : Nat → Nat}
set_option maxRecDepth 100000 in
theorem aTrouble (I : GI h n) : OpG h n (fun h => fX8_trouble 0 h) (fun h => fX9_trouble 181 h) := opT I (gI h 0 16) 0 rfl (by
  show some (gI (sI h 181 0 0) 181 11, sI h 181 0 0) = _
  rw [gIk (by omega), I.2.1.1])
set_option maxRecDepth 100000 in
theorem aFault (I : GI h n) : OpG h n (fun h => fX8_fault 0 h) (fun h => fX9_fault 181 h) := opT I (gI h 0 17) 0 rfl (by
  show some (gI (sI h 181 0 0) 181 9, sI h 181 0 0) = _
  rw [gIk (by omega), I.2.1.2.1])
set_option maxRecDepth 100000 in
theorem aWhere (I : GI h n) : OpG h n (fun h => fX8_where 0 h) (fun h => fX9_where 181 h) := by
  obtain ⟨b1, b2, b3⟩ := I.2.1
  by_cases c : gI h 0 16 = nI 4
  · refine opT I (gI h 0 18) 0 ?_ ?_
    · simp only [lI, fX8_where, c, if_true]
    · have c' : gI h 181 11 = nI 4 := b1.symm.trans c
      have e := b3 c
      show (if gI (sI h 181 0 0) 181 11 = 4 then some (gI (sI h 181 0 0) 181 10, sI h 181 0 0) else some (-1, sI h 181 0 0)) = _
      rw [gIk (by omega), gIk (by omega), c', e]
      exact if_pos rfl
  · refine opT I M1 0 ?_ ?_
    · simp only [lI, neg1, fX8_where, c, if_false]
    · have c' : ¬ gI h 181 11 = nI 4 := fun z => c (b1.trans z)
      show (if gI (sI h 181 0 0) 181 11 = 4 then some (gI (sI h 181 0 0) 181 10, sI h 181 0 0) else some (-1, sI h 181 0 0)) = _
      rw [gIk (by omega)]
      exact if_neg c'
set_option maxRecDepth 100000 in
theorem opN {α : Type} {x y : HH → Option (α × HH)} (G : GR h) (B : TRB h) (Z : GN h) {q : Nat} (hq : q ≤ n) (Q : MtR h q) (a : α) (t : Nat) (ht : t ≠ 4 ∧ t < 100) (e : x h = some (a, sI h 0 16 (nI t))) (hm : ∀ h1 g, gI g 181 14 = nI 0 → gI g 181 25 = nI 0 → gI g 181 26 = nI 0 → fX9_good 181 h1 = some g → y h1 = some (a, sI g 181 11 (nI t))) : OpG h n x y := by
  obtain ⟨z1, z2, z3, z4, z5, z6⟩ := Z
  have K1 : Keep (fun b k => ¬ (b = 0 ∧ k = 16)) h (sI h 0 16 (nI t)) := Keep.sI Keep.rfl (fun z => z ⟨rfl, rfl⟩)
  have K2 : Keep (fun b k => ¬ (b = 0 ∧ k = 16) ∧ ¬ (b = 181 ∧ (k = 0 ∨ k = 11))) h (sI (sI (sI h 0 16 (nI t)) 181 0 0) 181 11 0) := Keep.sI (Keep.sI (K1.mono (fun x k hp => hp.1)) (fun z => by omega)) (fun z => by omega)
  have K3 : Keep (fun b k => ¬ (b = 0 ∧ k = 16) ∧ ¬ (b = 181 ∧ (k = 0 ∨ k = 11))) h (sI (sI (sI (sI h 0 16 (nI t)) 181 0 0) 181 11 0) 181 11 (nI t)) := Keep.sI K2 (fun z => by omega)
  have g16 : gI (sI (sI (sI (sI h 0 16 (nI t)) 181 0 0) 181 11 0) 181 11 (nI t)) 0 16 = nI t := by simp (disch := omega) only [gIa, gIs]
  refine ⟨a, _, _, e, hm _ _ ?_ ?_ ?_ rfl, G.keep (K3.mono (fun x k hp => by unfold PGR at hp; omega)), ⟨g16.trans (gIs _ _ _ _).symm, ?_, fun z => ?_⟩, ⟨q, by omega, Q.keep (K3.mono (fun x k hp => by omega))⟩, Or.inl ⟨?_, ?_, ?_, ?_, ?_, ?_⟩⟩
  · exact (K2 181 14 (by omega)).1.trans z2
  · exact (K2 181 25 (by omega)).1.trans z4
  · exact (K2 181 26 (by omega)).1.trans z6
  · rw [(K3 0 17 (by omega)).1, (K3 181 9 (by omega)).1]; exact B.2.1
  · rw [g16, eqN (by omega) (by omega)] at z; exact absurd z ht.1
  · exact (K3 0 12 (by omega)).1.trans z1
  · exact (K3 181 14 (by omega)).1.trans z2
  · exact (K3 0 14 (by omega)).1.trans z3
  · exact (K3 181 25 (by omega)).1.trans z4
  · exact (K3 0 15 (by omega)).1.trans z5
  · exact (K3 181 26 (by omega)).1.trans z6

set_option maxRecDepth 100000 in
theorem nQuick (G : GR h) (B : TRB h) (Z : GN h) {q : Nat} (hq : q ≤ n) (Q : MtR h q) (x : Int32) : OpG h n (fun h => fX8_quick 0 x h) (fun h => fX9_quick 181 x h) := by
  have c12 := Z.1
  refine opN G B Z hq Q M1 1 (by omega) ?_ (fun h1 g g14 g25 g26 hg => ?_)
  · simp only [lI, lJ, gd_1, bd_1, bv_1, nm_1, neg1, cond_true, cond_false, if_true, if_false, fX8_quick, fX8_isFloor, fX8_isSleeper, fX8_isHead, fX8_isPair, fX8_isDreamFloor, fX8_isAbove, fX8_whyNotIn, fX8_whyNotTogether, fX8_whyNotAsk, fX8_whyNoWages, fX8_refuse, c12, nI1z, Bool.true_eq_false]
  · simp only [lI, lJ, gd_1, bd_1, bv_1, nm_1, neg1, cond_true, cond_false, if_true, if_false, fX9_quick, fX9_isFloor, fX9_isSleeper, fX9_isHead, fX9_isUpward, fX9_inWhy, fX9_setWhy, fX9_askWhy, fX9_payWhy, fX9_meetWhy, fX9_no, hg, g14, nI1z]
set_option maxRecDepth 100000 in
theorem nClock (G : GR h) (B : TRB h) (Z : GN h) {q : Nat} (hq : q ≤ n) (Q : MtR h q) (x : Int32) : OpG h n (fun h => fX8_clock 0 x h) (fun h => fX9_clock 181 x h) := by
  have c12 := Z.1
  refine opN G B Z hq Q M1.toInt64 1 (by omega) ?_ (fun h1 g g14 g25 g26 hg => ?_)
  · simp only [lI, lJ, gd_1, bd_1, bv_1, nm_1, neg1, cond_true, cond_false, if_true, if_false, fX8_clock, fX8_isFloor, fX8_isSleeper, fX8_isHead, fX8_isPair, fX8_isDreamFloor, fX8_isAbove, fX8_whyNotIn, fX8_whyNotTogether, fX8_whyNotAsk, fX8_whyNoWages, fX8_refuse, c12, nI1z, Bool.true_eq_false]
  · simp only [lI, lJ, gd_1, bd_1, bv_1, nm_1, neg1, cond_true, cond_false, if_true, if_false, fX9_clock, fX9_isFloor, fX9_isSleeper, fX9_isHead, fX9_isUpward, fX9_inWhy, fX9_setWhy, fX9_askWhy, fX9_payWhy, fX9_meetWhy, fX9_no, hg, g14, nI1z]
set_option maxRecDepth 100000 in
theorem nTicks (G : GR h) (B : TRB h) (Z : GN h) {q : Nat} (hq : q ≤ n) (Q : MtR h q)  : OpG h n (fun h => fX8_ticks 0 h) (fun h => fX9_ticks 181 h) := by
  have c12 := Z.1
  refine opN G B Z hq Q M1.toInt64 1 (by omega) ?_ (fun h1 g g14 g25 g26 hg => ?_)
  · simp only [lI, lJ, gd_1, bd_1, bv_1, nm_1, neg1, cond_true, cond_false, if_true, if_false, fX8_ticks, fX8_isFloor, fX8_isSleeper, fX8_isHead, fX8_isPair, fX8_isDreamFloor, fX8_isAbove, fX8_whyNotIn, fX8_whyNotTogether, fX8_whyNotAsk, fX8_whyNoWages, fX8_refuse, c12, nI1z, Bool.true_eq_false]
  · simp only [lI, lJ, gd_1, bd_1, bv_1, nm_1, neg1, cond_true, cond_false, if_true, if_false, fX9_ticks, fX9_isFloor, fX9_isSleeper, fX9_isHead, fX9_isUpward, fX9_inWhy, fX9_setWhy, fX9_askWhy, fX9_payWhy, fX9_meetWhy, fX9_no, hg, g14, nI1z]
set_option maxRecDepth 100000 in
theorem nMinutes (G : GR h) (B : TRB h) (Z : GN h) {q : Nat} (hq : q ≤ n) (Q : MtR h q) (x : Int32) (y : Int32) (z : Int32) (b : Bool) : OpG h n (fun h => fX8_minutes 0 x y z b h) (fun h => fX9_minutes 181 x y z b h) := by
  have c12 := Z.1
  refine opN G B Z hq Q M1.toInt64 1 (by omega) ?_ (fun h1 g g14 g25 g26 hg => ?_)
  · simp only [lI, lJ, gd_1, bd_1, bv_1, nm_1, neg1, cond_true, cond_false, if_true, if_false, fX8_minutes, fX8_isFloor, fX8_isSleeper, fX8_isHead, fX8_isPair, fX8_isDreamFloor, fX8_isAbove, fX8_whyNotIn, fX8_whyNotTogether, fX8_whyNotAsk, fX8_whyNoWages, fX8_refuse, c12, nI1z, Bool.true_eq_false]
  · simp only [lI, lJ, gd_1, bd_1, bv_1, nm_1, neg1, cond_true, cond_false, if_true, if_false, fX9_minutes, fX9_isFloor, fX9_isSleeper, fX9_isHead, fX9_isUpward, fX9_inWhy, fX9_setWhy, fX9_askWhy, fX9_payWhy, fX9_meetWhy, fX9_no, hg, g14, nI1z]
set_option maxRecDepth 100000 in
theorem nSleeper (G : GR h) (B : TRB h) (Z : GN h) {q : Nat} (hq : q ≤ n) (Q : MtR h q) (x : Int32) (y : Int32) : OpG h n (fun h => fX8_sleeper 0 x y h) (fun h => fX9_sleeper 181 x y h) := by
  have c12 := Z.1
  refine opN G B Z hq Q M1 1 (by omega) ?_ (fun h1 g g14 g25 g26 hg => ?_)
  · simp only [lI, lJ, gd_1, bd_1, bv_1, nm_1, neg1, cond_true, cond_false, if_true, if_false, fX8_sleeper, fX8_isFloor, fX8_isSleeper, fX8_isHead, fX8_isPair, fX8_isDreamFloor, fX8_isAbove, fX8_whyNotIn, fX8_whyNotTogether, fX8_whyNotAsk, fX8_whyNoWages, fX8_refuse, c12, nI1z, Bool.true_eq_false]
  · simp only [lI, lJ, gd_1, bd_1, bv_1, nm_1, neg1, cond_true, cond_false, if_true, if_false, fX9_sleeper, fX9_isFloor, fX9_isSleeper, fX9_isHead, fX9_isUpward, fX9_inWhy, fX9_setWhy, fX9_askWhy, fX9_payWhy, fX9_meetWhy, fX9_no, hg, g14, nI1z]
set_option maxRecDepth 100000 in
theorem nLived (G : GR h) (B : TRB h) (Z : GN h) {q : Nat} (hq : q ≤ n) (Q : MtR h q) (x : Int32) (b : Bool) : OpG h n (fun h => fX8_lived 0 x b h) (fun h => fX9_lived 181 x b h) := by
  have c12 := Z.1
  refine opN G B Z hq Q M1.toInt64 1 (by omega) ?_ (fun h1 g g14 g25 g26 hg => ?_)
  · simp only [lI, lJ, gd_1, bd_1, bv_1, nm_1, neg1, cond_true, cond_false, if_true, if_false, fX8_lived, fX8_isFloor, fX8_isSleeper, fX8_isHead, fX8_isPair, fX8_isDreamFloor, fX8_isAbove, fX8_whyNotIn, fX8_whyNotTogether, fX8_whyNotAsk, fX8_whyNoWages, fX8_refuse, c12, nI1z, Bool.true_eq_false]
  · simp only [lI, lJ, gd_1, bd_1, bv_1, nm_1, neg1, cond_true, cond_false, if_true, if_false, fX9_lived, fX9_isFloor, fX9_isSleeper, fX9_isHead, fX9_isUpward, fX9_inWhy, fX9_setWhy, fX9_askWhy, fX9_payWhy, fX9_meetWhy, fX9_no, hg, g14, nI1z]
set_option maxRecDepth 100000 in
theorem nMeet (G : GR h) (B : TRB h) (Z : GN h) {q : Nat} (hq : q ≤ n) (Q : MtR h q) (x : Int32) (y : Int32) : OpG h n (fun h => fX8_meet 0 x y h) (fun h => fX9_meet 181 x y h) := by
  have c12 := Z.1
  refine opN G B Z hq Q M1 1 (by omega) ?_ (fun h1 g g14 g25 g26 hg => ?_)
  · simp only [lI, lJ, gd_1, bd_1, bv_1, nm_1, neg1, cond_true, cond_false, if_true, if_false, fX8_meet, fX8_isFloor, fX8_isSleeper, fX8_isHead, fX8_isPair, fX8_isDreamFloor, fX8_isAbove, fX8_whyNotIn, fX8_whyNotTogether, fX8_whyNotAsk, fX8_whyNoWages, fX8_refuse, c12, nI1z, Bool.true_eq_false]
  · simp only [lI, lJ, gd_1, bd_1, bv_1, nm_1, neg1, cond_true, cond_false, if_true, if_false, fX9_meet, fX9_isFloor, fX9_isSleeper, fX9_isHead, fX9_isUpward, fX9_inWhy, fX9_setWhy, fX9_askWhy, fX9_payWhy, fX9_meetWhy, fX9_no, hg, g14, nI1z]
set_option maxRecDepth 100000 in
theorem nOff (G : GR h) (B : TRB h) (Z : GN h) {q : Nat} (hq : q ≤ n) (Q : MtR h q)  : OpG h n (fun h => fX8_off 0 h) (fun h => fX9_off 181 h) := by
  have c12 := Z.1
  refine opN G B Z hq Q M1 1 (by omega) ?_ (fun h1 g g14 g25 g26 hg => ?_)
  · simp only [lI, lJ, gd_1, bd_1, bv_1, nm_1, neg1, cond_true, cond_false, if_true, if_false, fX8_off, fX8_isFloor, fX8_isSleeper, fX8_isHead, fX8_isPair, fX8_isDreamFloor, fX8_isAbove, fX8_whyNotIn, fX8_whyNotTogether, fX8_whyNotAsk, fX8_whyNoWages, fX8_refuse, c12, nI1z, Bool.true_eq_false]
  · simp only [lI, lJ, gd_1, bd_1, bv_1, nm_1, neg1, cond_true, cond_false, if_true, if_false, fX9_off, fX9_isFloor, fX9_isSleeper, fX9_isHead, fX9_isUpward, fX9_inWhy, fX9_setWhy, fX9_askWhy, fX9_payWhy, fX9_meetWhy, fX9_no, hg, g14, nI1z]
set_option maxRecDepth 100000 in
theorem nFloorIn (G : GR h) (B : TRB h) (Z : GN h) {q : Nat} (hq : q ≤ n) (Q : MtR h q) (x : Int32) (y : Int32) : OpG h n (fun h => fX8_floorIn 0 x y h) (fun h => fX9_floorIn 181 x y h) := by
  have c12 := Z.1
  refine opN G B Z hq Q M1 1 (by omega) ?_ (fun h1 g g14 g25 g26 hg => ?_)
  · simp only [lI, lJ, gd_1, bd_1, bv_1, nm_1, neg1, cond_true, cond_false, if_true, if_false, fX8_floorIn, fX8_isFloor, fX8_isSleeper, fX8_isHead, fX8_isPair, fX8_isDreamFloor, fX8_isAbove, fX8_whyNotIn, fX8_whyNotTogether, fX8_whyNotAsk, fX8_whyNoWages, fX8_refuse, c12, nI1z, Bool.true_eq_false]
  · simp only [lI, lJ, gd_1, bd_1, bv_1, nm_1, neg1, cond_true, cond_false, if_true, if_false, fX9_floorIn, fX9_isFloor, fX9_isSleeper, fX9_isHead, fX9_isUpward, fX9_inWhy, fX9_setWhy, fX9_askWhy, fX9_payWhy, fX9_meetWhy, fX9_no, hg, g14, nI1z]
set_option maxRecDepth 100000 in
theorem nHeadIn (G : GR h) (B : TRB h) (Z : GN h) {q : Nat} (hq : q ≤ n) (Q : MtR h q) (x : Int32) (y : Int32) : OpG h n (fun h => fX8_headIn 0 x y h) (fun h => fX9_headIn 181 x y h) := by
  have c12 := Z.1
  refine opN G B Z hq Q M1 1 (by omega) ?_ (fun h1 g g14 g25 g26 hg => ?_)
  · simp only [lI, lJ, gd_1, bd_1, bv_1, nm_1, neg1, cond_true, cond_false, if_true, if_false, fX8_headIn, fX8_isFloor, fX8_isSleeper, fX8_isHead, fX8_isPair, fX8_isDreamFloor, fX8_isAbove, fX8_whyNotIn, fX8_whyNotTogether, fX8_whyNotAsk, fX8_whyNoWages, fX8_refuse, c12, nI1z, Bool.true_eq_false]
  · simp only [lI, lJ, gd_1, bd_1, bv_1, nm_1, neg1, cond_true, cond_false, if_true, if_false, fX9_headIn, fX9_isFloor, fX9_isSleeper, fX9_isHead, fX9_isUpward, fX9_inWhy, fX9_setWhy, fX9_askWhy, fX9_payWhy, fX9_meetWhy, fX9_no, hg, g14, nI1z]
set_option maxRecDepth 100000 in
theorem nMeetsIn (G : GR h) (B : TRB h) (Z : GN h) {q : Nat} (hq : q ≤ n) (Q : MtR h q) (x : Int32) (y : Int32) (z : Int32) : OpG h n (fun h => fX8_meetsIn 0 x y z h) (fun h => fX9_meetsIn 181 x y z h) := by
  have c12 := Z.1
  refine opN G B Z hq Q M1 1 (by omega) ?_ (fun h1 g g14 g25 g26 hg => ?_)
  · simp only [lI, lJ, gd_1, bd_1, bv_1, nm_1, neg1, cond_true, cond_false, if_true, if_false, fX8_meetsIn, fX8_isFloor, fX8_isSleeper, fX8_isHead, fX8_isPair, fX8_isDreamFloor, fX8_isAbove, fX8_whyNotIn, fX8_whyNotTogether, fX8_whyNotAsk, fX8_whyNoWages, fX8_refuse, c12, nI1z, Bool.true_eq_false]
  · simp only [lI, lJ, gd_1, bd_1, bv_1, nm_1, neg1, cond_true, cond_false, if_true, if_false, fX9_meetsIn, fX9_isFloor, fX9_isSleeper, fX9_isHead, fX9_isUpward, fX9_inWhy, fX9_setWhy, fX9_askWhy, fX9_payWhy, fX9_meetWhy, fX9_no, hg, g14, nI1z]
set_option maxRecDepth 100000 in
theorem nAwakeIn (G : GR h) (B : TRB h) (Z : GN h) {q : Nat} (hq : q ≤ n) (Q : MtR h q) (x : Int32) (y : Int32) : OpG h n (fun h => fX8_awakeIn 0 x y h) (fun h => fX9_awakeIn 181 x y h) := by
  have c12 := Z.1
  refine opN G B Z hq Q M1 1 (by omega) ?_ (fun h1 g g14 g25 g26 hg => ?_)
  · simp only [lI, lJ, gd_1, bd_1, bv_1, nm_1, neg1, cond_true, cond_false, if_true, if_false, fX8_awakeIn, fX8_isFloor, fX8_isSleeper, fX8_isHead, fX8_isPair, fX8_isDreamFloor, fX8_isAbove, fX8_whyNotIn, fX8_whyNotTogether, fX8_whyNotAsk, fX8_whyNoWages, fX8_refuse, c12, nI1z, Bool.true_eq_false]
  · simp only [lI, lJ, gd_1, bd_1, bv_1, nm_1, neg1, cond_true, cond_false, if_true, if_false, fX9_awakeIn, fX9_isFloor, fX9_isSleeper, fX9_isHead, fX9_isUpward, fX9_inWhy, fX9_setWhy, fX9_askWhy, fX9_payWhy, fX9_meetWhy, fX9_no, hg, g14, nI1z]
set_option maxRecDepth 100000 in
theorem nLonely (G : GR h) (B : TRB h) (Z : GN h) {q : Nat} (hq : q ≤ n) (Q : MtR h q) (x : Int32) (y : Int32) : OpG h n (fun h => fX8_lonely 0 x y h) (fun h => fX9_lonely 181 x y h) := by
  have c12 := Z.1
  refine opN G B Z hq Q M1 1 (by omega) ?_ (fun h1 g g14 g25 g26 hg => ?_)
  · simp only [lI, lJ, gd_1, bd_1, bv_1, nm_1, neg1, cond_true, cond_false, if_true, if_false, fX8_lonely, fX8_isFloor, fX8_isSleeper, fX8_isHead, fX8_isPair, fX8_isDreamFloor, fX8_isAbove, fX8_whyNotIn, fX8_whyNotTogether, fX8_whyNotAsk, fX8_whyNoWages, fX8_refuse, c12, nI1z, Bool.true_eq_false]
  · simp only [lI, lJ, gd_1, bd_1, bv_1, nm_1, neg1, cond_true, cond_false, if_true, if_false, fX9_lonely, fX9_isFloor, fX9_isSleeper, fX9_isHead, fX9_isUpward, fX9_inWhy, fX9_setWhy, fX9_askWhy, fX9_payWhy, fX9_meetWhy, fX9_no, hg, g14, nI1z]
set_option maxRecDepth 100000 in
theorem nCrowd (G : GR h) (B : TRB h) (Z : GN h) {q : Nat} (hq : q ≤ n) (Q : MtR h q) (x : Int32) : OpG h n (fun h => fX8_crowd 0 x h) (fun h => fX9_crowd 181 x h) := by
  have c12 := Z.1
  refine opN G B Z hq Q M1 1 (by omega) ?_ (fun h1 g g14 g25 g26 hg => ?_)
  · simp only [lI, lJ, gd_1, bd_1, bv_1, nm_1, neg1, cond_true, cond_false, if_true, if_false, fX8_crowd, fX8_isFloor, fX8_isSleeper, fX8_isHead, fX8_isPair, fX8_isDreamFloor, fX8_isAbove, fX8_whyNotIn, fX8_whyNotTogether, fX8_whyNotAsk, fX8_whyNoWages, fX8_refuse, c12, nI1z, Bool.true_eq_false]
  · simp only [lI, lJ, gd_1, bd_1, bv_1, nm_1, neg1, cond_true, cond_false, if_true, if_false, fX9_crowd, fX9_isFloor, fX9_isSleeper, fX9_isHead, fX9_isUpward, fX9_inWhy, fX9_setWhy, fX9_askWhy, fX9_payWhy, fX9_meetWhy, fX9_no, hg, g14, nI1z]
set_option maxRecDepth 100000 in
theorem nLeft (G : GR h) (B : TRB h) (Z : GN h) {q : Nat} (hq : q ≤ n) (Q : MtR h q)  : OpG h n (fun h => fX8_left 0 h) (fun h => fX9_left 181 h) := by
  have c12 := Z.1
  refine opN G B Z hq Q M1 1 (by omega) ?_ (fun h1 g g14 g25 g26 hg => ?_)
  · simp only [lI, lJ, gd_1, bd_1, bv_1, nm_1, neg1, cond_true, cond_false, if_true, if_false, fX8_left, fX8_isFloor, fX8_isSleeper, fX8_isHead, fX8_isPair, fX8_isDreamFloor, fX8_isAbove, fX8_whyNotIn, fX8_whyNotTogether, fX8_whyNotAsk, fX8_whyNoWages, fX8_refuse, c12, nI1z, Bool.true_eq_false]
  · simp only [lI, lJ, gd_1, bd_1, bv_1, nm_1, neg1, cond_true, cond_false, if_true, if_false, fX9_left, fX9_isFloor, fX9_isSleeper, fX9_isHead, fX9_isUpward, fX9_inWhy, fX9_setWhy, fX9_askWhy, fX9_payWhy, fX9_meetWhy, fX9_no, hg, g14, nI1z]
set_option maxRecDepth 100000 in
theorem nWoken (G : GR h) (B : TRB h) (Z : GN h) {q : Nat} (hq : q ≤ n) (Q : MtR h q) (x : Int32) (y : Int32) : OpG h n (fun h => fX8_woken 0 x y h) (fun h => fX9_woken 181 x y h) := by
  have c12 := Z.1
  refine opN G B Z hq Q M1 1 (by omega) ?_ (fun h1 g g14 g25 g26 hg => ?_)
  · simp only [lI, lJ, gd_1, bd_1, bv_1, nm_1, neg1, cond_true, cond_false, if_true, if_false, fX8_woken, fX8_isFloor, fX8_isSleeper, fX8_isHead, fX8_isPair, fX8_isDreamFloor, fX8_isAbove, fX8_whyNotIn, fX8_whyNotTogether, fX8_whyNotAsk, fX8_whyNoWages, fX8_refuse, c12, nI1z, Bool.true_eq_false]
  · simp only [lI, lJ, gd_1, bd_1, bv_1, nm_1, neg1, cond_true, cond_false, if_true, if_false, fX9_woken, fX9_isFloor, fX9_isSleeper, fX9_isHead, fX9_isUpward, fX9_inWhy, fX9_setWhy, fX9_askWhy, fX9_payWhy, fX9_meetWhy, fX9_no, hg, g14, nI1z]
set_option maxRecDepth 100000 in
theorem nFelt (G : GR h) (B : TRB h) (Z : GN h) {q : Nat} (hq : q ≤ n) (Q : MtR h q) (x : Int32) (y : Int32) (z : Int32) : OpG h n (fun h => fX8_felt 0 x y z h) (fun h => fX9_felt 181 x y z h) := by
  have c12 := Z.1
  refine opN G B Z hq Q M1.toInt64 1 (by omega) ?_ (fun h1 g g14 g25 g26 hg => ?_)
  · simp only [lI, lJ, gd_1, bd_1, bv_1, nm_1, neg1, cond_true, cond_false, if_true, if_false, fX8_felt, fX8_isFloor, fX8_isSleeper, fX8_isHead, fX8_isPair, fX8_isDreamFloor, fX8_isAbove, fX8_whyNotIn, fX8_whyNotTogether, fX8_whyNotAsk, fX8_whyNoWages, fX8_refuse, c12, nI1z, Bool.true_eq_false]
  · simp only [lI, lJ, gd_1, bd_1, bv_1, nm_1, neg1, cond_true, cond_false, if_true, if_false, fX9_felt, fX9_isFloor, fX9_isSleeper, fX9_isHead, fX9_isUpward, fX9_inWhy, fX9_setWhy, fX9_askWhy, fX9_payWhy, fX9_meetWhy, fX9_no, hg, g14, nI1z]
set_option maxRecDepth 100000 in
theorem nTask (G : GR h) (B : TRB h) (Z : GN h) {q : Nat} (hq : q ≤ n) (Q : MtR h q) (x : Int32) : OpG h n (fun h => fX8_task 0 x h) (fun h => fX9_task 181 x h) := by
  have c12 := Z.1
  refine opN G B Z hq Q M1 1 (by omega) ?_ (fun h1 g g14 g25 g26 hg => ?_)
  · simp only [lI, lJ, gd_1, bd_1, bv_1, nm_1, neg1, cond_true, cond_false, if_true, if_false, fX8_task, fX8_isFloor, fX8_isSleeper, fX8_isHead, fX8_isPair, fX8_isDreamFloor, fX8_isAbove, fX8_whyNotIn, fX8_whyNotTogether, fX8_whyNotAsk, fX8_whyNoWages, fX8_refuse, c12, nI1z, Bool.true_eq_false]
  · simp only [lI, lJ, gd_1, bd_1, bv_1, nm_1, neg1, cond_true, cond_false, if_true, if_false, fX9_task, fX9_isFloor, fX9_isSleeper, fX9_isHead, fX9_isUpward, fX9_inWhy, fX9_setWhy, fX9_askWhy, fX9_payWhy, fX9_meetWhy, fX9_no, hg, g14, nI1z]
set_option maxRecDepth 100000 in
theorem nBest (G : GR h) (B : TRB h) (Z : GN h) {q : Nat} (hq : q ≤ n) (Q : MtR h q) (x : Int32) : OpG h n (fun h => fX8_best 0 x h) (fun h => fX9_best 181 x h) := by
  have c12 := Z.1
  refine opN G B Z hq Q M1.toInt64 1 (by omega) ?_ (fun h1 g g14 g25 g26 hg => ?_)
  · simp only [lI, lJ, gd_1, bd_1, bv_1, nm_1, neg1, cond_true, cond_false, if_true, if_false, fX8_best, fX8_isFloor, fX8_isSleeper, fX8_isHead, fX8_isPair, fX8_isDreamFloor, fX8_isAbove, fX8_whyNotIn, fX8_whyNotTogether, fX8_whyNotAsk, fX8_whyNoWages, fX8_refuse, c12, nI1z, Bool.true_eq_false]
  · simp only [lI, lJ, gd_1, bd_1, bv_1, nm_1, neg1, cond_true, cond_false, if_true, if_false, fX9_best, fX9_isFloor, fX9_isSleeper, fX9_isHead, fX9_isUpward, fX9_inWhy, fX9_setWhy, fX9_askWhy, fX9_payWhy, fX9_meetWhy, fX9_no, hg, g14, nI1z]
set_option maxRecDepth 100000 in
theorem nSoonest (G : GR h) (B : TRB h) (Z : GN h) {q : Nat} (hq : q ≤ n) (Q : MtR h q)  : OpG h n (fun h => fX8_soonest 0 h) (fun h => fX9_soonest 181 h) := by
  have c12 := Z.1
  refine opN G B Z hq Q M1.toInt64 1 (by omega) ?_ (fun h1 g g14 g25 g26 hg => ?_)
  · simp only [lI, lJ, gd_1, bd_1, bv_1, nm_1, neg1, cond_true, cond_false, if_true, if_false, fX8_soonest, fX8_isFloor, fX8_isSleeper, fX8_isHead, fX8_isPair, fX8_isDreamFloor, fX8_isAbove, fX8_whyNotIn, fX8_whyNotTogether, fX8_whyNotAsk, fX8_whyNoWages, fX8_refuse, c12, nI1z, Bool.true_eq_false]
  · simp only [lI, lJ, gd_1, bd_1, bv_1, nm_1, neg1, cond_true, cond_false, if_true, if_false, fX9_soonest, fX9_isFloor, fX9_isSleeper, fX9_isHead, fX9_isUpward, fX9_inWhy, fX9_setWhy, fX9_askWhy, fX9_payWhy, fX9_meetWhy, fX9_no, hg, g14, nI1z]
set_option maxRecDepth 100000 in
theorem nTogether (G : GR h) (B : TRB h) (Z : GN h) {q : Nat} (hq : q ≤ n) (Q : MtR h q) (x : Int32) : OpG h n (fun h => fX8_together 0 x h) (fun h => fX9_together 181 x h) := by
  have c12 := Z.1
  refine opN G B Z hq Q M1 1 (by omega) ?_ (fun h1 g g14 g25 g26 hg => ?_)
  · simp only [lI, lJ, gd_1, bd_1, bv_1, nm_1, neg1, cond_true, cond_false, if_true, if_false, fX8_together, fX8_isFloor, fX8_isSleeper, fX8_isHead, fX8_isPair, fX8_isDreamFloor, fX8_isAbove, fX8_whyNotIn, fX8_whyNotTogether, fX8_whyNotAsk, fX8_whyNoWages, fX8_refuse, c12, nI1z, Bool.true_eq_false]
  · simp only [lI, lJ, gd_1, bd_1, bv_1, nm_1, neg1, cond_true, cond_false, if_true, if_false, fX9_together, fX9_isFloor, fX9_isSleeper, fX9_isHead, fX9_isUpward, fX9_inWhy, fX9_setWhy, fX9_askWhy, fX9_payWhy, fX9_meetWhy, fX9_no, hg, g14, nI1z]
set_option maxRecDepth 100000 in
theorem nTogetherAt (G : GR h) (B : TRB h) (Z : GN h) {q : Nat} (hq : q ≤ n) (Q : MtR h q) (x : Int32) (y : Int32) : OpG h n (fun h => fX8_togetherAt 0 x y h) (fun h => fX9_togetherAt 181 x y h) := by
  have c12 := Z.1
  refine opN G B Z hq Q M1 1 (by omega) ?_ (fun h1 g g14 g25 g26 hg => ?_)
  · simp only [lI, lJ, gd_1, bd_1, bv_1, nm_1, neg1, cond_true, cond_false, if_true, if_false, fX8_togetherAt, fX8_isFloor, fX8_isSleeper, fX8_isHead, fX8_isPair, fX8_isDreamFloor, fX8_isAbove, fX8_whyNotIn, fX8_whyNotTogether, fX8_whyNotAsk, fX8_whyNoWages, fX8_refuse, c12, nI1z, Bool.true_eq_false]
  · simp only [lI, lJ, gd_1, bd_1, bv_1, nm_1, neg1, cond_true, cond_false, if_true, if_false, fX9_togetherAt, fX9_isFloor, fX9_isSleeper, fX9_isHead, fX9_isUpward, fX9_inWhy, fX9_setWhy, fX9_askWhy, fX9_payWhy, fX9_meetWhy, fX9_no, hg, g14, nI1z]
set_option maxRecDepth 100000 in
theorem nDeep (G : GR h) (B : TRB h) (Z : GN h) {q : Nat} (hq : q ≤ n) (Q : MtR h q)  : OpG h n (fun h => fX8_deep 0 h) (fun h => fX9_deep 181 h) := by
  have c12 := Z.1
  refine opN G B Z hq Q M1 1 (by omega) ?_ (fun h1 g g14 g25 g26 hg => ?_)
  · simp only [lI, lJ, gd_1, bd_1, bv_1, nm_1, neg1, cond_true, cond_false, if_true, if_false, fX8_deep, fX8_isFloor, fX8_isSleeper, fX8_isHead, fX8_isPair, fX8_isDreamFloor, fX8_isAbove, fX8_whyNotIn, fX8_whyNotTogether, fX8_whyNotAsk, fX8_whyNoWages, fX8_refuse, c12, nI1z, Bool.true_eq_false]
  · simp only [lI, lJ, gd_1, bd_1, bv_1, nm_1, neg1, cond_true, cond_false, if_true, if_false, fX9_deep, fX9_isFloor, fX9_isSleeper, fX9_isHead, fX9_isUpward, fX9_inWhy, fX9_setWhy, fX9_askWhy, fX9_payWhy, fX9_meetWhy, fX9_no, hg, g14, nI1z]
set_option maxRecDepth 100000 in
theorem nAsk (G : GR h) (B : TRB h) (Z : GN h) {q : Nat} (hq : q ≤ n) (Q : MtR h q)  : OpG h n (fun h => fX8_ask 0 h) (fun h => fX9_ask 181 h) := by
  have c12 := Z.1
  refine opN G B Z hq Q M1 1 (by omega) ?_ (fun h1 g g14 g25 g26 hg => ?_)
  · simp only [lI, lJ, gd_1, bd_1, bv_1, nm_1, neg1, cond_true, cond_false, if_true, if_false, fX8_ask, fX8_isFloor, fX8_isSleeper, fX8_isHead, fX8_isPair, fX8_isDreamFloor, fX8_isAbove, fX8_whyNotIn, fX8_whyNotTogether, fX8_whyNotAsk, fX8_whyNoWages, fX8_refuse, c12, nI1z, Bool.true_eq_false]
  · simp only [lI, lJ, gd_1, bd_1, bv_1, nm_1, neg1, cond_true, cond_false, if_true, if_false, fX9_ask, fX9_isFloor, fX9_isSleeper, fX9_isHead, fX9_isUpward, fX9_inWhy, fX9_setWhy, fX9_askWhy, fX9_payWhy, fX9_meetWhy, fX9_no, hg, g14, nI1z]
set_option maxRecDepth 100000 in
theorem nAskMost (G : GR h) (B : TRB h) (Z : GN h) {q : Nat} (hq : q ≤ n) (Q : MtR h q)  : OpG h n (fun h => fX8_askMost 0 h) (fun h => fX9_askMost 181 h) := by
  have c12 := Z.1
  refine opN G B Z hq Q M1 1 (by omega) ?_ (fun h1 g g14 g25 g26 hg => ?_)
  · simp only [lI, lJ, gd_1, bd_1, bv_1, nm_1, neg1, cond_true, cond_false, if_true, if_false, fX8_askMost, fX8_isFloor, fX8_isSleeper, fX8_isHead, fX8_isPair, fX8_isDreamFloor, fX8_isAbove, fX8_whyNotIn, fX8_whyNotTogether, fX8_whyNotAsk, fX8_whyNoWages, fX8_refuse, c12, nI1z, Bool.true_eq_false]
  · simp only [lI, lJ, gd_1, bd_1, bv_1, nm_1, neg1, cond_true, cond_false, if_true, if_false, fX9_askMost, fX9_isFloor, fX9_isSleeper, fX9_isHead, fX9_isUpward, fX9_inWhy, fX9_setWhy, fX9_askWhy, fX9_payWhy, fX9_meetWhy, fX9_no, hg, g14, nI1z]
set_option maxRecDepth 100000 in
theorem nLetter (G : GR h) (B : TRB h) (Z : GN h) {q : Nat} (hq : q ≤ n) (Q : MtR h q) (x : Int32) (y : Int32) (z : Int32) : OpG h n (fun h => fX8_letter 0 x y z h) (fun h => fX9_letter 181 x y z h) := by
  have c12 := Z.1
  refine opN G B Z hq Q M1 1 (by omega) ?_ (fun h1 g g14 g25 g26 hg => ?_)
  · simp only [lI, lJ, gd_1, bd_1, bv_1, nm_1, neg1, cond_true, cond_false, if_true, if_false, fX8_letter, fX8_isFloor, fX8_isSleeper, fX8_isHead, fX8_isPair, fX8_isDreamFloor, fX8_isAbove, fX8_whyNotIn, fX8_whyNotTogether, fX8_whyNotAsk, fX8_whyNoWages, fX8_refuse, c12, nI1z, Bool.true_eq_false]
  · simp only [lI, lJ, gd_1, bd_1, bv_1, nm_1, neg1, cond_true, cond_false, if_true, if_false, fX9_letter, fX9_isFloor, fX9_isSleeper, fX9_isHead, fX9_isUpward, fX9_inWhy, fX9_setWhy, fX9_askWhy, fX9_payWhy, fX9_meetWhy, fX9_no, hg, g14, nI1z]
set_option maxRecDepth 100000 in
theorem nTells (G : GR h) (B : TRB h) (Z : GN h) {q : Nat} (hq : q ≤ n) (Q : MtR h q) (x : Int32) (y : Int32) (z : Int32) (w : Int32) : OpG h n (fun h => fX8_tells 0 x y z w h) (fun h => fX9_tells 181 x y z w h) := by
  have c12 := Z.1
  refine opN G B Z hq Q M1 1 (by omega) ?_ (fun h1 g g14 g25 g26 hg => ?_)
  · simp only [lI, lJ, gd_1, bd_1, bv_1, nm_1, neg1, cond_true, cond_false, if_true, if_false, fX8_tells, fX8_isFloor, fX8_isSleeper, fX8_isHead, fX8_isPair, fX8_isDreamFloor, fX8_isAbove, fX8_whyNotIn, fX8_whyNotTogether, fX8_whyNotAsk, fX8_whyNoWages, fX8_refuse, c12, nI1z, Bool.true_eq_false]
  · simp only [lI, lJ, gd_1, bd_1, bv_1, nm_1, neg1, cond_true, cond_false, if_true, if_false, fX9_tells, fX9_isFloor, fX9_isSleeper, fX9_isHead, fX9_isUpward, fX9_inWhy, fX9_setWhy, fX9_askWhy, fX9_payWhy, fX9_meetWhy, fX9_no, hg, g14, nI1z]
set_option maxRecDepth 100000 in
theorem nWords (G : GR h) (B : TRB h) (Z : GN h) {q : Nat} (hq : q ≤ n) (Q : MtR h q) (x : Int32) (y : Int32) (z : Int32) (w : Int32) : OpG h n (fun h => fX8_words 0 x y z w h) (fun h => fX9_words 181 x y z w h) := by
  have c12 := Z.1
  refine opN G B Z hq Q M1.toInt64 1 (by omega) ?_ (fun h1 g g14 g25 g26 hg => ?_)
  · simp only [lI, lJ, gd_1, bd_1, bv_1, nm_1, neg1, cond_true, cond_false, if_true, if_false, fX8_words, fX8_isFloor, fX8_isSleeper, fX8_isHead, fX8_isPair, fX8_isDreamFloor, fX8_isAbove, fX8_whyNotIn, fX8_whyNotTogether, fX8_whyNotAsk, fX8_whyNoWages, fX8_refuse, c12, nI1z, Bool.true_eq_false]
  · simp only [lI, lJ, gd_1, bd_1, bv_1, nm_1, neg1, cond_true, cond_false, if_true, if_false, fX9_words, fX9_isFloor, fX9_isSleeper, fX9_isHead, fX9_isUpward, fX9_inWhy, fX9_setWhy, fX9_askWhy, fX9_payWhy, fX9_meetWhy, fX9_no, hg, g14, nI1z]
set_option maxRecDepth 100000 in
theorem nMeeting (G : GR h) (B : TRB h) (Z : GN h) {q : Nat} (hq : q ≤ n) (Q : MtR h q) (x : Int32) (y : Int32) (z : Int32) : OpG h n (fun h => fX8_meeting 0 x y z h) (fun h => fX9_meeting 181 x y z h) := by
  have c12 := Z.1
  refine opN G B Z hq Q M1.toInt64 1 (by omega) ?_ (fun h1 g g14 g25 g26 hg => ?_)
  · simp only [lI, lJ, gd_1, bd_1, bv_1, nm_1, neg1, cond_true, cond_false, if_true, if_false, fX8_meeting, fX8_isFloor, fX8_isSleeper, fX8_isHead, fX8_isPair, fX8_isDreamFloor, fX8_isAbove, fX8_whyNotIn, fX8_whyNotTogether, fX8_whyNotAsk, fX8_whyNoWages, fX8_refuse, c12, nI1z, Bool.true_eq_false]
  · simp only [lI, lJ, gd_1, bd_1, bv_1, nm_1, neg1, cond_true, cond_false, if_true, if_false, fX9_meeting, fX9_isFloor, fX9_isSleeper, fX9_isHead, fX9_isUpward, fX9_inWhy, fX9_setWhy, fX9_askWhy, fX9_payWhy, fX9_meetWhy, fX9_no, hg, g14, nI1z]
set_option maxRecDepth 100000 in
theorem nMeetingHead (G : GR h) (B : TRB h) (Z : GN h) {q : Nat} (hq : q ≤ n) (Q : MtR h q) (x : Int32) (y : Int32) (z : Int32) : OpG h n (fun h => fX8_meetingHead 0 x y z h) (fun h => fX9_meetingHead 181 x y z h) := by
  have c12 := Z.1
  refine opN G B Z hq Q M1 1 (by omega) ?_ (fun h1 g g14 g25 g26 hg => ?_)
  · simp only [lI, lJ, gd_1, bd_1, bv_1, nm_1, neg1, cond_true, cond_false, if_true, if_false, fX8_meetingHead, fX8_isFloor, fX8_isSleeper, fX8_isHead, fX8_isPair, fX8_isDreamFloor, fX8_isAbove, fX8_whyNotIn, fX8_whyNotTogether, fX8_whyNotAsk, fX8_whyNoWages, fX8_refuse, c12, nI1z, Bool.true_eq_false]
  · simp only [lI, lJ, gd_1, bd_1, bv_1, nm_1, neg1, cond_true, cond_false, if_true, if_false, fX9_meetingHead, fX9_isFloor, fX9_isSleeper, fX9_isHead, fX9_isUpward, fX9_inWhy, fX9_setWhy, fX9_askWhy, fX9_payWhy, fX9_meetWhy, fX9_no, hg, g14, nI1z]
set_option maxRecDepth 100000 in
theorem nTakes (G : GR h) (B : TRB h) (Z : GN h) {q : Nat} (hq : q ≤ n) (Q : MtR h q) (x : Int32) : OpG h n (fun h => fX8_takes 0 x h) (fun h => fX9_takes 181 x h) := by
  have c12 := Z.1
  refine opN G B Z hq Q M1 1 (by omega) ?_ (fun h1 g g14 g25 g26 hg => ?_)
  · simp only [lI, lJ, gd_1, bd_1, bv_1, nm_1, neg1, cond_true, cond_false, if_true, if_false, fX8_takes, fX8_isFloor, fX8_isSleeper, fX8_isHead, fX8_isPair, fX8_isDreamFloor, fX8_isAbove, fX8_whyNotIn, fX8_whyNotTogether, fX8_whyNotAsk, fX8_whyNoWages, fX8_refuse, c12, nI1z, Bool.true_eq_false]
  · simp only [lI, lJ, gd_1, bd_1, bv_1, nm_1, neg1, cond_true, cond_false, if_true, if_false, fX9_takes, fX9_isFloor, fX9_isSleeper, fX9_isHead, fX9_isUpward, fX9_inWhy, fX9_setWhy, fX9_askWhy, fX9_payWhy, fX9_meetWhy, fX9_no, hg, g14, nI1z]
set_option maxRecDepth 100000 in
theorem nGains (G : GR h) (B : TRB h) (Z : GN h) {q : Nat} (hq : q ≤ n) (Q : MtR h q) (x : Int32) : OpG h n (fun h => fX8_gains 0 x h) (fun h => fX9_gains 181 x h) := by
  have c12 := Z.1
  refine opN G B Z hq Q M1.toInt64 1 (by omega) ?_ (fun h1 g g14 g25 g26 hg => ?_)
  · simp only [lI, lJ, gd_1, bd_1, bv_1, nm_1, neg1, cond_true, cond_false, if_true, if_false, fX8_gains, fX8_isFloor, fX8_isSleeper, fX8_isHead, fX8_isPair, fX8_isDreamFloor, fX8_isAbove, fX8_whyNotIn, fX8_whyNotTogether, fX8_whyNotAsk, fX8_whyNoWages, fX8_refuse, c12, nI1z, Bool.true_eq_false]
  · simp only [lI, lJ, gd_1, bd_1, bv_1, nm_1, neg1, cond_true, cond_false, if_true, if_false, fX9_gains, fX9_isFloor, fX9_isSleeper, fX9_isHead, fX9_isUpward, fX9_inWhy, fX9_setWhy, fX9_askWhy, fX9_payWhy, fX9_meetWhy, fX9_no, hg, g14, nI1z]
set_option maxRecDepth 100000 in
theorem nPrice (G : GR h) (B : TRB h) (Z : GN h) {q : Nat} (hq : q ≤ n) (Q : MtR h q) (x : Int32) (y : Int32) : OpG h n (fun h => fX8_price 0 x y h) (fun h => fX9_price 181 x y h) := by
  have c12 := Z.1
  refine opN G B Z hq Q M1 1 (by omega) ?_ (fun h1 g g14 g25 g26 hg => ?_)
  · simp only [lI, lJ, gd_1, bd_1, bv_1, nm_1, neg1, cond_true, cond_false, if_true, if_false, fX8_price, fX8_isFloor, fX8_isSleeper, fX8_isHead, fX8_isPair, fX8_isDreamFloor, fX8_isAbove, fX8_whyNotIn, fX8_whyNotTogether, fX8_whyNotAsk, fX8_whyNoWages, fX8_refuse, c12, nI1z, Bool.true_eq_false]
  · simp only [lI, lJ, gd_1, bd_1, bv_1, nm_1, neg1, cond_true, cond_false, if_true, if_false, fX9_price, fX9_isFloor, fX9_isSleeper, fX9_isHead, fX9_isUpward, fX9_inWhy, fX9_setWhy, fX9_askWhy, fX9_payWhy, fX9_meetWhy, fX9_no, hg, g14, nI1z]
set_option maxRecDepth 100000 in
theorem nEnough (G : GR h) (B : TRB h) (Z : GN h) {q : Nat} (hq : q ≤ n) (Q : MtR h q) (x : Int32) (y : Int32) : OpG h n (fun h => fX8_enough 0 x y h) (fun h => fX9_enough 181 x y h) := by
  have c12 := Z.1
  refine opN G B Z hq Q M1 1 (by omega) ?_ (fun h1 g g14 g25 g26 hg => ?_)
  · simp only [lI, lJ, gd_1, bd_1, bv_1, nm_1, neg1, cond_true, cond_false, if_true, if_false, fX8_enough, fX8_isFloor, fX8_isSleeper, fX8_isHead, fX8_isPair, fX8_isDreamFloor, fX8_isAbove, fX8_whyNotIn, fX8_whyNotTogether, fX8_whyNotAsk, fX8_whyNoWages, fX8_refuse, c12, nI1z, Bool.true_eq_false]
  · simp only [lI, lJ, gd_1, bd_1, bv_1, nm_1, neg1, cond_true, cond_false, if_true, if_false, fX9_enough, fX9_isFloor, fX9_isSleeper, fX9_isHead, fX9_isUpward, fX9_inWhy, fX9_setWhy, fX9_askWhy, fX9_payWhy, fX9_meetWhy, fX9_no, hg, g14, nI1z]
set_option maxRecDepth 100000 in
theorem nRates (G : GR h) (B : TRB h) (Z : GN h) {q : Nat} (hq : q ≤ n) (Q : MtR h q)  : OpG h n (fun h => fX8_rates 0 h) (fun h => fX9_rates 181 h) := by
  have c12 := Z.1
  refine opN G B Z hq Q M1 1 (by omega) ?_ (fun h1 g g14 g25 g26 hg => ?_)
  · simp only [lI, lJ, gd_1, bd_1, bv_1, nm_1, neg1, cond_true, cond_false, if_true, if_false, fX8_rates, fX8_isFloor, fX8_isSleeper, fX8_isHead, fX8_isPair, fX8_isDreamFloor, fX8_isAbove, fX8_whyNotIn, fX8_whyNotTogether, fX8_whyNotAsk, fX8_whyNoWages, fX8_refuse, c12, nI1z, Bool.true_eq_false]
  · simp only [lI, lJ, gd_1, bd_1, bv_1, nm_1, neg1, cond_true, cond_false, if_true, if_false, fX9_rates, fX9_isFloor, fX9_isSleeper, fX9_isHead, fX9_isUpward, fX9_inWhy, fX9_setWhy, fX9_askWhy, fX9_payWhy, fX9_meetWhy, fX9_no, hg, g14, nI1z]
set_option maxRecDepth 100000 in
theorem nRate (G : GR h) (B : TRB h) (Z : GN h) {q : Nat} (hq : q ≤ n) (Q : MtR h q) (x : Int32) : OpG h n (fun h => fX8_rate 0 x h) (fun h => fX9_rate 181 x h) := by
  have c12 := Z.1
  refine opN G B Z hq Q M1 1 (by omega) ?_ (fun h1 g g14 g25 g26 hg => ?_)
  · simp only [lI, lJ, gd_1, bd_1, bv_1, nm_1, neg1, cond_true, cond_false, if_true, if_false, fX8_rate, fX8_isFloor, fX8_isSleeper, fX8_isHead, fX8_isPair, fX8_isDreamFloor, fX8_isAbove, fX8_whyNotIn, fX8_whyNotTogether, fX8_whyNotAsk, fX8_whyNoWages, fX8_refuse, c12, nI1z, Bool.true_eq_false]
  · simp only [lI, lJ, gd_1, bd_1, bv_1, nm_1, neg1, cond_true, cond_false, if_true, if_false, fX9_rate, fX9_isFloor, fX9_isSleeper, fX9_isHead, fX9_isUpward, fX9_inWhy, fX9_setWhy, fX9_askWhy, fX9_payWhy, fX9_meetWhy, fX9_no, hg, g14, nI1z]
set_option maxRecDepth 100000 in
theorem nWaking (G : GR h) (B : TRB h) (Z : GN h) {q : Nat} (hq : q ≤ n) (Q : MtR h q) (x : Int32) (y : Int32) (z : Int32) (b : Bool) : OpG h n (fun h => fX8_waking 0 x y z b h) (fun h => fX9_waking 181 x y z b h) := by
  have c12 := Z.1
  refine opN G B Z hq Q M1.toInt64 1 (by omega) ?_ (fun h1 g g14 g25 g26 hg => ?_)
  · simp only [lI, lJ, gd_1, bd_1, bv_1, nm_1, neg1, cond_true, cond_false, if_true, if_false, fX8_waking, fX8_isFloor, fX8_isSleeper, fX8_isHead, fX8_isPair, fX8_isDreamFloor, fX8_isAbove, fX8_whyNotIn, fX8_whyNotTogether, fX8_whyNotAsk, fX8_whyNoWages, fX8_refuse, c12, nI1z, Bool.true_eq_false]
  · simp only [lI, lJ, gd_1, bd_1, bv_1, nm_1, neg1, cond_true, cond_false, if_true, if_false, fX9_waking, fX9_isFloor, fX9_isSleeper, fX9_isHead, fX9_isUpward, fX9_inWhy, fX9_setWhy, fX9_askWhy, fX9_payWhy, fX9_meetWhy, fX9_no, hg, g14, nI1z]
set_option maxRecDepth 100000 in
theorem nMean (G : GR h) (B : TRB h) (Z : GN h) {q : Nat} (hq : q ≤ n) (Q : MtR h q) (x : Int32) (y : Int32) (b : Bool) : OpG h n (fun h => fX8_mean 0 x y b h) (fun h => fX9_mean 181 x y b h) := by
  have c12 := Z.1
  refine opN G B Z hq Q M1.toInt64 1 (by omega) ?_ (fun h1 g g14 g25 g26 hg => ?_)
  · simp only [lI, lJ, gd_1, bd_1, bv_1, nm_1, neg1, cond_true, cond_false, if_true, if_false, fX8_mean, fX8_isFloor, fX8_isSleeper, fX8_isHead, fX8_isPair, fX8_isDreamFloor, fX8_isAbove, fX8_whyNotIn, fX8_whyNotTogether, fX8_whyNotAsk, fX8_whyNoWages, fX8_refuse, c12, nI1z, Bool.true_eq_false]
  · simp only [lI, lJ, gd_1, bd_1, bv_1, nm_1, neg1, cond_true, cond_false, if_true, if_false, fX9_mean, fX9_isFloor, fX9_isSleeper, fX9_isHead, fX9_isUpward, fX9_inWhy, fX9_setWhy, fX9_askWhy, fX9_payWhy, fX9_meetWhy, fX9_no, hg, g14, nI1z]
set_option maxRecDepth 100000 in
theorem nPass (G : GR h) (B : TRB h) (Z : GN h) {q : Nat} (hq : q ≤ n) (Q : MtR h q) (x : Int32) (y : Int32) : OpG h n (fun h => fX8_pass 0 x y h) (fun h => fX9_pass 181 x y h) := by
  have c12 := Z.1
  refine opN G B Z hq Q M1 1 (by omega) ?_ (fun h1 g g14 g25 g26 hg => ?_)
  · simp only [lI, lJ, gd_1, bd_1, bv_1, nm_1, neg1, cond_true, cond_false, if_true, if_false, fX8_pass, fX8_isFloor, fX8_isSleeper, fX8_isHead, fX8_isPair, fX8_isDreamFloor, fX8_isAbove, fX8_whyNotIn, fX8_whyNotTogether, fX8_whyNotAsk, fX8_whyNoWages, fX8_refuse, c12, nI1z, Bool.true_eq_false]
  · simp only [lI, lJ, gd_1, bd_1, bv_1, nm_1, neg1, cond_true, cond_false, if_true, if_false, fX9_pass, fX9_isFloor, fX9_isSleeper, fX9_isHead, fX9_isUpward, fX9_inWhy, fX9_setWhy, fX9_askWhy, fX9_payWhy, fX9_meetWhy, fX9_no, hg, g14, nI1z]
set_option maxRecDepth 100000 in
theorem nLie (G : GR h) (B : TRB h) (Z : GN h) {q : Nat} (hq : q ≤ n) (Q : MtR h q) (x : Int32) (y : Int32) : OpG h n (fun h => fX8_lie 0 x y h) (fun h => fX9_lie 181 x y h) := by
  have c12 := Z.1
  refine opN G B Z hq Q M1 1 (by omega) ?_ (fun h1 g g14 g25 g26 hg => ?_)
  · simp only [lI, lJ, gd_1, bd_1, bv_1, nm_1, neg1, cond_true, cond_false, if_true, if_false, fX8_lie, fX8_isFloor, fX8_isSleeper, fX8_isHead, fX8_isPair, fX8_isDreamFloor, fX8_isAbove, fX8_whyNotIn, fX8_whyNotTogether, fX8_whyNotAsk, fX8_whyNoWages, fX8_refuse, c12, nI1z, Bool.true_eq_false]
  · simp only [lI, lJ, gd_1, bd_1, bv_1, nm_1, neg1, cond_true, cond_false, if_true, if_false, fX9_lie, fX9_isFloor, fX9_isSleeper, fX9_isHead, fX9_isUpward, fX9_inWhy, fX9_setWhy, fX9_askWhy, fX9_payWhy, fX9_meetWhy, fX9_no, hg, g14, nI1z]
set_option maxRecDepth 100000 in
theorem nWake (G : GR h) (B : TRB h) (Z : GN h) {q : Nat} (hq : q ≤ n) (Q : MtR h q) (x : Int32) : OpG h n (fun h => fX8_wake 0 x h) (fun h => fX9_wake 181 x h) := by
  have c12 := Z.1
  refine opN G B Z hq Q M1 1 (by omega) ?_ (fun h1 g g14 g25 g26 hg => ?_)
  · simp only [lI, lJ, gd_1, bd_1, bv_1, nm_1, neg1, cond_true, cond_false, if_true, if_false, fX8_wake, fX8_isFloor, fX8_isSleeper, fX8_isHead, fX8_isPair, fX8_isDreamFloor, fX8_isAbove, fX8_whyNotIn, fX8_whyNotTogether, fX8_whyNotAsk, fX8_whyNoWages, fX8_refuse, c12, nI1z, Bool.true_eq_false]
  · simp only [lI, lJ, gd_1, bd_1, bv_1, nm_1, neg1, cond_true, cond_false, if_true, if_false, fX9_wake, fX9_isFloor, fX9_isSleeper, fX9_isHead, fX9_isUpward, fX9_inWhy, fX9_setWhy, fX9_askWhy, fX9_payWhy, fX9_meetWhy, fX9_no, hg, g14, nI1z]
set_option maxRecDepth 100000 in
theorem nKnock (G : GR h) (B : TRB h) (Z : GN h) {q : Nat} (hq : q ≤ n) (Q : MtR h q) (x : Int32) (y : Int32) (z : Int32) : OpG h n (fun h => fX8_knock 0 x y z h) (fun h => fX9_knock 181 x y z h) := by
  have c12 := Z.1
  refine opN G B Z hq Q M1 1 (by omega) ?_ (fun h1 g g14 g25 g26 hg => ?_)
  · simp only [lI, lJ, gd_1, bd_1, bv_1, nm_1, neg1, cond_true, cond_false, if_true, if_false, fX8_knock, fX8_isFloor, fX8_isSleeper, fX8_isHead, fX8_isPair, fX8_isDreamFloor, fX8_isAbove, fX8_whyNotIn, fX8_whyNotTogether, fX8_whyNotAsk, fX8_whyNoWages, fX8_refuse, c12, nI1z, Bool.true_eq_false]
  · simp only [lI, lJ, gd_1, bd_1, bv_1, nm_1, neg1, cond_true, cond_false, if_true, if_false, fX9_knock, fX9_isFloor, fX9_isSleeper, fX9_isHead, fX9_isUpward, fX9_inWhy, fX9_setWhy, fX9_askWhy, fX9_payWhy, fX9_meetWhy, fX9_no, hg, g14, nI1z]
set_option maxRecDepth 100000 in
theorem nImage (G : GR h) (B : TRB h) (Z : GN h) {q : Nat} (hq : q ≤ n) (Q : MtR h q)  : OpG h n (fun h => fX8_image 0 h) (fun h => fX9_image 181 h) := by
  have c12 := Z.1
  refine opN G B Z hq Q M1 1 (by omega) ?_ (fun h1 g g14 g25 g26 hg => ?_)
  · simp only [lI, lJ, gd_1, bd_1, bv_1, nm_1, neg1, cond_true, cond_false, if_true, if_false, fX8_image, fX8_isFloor, fX8_isSleeper, fX8_isHead, fX8_isPair, fX8_isDreamFloor, fX8_isAbove, fX8_whyNotIn, fX8_whyNotTogether, fX8_whyNotAsk, fX8_whyNoWages, fX8_refuse, c12, nI1z, Bool.true_eq_false]
  · simp only [lI, lJ, gd_1, bd_1, bv_1, nm_1, neg1, cond_true, cond_false, if_true, if_false, fX9_image, fX9_isFloor, fX9_isSleeper, fX9_isHead, fX9_isUpward, fX9_inWhy, fX9_setWhy, fX9_askWhy, fX9_payWhy, fX9_meetWhy, fX9_no, hg, g14, nI1z]
set_option maxRecDepth 100000 in
theorem nUndo (G : GR h) (B : TRB h) (Z : GN h) {q : Nat} (hq : q ≤ n) (Q : MtR h q) : OpG h n (fun h => fX8_undo 0 h) (fun h => fX9_undo 181 h) := by
  have c14 := Z.2.2.1
  refine opN G B Z hq Q false 6 (by omega) ?_ (fun h1 g g14 g25 g26 hg => ?_)
  · have nn : ¬ (0 : Nat) < 0 := by omega
    simp (disch := omega) only [lI, fX8_undo, c14, ltN, nn, if_false]
  · simp only [lI, bd_1, bv_1, if_true, fX9_undo, fX9_isNot, hg, g25]
set_option maxRecDepth 100000 in
theorem nBack (G : GR h) (B : TRB h) (Z : GN h) {q : Nat} (hq : q ≤ n) (Q : MtR h q) (x : Int32) : OpG h n (fun h => fX8_back 0 x h) (fun h => fX9_back 181 x h) := by
  have c15 := Z.2.2.2.2.1
  rcases cut x (m := 0) (by omega) with ⟨j, hj, rfl, wt⟩ | ⟨hx, wf⟩
  · omega
  · refine opN G B Z hq Q false 1 (by omega) ?_ (fun h1 g g14 g25 g26 hg => ?_)
    · rcases hx with z | ⟨z1, z2, z3⟩
      · simp (disch := omega) only [lI, fX8_back, z, if_true]
      · simp (disch := omega) only [lI, fX8_back, z1, c15, z3, if_false]
    · simp only [lI, bd_1, bv_1, cond_false, fX9_back, fX9_isNot, hg, g26, wf]
/-! size -/
set_option maxRecDepth 100000 in
theorem aSize (I : GI h n) (x : Int32) : OpG h n (fun h => fX8_size 0 x h) (fun h => fX9_size 181 x h) := by
  obtain ⟨⟨tz, t1, t2, t3, t4⟩, -⟩ := I.1
  have s0 : ∀ k, k ≠ 0 → gI (sI h 181 0 (nI 0)) 181 k = gI h 181 k := fun k hk => gIk hk
  have s4 : ∀ k, gI (sI h 181 0 (nI 0)) 184 k = gI h 184 k := fun k => gIa (by omega)
  by_cases y12 : x = nI 12
  · subst y12
    refine opT I (nI tz) (nI 0) ?_ ?_
    · simp (disch := omega) only [lI, eqN, fX8_size, Nat.reduceEqDiff, if_false, if_true, t2]
    · unfold fX9_size
      rw [if_pos (show nI 12 = 12 from rfl), gIk (by omega), t3]
      rfl
  rcases I.2.2.2 with Z | ⟨d, R, N, T, D⟩
  · obtain ⟨z1, z2, z3, z4, z5, z6⟩ := Z
    by_cases y10 : x = nI 10
    · subst y10
      refine opT I (nI 0) (nI 0) ?_ ?_
      · simp (disch := omega) only [lI, fX8_size, if_true, z3]
      · simp (disch := omega) only [lI, bd_1, eqN, Nat.reduceEqDiff, if_false, fX9_size, s0, z2, if_true, wit3, cond_true]
    by_cases y11 : x = nI 11
    · subst y11
      refine opT I (nI 0) (nI 0) ?_ ?_
      · simp (disch := omega) only [lI, eqN, Nat.reduceEqDiff, if_false, fX8_size, if_true, z5]
      · simp (disch := omega) only [lI, bd_1, eqN, Nat.reduceEqDiff, if_false, fX9_size, s0, z2, if_true, wit3, cond_true]
    rcases rng x (n := 11) (by omega) with ⟨j, hj, rfl⟩ | hx | ⟨hx1, hx2, hx3, hx4⟩ | hx
    · have j12 : j ≤ 12 := by omega
      refine opT I (nI 0) (nI 0) ?_ ?_
      · simp (disch := omega) only [lI, bd_1, fX8_size, fX8_toldSize, y10, y11, y12, if_false, ltN, Nat.not_lt_zero, leN, j12, if_true, z1]
      · have ww : fX9_within (nI j) 0 11 (sI h 181 0 0) = some (true, sI h 181 0 0) := wit3 (a := j) (b := 0) (c := 11) (by omega) hj (by omega)
        unfold fX9_size
        rw [if_neg (show ¬ (nI j) = 12 from y12), if_pos (show gI (sI h 181 0 0) 181 14 = 0 by rw [gIk (by omega)]; exact z2), ww]
        rfl
    · refine opT I M1 (nI 0) ?_ ?_
      · simp (disch := omega) only [lI, neg1, fX8_size, y10, y11, y12, if_false, hx, if_true]
      · have ww : fX9_within x 0 11 (sI h 181 0 0) = some (false, sI h 181 0 0) := wit hx
        unfold fX9_size
        rw [if_neg (show ¬ x = 12 from y12), if_pos (show gI (sI h 181 0 0) 181 14 = 0 by rw [gIk (by omega)]; exact z2), ww]
        rfl
    · have n12 : ¬ x ≤ nI 12 := fun z => y12 (Int32.toInt_inj.mp (by
        rw [Int32.le_iff_toInt_le, nI_toInt (by omega)] at z hx4
        rw [nI_toInt (by omega)]; omega))
      refine opT I M1 (nI 0) ?_ ?_
      · simp (disch := omega) only [lI, neg1, fX8_size, y10, y11, y12, if_false, hx1, n12]
      · have ww : fX9_within x 0 11 (sI h 181 0 0) = some (false, sI h 181 0 0) := wit2 hx1 hx3
        unfold fX9_size
        rw [if_neg (show ¬ x = 12 from y12), if_pos (show gI (sI h 181 0 0) 181 14 = 0 by rw [gIk (by omega)]; exact z2), ww]
        rfl
    · omega
  · obtain ⟨C, M, ⟨u, u1, u2, u3, u4⟩, ⟨m, m1, m2, m3, m4⟩, -, -⟩ := D
    have k := isKb_D C.2.1
    have v := C.2.2.2.2.1
    have vv := v.2.1
    have vF := v.F
    have c3 := C.2.2.1
    have D := C.2.2.2.1
    have f3 := D.2.2.1
    have f4 := D.2.2.2.1
    have z1 : ¬ (1 : Nat) = 0 := by omega
    by_cases y10 : x = nI 10
    · subst y10
      refine opT I (nI u) (nI 0) ?_ ?_
      · simp (disch := omega) only [lI, fX8_size, if_true, u2]
      · simp (disch := omega) only [lI, gd_1, inbN, ixN, eqN, Nat.reduceEqDiff, if_false, fX9_size, s0, M.1, z1, if_true, u3]
    by_cases y11 : x = nI 11
    · subst y11
      refine opT I (nI m) (nI 0) ?_ ?_
      · simp (disch := omega) only [lI, eqN, Nat.reduceEqDiff, if_false, fX8_size, if_true, m2]
      · simp (disch := omega) only [lI, gd_1, inbN, ixN, eqN, Nat.reduceEqDiff, if_false, fX9_size, s0, M.1, z1, if_true, m3]

    by_cases y0 : x = nI 0
    · subst y0
      refine opT I (nI (R 0)) (nI 0) ?_ ?_
      · simp (disch := omega) only [lI, gd_1, bd_1, eqN, Nat.reduceEqDiff, if_false, ltN, Nat.reduceLT, leN, Nat.reduceLeDiff, fX8_size, fX8_toldSize, if_true, c3, z1, C.1, k, f3.1]
      · simp (disch := omega) only [lI, gd_1, inbN, ixN, eqN, Nat.reduceEqDiff, if_false, fX9_size, s0, M.1, z1, if_true, Nat.reduceAdd, s4, M.2.1 0]
    by_cases y1 : x = nI 1
    · subst y1
      refine opT I (nI (R 1)) (nI 0) ?_ ?_
      · simp (disch := omega) only [lI, gd_1, bd_1, eqN, Nat.reduceEqDiff, if_false, ltN, Nat.reduceLT, leN, Nat.reduceLeDiff, fX8_size, fX8_toldSize, if_true, c3, z1, C.1, k, f3.2.1]
      · simp (disch := omega) only [lI, gd_1, inbN, ixN, eqN, Nat.reduceEqDiff, if_false, fX9_size, s0, M.1, z1, if_true, Nat.reduceAdd, s4, M.2.1 1]
    by_cases y2 : x = nI 2
    · subst y2
      refine opT I (nI (R 2)) (nI 0) ?_ ?_
      · simp (disch := omega) only [lI, gd_1, bd_1, eqN, Nat.reduceEqDiff, if_false, ltN, Nat.reduceLT, leN, Nat.reduceLeDiff, fX8_size, fX8_toldSize, if_true, c3, z1, C.1, k, f3.2.2.1]
      · simp (disch := omega) only [lI, gd_1, inbN, ixN, eqN, Nat.reduceEqDiff, if_false, fX9_size, s0, M.1, z1, if_true, Nat.reduceAdd, s4, M.2.1 2]
    by_cases y3 : x = nI 3
    · subst y3
      refine opT I (nI (R 3)) (nI 0) ?_ ?_
      · simp (disch := omega) only [lI, gd_1, bd_1, eqN, Nat.reduceEqDiff, if_false, ltN, Nat.reduceLT, leN, Nat.reduceLeDiff, fX8_size, fX8_toldSize, if_true, c3, z1, C.1, k, f3.2.2.2.1]
      · simp (disch := omega) only [lI, gd_1, inbN, ixN, eqN, Nat.reduceEqDiff, if_false, fX9_size, s0, M.1, z1, if_true, Nat.reduceAdd, s4, M.2.1 3]
    by_cases y4 : x = nI 4
    · subst y4
      refine opT I (nI (R 4)) (nI 0) ?_ ?_
      · simp (disch := omega) only [lI, gd_1, bd_1, eqN, Nat.reduceEqDiff, if_false, ltN, Nat.reduceLT, leN, Nat.reduceLeDiff, fX8_size, fX8_toldSize, if_true, c3, z1, C.1, k, f4.1.2]
      · simp (disch := omega) only [lI, gd_1, inbN, ixN, eqN, Nat.reduceEqDiff, if_false, fX9_size, s0, M.1, z1, if_true, Nat.reduceAdd, s4, M.2.1 4]
    by_cases y5 : x = nI 5
    · subst y5
      refine opT I (nI (R 5)) (nI 0) ?_ ?_
      · simp (disch := omega) only [lI, gd_1, bd_1, eqN, Nat.reduceEqDiff, if_false, ltN, Nat.reduceLT, leN, Nat.reduceLeDiff, fX8_size, fX8_toldSize, if_true, c3, z1, C.1, k, f4.2.1.2]
      · simp (disch := omega) only [lI, gd_1, inbN, ixN, eqN, Nat.reduceEqDiff, if_false, fX9_size, s0, M.1, z1, if_true, Nat.reduceAdd, s4, M.2.1 5]
    by_cases y6 : x = nI 6
    · subst y6
      refine opT I (nI (R 6)) (nI 0) ?_ ?_
      · simp (disch := omega) only [lI, gd_1, bd_1, eqN, Nat.reduceEqDiff, if_false, ltN, Nat.reduceLT, leN, Nat.reduceLeDiff, fX8_size, fX8_toldSize, if_true, c3, z1, C.1, k, f4.2.2.1.2]
      · simp (disch := omega) only [lI, gd_1, inbN, ixN, eqN, Nat.reduceEqDiff, if_false, fX9_size, s0, M.1, z1, if_true, Nat.reduceAdd, s4, M.2.1 6]
    by_cases y7 : x = nI 7
    · subst y7
      refine opT I (nI (R 7)) (nI 0) ?_ ?_
      · simp (disch := omega) only [lI, gd_1, bd_1, eqN, Nat.reduceEqDiff, if_false, ltN, Nat.reduceLT, leN, Nat.reduceLeDiff, fX8_size, fX8_toldSize, if_true, c3, z1, C.1, k, f4.2.2.2.1.2]
      · simp (disch := omega) only [lI, gd_1, inbN, ixN, eqN, Nat.reduceEqDiff, if_false, fX9_size, s0, M.1, z1, if_true, Nat.reduceAdd, s4, M.2.1 7]
    by_cases y8 : x = nI 8
    · subst y8
      refine opT I (nI (R 8)) (nI 0) ?_ ?_
      · simp (disch := omega) only [lI, gd_1, bd_1, eqN, Nat.reduceEqDiff, if_false, ltN, Nat.reduceLT, leN, Nat.reduceLeDiff, fX8_size, fX8_toldSize, if_true, c3, z1, C.1, k, f4.2.2.2.2.1.2]
      · simp (disch := omega) only [lI, gd_1, inbN, ixN, eqN, Nat.reduceEqDiff, if_false, fX9_size, s0, M.1, z1, if_true, Nat.reduceAdd, s4, M.2.1 8]
    by_cases y9 : x = nI 9
    · subst y9
      refine opT I (nI (R 9)) (nI 0) ?_ ?_
      · simp (disch := omega) only [lI, gd_1, bd_1, eqN, Nat.reduceEqDiff, if_false, ltN, Nat.reduceLT, leN, Nat.reduceLeDiff, fX8_size, fX8_toldSize, if_true, c3, z1, C.1, k, f4.2.2.2.2.2.2]
      · simp (disch := omega) only [lI, gd_1, inbN, ixN, eqN, Nat.reduceEqDiff, if_false, fX9_size, s0, M.1, z1, if_true, Nat.reduceAdd, s4, M.2.1 9]
    have ml : fX9_size 181 x h = some (M1, sI h 181 0 (nI 0)) := by
      simp (disch := omega) only [lI, neg1, if_false, fX9_size, s0, M.1, eqN, z1, y0, y1, y2, y3, y4, y5, y6, y7, y8, y9, y10, y11, y12]
    rcases rng x (n := 12) (by omega) with ⟨j, hj, rfl⟩ | hx | ⟨hx1, hx2, hx3, hx4⟩ | hx
    · exfalso
      rw [eqN (by omega) (by omega)] at y0 y1 y2 y3 y4 y5 y6 y7 y8 y9 y10 y11 y12
      omega
    · refine opT I M1 (nI 0) ?_ ml
      simp (disch := omega) only [lI, neg1, fX8_size, y10, y11, y12, if_false, hx, if_true]
    · refine opT I M1 (nI 0) ?_ ml
      simp (disch := omega) only [lI, neg1, fX8_size, y10, y11, y12, if_false, hx1, hx2]
    · omega
/-! led -/
def ldp (N : Nat → Nat) (x : Int32) : Nat → Nat → Nat → Option Nat
  | 0, _, _ => none
  | m + 1, s, c => if N (4 * s + 0) = 0 then ldp N x m (s + 1) c else if nI c = x then some s else ldp N x m (s + 1) (c + 1)
set_option maxRecDepth 100000 in
theorem aLed (I : GI h n) (x : Int32) : ∃ k h1 b h2, fL_led 0 x 201 h = some (k, h1) ∧ fX9_led 181 x h1 = some (b, h2) ∧ gI h2 181 0 = k ∧ (k = nI 0 → gL h2 201 0 = b.toInt64) ∧ GI h2 (n + 1) := by
  have l201 : ln 201 = 1 := by decide +kernel
  have fin : ∀ (o : Option Nat), fX8_led 0 x h = some (o.map nI, h) → (∀ s, o = some s → s < 5) → (∀ h1, Keep (fun b _ => b ≠ 201) h h1 → fX9_led 181 x h1 = match o with | some s => some (nI s, sI h1 181 0 (nI 0)) | none => some (nI 0, sI h1 181 0 (nI 1))) → ∃ k h1 b h2, fL_led 0 x 201 h = some (k, h1) ∧ fX9_led 181 x h1 = some (b, h2) ∧ gI h2 181 0 = k ∧ (k = nI 0 → gL h2 201 0 = b.toInt64) ∧ GI h2 (n + 1) := by
    intro o e1 hs e2
    cases o with
    | none =>
      refine ⟨nI 1, h, nI 0, sI h 181 0 (nI 1), ?_, e2 h Keep.rfl, gIs _ _ _ _, fun z => ?_, I.keep (Keep.sI Keep.rfl (fun z => z.1 ⟨rfl, rfl⟩))⟩
      · simp only [fL_led, e1, bd_1, Option.map_none]; rfl
      · rw [eqN (by omega) (by omega)] at z; omega
    | some s =>
      have h5 := hs s rfl
      have K1 : Keep (fun b _ => b ≠ 201) h (sL h 201 0 (lN s)) := Keep.sL Keep.rfl (fun z => z rfl)
      refine ⟨nI 0, sL h 201 0 (lN s), nI s, sI (sL h 201 0 (lN s)) 181 0 (nI 0), ?_, e2 _ K1, gIs _ _ _ _, fun z => ?_, I.keep (Keep.sI (K1.mono (fun x k hp => hp.2)) (fun z => z.1 ⟨rfl, rfl⟩))⟩
      · simp (disch := omega) only [lI, gd_1, inbN, ixN, fL_led, e1, bd_1, Option.map_some, l201, nI_l]
      · rw [gL_sI, gLs, nI_l (by omega)]
  rcases I.2.2.2 with Z | ⟨d, R, N, T, C, M, -⟩
  · refine fin none ?_ (fun s hs => by cases hs) (fun h1 K1 => ?_)
    · show fX8_led_L4 0 x _ 0 0 h = _
      simp only [lI, fX8_led_L4, Z.1, if_true, Option.map_none]
    · have g14 : gI h1 181 14 = nI 0 := (K1 181 14 (by omega)).1.trans Z.2.1
      show fX9_led_L4 181 x _ 0 0 h1 = _
      simp only [lI, fX9_led_L4, g14, if_true]
  · have k := isKb_D C.2.1
    have v := C.2.2.2.2.1
    have vS := v.S
    have vF := v.F
    have z1 : ¬ (1 : Nat) = 0 := by omega
    have c3 := C.2.2.1
    have d4 := C.2.2.2.1.2.2.2.1.1.2
    have cl : ∀ m s c f, s + m = R 4 → m < f → lq2 (fX8_led_L4 0 x) f (nI c) (nI s) h = some ((ldp N x m s c).map nI, h) := by
      intro m
      induction m with
      | zero =>
        intro s c f e hf
        obtain ⟨f, rfl⟩ : ∃ q, f = q + 1 := ⟨f - 1, by omega⟩
        have n1 : R 4 ≤ s := by omega
        simp (disch := omega) only [lI, gd_1, eqN, lq2, fX8_led_L4, c3, z1, if_false, C.1, k, d4, leN, n1, if_true, ldp, Option.map_none]
      | succ m ih =>
        intro s c f e hf
        obtain ⟨f, rfl⟩ : ∃ q, f = q + 1 := ⟨f - 1, by omega⟩
        have n1 : ¬ R 4 ≤ s := by omega
        have q := (C.2.2.2.2.2.1.2.1 s (by omega)).1
        have q' : gI h 7 s = nI (N (4 * s + 0)) := q
        have w := (C.2.2.2.2.2.2.1.2.1 s (by omega)).1
        have e1 : ldp N x (m + 1) s c = if N (4 * s + 0) = 0 then ldp N x m (s + 1) c else if nI c = x then some s else ldp N x m (s + 1) (c + 1) := rfl
        rw [e1]
        by_cases c0 : N (4 * s + 0) = 0
        · have c0' : N (4 * s + 0) ≤ 0 := by omega
          rw [if_pos c0]
          have key := ih (s + 1) c f (by omega) (by omega)
          simp (disch := omega) only [lI, gd_1, inbN, ixN, eqN, nI_add, lq2, fX8_led_L4, c3, z1, if_false, C.1, k, d4, leN, n1, Nat.reduceAdd, q', c0', if_true]
          exact key
        · have c0' : ¬ N (4 * s + 0) ≤ 0 := by omega
          rw [if_neg c0]
          by_cases c1 : nI c = x
          · rw [if_pos c1]
            simp (disch := omega) only [lI, gd_1, inbN, ixN, eqN, lq2, fX8_led_L4, c3, z1, if_false, C.1, k, d4, leN, n1, Nat.reduceAdd, q', c0', eq_true c1, if_true, Option.map_some]
          · rw [if_neg c1]
            have key := ih (s + 1) (c + 1) f (by omega) (by omega)
            simp (disch := omega) only [lI, gd_1, inbN, ixN, eqN, nI_add, lq2, fX8_led_L4, c3, z1, if_false, C.1, k, d4, leN, n1, Nat.reduceAdd, q', c0', c1]
            exact key
    have ml : ∀ h1, Keep (fun b _ => b ≠ 201) h h1 → ∀ m s c f, s + m = R 4 → m < f → lq2 (fX9_led_L4 181 x) f (nI c) (nI s) h1 = match ldp N x m s c with | some s => some (nI s, sI h1 181 0 (nI 0)) | none => some (nI 0, sI h1 181 0 (nI 1)) := by
      intro h1 K1
      have g14 : gI h1 181 14 = nI 1 := (K1 181 14 (by omega)).1.trans M.1
      have Mr : MRep h1 R := M.2.1.keep K1 (fun k => by omega)
      have Qr : MNRep h1 N T := M.2.2.2.1.keep K1 (fun k => by omega) (fun k => by omega)
      intro m
      induction m with
      | zero =>
        intro s c f e hf
        obtain ⟨f, rfl⟩ : ∃ q, f = q + 1 := ⟨f - 1, by omega⟩
        have n1 : R 4 ≤ s := by omega
        simp (disch := omega) only [lI, gd_1, inbN, ixN, eqN, lq2, fX9_led_L4, g14, z1, if_false, Nat.reduceAdd, Mr 4, leN, n1, if_true, ldp]
      | succ m ih =>
        intro s c f e hf
        obtain ⟨f, rfl⟩ : ∃ q, f = q + 1 := ⟨f - 1, by omega⟩
        have n1 : ¬ R 4 ≤ s := by omega
        have w := (C.2.2.2.2.2.2.1.2.1 s (by omega)).1
        have e1 : ldp N x (m + 1) s c = if N (4 * s + 0) = 0 then ldp N x m (s + 1) c else if nI c = x then some s else ldp N x m (s + 1) (c + 1) := rfl
        rw [e1]
        by_cases c0 : N (4 * s + 0) = 0
        · rw [if_pos c0]
          have key := ih (s + 1) c f (by omega) (by omega)
          simp (disch := omega) only [lI, gd_1, bd_1, inbN, ixN, eqN, nI_add, lq2, fX9_led_L4, g14, z1, if_false, Nat.reduceAdd, Mr 4, leN, n1, mIts Qr, eq_true c0, if_true]
          exact key
        · rw [if_neg c0]
          by_cases c1 : nI c = x
          · rw [if_pos c1]
            simp (disch := omega) only [lI, gd_1, bd_1, inbN, ixN, eqN, lq2, fX9_led_L4, g14, z1, if_false, Nat.reduceAdd, Mr 4, leN, n1, mIts Qr, c0, eq_true c1, if_true]
          · rw [if_neg c1]
            have key := ih (s + 1) (c + 1) f (by omega) (by omega)
            simp (disch := omega) only [lI, gd_1, bd_1, inbN, ixN, eqN, nI_add, lq2, fX9_led_L4, g14, z1, if_false, Nat.reduceAdd, Mr 4, leN, n1, mIts Qr, c0, c1]
            exact key
    have bnd : ∀ m s c r, ldp N x m s c = some r → r < s + m := by
      intro m
      induction m with
      | zero => intro s c r z; cases z
      | succ m ih =>
        intro s c r z
        have e1 : ldp N x (m + 1) s c = if N (4 * s + 0) = 0 then ldp N x m (s + 1) c else if nI c = x then some s else ldp N x m (s + 1) (c + 1) := rfl
        rw [e1] at z
        split at z
        · have := ih _ _ _ z; omega
        · split at z
          · cases z; omega
          · have := ih _ _ _ z; omega
    refine fin (ldp N x (R 4) 0 0) (cl (R 4) 0 0 FU (by omega) (by unfold FU; omega)) (fun s hs => by have := bnd _ _ _ _ hs; omega) (fun h1 K1 => ml h1 K1 (R 4) 0 0 FU (by omega) (by unfold FU; omega))
end REST
