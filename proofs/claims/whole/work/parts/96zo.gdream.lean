/-! DREAM -/
section GDR
variable {h : HH} {n : Nat}
set_option maxRecDepth 100000 in
theorem GI.tpr {h : HH} (Tz : TPR h) : ∃ (TP : Nat → Nat) (tz : Nat), tz ≤ 1000 ∧ gI h 0 13 = nI tz ∧ gI h 181 2 = nI tz ∧ ∀ k, k < tz → TP k < 256 ∧ gI h 182 k = nI (TP k) ∧ gI h 1 k &&& nI 255 = nI (TP k) := by
  obtain ⟨tz, t1, t2, t3, t4⟩ := Tz
  refine ⟨fun k => (gI h 182 k).toInt.toNat, tz, t1, t2, t3, fun k hk => ?_⟩
  obtain ⟨b, b1, b2, b3⟩ := t4 k hk
  have e : (gI h 182 k).toInt.toNat = b := by rw [b2, nI_toInt (by omega)]; rfl
  show (gI h 182 k).toInt.toNat < 256 ∧ gI h 182 k = nI ((gI h 182 k).toInt.toNat) ∧ gI h 1 k &&& nI 255 = nI ((gI h 182 k).toInt.toNat)
  rw [e]
  exact ⟨b1, b2, b3⟩
/-! refused: trouble 2 -/
set_option maxRecDepth 100000 in
theorem dRef (I : GI h n) (x : Int32) (c : fX8_dream 0 x h = some (M1, sI h 0 16 (nI 2))) (m : fX9_dream 181 x (sI h 0 16 (nI 2)) = some (M1, sI (sI (sI (sI h 0 16 (nI 2)) 181 0 (nI 0)) 181 11 (nI 0)) 181 11 (nI 2))) : OpG h n (fun h => fX8_dream 0 x h) (fun h => fX9_dream 181 x h) := by
  obtain ⟨G, B, ⟨q, hq, Q⟩, S⟩ := I
  refine ⟨M1, _, _, c, m, ?_⟩
  have K : Keep (fun b k => ¬ (b = 0 ∧ k = 16) ∧ ¬ (b = 181 ∧ (k = 0 ∨ k = 11))) h (sI (sI (sI (sI h 0 16 (nI 2)) 181 0 (nI 0)) 181 11 (nI 0)) 181 11 (nI 2)) := Keep.sI (Keep.sI (Keep.sI (Keep.sI Keep.rfl (by omega)) (by omega)) (by omega)) (by omega)
  refine ⟨G.keep (K.mono (fun b k hp => by unfold PGR at hp; omega)), ⟨?_, ?_, fun z => ?_⟩, ⟨q, by omega, Q.keep (K.mono (fun b k hp => by omega))⟩, ?_⟩
  · rw [gIs, gIa (by omega), gIa (by omega), gIa (by omega), gIs]
  · rw [(K 0 17 (by omega)).1, (K 181 9 (by omega)).1]; exact B.2.1
  · rw [gIa (by omega), gIa (by omega), gIa (by omega), gIs, eqN (by omega) (by omega)] at z; omega
  · rcases S with ⟨z1, z2, z3, z4, z5, z6⟩ | ⟨dd, R, N, T, C, ⟨m1, m2, m3, m4, m5, m6⟩, A, Im, P, F⟩
    · left
      exact ⟨(K 0 12 (by omega)).1.trans z1, (K 181 14 (by omega)).1.trans z2, (K 0 14 (by omega)).1.trans z3, (K 181 25 (by omega)).1.trans z4, (K 0 15 (by omega)).1.trans z5, (K 181 26 (by omega)).1.trans z6⟩
    · right
      exact ⟨dd, R, N, T, C.keep3 (K.mono (fun x k hp => by omega)), ⟨(K 181 14 (by omega)).1.trans m1, m2.keep K (fun k => by omega), m3, m4.keep K (fun k => by omega) (fun k => by omega), m5, m6⟩, A.keep G.2.2.1 (K.mono (fun x k hp => by unfold PAC at hp; omega)), Im.keep (K.mono (fun x k hp => by unfold PIM at hp; omega)), P.keep (K.mono (fun x k hp => by omega)), F.keep (K.mono (fun x k hp => by omega))⟩
/-- what a reading may touch, of class and model -/
def PBr (d b k : Nat) : Prop := b ≠ 2 ∧ PRd d b k ∧ ¬ (b = 0 ∧ (k = 13 ∨ (16 ≤ k ∧ k ≤ 18))) ∧ ¬ (b = 181 ∧ (k = 0 ∨ (2 ≤ k ∧ k ≤ 11) ∨ k = 13)) ∧ b ≠ 183 ∧ b ≠ 185
def POk (d b k : Nat) : Prop := b ≠ 2 ∧ PRd d b k ∧ ¬ (b = 0 ∧ 10 ≤ k ∧ k ≤ 17) ∧ ¬ (6 ≤ b ∧ b ≤ 12) ∧ ¬ (b = 28 ∧ k = 2) ∧ ¬ (b = 39 ∧ k = 0)
def POm (b k : Nat) : Prop := ¬ (b = 181 ∧ (k = 0 ∨ (2 ≤ k ∧ k ≤ 11) ∨ k = 13 ∨ k = 14 ∨ k = 25 ∨ k = 26)) ∧ ¬ (183 ≤ b ∧ b ≤ 186) ∧ b ≠ 190
set_option maxRecDepth 100000 in
theorem ROM.kb {h h' : HH} {d : Nat} (RM : ROM h) (hd : isD d) (e : ∀ b k, 44 ≤ b → b ≤ 75 → PRd d b k → gI h' b k = gI h b k) : ROM h' := by
  intro d' hd'
  have e1 : ∀ j k, (j = 4 ∨ j = 6 ∨ j = 8 ∨ j = 10 ∨ j = 12 ∨ j = 14) → (k = 0 ∨ k = 1) → gI h' (d' + j) k = gI h (d' + j) k := fun j k hj hk =>
    e (d' + j) k (by unfold isD at hd'; omega) (by unfold isD at hd'; omega) ⟨by unfold isD at hd'; unfold PFN; omega, fun _ _ => by unfold isD at hd hd'; omega⟩
  have := RM d' hd'
  rw [e1 4 0 (by omega) (by omega), e1 4 1 (by omega) (by omega), e1 6 0 (by omega) (by omega), e1 6 1 (by omega) (by omega), e1 8 0 (by omega) (by omega), e1 8 1 (by omega) (by omega), e1 10 0 (by omega) (by omega), e1 10 1 (by omega) (by omega), e1 12 0 (by omega) (by omega), e1 12 1 (by omega) (by omega), e1 14 0 (by omega) (by omega), e1 14 1 (by omega) (by omega)]
  exact this
set_option maxRecDepth 100000 in
theorem PBrO {d b k : Nat} (hd : isD d) (h1 : b ≤ 1 ∨ (6 ≤ b ∧ b ≤ 43) ∨ 76 ≤ b) (h2 : ¬ (b = 0 ∧ (k = 13 ∨ (16 ≤ k ∧ k ≤ 18)))) (h3 : ¬ (b = 181 ∧ (k = 0 ∨ (2 ≤ k ∧ k ≤ 11) ∨ k = 13))) (h4 : b ≠ 183 ∧ b ≠ 185) : PBr d b k := by
  unfold isD at hd
  refine ⟨by omega, ⟨by unfold PFN; omega, fun _ _ => by omega⟩, h2, h3, h4.1, h4.2⟩
set_option maxRecDepth 100000 in
theorem dBad {j qf p d d2 : Nat} (I : GI h n) (hr : gR h 0 10 = d ∧ gR h 0 11 = d2) (hd : isD d ∧ isD d2 ∧ d ≠ d2) {h1 h2 : HH} (K : Keep (PBr d2) h h2) (e1 : fX8_dream 0 (nI j) h = some (M1, h1)) (e2 : fX9_dream 181 (nI j) h1 = some (M1, h2)) (z13 : gI h2 0 13 = nI 0) (z2 : gI h2 181 2 = nI 0) (z16 : gI h2 0 16 = nI 4) (z11 : gI h2 181 11 = nI 4) (z17 : gI h2 0 17 = nI qf) (z9 : gI h2 181 9 = nI qf) (z18 : gI h2 0 18 = nI p) (z10 : gI h2 181 10 = nI p) : OpG h n (fun h => fX8_dream 0 (nI j) h) (fun h => fX9_dream 181 (nI j) h) := by
  obtain ⟨G, B, ⟨q, hq, Q⟩, S⟩ := I
  obtain ⟨-, g2, ⟨g3, g3'⟩, g4, g5⟩ := G
  obtain ⟨hd1, hd2, hne⟩ := hd
  have pb : ∀ b k, (b ≤ 1 ∨ (6 ≤ b ∧ b ≤ 43) ∨ 76 ≤ b) → ¬ (b = 0 ∧ (k = 13 ∨ (16 ≤ k ∧ k ≤ 18))) → ¬ (b = 181 ∧ (k = 0 ∨ (2 ≤ k ∧ k ≤ 11) ∨ k = 13)) → b ≠ 183 ∧ b ≠ 185 → PBr d2 b k := fun b k a1 a2 a3 a4 => PBrO hd2 a1 a2 a3 a4
  have eR : ∀ k, gR h2 42 k = gR h 42 k := fun k => (K 42 k (pb _ _ (by omega) (by omega) (by omega) (by omega))).2.2
  have pd : ∀ b k, d ≤ b → b ≤ d + 15 → PBr d2 b k := fun b k x1 x2 => by
    unfold isD at hd1 hd2
    refine ⟨by omega, ⟨by unfold PFN; omega, fun _ _ => by omega⟩, by omega, by omega, by omega, by omega⟩
  refine ⟨M1, h1, h2, e1, e2, ⟨⟨0, by omega, z13, z2, fun k hk => by omega⟩, ?_, ⟨fun i hi => by rw [eR]; exact g3 i hi, fun i i' x y z => by rw [eR, eR] at z; exact g3' i i' x y z⟩, fun i hi => by rw [(K 43 i (pb _ _ (by omega) (by omega) (by omega) (by omega))).2.2]; exact g4 i hi, g5.kb hd2 (fun b k x1 x2 x3 => (K b k ⟨by omega, x3, by omega, by omega, by omega, by omega⟩).1)⟩, ⟨z16.trans z11.symm, z17.trans z9.symm, fun _ => z18.trans z10.symm⟩, ⟨q, by omega, Q.keep (K.mono (fun b k hp => pb _ _ (by omega) (by omega) (by omega) (by omega)))⟩, ?_⟩
  · unfold REFS
    rw [(K 0 10 (pb _ _ (by omega) (by omega) (by omega) (by omega))).2.2, (K 0 11 (pb _ _ (by omega) (by omega) (by omega) (by omega))).2.2]; exact g2
  · have kk : ∀ b k, (b ≤ 1 ∨ (6 ≤ b ∧ b ≤ 43) ∨ 76 ≤ b) → ¬ (b = 0 ∧ (k = 13 ∨ (16 ≤ k ∧ k ≤ 18))) → ¬ (b = 181 ∧ (k = 0 ∨ (2 ≤ k ∧ k ≤ 11) ∨ k = 13)) → b ≠ 183 ∧ b ≠ 185 → gI h2 b k = gI h b k := fun b k a1 a2 a3 a4 => (K b k (pb b k a1 a2 a3 a4)).1
    rcases S with ⟨y1, y2, y3, y4, y5, y6⟩ | ⟨dd, R, N, T, ⟨a1, a2, a3, a4, a5, a6, a7⟩, ⟨m1, m2, m3, m4, m5, m6⟩, A, Im, P, F⟩
    · left
      exact ⟨(kk 0 12 (by omega) (by omega) (by omega) (by omega)).trans y1, (kk 181 14 (by omega) (by omega) (by omega) (by omega)).trans y2, (kk 0 14 (by omega) (by omega) (by omega) (by omega)).trans y3, (kk 181 25 (by omega) (by omega) (by omega) (by omega)).trans y4, (kk 0 15 (by omega) (by omega) (by omega) (by omega)).trans y5, (kk 181 26 (by omega) (by omega) (by omega) (by omega)).trans y6⟩
    · right
      have ed : dd = d := a1.symm.trans hr.1
      subst ed
      refine ⟨dd, R, N, T, ⟨(K 0 10 (pb _ _ (by omega) (by omega) (by omega) (by omega))).2.2.trans a1, a2, (kk 0 12 (by omega) (by omega) (by omega) (by omega)).trans a3, a4.keep K pd, a5, a6.keep K (fun b k x1 x2 => pb _ _ (by omega) (by omega) (by omega) (by omega)), a7⟩, ⟨(kk 181 14 (by omega) (by omega) (by omega) (by omega)).trans m1, m2.keep K (fun k => pb _ _ (by omega) (by omega) (by omega) (by omega)), m3, m4.keep K (fun k => pb _ _ (by omega) (by omega) (by omega) (by omega)) (fun k => pb _ _ (by omega) (by omega) (by omega) (by omega)), m5, m6⟩, A.keep ⟨g3, g3'⟩ (K.mono (fun x k hp => by unfold PAC at hp; exact pb _ _ (by omega) (by omega) (by omega) (by omega))), Im.keep (K.mono (fun x k hp => by unfold PIM at hp; exact pb _ _ (by omega) (by omega) (by omega) (by omega))), P.keep (K.mono (fun x k hp => pb _ _ (by omega) (by omega) (by omega) (by omega))), F.keep (K.mono (fun x k hp => pb _ _ (by omega) (by omega) (by omega) (by omega)))⟩
end GDR
