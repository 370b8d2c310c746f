/-! DREAM: class and model -/
def dCl : Int32 → HH → Option (Int32 × HH) := fun r37 h37 =>
    if (gI (sI h37 0 17 r37) 0 17) = 0 then
      gd (isKb 0 (gR (sI h37 0 17 r37) 0 10)) (
      nm (gR (sI h37 0 17 r37) 0 10) (fun y3 =>
      gd (isKb 0 (gR (sI h37 0 17 r37) 0 11)) (
      nm (sR (sI h37 0 17 r37) 0 10 (gR (sI h37 0 17 r37) 0 11)) (fun g6 =>
      nm (sI (sR g6 0 11 y3) 0 12 1) (fun g7 =>
      gd (isKb 0 (gR g7 0 10)) (
      bv (fX2_begin 6 (gR g7 0 10) g7) (fun h98 =>
      nm (sI (sI h98 28 2 0) 39 0 0) (fun g9 =>
      nm (sI (sI g9 0 14 0) 0 15 0) (fun g10 =>
      gd (isKb 0 (gR g10 0 10)) (
      bd (fX8_allow 0 (gI g10 ((gR g10 0 10) + 4) 3) g10) (fun r138 h138 =>
      some (r138, h138))))))))))))
    else
    nm (sI (sI h37 0 17 r37) 0 18 (gI (sI h37 0 17 r37) 2 8)) (fun g12 =>
    bd (fX8_refuse 0 4 g12) (fun r63 h63 =>
    some (r63, h63)))
section GDS
variable {h : HH} {n : Nat}
set_option maxRecDepth 100000 in
theorem PRd0 {d b k : Nat} (hd : isD d) (h1 : b ≤ 1 ∨ (6 ≤ b ∧ b ≤ 43) ∨ 76 ≤ b) : PRd d b k := by
  unfold isD at hd
  exact ⟨by unfold PFN; omega, fun _ _ => by omega⟩
set_option maxRecDepth 100000 in
theorem dBadC {q p : Nat} {h1 : HH} (q1 : 1 ≤ q) (q6 : q ≤ 6) (c8 : gI h1 2 8 = nI p) : dCl (nI q) h1 = some (M1, sI (sI (sI h1 0 17 (nI q)) 0 18 (nI p)) 0 16 (nI 4)) := by
  unfold dCl
  rw [gIs, if_neg (show ¬ nI q = (0 : Int32) by show ¬ nI q = nI 0; rw [eqN (by omega) (by omega)]; omega), gIa (by omega), c8]
  rfl
set_option maxRecDepth 100000 in
theorem dOkC {d d2 : Nat} {F : Nat → Nat} {h1 h2 : HH} (r10 : gR h1 0 10 = d) (r11 : gR h1 0 11 = d2) (hd : isD d) (hd2 : isD d2) (b1 : fX2_begin 6 d2 (sI (sR (sR (sI h1 0 17 (nI 0)) 0 10 d2) 0 11 d) 0 12 (nI 1)) = some h2) (r2 : gR h2 0 10 = d2) (f4 : gI h2 (d2 + 4) 3 = nI (F 4)) : dCl (nI 0) h1 = some (nI (F 4), sI (sI (sI (sI (sI h2 28 2 (nI 0)) 39 0 (nI 0)) 0 14 (nI 0)) 0 15 (nI 0)) 0 16 (nI 0)) := by
  have kd := isKb_D hd
  have kd2 := isKb_D hd2
  have hd6 : 44 ≤ d2 := by unfold isD at hd2; omega
  unfold dCl
  rw [gIs, if_pos (show nI 0 = (0 : Int32) from rfl), gR_sI, gR_sI, r10, r11, kd, gd_1, nm_1, kd2, gd_1]
  show gd (isKb 0 (gR (sI (sR (sR (sI h1 0 17 (nI 0)) 0 10 d2) 0 11 d) 0 12 (nI 1)) 0 10)) (bv (fX2_begin 6 (gR (sI (sR (sR (sI h1 0 17 (nI 0)) 0 10 d2) 0 11 d) 0 12 (nI 1)) 0 10) (sI (sR (sR (sI h1 0 17 (nI 0)) 0 10 d2) 0 11 d) 0 12 (nI 1))) (fun h98 => gd (isKb 0 (gR (sI (sI (sI (sI h98 28 2 (nI 0)) 39 0 (nI 0)) 0 14 (nI 0)) 0 15 (nI 0)) 0 10)) (bd (fX8_allow 0 (gI (sI (sI (sI (sI h98 28 2 (nI 0)) 39 0 (nI 0)) 0 14 (nI 0)) 0 15 (nI 0)) ((gR (sI (sI (sI (sI h98 28 2 (nI 0)) 39 0 (nI 0)) 0 14 (nI 0)) 0 15 (nI 0)) 0 10) + 4) 3) (sI (sI (sI (sI h98 28 2 (nI 0)) 39 0 (nI 0)) 0 14 (nI 0)) 0 15 (nI 0))) (fun r138 h138 => some (r138, h138))))) = _
  have e7 : gR (sI (sR (sR (sI h1 0 17 (nI 0)) 0 10 d2) 0 11 d) 0 12 (nI 1)) 0 10 = d2 := by rw [gR_sI, gRk (by omega), gRs]
  rw [e7, kd2, gd_1, b1, bv_1]
  have e10 : gR (sI (sI (sI (sI h2 28 2 (nI 0)) 39 0 (nI 0)) 0 14 (nI 0)) 0 15 (nI 0)) 0 10 = d2 := by rw [gR_sI, gR_sI, gR_sI, gR_sI]; exact r2
  have e4 : gI (sI (sI (sI (sI h2 28 2 (nI 0)) 39 0 (nI 0)) 0 14 (nI 0)) 0 15 (nI 0)) (d2 + 4) 3 = nI (F 4) := by rw [gIk (by omega), gIk (by omega), gIk (by omega), gIk (by omega)]; exact f4
  rw [e10, kd2, gd_1, e4]
  rfl
set_option maxRecDepth 100000 in
theorem gDream (x : Int32) (I : GI h n) : OpG h n (fun h => fX8_dream 0 x h) (fun h => fX9_dream 181 x h) := by
  obtain ⟨TP, tz, t1, t2, t3, t4⟩ := GI.tpr I.1.1
  have g2' : gI (sI (sI (sI h 0 16 (nI 2)) 181 0 (nI 0)) 181 11 (nI 0)) 181 2 = nI tz := by rw [gIk (by omega), gIk (by omega), gIa (by omega)]; exact t3
  rcases rng x (n := tz) (by omega) with ⟨j, hj, rfl⟩ | hx | ⟨hx1, hx2, hx3, hx4⟩ | hx
  · obtain ⟨d, d2, r10, r11, hd, hd2, hne⟩ : ∃ d d2, gR h 0 10 = d ∧ gR h 0 11 = d2 ∧ isD d ∧ isD d2 ∧ d ≠ d2 := by
      rcases I.1.2.1 with ⟨a, b⟩ | ⟨a, b⟩
      · exact ⟨44, 60, a, b, Or.inl rfl, Or.inr rfl, by omega⟩
      · exact ⟨60, 44, a, b, Or.inr rfl, Or.inl rfl, by omega⟩
    have hd6 : 44 ≤ d2 := by unfold isD at hd2; omega
    have H : HT TP j := ⟨by omega, fun k hk => (t4 k (by omega)).1⟩
    obtain ⟨h0, eh0⟩ : ∃ h0, h0 = sI h 0 13 (nI 0) := ⟨_, rfl⟩
    have RM0 : ROM h0 := I.1.2.2.2.2.kb hd2 (fun b k x1 x2 x3 => by rw [eh0, gIa (by omega)])
    obtain ⟨g, Kg, C⟩ := cRead (h := h0) (d := d2) H hd2 RM0 (fun k hk => by rw [eh0, gIa (by omega)]; exact (t4 k (by omega)).2.2)
    have k2 := isKb_D hd2
    have cd : fX8_dream 0 (nI j) h = bd (fX5_read 2 1 (nI j) d2 h0) dCl := by
      have r11' : gR h0 0 11 = d2 := by rw [eh0, gR_sI]; exact r11
      unfold fX8_dream
      rw [if_neg (show ¬ nI j < (0 : Int32) by show ¬ nI j < nI 0; rw [ltN (by omega) (by omega)]; omega), t2, if_pos (show nI j ≤ nI tz by rw [leN (by omega) (by omega)]; exact hj)]
      show gd (isKb 0 (gR (sI h 0 13 (nI 0)) 0 11)) (bd (fX5_read 2 1 (nI j) (gR (sI h 0 13 (nI 0)) 0 11) (sI h 0 13 (nI 0))) dCl) = _
      rw [← eh0, r11', k2, gd_1]
    have p0 : ∀ b k, (b ≤ 1 ∨ (6 ≤ b ∧ b ≤ 43) ∨ 76 ≤ b) → PRd d2 b k := fun b k z => PRd0 hd2 z
    rcases (sRead TP j).cs with ⟨q, p, eo⟩ | ⟨F, e, eo⟩
    · rw [eo] at C
      obtain ⟨h1, c1, q1, q6, c8, K1⟩ := C
      have K01 : ∀ b k, b ≠ 2 → PRd d2 b k → gI h1 b k = gI h0 b k ∧ gL h1 b k = gL h0 b k ∧ gR h1 b k = gR h0 b k := fun b k z1 z2 => ((Kg.mono (fun b k hp => hp)).trans (K1.mono (fun b k (hp : PRx d2 b k) => hp.2))) b k ⟨z1, z2⟩
      obtain ⟨hc, ehc⟩ : ∃ hc, hc = sI (sI (sI h1 0 17 (nI q)) 0 18 (nI p)) 0 16 (nI 4) := ⟨_, rfl⟩
      have e1 : fX8_dream 0 (nI j) h = some (M1, hc) := by rw [cd, c1, bd_1, dBadC q1 q6 c8, ehc]
      have kc : ∀ b k, b ≠ 0 → b ≠ 2 → PRd d2 b k → gI hc b k = gI h b k := fun b k z0 z1 z2 => by
        rw [ehc, gIa z0, gIa z0, gIa z0, (K01 b k z1 z2).1, eh0, gIa z0]
      obtain ⟨g2, Kg2, b2, b11, b9, D⟩ := mReads (h := hc) H t1 hj ((kc 181 2 (by omega) (by omega) (p0 _ _ (by omega))).trans t3) (fun k hk => (kc 182 k (by omega) (by omega) (p0 _ _ (by omega))).trans (t4 k (by omega)).2.1)
      rw [eo] at D
      obtain ⟨g3, d1, dF, K3⟩ := D
      have e2 : fX9_dream 181 (nI j) hc = some (M1, sI g3 181 11 (nI 4)) := by rw [d1]; rfl
      have zc : ∀ k, 13 ≤ k → gI (sI g3 181 11 (nI 4)) 0 k = gI hc 0 k := fun k hk => by
        rw [gIa (by omega), (K3 0 k ⟨by omega, by omega, by omega⟩).1, (Kg2 0 k ⟨by omega, by omega, by omega⟩).1]
      refine dBad (h2 := sI g3 181 11 (nI 4)) I ⟨r10, r11⟩ ⟨hd, hd2, hne⟩ ?_ e1 e2 ?_ ?_ ?_ ?_ (qf := q) ?_ ?_ (p := p) ?_ ?_
      · have kA : Keep (PBr d2) h h0 := by rw [eh0]; exact Keep.sI Keep.rfl (fun z => z.2.2.1 (by omega))
        have kB : Keep (PBr d2) h0 h1 := (Kg.mono (fun b k hp => ⟨hp.1, hp.2.1⟩)).trans (K1.mono (fun b k hp => hp.2.1))
        have kC : Keep (PBr d2) h1 hc := by
          rw [ehc]
          exact Keep.sI (Keep.sI (Keep.sI Keep.rfl (fun z => z.2.2.1 (by omega))) (fun z => z.2.2.1 (by omega))) (fun z => z.2.2.1 (by omega))
        have kD : Keep (PBr d2) hc g2 := Kg2.mono (fun b k hp => ⟨hp.2.2.2.1, hp.2.2.2.2.1, hp.2.2.2.2.2⟩)
        have kE : Keep (PBr d2) g2 g3 := K3.mono (fun b k hp => ⟨fun z => hp.2.2.2.1 (by omega), hp.2.2.2.2.1, hp.2.2.2.2.2⟩)
        exact Keep.sI ((((kA.trans kB).trans kC).trans kD).trans kE) (fun z => z.2.2.2.1 (by omega))
      · rw [zc 13 (by omega), ehc, gIk (by omega), gIk (by omega), gIk (by omega), (K01 0 13 (by omega) (p0 _ _ (by omega))).1, eh0, gIs]
      · rw [gIk (by omega), (K3 181 2 ⟨by omega, by omega, by omega⟩).1, b2]
      · rw [zc 16 (by omega), ehc, gIs]
      · rw [gIs]
      · rw [zc 17 (by omega), ehc, gIk (by omega), gIk (by omega), gIs]
      · rw [gIk (by omega)]; exact dF.2.1
      · rw [zc 18 (by omega), ehc, gIk (by omega), gIs]
      · rw [gIk (by omega)]; exact dF.2.2
    · rw [eo] at C
      obtain ⟨h1, c1, V, f3, f4, DR, K1⟩ := C
      have v : VR F := V.VR f3 f4
      have K01 : ∀ b k, b ≠ 2 → PRd d2 b k → gI h1 b k = gI h0 b k ∧ gL h1 b k = gL h0 b k ∧ gR h1 b k = gR h0 b k := fun b k z1 z2 => ((Kg.mono (fun b k hp => hp)).trans (K1.mono (fun b k (hp : PRx d2 b k) => hp.2))) b k ⟨z1, z2⟩
      have r10' : gR h1 0 10 = d := by rw [(K01 0 10 (by omega) (p0 _ _ (by omega))).2.2, eh0, gR_sI]; exact r10
      have r11' : gR h1 0 11 = d2 := by rw [(K01 0 11 (by omega) (p0 _ _ (by omega))).2.2, eh0, gR_sI]; exact r11
      obtain ⟨g7, eg7⟩ : ∃ g7, g7 = sI (sR (sR (sI h1 0 17 (nI 0)) 0 10 d2) 0 11 d) 0 12 (nI 1) := ⟨_, rfl⟩
      have K17 : Keep (fun b k => ¬ (b = 0 ∧ (k = 10 ∨ k = 11 ∨ k = 12 ∨ k = 17))) h1 g7 := by
        rw [eg7]
        exact Keep.sI (Keep.sR (Keep.sR (Keep.sI Keep.rfl (by omega)) (by omega)) (by omega)) (by omega)
      have D7 : DRep g7 d2 F := DR.keep K17 (fun b k x1 x2 => by omega)
      obtain ⟨h2, b1, NR, Kb⟩ := cBegN D7 hd2 v
      have D2 : DRep h2 d2 F := D7.keep Kb (fun b k x1 x2 => by unfold PN; omega)
      have r2 : gR h2 0 10 = d2 := by rw [(Kb 0 10 (by unfold PN; omega)).2.2, eg7, gR_sI, gRk (by omega), gRs]
      have r2b : gR h2 0 11 = d := by rw [(Kb 0 11 (by unfold PN; omega)).2.2, eg7, gR_sI, gRs]
      obtain ⟨hc, ehc⟩ : ∃ hc, hc = sI (sI (sI (sI (sI h2 28 2 (nI 0)) 39 0 (nI 0)) 0 14 (nI 0)) 0 15 (nI 0)) 0 16 (nI 0) := ⟨_, rfl⟩
      have K2c : Keep (fun b k => ¬ (b = 28 ∧ k = 2) ∧ ¬ (b = 39 ∧ k = 0) ∧ ¬ (b = 0 ∧ 14 ≤ k ∧ k ≤ 16)) h2 hc := by
        rw [ehc]
        exact Keep.sI (Keep.sI (Keep.sI (Keep.sI (Keep.sI Keep.rfl (by omega)) (by omega)) (by omega)) (by omega)) (by omega)
      have e1 : fX8_dream 0 (nI j) h = some (nI (F 4), hc) := by
        rw [cd, c1, bd_1, ehc]
        exact dOkC r10' r11' hd hd2 (by rw [← eg7]; exact b1) r2 D2.2.2.2.1.1.2
      have Kc : Keep (POk d2) h hc := by
        refine Keep.trans (Keep.trans (Keep.trans (Keep.trans (Keep.sI Keep.rfl (b := 0) (k := 13) (v := nI 0) (fun z => z.2.2.1 (by omega))) ?_) (K17.mono (fun b k hp => fun z => hp.2.2.1 (by omega)))) (Kb.mono (fun b k hp => hp.2.2.2.1))) (K2c.mono (fun b k hp => ⟨hp.2.2.2.2.1, hp.2.2.2.2.2, fun z => hp.2.2.1 (by omega)⟩))
        rw [← eh0]
        exact (Kg.mono (fun b k hp => ⟨hp.1, hp.2.1⟩)).trans (K1.mono (fun b k hp => hp.2.1))
      have po : ∀ b k, (b ≤ 1 ∨ (13 ≤ b ∧ b ≤ 43) ∨ 76 ≤ b) → ¬ (b = 0 ∧ 10 ≤ k ∧ k ≤ 17) → ¬ (b = 28 ∧ k = 2) → ¬ (b = 39 ∧ k = 0) → POk d2 b k := fun b k z1 z2 z3 z4 => ⟨by omega, p0 _ _ (by omega), z2, by omega, z3, z4⟩
      obtain ⟨g2, Kg2, b2, b11, b9, D⟩ := mReads (h := hc) H t1 hj ((Kc 181 2 (po _ _ (by omega) (by omega) (by omega) (by omega))).1.trans t3) (fun k hk => (Kc 182 k (po _ _ (by omega) (by omega) (by omega) (by omega))).1.trans (t4 k (by omega)).2.1)
      rw [eo] at D
      obtain ⟨g3, d1, M3, -, -, -, K3⟩ := D
      obtain ⟨g4, e4, MR4, MN4, a14, a25, a26, K4⟩ := mFin v M3.2.2.2.1
      have e2 : fX9_dream 181 (nI j) hc = some (nI (F 4), g4) := d1.trans e4
      have Km : Keep POm hc g4 := ((Kg2.mono (fun b k hp => ⟨fun z => hp.1 (by omega), fun z => hp.2.1 (by omega), fun z => hp.2.1 (by omega)⟩)).trans (K3.mono (fun b k hp => ⟨fun z => hp.1 (by omega), fun z => hp.2.1 (by omega), fun z => hp.2.1 (by omega)⟩))).trans (K4.mono (fun b k hp => ⟨fun z => hp.1 (by omega), fun z => hp.2.1 (by omega), fun z => hp.2.1 (by omega), hp.2.2⟩))
      have kc : ∀ k, gI g4 0 k = gI hc 0 k := fun k => (Km 0 k ⟨by omega, by omega, by omega⟩).1
      have kr : ∀ k, gR g4 0 k = gR hc 0 k := fun k => (Km 0 k ⟨by omega, by omega, by omega⟩).2.2
      have q10 : gR g4 0 10 = d2 := by rw [kr, (K2c 0 10 (by omega)).2.2]; exact r2
      have q11 : gR g4 0 11 = d := by rw [kr, (K2c 0 11 (by omega)).2.2]; exact r2b
      have KA : Keep (fun b k => POk d2 b k ∧ POm b k) h g4 := (Kc.mono (fun b k hp => hp.1)).trans (Km.mono (fun b k hp => hp.2))
      have pa : ∀ b k, (b = 1 ∨ (13 ≤ b ∧ b ≤ 43) ∨ (76 ≤ b ∧ b ≤ 180)) → ¬ (b = 28 ∧ k = 2) → ¬ (b = 39 ∧ k = 0) → POk d2 b k ∧ POm b k := fun b k z1 z2 z3 => ⟨po _ _ (by omega) (by omega) z2 z3, ⟨by omega, by omega, by omega⟩⟩
      obtain ⟨G, B, ⟨q, hq, Q⟩, S⟩ := I
      obtain ⟨-, -, ⟨g3a, g3b⟩, g4a, g5⟩ := G
      have eR : ∀ k, gR g4 42 k = gR h 42 k := fun k => (KA 42 k (pa _ _ (by omega) (by omega) (by omega))).2.2
      obtain ⟨s1, s2⟩ := stA0 v
      have kd2 : Keep (fun b k => 6 ≤ b ∧ b ≤ 75 ∧ ¬ (b = 28 ∧ k = 2) ∧ ¬ (b = 39 ∧ k = 0)) h2 g4 := (K2c.mono (fun b k hp => by omega)).trans (Km.mono (fun b k hp => by unfold POm; omega))
      refine ⟨nI (F 4), hc, g4, e1, e2, ⟨⟨0, by omega, ?_, ?_, fun k hk => by omega⟩, ?_, ⟨fun i hi => by rw [eR]; exact g3a i hi, fun i i' x y z => by rw [eR, eR] at z; exact g3b i i' x y z⟩, fun i hi => by rw [(KA 43 i (pa _ _ (by omega) (by omega) (by omega))).2.2]; exact g4a i hi, g5.kb hd2 (fun b k x1 x2 x3 => (KA b k ⟨⟨by omega, x3, by omega, by omega, by omega, by omega⟩, ⟨by omega, by omega, by omega⟩⟩).1)⟩, ⟨?_, ?_, fun z => ?_⟩, ⟨q, by omega, Q.keep (KA.mono (fun b k hp => pa _ _ (by omega) (by omega) (by omega)))⟩, Or.inr ⟨d2, F, (stA F (F 4) s0).1, (stA F (F 4) s0).2, ⟨q10, hd2, ?_, D2.keep kd2 (fun b k x1 x2 => by unfold isD at hd2; omega), v, NR.keep kd2 (fun b k x1 x2 => by omega), s1, s2⟩, ⟨a14, MR4, v, MN4, s1, s2⟩, ⟨0, by omega, ?_, a25, fun i hi => by omega⟩, ⟨0, by omega, ?_, a26, fun i hi => by omega⟩, Or.inl ?_, Or.inl ?_⟩⟩
      · rw [kc, (K2c 0 13 (by omega)).1, (Kb 0 13 (by unfold PN; omega)).1, (K17 0 13 (by omega)).1, (K01 0 13 (by omega) (p0 _ _ (by omega))).1, eh0, gIs]
      · rw [(K4 181 2 ⟨by omega, by omega, by omega, by omega⟩).1, (K3 181 2 ⟨by omega, by omega, by omega⟩).1, b2]
      · unfold REFS
        rw [q10, q11]
        unfold isD at hd hd2
        omega
      · rw [kc, ehc, gIs, (K4 181 11 ⟨by omega, by omega, by omega, by omega⟩).1, (K3 181 11 ⟨by omega, by omega, by omega⟩).1, b11]
      · rw [kc, (K2c 0 17 (by omega)).1, (Kb 0 17 (by unfold PN; omega)).1, eg7, gIk (by omega), gI_sR, gI_sR, gIs, (K4 181 9 ⟨by omega, by omega, by omega, by omega⟩).1]
        exact M3.2.2.2.2.2.symm
      · rw [kc, ehc, gIs, eqN (by omega) (by omega)] at z; omega
      · rw [kc, (K2c 0 12 (by omega)).1, (Kb 0 12 (by unfold PN; omega)).1, eg7, gIs]
      · rw [kc, ehc, gIk (by omega), gIk (by omega), gIs]
      · rw [kc, ehc, gIk (by omega), gIs]
      · rw [(Km 28 2 ⟨by omega, by omega, by omega⟩).1, ehc, gIa (by omega), gIa (by omega), gIa (by omega), gIa (by omega), gIs]
      · rw [(Km 39 0 ⟨by omega, by omega, by omega⟩).1, ehc, gIa (by omega), gIa (by omega), gIa (by omega), gIs]
  · refine dRef I x ?_ ?_
    · simp only [lI, neg1, fX8_dream, fX8_refuse, hx, if_true, bd_1]
    · simp only [lI, neg1, fX9_dream, fX9_good, nm_1, bv_1, g2', wit hx, bd_1, cond_false, fX9_no]
  · refine dRef I x ?_ ?_
    · simp only [lI, neg1, fX8_dream, fX8_refuse, hx1, t2, hx2, if_false, bd_1]
    · simp only [lI, neg1, fX9_dream, fX9_good, nm_1, bv_1, g2', wit2 hx1 hx3, bd_1, cond_false, fX9_no]
  · omega
end GDS
