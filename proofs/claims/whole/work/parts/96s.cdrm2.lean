/-! the class's line: dream, whole -/
section CDS
variable {TP : Nat → Nat} {n d e : Nat} {h : HH} {F : Nat → Nat}
set_option maxRecDepth 100000 in
theorem clDream (H : HT TP n) (Z : ∀ k, k < 316 → F k = 0) (L : LnS TP n d h F e) : CR TP n d h (lDream TP n F e) (fX5_readDream 2 h) := by
  obtain ⟨hd, S, D, C, RM⟩ := id L
  have hd6 : 44 ≤ d := by unfold isD at hd; omega
  have z0 := Z 0 (by omega)
  have d9 : gI h d 9 = nI 0 := D.2.2.1.1.trans (by rw [z0])
  unfold lDream fX5_readDream
  rw [if_pos (Z 2 (by omega))]
  refine rG hd S ?_
  rw [S.2.2.1, d9, if_pos (show nI 0 ≤ (0 : Int32) by decide +kernel)]
  obtain ⟨h1, e1, S1, K1⟩ := S.nx H
  rw [e1, bv_1]
  have K1p := kfk K1
  refine gW H hd S1 (kRd hd K1p) (by omega) (fun h2 S2 K2 => ?_)
  have K12 := K1p.trans K2
  have M2 : DSt TP n d h h2 F (tE TP n (tE TP n e)) := by
    refine ⟨S2, K12.mono (fun b k hp => hp.1), (K12 d 9 (by unfold PFk; omega)).1.trans (d9.trans (by rw [z0])), fun f hf => ?_, fun k _ _ hk => Z k hk, by omega⟩
    rw [(K12 (d + 1) f (by unfold PFk; omega)).1]; exact D.1 f hf
  have r0 : fX5_readRates 2 h2 = lq1 (fX5_readRates_L2 2) FU (nI (F 0)) h2 := by rw [z0]; rfl
  rw [r0]
  refine rtL H hd (fun G e2 g G1 M => ?_) 5 F (tE TP n (tE TP n e)) h2 FU (by omega) (by unfold FU; omega) M2
  obtain ⟨m1, m2, m3, m4, m5, m6⟩ := id M
  refine gW H hd m1 (kDr hd m2) (by omega) (fun h3 S3 K3 => ?_)
  have M3 := M.tk hd S3 K3
  refine gN S3 (kDr hd M3.2.1) (by omega) (by omega) rfl rfl (fun l3 u3 g3 => ?_)
  refine rG hd S3 ?_
  rw [S3.2.2.1, g3]
  have S4 : CS (sI h3 d 10 (nI (tV TP n (tE TP n e2)))) TP n d (tE TP n e2) := S3.kf (Keep.sI Keep.rfl (by omega))
  obtain ⟨h5, e5, S5, K5⟩ := S4.nx H
  rw [e5, bv_1]
  have K5d : Keep (PDr d) h h5 := (M3.2.1.trans (Keep.sI Keep.rfl (fun z => z.2.1 ⟨rfl, by omega, by omega⟩))).trans (K5.mono (fun b k hp => by unfold PDr PFk at hp; unfold PTk; omega))
  have r9 : gI h5 d 9 = nI (G 0) := by rw [(K5 d 9 (by unfold PTk; omega)).1, gIk (by omega)]; exact M3.2.2.1
  have r10 : gI h5 d 10 = nI (tV TP n (tE TP n e2)) := by rw [(K5 d 10 (by unfold PTk; omega)).1, gIs]
  have rq : ∀ f, f ≤ G 0 → gI h5 (d + 1) f = nI (qk G f) := fun f hf => by rw [(K5 (d + 1) f (by unfold PTk; omega)).1, gIa (by omega)]; exact M3.2.2.2.1 f hf
  refine gW H hd S5 (kDr hd K5d) (by omega) (fun h6 S6 K6 => ?_)
  have K6d : Keep (PDr d) h h6 := K5d.trans (K6.mono (fun b k hp => hp.1))
  refine gN S6 (kDr hd K6d) (by omega) (by omega) rfl rfl (fun l6 u6 g6 => ?_)
  refine rG hd S6 ?_
  rw [S6.2.2.1, g6]
  generalize tV TP n (tE TP n (tE TP n (tE TP n e2))) = w at l6 u6 ⊢
  generalize tV TP n (tE TP n e2) = v at l3 u3 r10 ⊢
  have S7 : CS (sI h6 d 11 (nI w)) TP n d (tE TP n (tE TP n (tE TP n e2))) := S6.kf (Keep.sI Keep.rfl (by omega))
  obtain ⟨h8, e8, S8, K8⟩ := S7.nx H
  rw [e8, bv_1]
  have K8d : Keep (PDr d) h h8 := (K6d.trans (Keep.sI Keep.rfl (fun z => z.2.1 ⟨rfl, by omega, by omega⟩))).trans (K8.mono (fun b k hp => by unfold PDr PFk at hp; unfold PTk; omega))
  have k68 : ∀ b k, ¬ (b = 2) → ¬ (b = d ∧ k = 11) → gI h8 b k = gI h5 b k := fun b k q1 q2 => by
    rw [(K8 b k (by unfold PTk; omega)).1, gI_sI, if_neg q2]
    exact (K6 b k (by unfold PFk; omega)).1
  have fz : ∀ k, k ≠ 0 → k ≠ 1 → k ≠ 2 → ¬ (11 ≤ k ∧ k < 15) → k < 316 → fu (fu G 1 v) 2 w k = 0 := fun k q0 q1 q2 q3 q4 => by rw [fuN _ q2, fuN _ q1]; exact m5 k q0 q3 q4
  have f0 : fu (fu G 1 v) 2 w 0 = G 0 := by rw [fuN _ (by omega), fuN _ (by omega)]
  have z3 := fz 3 (by omega) (by omega) (by omega) (by omega) (by omega)
  have z4 := fz 4 (by omega) (by omega) (by omega) (by omega) (by omega)
  have z5 := fz 5 (by omega) (by omega) (by omega) (by omega) (by omega)
  have z6 := fz 6 (by omega) (by omega) (by omega) (by omega) (by omega)
  have z7 := fz 7 (by omega) (by omega) (by omega) (by omega) (by omega)
  have z8 := fz 8 (by omega) (by omega) (by omega) (by omega) (by omega)
  have z9 := fz 9 (by omega) (by omega) (by omega) (by omega) (by omega)
  have z10 := fz 10 (by omega) (by omega) (by omega) (by omega) (by omega)
  have hb : ∀ b k, 6 ≤ b → ¬ (b = d ∧ 9 ≤ k ∧ k ≤ 11) → b ≠ d + 1 → gI h8 b k = gI h b k := fun b k q1 q2 q3 => (K8d b k (by unfold PDr PFk; omega)).1
  refine CRok S8 ⟨fun f hf => ?_, fun q => by omega, ⟨?_, ?_, ?_, ?_, ?_⟩, ⟨?_, ?_, ?_, ?_, ?_, ?_⟩, fun s hs => by omega, fun k hk => by omega, fun k hk => by omega, fun k hk => by omega, fun k hk => by omega, fun k hk => by omega, fun k hk => by omega⟩ ((C.keep (K8d.mono (fun b k hp => by unfold PNm at hp; unfold PDr PFk; omega))).cg (fun m hm => ?_) (fun m hm => ?_) ?_) (kDr hd K8d)
  · rw [f0] at hf
    rw [k68 _ _ (by omega) (by omega), rq f hf]
    exact congrArg nI (qk_cg f (fun i hi => by rw [fuN _ (by omega), fuN _ (by omega)])).symm
  · rw [k68 _ _ (by omega) (by omega), f0]; exact r9
  · rw [k68 _ _ (by omega) (by omega), fuN _ (by omega), fuS]; exact r10
  · rw [(K8 d 11 (by unfold PTk; omega)).1, gIs, fuS]
  · rw [hb _ _ (by omega) (by omega) (by omega), z3]; exact D.2.2.1.2.2.2.1.trans (by rw [Z 3 (by omega)])
  · rw [hb _ _ (by omega) (by omega) (by omega), z10]; exact D.2.2.1.2.2.2.2.trans (by rw [Z 10 (by omega)])
  · exact ⟨(hb _ _ (by omega) (by omega) (by omega)).trans D.2.2.2.1.1.1, by rw [hb _ _ (by omega) (by omega) (by omega), z4]; exact D.2.2.2.1.1.2.trans (by rw [Z 4 (by omega)])⟩
  · exact ⟨(hb _ _ (by omega) (by omega) (by omega)).trans D.2.2.2.1.2.1.1, by rw [hb _ _ (by omega) (by omega) (by omega), z5]; exact D.2.2.2.1.2.1.2.trans (by rw [Z 5 (by omega)])⟩
  · exact ⟨(hb _ _ (by omega) (by omega) (by omega)).trans D.2.2.2.1.2.2.1.1, by rw [hb _ _ (by omega) (by omega) (by omega), z6]; exact D.2.2.2.1.2.2.1.2.trans (by rw [Z 6 (by omega)])⟩
  · exact ⟨(hb _ _ (by omega) (by omega) (by omega)).trans D.2.2.2.1.2.2.2.1.1, by rw [hb _ _ (by omega) (by omega) (by omega), z7]; exact D.2.2.2.1.2.2.2.1.2.trans (by rw [Z 7 (by omega)])⟩
  · exact ⟨(hb _ _ (by omega) (by omega) (by omega)).trans D.2.2.2.1.2.2.2.2.1.1, by rw [hb _ _ (by omega) (by omega) (by omega), z8]; exact D.2.2.2.1.2.2.2.2.1.2.trans (by rw [Z 8 (by omega)])⟩
  · exact ⟨(hb _ _ (by omega) (by omega) (by omega)).trans D.2.2.2.1.2.2.2.2.2.1, by rw [hb _ _ (by omega) (by omega) (by omega), z9]; exact D.2.2.2.1.2.2.2.2.2.2.trans (by rw [Z 9 (by omega)])⟩
  · rw [fz _ (by omega) (by omega) (by omega) (by omega) (by omega), Z _ (by omega)]
  · have s1 : fu (fu G 1 v) 2 w (190 + m) = 0 := fz _ (by omega) (by omega) (by omega) (by omega) (by omega)
    unfold nc
    rw [s1, Z _ (by omega)]
    rfl
  · rw [z3, z4, z7, Z 3 (by omega), Z 4 (by omega), Z 7 (by omega)]
set_option maxRecDepth 100000 in
theorem clDream2 (V : VQ F) (L : LnS TP n d h F e) : CR TP n d h (lDream TP n F e) (fX5_readDream 2 h) := by
  obtain ⟨hd, S, D, C, RM⟩ := id L
  have b0 := V.1.1
  have b1 := V.1.2.1
  have b2 := V.2.1.2.1
  unfold lDream fX5_readDream
  rw [if_neg (show ¬ F 2 = 0 by omega)]
  refine rG hd S ?_
  rw [S.2.2.1, D.2.2.1.1, if_neg (show ¬ nI (F 0) ≤ (0 : Int32) by show ¬ nI (F 0) ≤ nI 0; rw [leN (by omega) (by omega)]; omega)]
  exact CR.wrap2 (CRbad S rfl Keep.rfl)
end CDS
