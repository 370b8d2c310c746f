/-! the class's lines: down, up, head -/
section CSU
variable {TP : Nat → Nat} {n d e : Nat} {h : HH} {F : Nat → Nat}
set_option maxRecDepth 100000 in
theorem FDs (N : NMK F) {e1 : Nat} (l : 3 ≤ FD TP n F e1) (u : FD TP n F e1 ≤ 7) : FD TP n F e1 - 3 < F 4 := by
  obtain ⟨g1, g2, g3, g4⟩ := fd_sp F (tC TP n e1) 14 0
  have e0 : FD TP n F e1 = fd F (tC TP n e1) 14 0 := rfl
  have p := (g4 (by omega)).1
  rw [← e0, show 190 + FD TP n F e1 = 193 + (FD TP n F e1 - 3) by omega] at p
  exact (N.2.2.1 _ (by omega)).1 p
set_option maxRecDepth 100000 in
theorem FDh (N : NMK F) {e1 : Nat} (u : FD TP n F e1 ≤ 2) : FD TP n F e1 < F 3 := by
  obtain ⟨g1, g2, g3, g4⟩ := fd_sp F (tC TP n e1) 14 0
  have e0 : FD TP n F e1 = fd F (tC TP n e1) 14 0 := rfl
  have p := (g4 (by omega)).1
  rw [← e0] at p
  exact (N.2.1 _ (by omega)).1 p
set_option maxRecDepth 100000 in
theorem clDown (H : HT TP n) (V : VQ F) (L : LnS TP n d h F e) : CR TP n d h (lDown TP n F e) (gd (isKb 0 (gR h 2 6)) (bd (fX5_addRow 2 ((gR h 2 6) + 6) h) (fun r h1 => bif r then bd (fX5_readDown 2 h1) (fun r h2 => bif r then bd (fX5_readAfter 2 h2) (fun r h3 => bif r then some (true, h3) else some (false, h3)) else some (false, h2)) else some (false, h1)))) := by
  obtain ⟨hd, S, D, C, RM⟩ := id L
  have B := V.bd
  have N := V.nm
  obtain ⟨rm1, rm2, rm3, rm4, rm5, rm6⟩ := RM d hd
  have hl := (lnD hd).2.1
  obtain ⟨B0, B4, B5, B6, B7, B8, B9⟩ := id B
  have hd6 : 44 ≤ d := by unfold isD at hd; omega
  unfold lDown
  refine rG hd S ?_
  rw [S.2.2.1]
  have T1 : F 5 < 20 → TBl d (d + 6) 3 (F 5) (20 * 3) := fun z => ⟨hd, by omega, hl, by omega, by omega, by omega⟩
  refine rAdd H L T1 (by omega) (by omega) (by omega) rm2.1 rm2.2 D.2.2.2.1.2.1.2 hl (by omega) B5 (fun h0 lt M0 => ?_)
  have T2 := T1 lt
  unfold fX5_readDown
  rw [bdG]
  refine rG hd M0.1 ?_
  rw [nm_1, M0.1.2.2.1]
  simp only [bdA, bdB, bd_1, cond_false, cond_true]
  refine rTd (s := 1) T2 N M0 (by omega) rfl (fun h1 l1 u1 M1' g1 => ?_)
  refine rT (j := 0) H T2 M1' (by omega) rfl g1 (fun h2 M2' => ?_)
  refine rTd (s := 0) T2 N M2' (by omega) rfl (fun h3 l3 u3 M3 g3 => ?_)
  refine rT (j := 1) H T2 M3 (by omega) rfl g3 (fun h4 M4 => ?_)
  refine CR.wrap (clAfter H V hd D T2 M4 lt (FDs N l1 u1) ?_ ?_)
  · simp only [if_true, if_false, Nat.reduceEqDiff]
  · simp only [if_true, Nat.sub_zero]; rfl
set_option maxRecDepth 100000 in
theorem clUp (H : HT TP n) (V : VQ F) (L : LnS TP n d h F e) : CR TP n d h (lUp TP n F e) (gd (isKb 0 (gR h 2 6)) (bd (fX5_addRow 2 ((gR h 2 6) + 6) h) (fun r h1 => bif r then bd (fX5_readUp 2 h1) (fun r h2 => bif r then bd (fX5_readAfter 2 h2) (fun r h3 => bif r then some (true, h3) else some (false, h3)) else some (false, h2)) else some (false, h1)))) := by
  obtain ⟨hd, S, D, C, RM⟩ := id L
  have B := V.bd
  have N := V.nm
  obtain ⟨rm1, rm2, rm3, rm4, rm5, rm6⟩ := RM d hd
  have hl := (lnD hd).2.1
  obtain ⟨B0, B4, B5, B6, B7, B8, B9⟩ := id B
  have hd6 : 44 ≤ d := by unfold isD at hd; omega
  unfold lUp
  refine rG hd S ?_
  rw [S.2.2.1]
  have T1 : F 5 < 20 → TBl d (d + 6) 3 (F 5) (20 * 3) := fun z => ⟨hd, by omega, hl, by omega, by omega, by omega⟩
  refine rAdd H L T1 (by omega) (by omega) (by omega) rm2.1 rm2.2 D.2.2.2.1.2.1.2 hl (by omega) B5 (fun h0 lt M0 => ?_)
  have T2 := T1 lt
  unfold fX5_readUp
  rw [bdG]
  refine rG hd M0.1 ?_
  rw [M0.1.2.2.1]
  simp only [bdA, bdB, bdV, bdG, bd_1, cond_false, cond_true]
  refine rP (j := 1) T2 M0 (by omega) rfl (fun h1 M1' => ?_)
  refine rTd (s := 1) T2 N M1' (by omega) rfl (fun h2 l2 u2 M2' g2 => ?_)
  refine rG hd M2'.1 ?_
  rw [M2'.1.2.2.1]
  refine rT (j := 0) H T2 M2' (by omega) rfl g2 (fun h3 M3 => ?_)
  refine CR.wrap (clAfter H V hd D T2 M3 lt (FDs N l2 u2) ?_ ?_)
  · simp only [if_true]
  · simp only [if_true, if_false, Nat.reduceEqDiff]; decide +kernel
/-! one number of the dream is told anew -/
set_option maxRecDepth 100000 in
theorem xD3 {h1 h : HH} {F' : Nat → Nat} (D : DRep h1 d F) (B : BD F) (e : ∀ b k, d ≤ b → b ≤ d + 15 → ¬ (b = d ∧ k = 12) → gI h b k = gI h1 b k) (e12 : gI h d 12 = nI (F' 3)) (hlo : ∀ k, k < 190 → k ≠ 3 → F' k = F k) : DRep h d F' := by
  obtain ⟨B0, B4, B5, B6, B7, B8, B9⟩ := B
  obtain ⟨a1, a2, a3, a4, a5, a6, a7, a8, a9, a10, a11⟩ := D
  have fq : ∀ f, f ≤ F 0 → qk F' f = qk F f := fun f hf => qk_cg f (fun i hi => hlo _ (by omega) (by omega))
  have f0 : F' 0 = F 0 := hlo 0 (by omega) (by omega)
  have f1 : F' 1 = F 1 := hlo 1 (by omega) (by omega)
  have f2 : F' 2 = F 2 := hlo 2 (by omega) (by omega)
  have f4 : F' 4 = F 4 := hlo 4 (by omega) (by omega)
  have f5 : F' 5 = F 5 := hlo 5 (by omega) (by omega)
  have f6 : F' 6 = F 6 := hlo 6 (by omega) (by omega)
  have f7 : F' 7 = F 7 := hlo 7 (by omega) (by omega)
  have f8 : F' 8 = F 8 := hlo 8 (by omega) (by omega)
  have f9 : F' 9 = F 9 := hlo 9 (by omega) (by omega)
  have f10 : F' 10 = F 10 := hlo 10 (by omega) (by omega)
  refine ⟨fun f hf => ?_, fun q1 f q2 hf => ?_, ?_, ?_, fun s hs => ?_, fun k hk => ?_, fun k hk => ?_, fun k hk => ?_, fun k hk => ?_, fun k hk => ?_, fun k hk => ?_⟩
  · rw [f0] at hf
    rw [e _ _ (by omega) (by omega) (by omega), fq f hf]; exact a1 f hf
  · rw [f0] at hf
    rw [f10] at q1
    rw [e _ _ (by omega) (by omega) (by omega), hlo _ (by omega) (by omega)]; exact a2 q1 f q2 hf
  · obtain ⟨c1, c2, c3, c4, c5⟩ := a3
    rw [f0, f1, f2, f10, e _ 9 (by omega) (by omega) (by omega), e _ 10 (by omega) (by omega) (by omega), e _ 11 (by omega) (by omega) (by omega), e _ 13 (by omega) (by omega) (by omega)]
    exact ⟨c1, c2, c3, e12, c5⟩
  · unfold RowsR at a4 ⊢
    rw [f4, f5, f6, f7, f8, f9]
    repeat rw [e _ _ (by omega) (by omega) (by omega)]
    exact a4
  · rw [f4] at hs
    obtain ⟨c1, c2, c3⟩ := a5 s hs
    refine ⟨fun c hc => ?_, ?_, ?_⟩
    · rw [e _ _ (by omega) (by omega) (by omega), hlo _ (by omega) (by omega)]; exact c1 c hc
    · rw [e _ _ (by omega) (by omega) (by omega), hlo _ (by omega) (by omega)]; exact c2
    · rw [e _ _ (by omega) (by omega) (by omega), f5, cnt_cg s _ (fun i hi => hlo _ (by omega) (by omega))]; exact c3
  · rw [f5] at hk
    rw [e _ _ (by omega) (by omega) (by omega), e _ _ (by omega) (by omega) (by omega), e _ _ (by omega) (by omega) (by omega), hlo _ (by omega) (by omega), hlo _ (by omega) (by omega), hlo _ (by omega) (by omega)]; exact a6 k hk
  · rw [f5] at hk
    rw [hlo _ (by omega) (by omega), cnt_cg _ _ (fun i hi => hlo _ (by omega) (by omega)), e _ _ (by omega) (by omega) (by omega)]; exact a7 k hk
  · rw [f6] at hk
    rw [e _ _ (by omega) (by omega) (by omega), e _ _ (by omega) (by omega) (by omega), e _ _ (by omega) (by omega) (by omega), e _ _ (by omega) (by omega) (by omega), hlo _ (by omega) (by omega), hlo _ (by omega) (by omega), hlo _ (by omega) (by omega), hlo _ (by omega) (by omega)]; exact a8 k hk
  · rw [f7] at hk
    rw [e _ _ (by omega) (by omega) (by omega), e _ _ (by omega) (by omega) (by omega), e _ _ (by omega) (by omega) (by omega), hlo _ (by omega) (by omega), hlo _ (by omega) (by omega), hlo _ (by omega) (by omega)]; exact a9 k hk
  · rw [f8] at hk
    rw [e _ _ (by omega) (by omega) (by omega), e _ _ (by omega) (by omega) (by omega), e _ _ (by omega) (by omega) (by omega), hlo _ (by omega) (by omega), hlo _ (by omega) (by omega), hlo _ (by omega) (by omega)]; exact a10 k hk
  · rw [f9] at hk
    rw [e _ _ (by omega) (by omega) (by omega), e _ _ (by omega) (by omega) (by omega), e _ _ (by omega) (by omega) (by omega), hlo _ (by omega) (by omega), hlo _ (by omega) (by omega), hlo _ (by omega) (by omega)]; exact a11 k hk
set_option maxRecDepth 100000 in
theorem clHead (H : HT TP n) (V : VQ F) (L : LnS TP n d h F e) : CR TP n d h (lHead TP n F e) (fX5_readHead 2 h) := by
  obtain ⟨hd, S, D, C, RM⟩ := id L
  have B := V.bd
  have N := V.nm
  obtain ⟨B0, B4, B5, B6, B7, B8, B9⟩ := id B
  have hd6 : 44 ≤ d := by unfold isD at hd; omega
  have F3b : F 3 ≤ 3 := V.2.1.2.2.2.1
  have kd : isKb 0 d = true := by
    rcases hd with rfl | rfl
    · decide +kernel
    · decide +kernel
  have d12 := D.2.2.1.2.2.2.1
  unfold lHead fX5_readHead
  rw [S.2.2.1, kd, gd_1, d12]
  by_cases z : 3 ≤ F 3
  · rw [if_pos z, if_neg (show ¬ nI (F 3) < (3 : Int32) by show ¬ nI (F 3) < nI 3; rw [ltN (by omega) (by omega)]; omega)]
    exact CR.wrap2 (CRbad S rfl Keep.rfl)
  · rw [if_neg z, if_pos (show nI (F 3) < (3 : Int32) by show nI (F 3) < nI 3; rw [ltN (by omega) (by omega)]; omega)]
    obtain ⟨h1, e1, S1, K1⟩ := S.nx H
    have g12 : gI h1 d 12 = nI (F 3) := (K1 d 12 (by unfold PTk; omega)).1.trans d12
    have S2 : CS (sI h1 d 12 (nI (F 3 + 1))) TP n d (tE TP n e) := S1.kf (Keep.sI Keep.rfl (by omega))
    have C2 : CN (sI h1 d 12 (nI (F 3 + 1))) F (F 3 + F 4 + F 7) := (C.keep (K1.mono (fun b k hp => by unfold PNm at hp; unfold PTk; omega))).keep (Keep.sI Keep.rfl (fun z => by unfold PNm at z; omega))
    have z0 : F (190 + F 3) = 0 := by
      have := N.2.1 (F 3) (by omega)
      omega
    have es : (3 : Nat) > F 3 := by omega
    obtain ⟨a1, a2, a3⟩ := cNew H N S2 C2 (by omega) (show F 3 < 14 by omega) z0
    have sr : srt (F 3) = 0 := if_pos (by omega)
    have nr : nmb (F 3) = F 3 := if_pos (by omega)
    rw [sr, nr] at a1 a2 a3
    have K2 : Keep (PRd d) h (sI h1 d 12 (nI (F 3 + 1))) := Keep.sI (kRd hd (kfk K1)) (fun z => by have := z.2 (by omega) (by omega); omega)
    have ex : bv (fX5_next 2 h) (fun h18 => gd (isKb 0 (gR h18 2 6)) (gd (isKb 0 (gR (sI h18 (gR h18 2 6) 12 ((gI h18 (gR h18 2 6) 12) + 1)) 2 6)) (bd (fX5_newName 2 0 ((gI (sI h18 (gR h18 2 6) 12 ((gI h18 (gR h18 2 6) 12) + 1)) (gR (sI h18 (gR h18 2 6) 12 ((gI h18 (gR h18 2 6) 12) + 1)) 2 6) 12) - 1) (sI h18 (gR h18 2 6) 12 ((gI h18 (gR h18 2 6) 12) + 1))) (fun r45 h45 => some (r45, h45))))) = bd (fX5_newName 2 (nI 0) (nI (F 3)) (sI h1 d 12 (nI (F 3 + 1)))) (fun r h => some (r, h)) := by
      have e2 : nI (F 3 + 1) - nI 1 = nI (F 3) := pk_sub (show 1 ≤ F 3 + 1 by omega)
      simp only [lI, e1, bv_1, S1.2.2.1, kd, gd_1, g12, nI_add, S2.2.2.1, gIs, e2]
    rw [ex]
    refine CR.wrap2 ?_
    unfold sNm
    cases y : nme TP n (tE TP n e) with
    | true =>
      rw [if_pos rfl]
      by_cases x : FD TP n F (tE TP n e) = 14
      · obtain ⟨h', b1, b2, b3, b4⟩ := a1 y x
        rw [if_pos x, b1]
        have w := (wF S1.2.2.2 (by unfold nme at y; rw [Bool.and_eq_true] at y; exact of_decide_eq_true y.1)).2.1
        refine CRok b2 (xD3 D B (fun b k q1 q2 q3 => ?_) ?_ (fun k hk h2 => ?_)) (b3.cg (fun m hm => ?_) (fun m hm => ?_) ?_) (K2.trans (b4.mono (fun b k hp => hp.1)))
        · rw [(b4 b k (by unfold PFN; omega)).1, gI_sI, if_neg (by omega)]
          exact (K1 b k (by unfold PTk; omega)).1
        · rw [(b4 d 12 (by unfold PFN; omega)).1, gIs, fuS]
        · rw [fuN _ h2, addN_lo hk]
        · rw [fuN _ (by omega)]
        · exact nc_upd (by omega)
        · rw [fuS, fuN _ (by omega), fuN _ (by omega), addN_lo (by omega), addN_lo (by omega)]; omega
      · rw [if_neg x, a2 y x]
        exact CRbad S2 rfl K2
    | false =>
      rw [if_neg (fun z => by cases z), a3 y]
      exact CRbad S2 rfl K2
end CSU
