/-! the class's lines: signs, knocks, tasks -/
section CRL
variable {TP : Nat → Nat} {n d e : Nat} {h : HH} {F : Nat → Nat}
set_option maxRecDepth 100000 in
theorem clFelt (H : HT TP n) (V : VQ F) (L : LnS TP n d h F e) : CR TP n d h (lFelt TP n F e) (gd (isKb 0 (gR h 2 6)) (bd (fX5_addRow 2 ((gR h 2 6) + 12) h) (fun r h1 => bif r then bd (fX5_readFelt 2 h1) (fun r h2 => bif r then some (true, h2) else some (false, h2)) else some (false, h1)))) := by
  obtain ⟨hd, S, D, C, RM⟩ := id L
  have B := V.bd
  have N := V.nm
  have F01 : 1 ≤ F 0 := V.1.1
  have F2b : F 2 ≤ 600 := V.2.1.2.2.1
  have F3b : F 3 ≤ 3 := V.2.1.2.2.2.1
  obtain ⟨rm1, rm2, rm3, rm4, rm5, rm6⟩ := RM d hd
  have hl := (lnD hd).2.2.2.2.1
  obtain ⟨B0, B4, B5, B6, B7, B8, B9⟩ := id B
  have hd6 : 44 ≤ d := by unfold isD at hd; omega
  unfold lFelt
  refine rG hd S ?_
  rw [S.2.2.1]
  have T1 : F 8 < 6 → TBl d (d + 12) 3 (F 8) (6 * 3) := fun z => ⟨hd, by omega, hl, by omega, by omega, by omega⟩
  refine rAdd H L T1 (by omega) (by omega) (by omega) rm5.1 rm5.2 D.2.2.2.1.2.2.2.2.1.2 hl (by omega) B8 (fun h0 lt M0 => CR.wrap ?_)
  have T2 := T1 lt
  have d9 : ∀ (h' : HH) (vs : Nat → Int32), RW h h' (d + 12) 3 (F 8) vs → gI h' d 9 = nI (F 0) := fun h' vs R => (RWd R hd (by omega) (by omega) 9).trans D.2.2.1.1
  have d11 : ∀ (h' : HH) (vs : Nat → Int32), RW h h' (d + 12) 3 (F 8) vs → gI h' d 11 = nI (F 2) := fun h' vs R => (RWd R hd (by omega) (by omega) 11).trans D.2.2.1.2.2.1
  unfold fX5_readFelt
  refine rG hd M0.1 ?_
  rw [nm_1, M0.1.2.2.1]
  refine rP (j := 0) T2 M0 (by omega) rfl (fun h1 M1 => ?_)
  refine rN T2 M1 (by omega) (by omega) rfl (rfl) (fun l1 m1 g1 => ?_)
  refine rT (j := 1) H T2 M1 (by omega) rfl g1 (fun h2 M2 => ?_)
  refine rN T2 M2 (by omega) (by omega) rfl (rfl) (fun l2 m2 g2 => ?_)
  refine rT (j := 2) H T2 M2 (by omega) rfl g2 (fun h3 M3 => ?_)
  refine CRok M3.1 (xD8 D hd B M3.2.1 lt (fun k hk h2 h3 => ?_) (fuS _ _ _) (fun j hj => ?_)) (M3.2.2.cg (fun m hm => ?_) (fun m hm => ?_) ?_) (M3.kp T2)
  · simp (disch := omega) only [fuN]
  · rcases (show j = 0 ∨ j = 1 ∨ j = 2 by omega) with rfl | rfl | rfl
    · simp (disch := omega) only [fuN, Nat.add_zero, fuS, if_true, if_false, Nat.reduceEqDiff]
      rfl
    · simp (disch := omega) only [fuN, fuS, if_true, if_false, Nat.reduceEqDiff]
    · simp (disch := omega) only [fuN, fuS, if_true, if_false, Nat.reduceEqDiff]
  · simp (disch := omega) only [fuN]
  · simp (disch := omega) only [nc_upd]
  · simp (disch := omega) only [fuN, fuS]
set_option maxRecDepth 100000 in
theorem clCame (H : HT TP n) (V : VQ F) (L : LnS TP n d h F e) : CR TP n d h (lCame TP n F e) (gd (isKb 0 (gR h 2 6)) (bd (fX5_addRow 2 ((gR h 2 6) + 12) h) (fun r h1 => bif r then bd (fX5_readCame 2 h1) (fun r h2 => bif r then some (true, h2) else some (false, h2)) else some (false, h1)))) := by
  obtain ⟨hd, S, D, C, RM⟩ := id L
  have B := V.bd
  have N := V.nm
  have F01 : 1 ≤ F 0 := V.1.1
  have F2b : F 2 ≤ 600 := V.2.1.2.2.1
  have F3b : F 3 ≤ 3 := V.2.1.2.2.2.1
  obtain ⟨rm1, rm2, rm3, rm4, rm5, rm6⟩ := RM d hd
  have hl := (lnD hd).2.2.2.2.1
  obtain ⟨B0, B4, B5, B6, B7, B8, B9⟩ := id B
  have hd6 : 44 ≤ d := by unfold isD at hd; omega
  unfold lCame
  refine rG hd S ?_
  rw [S.2.2.1]
  have T1 : F 8 < 6 → TBl d (d + 12) 3 (F 8) (6 * 3) := fun z => ⟨hd, by omega, hl, by omega, by omega, by omega⟩
  refine rAdd H L T1 (by omega) (by omega) (by omega) rm5.1 rm5.2 D.2.2.2.1.2.2.2.2.1.2 hl (by omega) B8 (fun h0 lt M0 => CR.wrap ?_)
  have T2 := T1 lt
  have d9 : ∀ (h' : HH) (vs : Nat → Int32), RW h h' (d + 12) 3 (F 8) vs → gI h' d 9 = nI (F 0) := fun h' vs R => (RWd R hd (by omega) (by omega) 9).trans D.2.2.1.1
  have d11 : ∀ (h' : HH) (vs : Nat → Int32), RW h h' (d + 12) 3 (F 8) vs → gI h' d 11 = nI (F 2) := fun h' vs R => (RWd R hd (by omega) (by omega) 11).trans D.2.2.1.2.2.1
  unfold fX5_readCame
  refine rG hd M0.1 ?_
  rw [nm_1, M0.1.2.2.1]
  refine rP (j := 0) T2 M0 (by omega) rfl (fun h1 M1 => ?_)
  refine rN T2 M1 (by omega) (by omega) rfl (rfl) (fun l1 m1 g1 => ?_)
  refine rT (j := 1) H T2 M1 (by omega) rfl g1 (fun h2 M2 => ?_)
  refine rN T2 M2 (by omega) (by omega) rfl (rfl) (fun l2 m2 g2 => ?_)
  refine rT (j := 2) H T2 M2 (by omega) rfl g2 (fun h3 M3 => ?_)
  refine CRok M3.1 (xD8 D hd B M3.2.1 lt (fun k hk h2 h3 => ?_) (fuS _ _ _) (fun j hj => ?_)) (M3.2.2.cg (fun m hm => ?_) (fun m hm => ?_) ?_) (M3.kp T2)
  · simp (disch := omega) only [fuN]
  · rcases (show j = 0 ∨ j = 1 ∨ j = 2 by omega) with rfl | rfl | rfl
    · simp (disch := omega) only [fuN, Nat.add_zero, fuS, if_true, if_false, Nat.reduceEqDiff]
      rfl
    · simp (disch := omega) only [fuN, fuS, if_true, if_false, Nat.reduceEqDiff]
    · simp (disch := omega) only [fuN, fuS, if_true, if_false, Nat.reduceEqDiff]
  · simp (disch := omega) only [fuN]
  · simp (disch := omega) only [nc_upd]
  · simp (disch := omega) only [fuN, fuS]
set_option maxRecDepth 100000 in
theorem clKnock (H : HT TP n) (V : VQ F) (L : LnS TP n d h F e) : CR TP n d h (lKnock TP n F e) (gd (isKb 0 (gR h 2 6)) (bd (fX5_addRow 2 ((gR h 2 6) + 8) h) (fun r h1 => bif r then bd (fX5_readKnock 2 h1) (fun r h2 => bif r then some (true, h2) else some (false, h2)) else some (false, h1)))) := by
  obtain ⟨hd, S, D, C, RM⟩ := id L
  have B := V.bd
  have N := V.nm
  have F01 : 1 ≤ F 0 := V.1.1
  have F2b : F 2 ≤ 600 := V.2.1.2.2.1
  have F3b : F 3 ≤ 3 := V.2.1.2.2.2.1
  obtain ⟨rm1, rm2, rm3, rm4, rm5, rm6⟩ := RM d hd
  have hl := (lnD hd).2.2.1
  obtain ⟨B0, B4, B5, B6, B7, B8, B9⟩ := id B
  have hd6 : 44 ≤ d := by unfold isD at hd; omega
  unfold lKnock
  refine rG hd S ?_
  rw [S.2.2.1]
  have T1 : F 6 < 8 → TBl d (d + 8) 4 (F 6) (8 * 4) := fun z => ⟨hd, by omega, hl, by omega, by omega, by omega⟩
  refine rAdd H L T1 (by omega) (by omega) (by omega) rm3.1 rm3.2 D.2.2.2.1.2.2.1.2 hl (by omega) B6 (fun h0 lt M0 => CR.wrap ?_)
  have T2 := T1 lt
  have d9 : ∀ (h' : HH) (vs : Nat → Int32), RW h h' (d + 8) 4 (F 6) vs → gI h' d 9 = nI (F 0) := fun h' vs R => (RWd R hd (by omega) (by omega) 9).trans D.2.2.1.1
  have d11 : ∀ (h' : HH) (vs : Nat → Int32), RW h h' (d + 8) 4 (F 6) vs → gI h' d 11 = nI (F 2) := fun h' vs R => (RWd R hd (by omega) (by omega) 11).trans D.2.2.1.2.2.1
  unfold fX5_readKnock
  refine rG hd M0.1 ?_
  rw [nm_1, M0.1.2.2.1]
  refine rTd (s := 0) T2 N M0 (by omega) rfl (fun h1 l0 m0 M1 g1 => ?_)
  refine rT (j := 0) H T2 M1 (by omega) rfl g1 (fun h2 M2 => ?_)
  refine rW H T2 M2 (by omega) (fun h3 M3 => ?_)
  refine rG hd M3.1 ?_
  refine rN T2 M3 (by omega) (by omega) rfl (by rw [M3.1.2.2.1, d9 _ _ M3.2.1]; exact pk_sub F01) (fun l3 m3 g3 => ?_)
  refine rT (j := 1) H T2 M3 (by omega) rfl g3 (fun h4 M4 => ?_)
  refine rW H T2 M4 (by omega) (fun h5 M5 => ?_)
  refine rG hd M5.1 ?_
  refine rN T2 M5 (by omega) (by omega) rfl (by rw [M5.1.2.2.1]; exact d11 _ _ M5.2.1) (fun l5 m5 g5 => ?_)
  refine rT (j := 2) H T2 M5 (by omega) rfl g5 (fun h6 M6 => ?_)
  refine rW H T2 M6 (by omega) (fun h7 M7 => ?_)
  refine rN T2 M7 (by omega) (by omega) rfl (rfl) (fun l7 m7 g7 => ?_)
  refine rT (j := 3) H T2 M7 (by omega) rfl g7 (fun h8 M8 => ?_)
  refine CRok M8.1 (xD6 D hd B M8.2.1 lt (fun k hk h2 h3 => ?_) (fuS _ _ _) (fun j hj => ?_)) (M8.2.2.cg (fun m hm => ?_) (fun m hm => ?_) ?_) (M8.kp T2)
  · simp (disch := omega) only [fuN]
  · rcases (show j = 0 ∨ j = 1 ∨ j = 2 ∨ j = 3 by omega) with rfl | rfl | rfl | rfl
    · simp (disch := omega) only [fuN, Nat.add_zero, fuS, if_true, if_false, Nat.reduceEqDiff]
    · simp (disch := omega) only [fuN, fuS, if_true, if_false, Nat.reduceEqDiff]
    · simp (disch := omega) only [fuN, fuS, if_true, if_false, Nat.reduceEqDiff]
    · simp (disch := omega) only [fuN, fuS, if_true, if_false, Nat.reduceEqDiff]
  · simp (disch := omega) only [fuN]
  · simp (disch := omega) only [nc_upd]
  · simp (disch := omega) only [fuN, fuS]
set_option maxRecDepth 100000 in
theorem clTask (H : HT TP n) (V : VQ F) (L : LnS TP n d h F e) : CR TP n d h (lTask TP n F e) (gd (isKb 0 (gR h 2 6)) (bd (fX5_addRow 2 ((gR h 2 6) + 10) h) (fun r h1 => bif r then bd (fX5_readTask 2 h1) (fun r h2 => bif r then some (true, h2) else some (false, h2)) else some (false, h1)))) := by
  obtain ⟨hd, S, D, C, RM⟩ := id L
  have B := V.bd
  have N := V.nm
  have F01 : 1 ≤ F 0 := V.1.1
  have F2b : F 2 ≤ 600 := V.2.1.2.2.1
  have F3b : F 3 ≤ 3 := V.2.1.2.2.2.1
  obtain ⟨rm1, rm2, rm3, rm4, rm5, rm6⟩ := RM d hd
  have hl := (lnD hd).2.2.2.1
  obtain ⟨B0, B4, B5, B6, B7, B8, B9⟩ := id B
  have hd6 : 44 ≤ d := by unfold isD at hd; omega
  unfold lTask
  refine rG hd S ?_
  rw [S.2.2.1]
  have T1 : F 7 < 6 → TBl d (d + 10) 3 (F 7) (6 * 3) := fun z => ⟨hd, by omega, hl, by omega, by omega, by omega⟩
  refine rAdd H L T1 (by omega) (by omega) (by omega) rm4.1 rm4.2 D.2.2.2.1.2.2.2.1.2 hl (by omega) B7 (fun h0 lt M0 => CR.wrap ?_)
  have T2 := T1 lt
  have d9 : ∀ (h' : HH) (vs : Nat → Int32), RW h h' (d + 10) 3 (F 7) vs → gI h' d 9 = nI (F 0) := fun h' vs R => (RWd R hd (by omega) (by omega) 9).trans D.2.2.1.1
  have d11 : ∀ (h' : HH) (vs : Nat → Int32), RW h h' (d + 10) 3 (F 7) vs → gI h' d 11 = nI (F 2) := fun h' vs R => (RWd R hd (by omega) (by omega) 11).trans D.2.2.1.2.2.1
  unfold fX5_readTask
  refine rG hd M0.1 ?_
  rw [nm_1, M0.1.2.2.1]
  have z0 : F (190 + (8 + F 7)) = 0 := by
    have := N.2.2.2.1 (F 7) lt; have e8 : F (190 + (8 + F 7)) = F (198 + F 7) := congrArg F (by omega)
    omega
  refine rNm (m1 := (8 + F 7)) H T2 N M0 (by omega) (by omega) z0 (by show (2 : Int32) = nI (srt (8 + F 7)); unfold srt; rw [if_neg (by omega), if_neg (by omega)]; rfl) (by rw [M0.2.1.2.1]; unfold nmb; rw [if_neg (by omega), if_neg (by omega), show 8 + F 7 - 8 = F 7 by omega]; exact pk_sub (show 1 ≤ F 7 + 1 by omega)) (fun h1 nn ff M1 => ?_)
  refine rW H T2 M1 (by omega) (fun h2 M2 => ?_)
  refine rG hd M2.1 ?_
  refine rN T2 M2 (by omega) (by omega) rfl (by rw [M2.1.2.2.1]; exact d9 _ _ M2.2.1) (fun l2 m2 g2 => ?_)
  refine rT (j := 0) H T2 M2 (by omega) rfl g2 (fun h3 M3 => ?_)
  refine rW H T2 M3 (by omega) (fun h4 M4 => ?_)
  refine rN T2 M4 (by omega) (by omega) rfl (rfl) (fun l4 m4 g4 => ?_)
  refine rT (j := 1) H T2 M4 (by omega) rfl g4 (fun h5 M5 => ?_)
  refine rW H T2 M5 (by omega) (fun h6 M6 => ?_)
  refine rN T2 M6 (by omega) (by omega) rfl (rfl) (fun l6 m6 g6 => ?_)
  refine rT (j := 2) H T2 M6 (by omega) rfl g6 (fun h7 M7 => ?_)
  refine CRok M7.1 (xD7 D hd B M7.2.1 lt (fun k hk h2 h3 => ?_) (fuS _ _ _) (fun j hj => ?_)) (M7.2.2.cg (fun m hm => ?_) (fun m hm => ?_) ?_) (M7.kp T2)
  · simp (disch := omega) only [fuN, addN_lo]
  · rcases (show j = 0 ∨ j = 1 ∨ j = 2 by omega) with rfl | rfl | rfl
    · simp (disch := omega) only [fuN, Nat.add_zero, fuS, if_true, if_false, Nat.reduceEqDiff]
    · simp (disch := omega) only [fuN, fuS, if_true, if_false, Nat.reduceEqDiff]
    · simp (disch := omega) only [fuN, fuS, if_true, if_false, Nat.reduceEqDiff]
  · simp (disch := omega) only [fuN]
  · simp (disch := omega) only [nc_upd]
  · simp (disch := omega) only [fuN, fuS, addN_lo]
    omega
end CRL
