/-! the class's lines: sleepers -/
section CRM
variable {TP : Nat → Nat} {n d e : Nat} {h : HH} {F : Nat → Nat}
set_option maxRecDepth 100000 in
theorem rKd {h1 : HH} {G : Nat → Nat} {cn w c m q : Nat} {vs : Nat → Int32} {k : Nat → Nat → Out} {K : HH → Option (Bool × HH)} (H : HT TP n) (T1 : TBl d w c m q) (M : ML TP n d h1 h G cn e w c m vs) (nx : ∀ kd, kd ≤ 3 → ∀ h', ML TP n d h1 h' G cn (tE TP n e) w c m (fun i => if i = 0 then nI kd else vs i) → CR TP n d h1 (k kd (tE TP n e)) (K h')) (hc : 0 < c := by omega) : CR TP n d h1 (sKd TP n e k) (bd (fX5_readKind 2 w h) (fun r h' => bif r then K h' else some (false, h'))) := by
  have w6 := T1.w6
  have st : ∀ kd : Nat, ∃ h', bv (fX7_put w (nI 0) (nI kd) h) (fun h12 => bv (fX5_next 2 h12) (fun h79 => some (true, h79))) = some (true, h') ∧ ML TP n d h1 h' G cn (tE TP n e) w c m (fun i => if i = 0 then nI kd else vs i) := fun kd => by
    obtain ⟨h2, p1, p2, p3⟩ := putR M.2.1 w6 hc T1.2.2.1 T1.2.2.2.1 T1.2.2.2.2.1 T1.2.2.2.2.2 (nI kd)
    have K2 : Keep (fun b _ => b ≤ 5) h h2 := by rw [p3]; exact Keep.sI Keep.rfl (fun z => by omega)
    obtain ⟨h', e1, S3, K4⟩ := (M.1.kf (K2.mono (fun b k hp => by omega))).nx H
    refine ⟨h', ?_, S3, p2.k (K4.mono (fun b k hp => by unfold PFN at hp; unfold PTk; omega)) w6, M.2.2.keep ((K2.mono (fun b k hp => by unfold PNm at hp; omega)).trans (K4.mono (fun b k hp => by unfold PNm at hp; unfold PTk; omega)))⟩
    rw [p1, bv_1, e1, bv_1]
  have sp : ∀ w, w < 58 → fX5_spells 2 w h = some (WD TP n e w, h) := fun w hw => cSpell hw M.1.2.2.2 M.1.2.1
  obtain ⟨x0, y0, z0⟩ := st 0
  obtain ⟨x1, y1, z1⟩ := st 1
  obtain ⟨x2, y2, z2⟩ := st 2
  obtain ⟨x3, y3, z3⟩ := st 3
  have f1 := (cFl M.1 1).1
  unfold sKd
  rw [fX5_readKind, sp 15 (by omega), bd_1]
  cases WD TP n e 15 with
  | true =>
    rw [if_pos rfl, cond_true]
    refine (show CR TP n d h1 _ (bd (bv (fX7_put w (nI 0) (nI 0) h) (fun h12 => bv (fX5_next 2 h12) (fun h79 => some (true, h79)))) _) from ?_)
    rw [y0, bd_1, cond_true]
    exact nx 0 (by omega) _ z0
  | false =>
    rw [if_neg (fun z => by cases z), cond_false, sp 16 (by omega), bd_1]
    cases WD TP n e 16 with
    | true =>
      rw [if_pos rfl, cond_true]
      refine (show CR TP n d h1 _ (bd (bv (fX7_put w (nI 0) (nI 1) h) (fun h12 => bv (fX5_next 2 h12) (fun h79 => some (true, h79)))) _) from ?_)
      rw [y1, bd_1, cond_true]
      exact nx 1 (by omega) _ z1
    | false =>
      rw [if_neg (fun z => by cases z), cond_false, sp 17 (by omega), bd_1]
      cases WD TP n e 17 with
      | true =>
        rw [if_pos rfl, cond_true]
        refine (show CR TP n d h1 _ (bd (bv (fX7_put w (nI 0) (nI 2) h) (fun h12 => bv (fX5_next 2 h12) (fun h79 => some (true, h79)))) _) from ?_)
        rw [y2, bd_1, cond_true]
        exact nx 2 (by omega) _ z2
      | false =>
        rw [if_neg (fun z => by cases z), cond_false, sp 18 (by omega), bd_1]
        cases WD TP n e 18 with
        | true =>
          rw [if_pos rfl, cond_true]
          refine (show CR TP n d h1 _ (bd (bv (fX7_put w (nI 0) (nI 3) h) (fun h12 => bv (fX5_next 2 h12) (fun h79 => some (true, h79)))) _) from ?_)
          rw [y3, bd_1, cond_true]
          exact nx 3 (by omega) _ z3
        | false =>
          rw [if_neg (fun z => by cases z), cond_false]
          refine (show CR TP n d h1 _ (bd (bd (fX5_fail 2 (nI 1) h) (fun r74 h74 => some (r74, h74))) _) from ?_)
          rw [f1, bd_1, bd_1, cond_false]
          exact CRbad M.1 rfl (M.kp T1)

set_option maxRecDepth 100000 in
theorem clSleeper (H : HT TP n) (V : VQ F) (L : LnS TP n d h F e) : CR TP n d h (lSleeper TP n F e) (gd (isKb 0 (gR h 2 6)) (bd (fX5_addRow 2 ((gR h 2 6) + 4) h) (fun r h1 => bif r then bd (fX5_readSleeper 2 h1) (fun r h2 => bif r then some (true, h2) else some (false, h2)) else some (false, h1)))) := by
  obtain ⟨hd, S, D, C, RM⟩ := id L
  have B := V.bd
  have N := V.nm
  have F01 : 1 ≤ F 0 := V.1.1
  have F2b : F 2 ≤ 600 := V.2.1.2.2.1
  have F3b : F 3 ≤ 3 := V.2.1.2.2.2.1
  obtain ⟨rm1, rm2, rm3, rm4, rm5, rm6⟩ := RM d hd
  have hl := (lnD hd).1
  obtain ⟨B0, B4, B5, B6, B7, B8, B9⟩ := id B
  have hd6 : 44 ≤ d := by unfold isD at hd; omega
  unfold lSleeper
  refine rG hd S ?_
  rw [S.2.2.1]
  have T1 : F 4 < 5 → TBl d (d + 4) 6 (F 4) (5 * 6) := fun z => ⟨hd, by omega, hl, by omega, by omega, by omega⟩
  refine rAdd H L T1 (by omega) (by omega) (by omega) rm1.1 rm1.2 D.2.2.2.1.1.2 hl (by omega) B4 (fun h0 lt M0 => CR.wrap ?_)
  have T2 := T1 lt
  have d9 : ∀ (h' : HH) (vs : Nat → Int32), RW h h' (d + 4) 6 (F 4) vs → gI h' d 9 = nI (F 0) := fun h' vs R => (RWd R hd (by omega) (by omega) 9).trans D.2.2.1.1
  have d11 : ∀ (h' : HH) (vs : Nat → Int32), RW h h' (d + 4) 6 (F 4) vs → gI h' d 11 = nI (F 2) := fun h' vs R => (RWd R hd (by omega) (by omega) 11).trans D.2.2.1.2.2.1
  unfold fX5_readSleeper
  refine rG hd M0.1 ?_
  rw [nm_1, M0.1.2.2.1]
  refine rP (j := 4) T2 M0 (by omega) rfl (fun h1 M1 => ?_)
  have z0 : F (190 + (3 + F 4)) = 0 := by
    have := N.2.2.1 (F 4) lt; have e8 : F (190 + (3 + F 4)) = F (193 + F 4) := congrArg F (by omega)
    omega
  refine rNm (m1 := (3 + F 4)) H T2 N M1 (by omega) (by omega) z0 (by show (1 : Int32) = nI (srt (3 + F 4)); unfold srt; rw [if_neg (by omega), if_pos (by omega)]; rfl) (by rw [M1.2.1.2.1]; unfold nmb; rw [if_neg (by omega), if_pos (by omega), show 3 + F 4 - 3 = F 4 by omega]; exact pk_sub (show 1 ≤ F 4 + 1 by omega)) (fun h2 nn ff M2 => ?_)
  refine rKd H T2 M2 (fun kd hkd h3 M3 => ?_)
  refine rW H T2 M3 (by omega) (fun h4 M4 => ?_)
  refine rN T2 M4 (by omega) (by omega) rfl (rfl) (fun l4 m4 g4 => ?_)
  refine rT (j := 1) H T2 M4 (by omega) rfl g4 (fun h5 M5 => ?_)
  refine rW H T2 M5 (by omega) (fun h6 M6 => ?_)
  refine rN T2 M6 (by omega) (by omega) rfl (rfl) (fun l6 m6 g6 => ?_)
  refine rT (j := 2) H T2 M6 (by omega) rfl g6 (fun h7 M7 => ?_)
  refine rW H T2 M7 (by omega) (fun h8 M8 => ?_)
  refine rN T2 M8 (by omega) (by omega) rfl (rfl) (fun l8 m8 g8 => ?_)
  refine rT (j := 3) H T2 M8 (by omega) rfl g8 (fun h9 M9 => ?_)
  refine CRok M9.1 (xD4 D hd B M9.2.1 lt (fun k hk h2 h3 => ?_) (fuS _ _ _) (fun j hj => ?_) ?_ rfl (fun k hk => (V.2.2.2.1 k hk).1)) (M9.2.2.cg (fun m hm => ?_) (fun m hm => ?_) ?_) (M9.kp T2)
  · simp (disch := omega) only [fuN, addN_lo]
  · rcases (show j = 0 ∨ j = 1 ∨ j = 2 ∨ j = 3 by omega) with rfl | rfl | rfl | rfl
    · simp (disch := omega) only [fuN, Nat.add_zero, fuS, if_true, if_false, Nat.reduceEqDiff]
    · simp (disch := omega) only [fuN, fuS, if_true, if_false, Nat.reduceEqDiff]
    · simp (disch := omega) only [fuN, fuS, if_true, if_false, Nat.reduceEqDiff]
    · simp (disch := omega) only [fuN, fuS, if_true, if_false, Nat.reduceEqDiff]
  · simp (disch := omega) only [fuN, fuS, if_true, if_false, Nat.reduceEqDiff]
    rfl
  · simp (disch := omega) only [fuN]
  · simp (disch := omega) only [nc_upd]
  · simp (disch := omega) only [fuN, fuS, addN_lo]
    omega
end CRM
