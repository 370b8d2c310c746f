/-! the class's lines that add a row -/
section CRW
variable {TP : Nat → Nat} {n d e : Nat} {h : HH} {F : Nat → Nat}
set_option maxRecDepth 100000 in
theorem CR.wrap {h0 : HH} {o : Out} {r : Option (Bool × HH)} (C : CR TP n d h0 o r) : CR TP n d h0 o (bd r (fun b h' => bif b then some (true, h') else some (false, h'))) := by
  rcases o.cs with ⟨q, p, rfl⟩ | ⟨F, e, rfl⟩
  · obtain ⟨b, h', a1, a2⟩ := C
    refine ⟨b, h', ?_, a2⟩
    rw [a1, bd_1]
    cases b with
    | true => rfl
    | false => rfl
  · obtain ⟨h', a1, a2⟩ := C
    refine ⟨h', ?_, a2⟩
    rw [a1, bd_1]
    rfl
set_option maxRecDepth 100000 in
theorem CR.wrap2 {h0 : HH} {o : Out} {r : Option (Bool × HH)} (C : CR TP n d h0 o r) : CR TP n d h0 o (bd r (fun b h' => some (b, h'))) := by
  rcases o.cs with ⟨q, p, rfl⟩ | ⟨F, e, rfl⟩
  · obtain ⟨b, h', a1, a2⟩ := C
    refine ⟨b, h', ?_, a2⟩
    rw [a1, bd_1]
  · obtain ⟨h', a1, a2⟩ := C
    refine ⟨h', ?_, a2⟩
    rw [a1, bd_1]
set_option maxRecDepth 100000 in
theorem CN.cg {G : Nat → Nat} {c c' : Nat} (C : CN h F c) (hs : ∀ m, m < 14 → G (190 + m) = F (190 + m)) (hn : ∀ m, m < 14 → nc G m = nc F m) (hc : c' = c) : CN h G c' := by
  subst hc
  obtain ⟨c1, c2, φ, c3, c4⟩ := C
  refine ⟨c1, c2, φ, fun i hi => ?_, fun m hm hz => c4 m hm (by rw [← hs m hm]; exact hz)⟩
  obtain ⟨a1, a2, a3, a4, a5⟩ := c3 i hi
  exact ⟨a1, by rw [hs _ a1]; exact a2, by rw [hn _ a1]; exact a3, a4, a5⟩
set_option maxRecDepth 100000 in
theorem CRok {h0 h' : HH} {e' : Nat} {G : Nat → Nat} (S : CS h' TP n d e') (D : DRep h' d G) (C : CN h' G (G 3 + G 4 + G 7)) (K : Keep (PRd d) h0 h') : CR TP n d h0 (.ok G e') (some (true, h')) := ⟨h', rfl, S, D, C, K⟩
set_option maxRecDepth 100000 in
theorem VQ.bd (V : VQ F) : BD F := by
  obtain ⟨v1, ⟨b1, b2, b3, b4, b5, b6, b7, b8, b9, b10, b11⟩, -⟩ := V
  exact ⟨v1.2.1, b5, b6, b7, b8, b9, b10⟩
set_option maxRecDepth 100000 in
theorem VQ.nm (V : VQ F) : NMK F := V.2.2.2.2.2.2.2.2.2
/-- the class at a line's first word -/
def LnS (TP : Nat → Nat) (n d : Nat) (h : HH) (F : Nat → Nat) (e : Nat) : Prop := isD d ∧ CS h TP n d e ∧ DRep h d F ∧ CN h F (F 3 + F 4 + F 7) ∧ ROM h
set_option maxRecDepth 100000 in
theorem rAdd {w c r m : Nat} {o : Out} {K : HH → Option (Bool × HH)} (H : HT TP n) (L : LnS TP n d h F e) (T1 : m < r → TBl d w c m (r * c)) (hw : 6 ≤ w) (hc : c < 10) (hr : r < 100) (g0 : gI h w 0 = nI r) (g1 : gI h w 1 = nI c) (g3 : gI h w 3 = nI m) (hl : ln (w + 1) = r * c) (h9 : r * c < 1000) (hm : m ≤ r) (nx : ∀ h', m < r → ML TP n d h h' F (F 3 + F 4 + F 7) (tE TP n e) w c m (fun _ => nI 0) → CR TP n d h o (K h')) : CR TP n d h (if r ≤ m then .bad 5 (tA TP n e) else o) (bd (fX5_addRow 2 w h) (fun r h' => bif r then K h' else some (false, h'))) := by
  obtain ⟨a1, a2⟩ := cAdd H L.2.1 hw hc hr g0 g1 g3 hl h9 hm
  by_cases z : r ≤ m
  · rw [if_pos z, a2 (by omega), bd_1, cond_false]
    exact CRbad L.2.1 rfl Keep.rfl
  · obtain ⟨h', e1, s1, r1, k1⟩ := a1 (by omega)
    rw [if_neg z, e1, bd_1, cond_true]
    exact nx h' (by omega) ⟨s1, r1, L.2.2.2.1.keep k1⟩
set_option maxRecDepth 100000 in
theorem lnD (hd : isD d) : ln (d + 5) = 30 ∧ ln (d + 7) = 60 ∧ ln (d + 9) = 32 ∧ ln (d + 11) = 18 ∧ ln (d + 13) = 18 ∧ ln (d + 15) = 18 := by
  rcases hd with rfl | rfl
  · decide +kernel
  · decide +kernel
set_option maxRecDepth 100000 in
theorem RWd {h1 h2 : HH} {w c m : Nat} {vs : Nat → Int32} (R : RW h1 h2 w c m vs) (hd : isD d) (hw : w ≠ d) (hw2 : w + 1 ≠ d) (k : Nat) : gI h2 d k = gI h1 d k := (R.1 d k ⟨by unfold isD at hd; unfold PFN; omega, by omega, by omega⟩).1
set_option maxRecDepth 100000 in
theorem clDid (H : HT TP n) (V : VQ F) (L : LnS TP n d h F e) : CR TP n d h (lDid TP n F e) (gd (isKb 0 (gR h 2 6)) (bd (fX5_addRow 2 ((gR h 2 6) + 14) h) (fun r h1 => bif r then bd (fX5_readDid 2 h1) (fun r h2 => bif r then some (true, h2) else some (false, h2)) else some (false, h1)))) := by
  obtain ⟨hd, S, D, C, RM⟩ := id L
  have B := V.bd
  obtain ⟨rm1, rm2, rm3, rm4, rm5, rm6⟩ := RM d hd
  have hl := (lnD hd).2.2.2.2.2
  obtain ⟨B0, B4, B5, B6, B7, B8, B9⟩ := id B
  have hd6 : 44 ≤ d := by unfold isD at hd; omega
  unfold lDid
  refine rG hd S ?_
  rw [S.2.2.1]
  have T1 : F 9 < 6 → TBl d (d + 14) 3 (F 9) (6 * 3) := fun z => ⟨hd, by omega, hl, by omega, by omega, by omega⟩
  refine rAdd H L T1 (by omega) (by omega) (by omega) rm6.1 rm6.2 D.2.2.2.1.2.2.2.2.2.2 hl (by omega) B9 (fun h1 lt M => CR.wrap ?_)
  have T2 := T1 lt
  have d9 : ∀ (h' : HH) (vs : Nat → Int32), RW h h' (d + 14) 3 (F 9) vs → gI h' d 9 = nI (F 0) := fun h' vs R => (RWd R hd (by omega) (by omega) 9).trans D.2.2.1.1
  unfold fX5_readDid
  refine rG hd M.1 ?_
  rw [nm_1, M.1.2.2.1]
  refine rN T2 M (by omega) (by omega) rfl rfl (fun l1 l2 g1 => ?_)
  refine rT (j := 0) H T2 M (by omega) rfl g1 (fun h2 M2 => ?_)
  refine rW H T2 M2 (by omega) (fun h3 M3 => ?_)
  refine rG hd M3.1 ?_
  refine rN T2 M3 (by omega) (by omega) rfl (by rw [M3.1.2.2.1]; exact d9 _ _ M3.2.1) (fun l3 l4 g3 => ?_)
  refine rT (j := 1) H T2 M3 (by omega) rfl g3 (fun h4 M4 => ?_)
  refine rW H T2 M4 (by omega) (fun h5 M5 => ?_)
  refine rN T2 M5 (by omega) (by omega) rfl rfl (fun l5 l6 g5 => ?_)
  refine rT (j := 2) H T2 M5 (by omega) rfl g5 (fun h6 M6 => ?_)
  refine CRok M6.1 (xD9 D hd B M6.2.1 lt (fun k hk h2 h3 => ?_) (fuS _ _ _) (fun j hj => ?_)) (M6.2.2.cg (fun m hm => ?_) (fun m hm => ?_) ?_) (M6.kp T2)
  · simp (disch := omega) only [fuN]
  · rcases (show j = 0 ∨ j = 1 ∨ j = 2 by omega) with rfl | rfl | rfl
    · simp (disch := omega) only [fuN, Nat.add_zero, fuS, if_true, if_false, Nat.reduceEqDiff]
    · simp (disch := omega) only [fuN, fuS, if_true, if_false, Nat.reduceEqDiff]
    · simp (disch := omega) only [fuN, fuS, if_true, if_false, Nat.reduceEqDiff]
  · simp (disch := omega) only [fuN]
  · simp (disch := omega) only [nc_upd]
  · simp (disch := omega) only [fuN]
end CRW
