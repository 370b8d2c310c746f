/-! the model's lines -/
def cHd (c : Int32) (X : Int32 → HH → Option HH) : HH → Option HH := fun g => if gI g 181 13 = 0 then gd (inb c 316) (X (gI g 185 (ix c)) g) else some g
def mdDid (y : Int32) : HH → Option HH := cNu 1 9999 (fun r => cWr y r (cG 0 (cAf 52 1 (fun g => gI g 185 (ix 0)) (fun r => cWr (y + 1) r (cAf 57 1 (fun _ => 999) (fun r => cWr (y + 2) r (cInc 9)))))))
def mdDown (y : Int32) : HH → Option HH := cSp (fun r => cWr y r (cHp (fun r => cWr (y + 1) (r + 1) (cAf 51 0 (fun _ => 999) (fun r => cWr (y + 2) r (cInc 5))))))
def mdUp (y : Int32) : HH → Option HH := cSp (fun r => cWr y r (cWr (y + 1) 0 (cAf 51 0 (fun _ => 999) (fun r => cWr (y + 2) r (cInc 5)))))
def mdKnock (y : Int32) : HH → Option HH := cHp (fun r => cWr y r (cG 0 (cAf 52 0 (fun g => gI g 185 (ix 0) - 1) (fun r => cWr (y + 1) r (cG 2 (cAf 53 0 (fun g => gI g 185 (ix 2)) (fun r => cWr (y + 2) r (cAf 54 1 (fun _ => 99) (fun r => cWr (y + 3) r (cInc 6)))))))))) 
def mdTask (m y : Int32) : HH → Option HH := cG 7 (cNm (8 + m) (cG 0 (cAf 52 0 (fun g => gI g 185 (ix 0)) (fun r => cWr y r (cAf 55 1 (fun _ => 999) (fun r => cWr (y + 1) r (cAf 56 0 (fun _ => 99) (fun r => cWr (y + 2) r (cInc 7)))))))))
def mdSleep (m y : Int32) : HH → Option HH := cNm (3 + m) (cKd (fun s => cWr (y + 0) s (cAf 48 1 (fun _ => 9999) (fun r => cWr (y + 1) r (cAf 49 0 (fun _ => 999) (fun r => cWr (y + 2) r (cAf 50 0 (fun _ => 100) (fun r => cWr (y + 3) r (cWr (y + 4) 0 (cInc 4))))))))))
def mdFelt (y : Int32) : HH → Option HH := cWr y (b2i false) (cNu 1 99 (fun r => cWr (y + 1) r (cNu 1 9999 (fun r => cWr (y + 2) r (cInc 8)))))
def mdCame (y : Int32) : HH → Option HH := cWr y (b2i true) (cNu 1 9999 (fun r => cWr (y + 1) r (cNu 0 9999 (fun r => cWr (y + 2) r (cInc 8)))))
section MLI
variable {TP : Nat → Nat} {n e : Nat} {F : Nat → Nat} {g : HH}
set_option maxRecDepth 100000 in
theorem FRa (R : FR g F) {c : Nat} (hc : c < 316) {vc : Int32} (ec : vc = nI c) : gI g 185 (ix vc) = nI (F c) := by
  rw [ec, ixN (by omega)]; exact R c hc
set_option maxRecDepth 100000 in
theorem mHd {o : Out} {X : Int32 → HH → Option HH} {c : Nat} {vc : Int32} (M : MS TP n g F e) (hc : c < 316) (ec : vc = nI c) (nx : MO TP n g o (X (nI (F c)) g)) : MO TP n g o (cHd vc X g) := by
  unfold cHd
  rw [FRa M.2.2.2.1 hc ec, M.2.2.1, if_pos (show nI 0 = (0 : Int32) from rfl), ec, inbN hc (by omega), gd_1]
  exact nx
set_option maxRecDepth 100000 in
theorem VQ.nl (V : VQ F) : NML F := V.2.2.2.2.2.2.2.2.2.1
set_option maxRecDepth 100000 in
theorem jIn {i c0 : Nat} {vi : Int32} {o : Out} (hi : i < 316) (ei : vi = nI i) (ec : F i = c0) (eo : o = .ok (fu F i (c0 + 1)) e) : JJ TP n F e o (cInc vi) := by
  subst ec
  exact jInc hi ei eo
set_option maxRecDepth 100000 in
theorem nI_ax {a b c : Nat} : nI a + nI b * nI c = nI (a + b * c) := by rw [pk_mul, nI_add]
set_option maxRecDepth 100000 in
theorem eqDid : fX9_didLine 181 g = cHd 9 (fun m => mdDid (172 + 3 * m)) g := rfl
set_option maxRecDepth 100000 in
theorem eqDown : fX9_stepLine 181 true g = cHd 5 (fun m => mdDown (40 + 3 * m)) g := rfl
set_option maxRecDepth 100000 in
theorem eqUp : fX9_stepLine 181 false g = cHd 5 (fun m => mdUp (40 + 3 * m)) g := rfl
set_option maxRecDepth 100000 in
theorem eqKnock : fX9_knockLine 181 g = cHd 6 (fun m => mdKnock (100 + 4 * m)) g := rfl
set_option maxRecDepth 100000 in
theorem eqTask : fX9_taskLine 181 g = cHd 7 (fun m => mdTask m (132 + 3 * m)) g := rfl
set_option maxRecDepth 100000 in
theorem eqSleep : fX9_sleeperLine 181 g = cHd 4 (fun m => mdSleep m (15 + 5 * m)) g := rfl
set_option maxRecDepth 100000 in
theorem eqHead : fX9_headLine 181 g = cHd 3 (fun m => cNm m (cInc 3)) g := rfl
set_option maxRecDepth 100000 in
theorem ln185 : ln (181 + 4) = 316 := by decide +kernel
set_option maxRecDepth 100000 in
theorem eqFelt : fX9_signLine 181 false g = cHd 8 (fun m => mdFelt (154 + 3 * m)) g := by
  unfold fX9_signLine fX9_signLine_b36 fX9_signLine_b58
  rw [ln185]
  rfl
set_option maxRecDepth 100000 in
theorem eqCame : fX9_signLine 181 true g = cHd 8 (fun m => mdCame (154 + 3 * m)) g := by
  unfold fX9_signLine fX9_signLine_b36 fX9_signLine_b58
  rw [ln185]
  rfl
set_option maxRecDepth 100000 in
theorem mlDid (H : HT TP n) (V : VQ F) (hm : F 9 < 6) (M : MS TP n g F (tE TP n e)) : MO TP n g (lDid TP n F e) (fX9_didLine 181 g) := by
  obtain ⟨-, -, -, -, -, -, -, -, -, -, -, -, -, -, -, -, -, -, -, -, -, -, -, c23, c24, c25, c26, c27, c28⟩ := CWe
  have f0 := V.1.1
  have f4 := V.1.2.1
  unfold lDid
  rw [if_neg (by omega), eqDid]
  refine mHd M (show 9 < 316 by omega) rfl ?_
  show MO TP n g _ (mdDid (nI 172 + nI 3 * nI (F 9)) g)
  rw [nI_ax]
  unfold mdDid
  refine (jN H (by omega) (by omega) rfl rfl (fun v1 _ _ => ?_) : JJ TP n F _ _ _).1 g M
  refine jWr (by omega) rfl rfl (jG (i := 0) (by omega) rfl (jA (w := 23) H (by omega) c23 f0 (by omega) rfl (fun g M => (FRa M.2.2.2.1 (show 0 < 316 by omega) rfl).trans (by rw [fuN _ (by omega)])) (fun v2 e2 _ _ _ => ?_)))
  refine jWr (i := 172 + 3 * F 9 + 1) (by omega) (nI_add _ _) rfl (jA (w := 28) H (by omega) c28 (by omega) (by omega) rfl (fun g M => rfl) (fun v3 e3 _ _ _ => ?_))
  refine jWr (i := 172 + 3 * F 9 + 2) (by omega) (nI_add _ _) rfl (jIn (i := 9) (c0 := F 9) (by omega) rfl ?_ rfl)
  rw [fuN _ (by omega), fuN _ (by omega), fuN _ (by omega)]
set_option maxRecDepth 100000 in
theorem mlDown (H : HT TP n) (V : VQ F) (hm : F 5 < 20) (M : MS TP n g F (tE TP n e)) : MO TP n g (lDown TP n F e) (fX9_stepLine 181 true g) := by
  obtain ⟨-, -, -, -, -, -, -, -, -, -, -, -, -, -, -, -, -, -, -, -, -, -, c22, c23, c24, c25, c26, c27, c28⟩ := CWe
  unfold lDown
  rw [if_neg (by omega), eqDown]
  refine mHd M (show 5 < 316 by omega) rfl ?_
  show MO TP n g _ (mdDown (nI 40 + nI 3 * nI (F 5)) g)
  rw [nI_ax]
  unfold mdDown
  refine (jSp H V.nl (fun s _ => ?_) : JJ TP n F _ _ _).1 g M
  refine jWr (by omega) rfl rfl ?_
  have eF : sTd TP n F 0 2 (tE TP n (tE TP n e)) = sTd TP n (fu F (40 + 3 * F 5) s) 0 2 (tE TP n (tE TP n e)) := by
    funext k
    unfold sTd
    rw [FD_upd (by omega)]
  rw [eF]
  refine jHp H (V.nl.upd (by omega)) (fun hd _ => ?_)
  refine jWr (i := 40 + 3 * F 5 + 1) (v := hd + 1) (by omega) (nI_add _ _) (nI_add _ _) (jA (w := 22) H (by omega) c22 (by omega) (by omega) rfl (fun g M => rfl) (fun v e3 _ _ _ => ?_))
  refine jWr (i := 40 + 3 * F 5 + 2) (by omega) (nI_add _ _) rfl (jIn (i := 5) (c0 := F 5) (by omega) rfl ?_ rfl)
  rw [fuN _ (by omega), fuN _ (by omega), fuN _ (by omega)]
set_option maxRecDepth 100000 in
theorem mlUp (H : HT TP n) (V : VQ F) (hm : F 5 < 20) (M : MS TP n g F (tE TP n e)) : MO TP n g (lUp TP n F e) (fX9_stepLine 181 false g) := by
  obtain ⟨-, -, -, -, -, -, -, -, -, -, -, -, -, -, -, -, -, -, -, -, -, -, c22, c23, c24, c25, c26, c27, c28⟩ := CWe
  unfold lUp
  rw [if_neg (by omega), eqUp]
  refine mHd M (show 5 < 316 by omega) rfl ?_
  show MO TP n g _ (mdUp (nI 40 + nI 3 * nI (F 5)) g)
  rw [nI_ax]
  unfold mdUp
  refine (jSp H V.nl (fun s _ => ?_) : JJ TP n F _ _ _).1 g M
  refine jWr (by omega) rfl rfl ?_
  refine jWr (i := 40 + 3 * F 5 + 1) (v := 0) (by omega) (nI_add _ _) rfl (jA (w := 22) H (by omega) c22 (by omega) (by omega) rfl (fun g M => rfl) (fun v e3 _ _ _ => ?_))
  refine jWr (i := 40 + 3 * F 5 + 2) (by omega) (nI_add _ _) rfl (jIn (i := 5) (c0 := F 5) (by omega) rfl ?_ rfl)
  rw [fuN _ (by omega), fuN _ (by omega), fuN _ (by omega)]
set_option maxRecDepth 100000 in
theorem mlKnock (H : HT TP n) (V : VQ F) (hm : F 6 < 8) (M : MS TP n g F (tE TP n e)) : MO TP n g (lKnock TP n F e) (fX9_knockLine 181 g) := by
  obtain ⟨-, -, -, -, -, -, -, -, -, -, -, -, -, -, -, -, -, -, -, -, -, -, c22, c23, c24, c25, c26, c27, c28⟩ := CWe
  have f0 := V.1.1
  have f4 := V.1.2.1
  have f2 := V.2.1.2.2.1
  unfold lKnock
  rw [if_neg (by omega), eqKnock]
  refine mHd M (show 6 < 316 by omega) rfl ?_
  show MO TP n g _ (mdKnock (nI 100 + nI 4 * nI (F 6)) g)
  rw [nI_ax]
  unfold mdKnock
  refine (jHp H V.nl (fun hd _ => ?_) : JJ TP n F _ _ _).1 g M
  refine jWr (by omega) rfl rfl (jG (i := 0) (by omega) rfl (jA (w := 23) H (by omega) c23 (by omega) (by omega) rfl (fun g M => ?_) (fun v1 e2 _ _ _ => ?_)))
  · show gI g 185 (ix (nI 0)) - nI 1 = _
    rw [FRa M.2.2.2.1 (show 0 < 316 by omega) rfl, fuN _ (by omega)]
    exact pk_sub f0
  refine jWr (i := 100 + 4 * F 6 + 1) (by omega) (nI_add _ _) rfl (jG (i := 2) (by omega) rfl (jA (w := 24) H (by omega) c24 (by omega) (by omega) rfl (fun g M => (FRa M.2.2.2.1 (show 2 < 316 by omega) rfl).trans (by rw [fuN _ (by omega), fuN _ (by omega)])) (fun v2 e3 _ _ _ => ?_)))
  refine jWr (i := 100 + 4 * F 6 + 2) (by omega) (nI_add _ _) rfl (jA (w := 25) H (by omega) c25 (by omega) (by omega) rfl (fun g M => rfl) (fun v3 e4 _ _ _ => ?_))
  refine jWr (i := 100 + 4 * F 6 + 3) (by omega) (nI_add _ _) rfl (jIn (i := 6) (c0 := F 6) (by omega) rfl ?_ rfl)
  rw [fuN _ (by omega), fuN _ (by omega), fuN _ (by omega), fuN _ (by omega)]
set_option maxRecDepth 100000 in
theorem mlTask (H : HT TP n) (V : VQ F) (hm : F 7 < 6) (M : MS TP n g F (tE TP n e)) : MO TP n g (lTask TP n F e) (fX9_taskLine 181 g) := by
  obtain ⟨-, -, -, -, -, -, -, -, -, -, -, -, -, -, -, -, -, -, -, -, -, -, c22, c23, c24, c25, c26, c27, c28⟩ := CWe
  have f0 := V.1.1
  have f4 := V.1.2.1
  unfold lTask
  rw [if_neg (by omega), eqTask]
  refine mHd M (show 7 < 316 by omega) rfl ?_
  show MO TP n g _ (mdTask (nI (F 7)) (nI 132 + nI 3 * nI (F 7)) g)
  rw [nI_ax]
  unfold mdTask
  refine (jG (i := 7) (by omega) rfl (jNm (m := 8 + F 7) H V.nl (by omega) (nI_add _ _) ?_) : JJ TP n F _ _ _).1 g M
  refine jG (i := 0) (by omega) rfl (jA (w := 23) H (by omega) c23 (by omega) (by omega) rfl (fun g M => (FRa M.2.2.2.1 (show 0 < 316 by omega) rfl).trans (by rw [addN_lo (by omega)])) (fun v1 e2 _ _ _ => ?_))
  refine jWr (by omega) rfl rfl (jA (w := 26) H (by omega) c26 (by omega) (by omega) rfl (fun g M => rfl) (fun v2 e3 _ _ _ => ?_))
  refine jWr (i := 132 + 3 * F 7 + 1) (by omega) (nI_add _ _) rfl (jA (w := 27) H (by omega) c27 (by omega) (by omega) rfl (fun g M => rfl) (fun v3 e4 _ _ _ => ?_))
  refine jWr (i := 132 + 3 * F 7 + 2) (by omega) (nI_add _ _) rfl (jIn (i := 7) (c0 := F 7) (by omega) rfl ?_ rfl)
  rw [fuN _ (by omega), fuN _ (by omega), fuN _ (by omega), addN_lo (by omega)]
set_option maxRecDepth 100000 in
theorem mlSleep (H : HT TP n) (V : VQ F) (hm : F 4 < 5) (M : MS TP n g F (tE TP n e)) : MO TP n g (lSleeper TP n F e) (fX9_sleeperLine 181 g) := by
  obtain ⟨-, -, -, -, -, -, -, -, -, -, -, -, -, -, -, -, -, -, -, c19, c20, c21, -⟩ := CWe
  unfold lSleeper
  rw [if_neg (by omega), eqSleep]
  refine mHd M (show 4 < 316 by omega) rfl ?_
  show MO TP n g _ (mdSleep (nI (F 4)) (nI 15 + nI 5 * nI (F 4)) g)
  rw [nI_ax]
  unfold mdSleep
  refine (jNm (m := 3 + F 4) H V.nl (by omega) (nI_add _ _) ?_ : JJ TP n F _ _ _).1 g M
  refine jKd H (fun kd _ => ?_)
  refine jWr (i := 15 + 5 * F 4 + 0) (by omega) (nI_add _ _) rfl (jA (w := 19) H (by omega) c19 (by omega) (by omega) rfl (fun g M => rfl) (fun v1 e2 _ _ _ => ?_))
  refine jWr (i := 15 + 5 * F 4 + 1) (by omega) (nI_add _ _) rfl (jA (w := 20) H (by omega) c20 (by omega) (by omega) rfl (fun g M => rfl) (fun v2 e3 _ _ _ => ?_))
  refine jWr (i := 15 + 5 * F 4 + 2) (by omega) (nI_add _ _) rfl (jA (w := 21) H (by omega) c21 (by omega) (by omega) rfl (fun g M => rfl) (fun v3 e4 _ _ _ => ?_))
  refine jWr (i := 15 + 5 * F 4 + 3) (by omega) (nI_add _ _) rfl (jWr (i := 15 + 5 * F 4 + 4) (v := 0) (by omega) (nI_add _ _) rfl (jIn (i := 4) (c0 := F 4) (by omega) rfl ?_ rfl))
  rw [fuN _ (by omega), fuN _ (by omega), fuN _ (by omega), fuN _ (by omega), fuN _ (by omega), addN_lo (by omega)]
set_option maxRecDepth 100000 in
theorem mlHead (H : HT TP n) (V : VQ F) (hm : F 3 < 3) (M : MS TP n g F (tE TP n e)) : MO TP n g (lHead TP n F e) (fX9_headLine 181 g) := by
  unfold lHead
  rw [if_neg (by omega), eqHead]
  refine mHd M (show 3 < 316 by omega) rfl ?_
  refine (jNm (m := F 3) H V.nl (by omega) rfl (jIn (c0 := F 3) (i := 3) (by omega) rfl ?_ rfl) : JJ TP n F _ _ _).1 g M
  rw [addN_lo (by omega)]
set_option maxRecDepth 100000 in
theorem mlFelt (H : HT TP n) (V : VQ F) (hm : F 8 < 6) (M : MS TP n g F (tE TP n e)) : MO TP n g (lFelt TP n F e) (fX9_signLine 181 false g) := by
  unfold lFelt
  rw [if_neg (by omega), eqFelt]
  refine mHd M (show 8 < 316 by omega) rfl ?_
  show MO TP n g _ (mdFelt (nI 154 + nI 3 * nI (F 8)) g)
  rw [nI_ax]
  unfold mdFelt
  refine (jWr (i := 154 + 3 * F 8) (v := 0) (by omega) rfl rfl (jN H (by omega) (by omega) rfl rfl (fun v1 _ _ => ?_)) : JJ TP n F _ _ _).1 g M
  refine jWr (i := 154 + 3 * F 8 + 1) (by omega) (nI_add _ _) rfl (jN H (by omega) (by omega) rfl rfl (fun v2 _ _ => ?_))
  refine jWr (i := 154 + 3 * F 8 + 2) (by omega) (nI_add _ _) rfl (jIn (i := 8) (c0 := F 8) (by omega) rfl ?_ rfl)
  rw [fuN _ (by omega), fuN _ (by omega), fuN _ (by omega)]
set_option maxRecDepth 100000 in
theorem mlCame (H : HT TP n) (V : VQ F) (hm : F 8 < 6) (M : MS TP n g F (tE TP n e)) : MO TP n g (lCame TP n F e) (fX9_signLine 181 true g) := by
  unfold lCame
  rw [if_neg (by omega), eqCame]
  refine mHd M (show 8 < 316 by omega) rfl ?_
  show MO TP n g _ (mdCame (nI 154 + nI 3 * nI (F 8)) g)
  rw [nI_ax]
  unfold mdCame
  refine (jWr (i := 154 + 3 * F 8) (v := 1) (by omega) rfl rfl (jN H (by omega) (by omega) rfl rfl (fun v1 _ _ => ?_)) : JJ TP n F _ _ _).1 g M
  refine jWr (i := 154 + 3 * F 8 + 1) (by omega) (nI_add _ _) rfl (jN H (by omega) (by omega) rfl rfl (fun v2 _ _ => ?_))
  refine jWr (i := 154 + 3 * F 8 + 2) (by omega) (nI_add _ _) rfl (jIn (i := 8) (c0 := F 8) (by omega) rfl ?_ rfl)
  rw [fuN _ (by omega), fuN _ (by omega), fuN _ (by omega)]
set_option maxRecDepth 100000 in
theorem mlThinks (H : HT TP n) (V : VQ F) (M : MS TP n g F (tE TP n e)) : MO TP n g (lThinks TP n F e) (fX9_thinksLine 181 g) := by
  obtain ⟨a1, a2, a3⟩ := mSh M V.nl
  have f13 : ∀ (g : HH) q p, gI (flt g q p) 181 13 = nI 1 := fun g q p => flt_F.1
  have h13 := M.2.2.1
  have w3 := wr_ok (g := g) (q := 3) h13 (vq := nI 3) rfl M.2.1.1
  unfold lThinks sTd
  cases z : nme TP n (tE TP n e) with
  | true =>
    rw [if_pos rfl]
    by_cases y : 3 ≤ FD TP n F (tE TP n e) ∧ FD TP n F (tE TP n e) ≤ 7
    · rw [if_pos y]
      have s1 := a1 z y.1 y.2
      obtain ⟨s, es⟩ : ∃ s, FD TP n F (tE TP n e) - 3 = s := ⟨_, rfl⟩
      rw [es] at s1 ⊢
      have s4 : s ≤ 4 := by omega
      refine (show MO TP n g (if F (15 + 5 * s + 4) = 0 then sN TP n 0 4 (tE TP n (tE TP n e)) (fun v e3 => Out.ok (fu F (15 + 5 * s + 4) (v + 1)) e3) else Out.bad 3 (tA TP n (tE TP n e))) (fX9_thinksLine 181 g) from ?_)
      have r1 := M.2.2.2.1 (15 + 5 * s + 4) (by omega)
      by_cases f0 : F (15 + 5 * s + 4) = 0
      · rw [if_pos f0]
        have le : nI (F (15 + 5 * s + 4)) ≤ nI 0 := by rw [f0]; decide +kernel
        obtain ⟨g', e1, m1, K1⟩ := M.nx H
        have J : JJ TP n F (tE TP n (tE TP n e)) (sN TP n 0 4 (tE TP n (tE TP n e)) (fun v e3 => .ok (fu F (15 + 5 * s + 4) (v + 1)) e3)) (cNu (nI 0) (nI 4) (fun r h => if gI h 181 13 = nI 0 then some (sI h 185 (15 + 5 * s + 4) (r + nI 1)) else some h)) := by
          refine jN H (by omega) (by omega) rfl rfl (fun v _ _ => ⟨fun g M => ⟨sI g 185 (15 + 5 * s + 4) (nI (v + 1)), ?_, M.wr, wrK⟩, fun g h13 => ⟨g, ?_, Keep.rfl⟩⟩)
          · show (if gI g 181 13 = nI 0 then some (sI g 185 (15 + 5 * s + 4) (nI v + nI 1)) else some g) = _
            rw [M.2.2.1, if_pos rfl, nI_add]
          · show (if gI g 181 13 = nI 0 then some (sI g 185 (15 + 5 * s + 4) (nI v + nI 1)) else some g) = _
            rw [h13, if_neg (fun z => by rw [z10] at z; exact z)]
        have e2 : fX9_thinksLine 181 g = cNu (nI 0) (nI 4) (fun r h => if gI h 181 13 = nI 0 then some (sI h 185 (15 + 5 * s + 4) (r + nI 1)) else some h) g' := by
          unfold cNu
          simp (disch := omega) only [lI, fX9_thinksLine, h13, z00, if_true, s1, bd_1, nm_1, pk_mul, nI_add, inbN, ixN, gd_1, Nat.reduceAdd, r1, eq_true le, e1, bv_1]
        rw [e2]
        exact (J.1 g' m1).tr K1
      · rw [if_neg f0]
        have hs4 := FDs V.nm y.1 y.2
        rw [es] at hs4
        have vb := (V.2.2.1 s hs4).2.2.2.2.2
        have le : ¬ nI (F (15 + 5 * s + 4)) ≤ nI 0 := by rw [leN (by omega) (by omega)]; omega
        have e2 : fX9_thinksLine 181 g = some (flt g 3 (tA TP n (tE TP n e))) := by
          simp (disch := omega) only [lI, fX9_thinksLine, h13, z00, if_true, s1, bd_1, nm_1, pk_mul, nI_add, inbN, ixN, gd_1, Nat.reduceAdd, r1, le, if_false, w3, bv_1, f13, z10, Nat.one_ne_zero]
        rw [e2]
        exact ⟨_, rfl, flt_F, flt_K⟩
    · rw [if_neg y]
      have e2 : fX9_thinksLine 181 g = some (flt g 2 (tA TP n (tE TP n e))) := by
        simp (disch := omega) only [lI, fX9_thinksLine, h13, z00, if_true, a2 z y, bd_1, nm_1, f13, z10, Nat.one_ne_zero, if_false]
      rw [e2]
      exact ⟨_, rfl, flt_F, flt_K⟩
  | false =>
    rw [if_neg (fun z => by cases z)]
    have e2 : fX9_thinksLine 181 g = some (flt g 1 (tA TP n (tE TP n e))) := by
      simp (disch := omega) only [lI, fX9_thinksLine, h13, z00, if_true, a3 z, bd_1, nm_1, f13, z10, Nat.one_ne_zero, if_false]
    rw [e2]
    exact ⟨_, rfl, flt_F, flt_K⟩
end MLI
