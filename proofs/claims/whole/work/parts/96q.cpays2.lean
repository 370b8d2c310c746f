/-! the class's line: pays -/
section CPY
variable {TP : Nat → Nat} {n d e : Nat} {h : HH} {F : Nat → Nat}
set_option maxRecDepth 100000 in
theorem xDp {h1 h : HH} {F' : Nat → Nat} (D : DRep h1 d F) (B : BD F) (e : ∀ b k, d ≤ b → b ≤ d + 15 → ¬ (b = d ∧ k = 13) → b ≠ d + 2 → gI h b k = gI h1 b k) (e13 : gI h d 13 = nI 1) (ep : ∀ f, 1 ≤ f → f ≤ F 0 → gI h (d + 2) f = nI (F' (150 + f - 1))) (hlo : ∀ k, k < 190 → k ≠ 10 → ¬ (150 ≤ k ∧ k < 154) → F' k = F k) (h10 : F' 10 = 1) : DRep h d F' := by
  obtain ⟨B0, B4, B5, B6, B7, B8, B9⟩ := B
  obtain ⟨a1, a2, a3, a4, a5, a6, a7, a8, a9, a10, a11⟩ := D
  have fq : ∀ f, f ≤ F 0 → qk F' f = qk F f := fun f hf => qk_cg f (fun i hi => hlo _ (by omega) (by omega) (by omega))
  have f0 : F' 0 = F 0 := hlo 0 (by omega) (by omega) (by omega)
  have f1 : F' 1 = F 1 := hlo 1 (by omega) (by omega) (by omega)
  have f2 : F' 2 = F 2 := hlo 2 (by omega) (by omega) (by omega)
  have f3 : F' 3 = F 3 := hlo 3 (by omega) (by omega) (by omega)
  have f4 : F' 4 = F 4 := hlo 4 (by omega) (by omega) (by omega)
  have f5 : F' 5 = F 5 := hlo 5 (by omega) (by omega) (by omega)
  have f6 : F' 6 = F 6 := hlo 6 (by omega) (by omega) (by omega)
  have f7 : F' 7 = F 7 := hlo 7 (by omega) (by omega) (by omega)
  have f8 : F' 8 = F 8 := hlo 8 (by omega) (by omega) (by omega)
  have f9 : F' 9 = F 9 := hlo 9 (by omega) (by omega) (by omega)
  refine ⟨fun f hf => ?_, fun q1 f q2 hf => ?_, ?_, ?_, fun t ht => ?_, fun k hk => ?_, fun k hk => ?_, fun k hk => ?_, fun k hk => ?_, fun k hk => ?_, fun k hk => ?_⟩
  · rw [f0] at hf
    rw [e _ _ (by omega) (by omega) (by omega) (by omega), fq f hf]; exact a1 f hf
  · rw [f0] at hf
    exact ep f q2 hf
  · obtain ⟨c1, c2, c3, c4, c5⟩ := a3
    rw [f0, f1, f2, f3, h10, e _ 9 (by omega) (by omega) (by omega) (by omega), e _ 10 (by omega) (by omega) (by omega) (by omega), e _ 11 (by omega) (by omega) (by omega) (by omega), e _ 12 (by omega) (by omega) (by omega) (by omega)]
    exact ⟨c1, c2, c3, c4, e13⟩
  · unfold RowsR at a4 ⊢
    rw [f4, f5, f6, f7, f8, f9]
    repeat rw [e _ _ (by omega) (by omega) (by omega) (by omega)]
    exact a4
  · rw [f4] at ht
    obtain ⟨c1, c2, c3⟩ := a5 t ht
    refine ⟨fun c hc => ?_, ?_, ?_⟩
    · rw [e _ _ (by omega) (by omega) (by omega) (by omega), hlo _ (by omega) (by omega) (by omega)]; exact c1 c hc
    · rw [e _ _ (by omega) (by omega) (by omega) (by omega), hlo _ (by omega) (by omega) (by omega)]; exact c2
    · rw [e _ _ (by omega) (by omega) (by omega) (by omega), f5, cnt_cg t _ (fun i hi => hlo _ (by omega) (by omega) (by omega))]; exact c3
  · rw [f5] at hk
    rw [e _ _ (by omega) (by omega) (by omega) (by omega), e _ _ (by omega) (by omega) (by omega) (by omega), e _ _ (by omega) (by omega) (by omega) (by omega), hlo _ (by omega) (by omega) (by omega), hlo _ (by omega) (by omega) (by omega), hlo _ (by omega) (by omega) (by omega)]; exact a6 k hk
  · rw [f5] at hk
    rw [hlo _ (by omega) (by omega) (by omega), cnt_cg _ _ (fun i hi => hlo _ (by omega) (by omega) (by omega)), e _ _ (by omega) (by omega) (by omega) (by omega)]; exact a7 k hk
  · rw [f6] at hk
    rw [e _ _ (by omega) (by omega) (by omega) (by omega), e _ _ (by omega) (by omega) (by omega) (by omega), e _ _ (by omega) (by omega) (by omega) (by omega), e _ _ (by omega) (by omega) (by omega) (by omega), hlo _ (by omega) (by omega) (by omega), hlo _ (by omega) (by omega) (by omega), hlo _ (by omega) (by omega) (by omega), hlo _ (by omega) (by omega) (by omega)]; exact a8 k hk
  · rw [f7] at hk
    rw [e _ _ (by omega) (by omega) (by omega) (by omega), e _ _ (by omega) (by omega) (by omega) (by omega), e _ _ (by omega) (by omega) (by omega) (by omega), hlo _ (by omega) (by omega) (by omega), hlo _ (by omega) (by omega) (by omega), hlo _ (by omega) (by omega) (by omega)]; exact a9 k hk
  · rw [f8] at hk
    rw [e _ _ (by omega) (by omega) (by omega) (by omega), e _ _ (by omega) (by omega) (by omega) (by omega), e _ _ (by omega) (by omega) (by omega) (by omega), hlo _ (by omega) (by omega) (by omega), hlo _ (by omega) (by omega) (by omega), hlo _ (by omega) (by omega) (by omega)]; exact a10 k hk
  · rw [f9] at hk
    rw [e _ _ (by omega) (by omega) (by omega) (by omega), e _ _ (by omega) (by omega) (by omega) (by omega), e _ _ (by omega) (by omega) (by omega) (by omega), hlo _ (by omega) (by omega) (by omega), hlo _ (by omega) (by omega) (by omega), hlo _ (by omega) (by omega) (by omega)]; exact a11 k hk
def PPy (d b k : Nat) : Prop := PFk b k ∧ ¬ (b = d ∧ k = 13) ∧ b ≠ d + 2
def pyK (x1 : Int32) (h : HH) : Option (Bool × HH) :=
  if gI h 2 10 = 3 then gd (isKb 0 (gR h 2 6)) (if x1 = gI h (gR h 2 6) 9 then some (true, h) else bd (fX5_fail 2 6 h) (fun r130 h130 => bif r130 then some (true, h130) else some (false, h130)))
  else if gI h 2 10 = 5 then gd (isKb 0 (gR h 2 6)) (if x1 = gI h (gR h 2 6) 9 then some (true, h) else bd (fX5_fail 2 6 h) (fun r130 h130 => bif r130 then some (true, h130) else some (false, h130)))
  else some (true, h)
set_option maxRecDepth 100000 in
theorem kPy (hd : isD d) {h h' : HH} (K : Keep (PPy d) h h') : Keep (PRd d) h h' := K.mono (fun b k hp => by
  unfold isD at hd
  unfold PRd PFN at hp
  unfold PPy PFk
  refine ⟨by omega, fun z => ?_, fun z => ?_⟩
  · have := hp.2 (by omega) (by omega); omega
  · have := hp.2 (by omega) (by omega); omega)
set_option maxRecDepth 100000 in
theorem pyL (H : HT TP n) (V : VQ F) (hd : isD d) (D : DRep h d F) (C : CN h F (F 3 + F 4 + F 7)) : ∀ f i (G : Nat → Nat) e1 (g : HH) f', f + i = 5 → i ≤ F 0 → f < f' → CS g TP n d e1 → Keep (PPy d) h g → gI g d 13 = nI 1 → (∀ j, j < i → gI g (d + 2) (j + 1) = nI (G (150 + j))) → (∀ k, ¬ (150 ≤ k ∧ k < 154) → G k = F k) → CR TP n d h (sPy TP n f i G e1) (lq1 (fX5_readPays_L30 pyK 2) f' (nI (i + 1)) g) := by
  have B := V.bd
  obtain ⟨B0, B4, B5, B6, B7, B8, B9⟩ := id B
  have hd6 : 44 ≤ d := by unfold isD at hd; omega
  have kd : isKb 0 d = true := by
    rcases hd with rfl | rfl
    · decide +kernel
    · decide +kernel
  intro f
  induction f with
  | zero => intro i G e1 g f' h1 h2; omega
  | succ f ih =>
    intro i G e1 g f' h1 h2 hf S K g13 gp hG
    obtain ⟨f', rfl⟩ : ∃ q, f' = q + 1 := ⟨f' - 1, by omega⟩
    have G0 : G 0 = F 0 := hG 0 (by omega)
    have ksp : ∀ a, tK TP n a ≤ 5 := fun a => kbk
    show CR TP n d h (sN TP n 0 999 e1 _) (fX5_readPays_L30 pyK 2 (lq1 (fX5_readPays_L30 pyK 2) f') (nI (i + 1)) g)
    generalize hsf : lq1 (fX5_readPays_L30 pyK 2) f' = sf
    unfold fX5_readPays_L30
    rw [if_neg (show ¬ (5 : Int32) < nI (i + 1) by show ¬ nI 5 < nI (i + 1); rw [ltN (by omega) (by omega)]; omega)]
    refine gN S (kPy hd K) (by omega) (by omega) rfl rfl (fun l1 u1 g1 => ?_)
    refine rG hd S ?_
    have g9 : gI g d 9 = nI (F 0) := (K d 9 (by unfold PPy PFk; omega)).1.trans D.2.2.1.1
    rw [S.2.2.1, g9, G0]
    by_cases z : i = F 0
    · rw [if_pos z, if_neg (show ¬ nI (i + 1) ≤ nI (F 0) by rw [leN (by omega) (by omega)]; omega)]
      exact CR.wrap2 (CRbad S rfl (kPy hd K))
    · rw [if_neg z, if_pos (show nI (i + 1) ≤ nI (F 0) by rw [leN (by omega) (by omega)]; omega), kd, gd_1, inbN (show i + 1 < 5 by omega) (by omega), gd_1, ixN (by omega), g1]
      have S2 : CS (sI g (d + 2) (i + 1) (nI (tV TP n e1))) TP n d e1 := S.kf (Keep.sI Keep.rfl (by omega))
      obtain ⟨h3, e3, S3, K3⟩ := S2.nx H
      have K3' : Keep (PPy d) h h3 := (K.trans (Keep.sI Keep.rfl (fun z => z.2.2 rfl))).trans (K3.mono (fun b k hp => by unfold PPy PFk at hp; unfold PTk; omega))
      have g13' : gI h3 d 13 = nI 1 := by
        rw [(K3 d 13 (by unfold PTk; omega)).1, gIa (by omega)]; exact g13
      have gp' : ∀ j, j < i + 1 → gI h3 (d + 2) (j + 1) = nI (fu G (150 + i) (tV TP n e1) (150 + j)) := fun j hj => by
        rw [(K3 (d + 2) _ (by unfold PTk; omega)).1]
        by_cases y : j = i
        · subst y; rw [gIs, fuS]
        · rw [gIk (by omega), fuN _ (by omega)]; exact gp j (by omega)
      have hG' : ∀ k, ¬ (150 ≤ k ∧ k < 154) → fu G (150 + i) (tV TP n e1) k = F k := fun k hk => by rw [fuN _ (by omega)]; exact hG k hk
      have t10 := S3.2.1.2.2.1
      have kb := ksp (tE TP n e1)
      rw [e3, bv_1, t10]
      have okk : F 0 ≤ i + 1 → CR TP n d h (.ok (fu (fu G (150 + i) (tV TP n e1)) 10 1) (tE TP n e1)) (some (true, h3)) := fun q => by
        have hF : ∀ k, k ≠ 10 → ¬ (150 ≤ k ∧ k < 154) → fu (fu G (150 + i) (tV TP n e1)) 10 1 k = F k := fun k q1 q2 => by rw [fuN _ q1]; exact hG' k q2
        refine CRok S3 (xDp D B (fun b k q1 q2 q3 q4 => (K3' b k (by unfold PPy PFk; omega)).1) g13' (fun f q1 q2 => ?_) (fun k q1 q2 q3 => hF k q2 q3) (fuS _ _ _)) ((C.keep (K3'.mono (fun b k hp => by unfold PNm at hp; unfold PPy PFk; omega))).cg (fun m hm => hF _ (by omega) (by omega)) (fun m hm => ?_) ?_) (kPy hd K3')
        · rw [fuN _ (by omega)]
          have := gp' (f - 1) (by omega)
          rw [show f - 1 + 1 = f by omega, show 150 + (f - 1) = 150 + f - 1 by omega] at this
          exact this
        · rw [nc_upd (by omega), nc_upd (by omega)]
          unfold nc
          rw [hG _ (by omega)]
          exact cwd_cg _ (fun j _ => hG _ (by omega))
        · rw [hF 3 (by omega) (by omega), hF 4 (by omega) (by omega), hF 7 (by omega) (by omega)]
      by_cases y : tK TP n (tE TP n e1) = 4
      · rw [if_pos y, if_pos (show nI (tK TP n (tE TP n e1)) = (4 : Int32) by rw [y]; rfl)]
        obtain ⟨h5, e5, S5, K5⟩ := S3.nx H
        rw [e5, bv_1, ← hsf]
        have := ih (i + 1) (fu G (150 + i) (tV TP n e1)) (tE TP n (tE TP n e1)) h5 f' (by omega) (by omega) (by omega) S5 (K3'.trans (K5.mono (fun b k hp => by unfold PPy PFk at hp; unfold PTk; omega))) ((K5 d 13 (by unfold PTk; omega)).1.trans g13') (fun j hj => (K5 (d + 2) _ (by unfold PTk; omega)).1.trans (gp' j hj)) hG'
        rw [show nI (i + 1) + 1 = nI (i + 1 + 1) from nI_add _ _]
        exact this
      · rw [if_neg y, if_neg (show ¬ nI (tK TP n (tE TP n e1)) = (4 : Int32) by show ¬ nI (tK TP n (tE TP n e1)) = nI 4; rw [eqN (by omega) (by omega)]; exact y)]
        have g9' : gI h3 d 9 = nI (F 0) := (K3' d 9 (by unfold PPy PFk; omega)).1.trans D.2.2.1.1
        have f6 := (cFl S3 6).1
        have fin : CR TP n d h (if F 0 ≤ i + 1 then .ok (fu (fu G (150 + i) (tV TP n e1)) 10 1) (tE TP n e1) else .bad 6 (tA TP n (tE TP n e1))) (gd (isKb 0 (gR h3 2 6)) (if nI (i + 1) = gI h3 (gR h3 2 6) 9 then some (true, h3) else bd (fX5_fail 2 6 h3) (fun r130 h130 => bif r130 then some (true, h130) else some (false, h130)))) := by
          refine rG hd S3 ?_
          rw [S3.2.2.1, g9']
          by_cases x : F 0 ≤ i + 1
          · rw [if_pos x, if_pos (show nI (i + 1) = nI (F 0) by rw [show i + 1 = F 0 by omega])]
            exact okk x
          · rw [if_neg x, if_neg (show ¬ nI (i + 1) = nI (F 0) by rw [eqN (by omega) (by omega)]; omega)]
            exact CR.wrap (CRbad S3 rfl (kPy hd K3'))
        unfold pyK
        rw [t10]
        by_cases y3 : tK TP n (tE TP n e1) = 3
        · rw [if_pos (Or.inl y3), if_pos (show nI (tK TP n (tE TP n e1)) = (3 : Int32) by rw [y3]; rfl)]
          exact fin
        · rw [if_neg (show ¬ nI (tK TP n (tE TP n e1)) = (3 : Int32) by show ¬ nI (tK TP n (tE TP n e1)) = nI 3; rw [eqN (by omega) (by omega)]; exact y3)]
          by_cases y5 : tK TP n (tE TP n e1) = 5
          · rw [if_pos (Or.inr y5), if_pos (show nI (tK TP n (tE TP n e1)) = (5 : Int32) by rw [y5]; rfl)]
            exact fin
          · rw [if_neg (show ¬ (tK TP n (tE TP n e1) = 3 ∨ tK TP n (tE TP n e1) = 5) by omega), if_neg (show ¬ nI (tK TP n (tE TP n e1)) = (5 : Int32) by show ¬ nI (tK TP n (tE TP n e1)) = nI 5; rw [eqN (by omega) (by omega)]; exact y5)]
            by_cases x : F 0 ≤ i + 1
            · rw [if_pos x]; exact okk x
            · rw [if_neg x]
              refine ⟨true, h3, rfl, S3.2.1.1, kPy hd K3', fun z => (by cases z), fun _ => ⟨rfl, ?_, ?_⟩⟩
              · rw [t10]; intro q; rw [eqN (by omega) (by omega)] at q; exact y3 q
              · rw [t10]; intro q; rw [eqN (by omega) (by omega)] at q; exact y5 q
set_option maxRecDepth 100000 in
theorem clPays (H : HT TP n) (V : VQ F) (L : LnS TP n d h F e) : CR TP n d h (lPays TP n F e) (fX5_readPays 2 h) := by
  obtain ⟨hd, S, D, C, RM⟩ := id L
  have B := V.bd
  have b10 : F 10 ≤ 1 := V.2.1.2.2.2.2.2.2.2.2.2.2
  have hd6 : 44 ≤ d := by unfold isD at hd; omega
  have kd : isKb 0 d = true := by
    rcases hd with rfl | rfl
    · decide +kernel
    · decide +kernel
  have d13 := D.2.2.1.2.2.2.2
  unfold lPays fX5_readPays
  rw [S.2.2.1, kd, gd_1, gd_1, d13]
  by_cases z : F 10 = 1
  · rw [if_pos z, if_neg (show ¬ nI (F 10) = (0 : Int32) by rw [z]; decide +kernel)]
    exact CR.wrap2 (CRbad S rfl Keep.rfl)
  · rw [if_neg z, if_pos (show nI (F 10) = (0 : Int32) by rw [show F 10 = 0 by omega]; rfl)]
    have S2 : CS (sI h d 13 1) TP n d e := S.kf (Keep.sI Keep.rfl (by omega))
    obtain ⟨h3, e3, S3, K3⟩ := S2.nx H
    rw [e3, bv_1]
    exact pyL H V hd D C 5 0 F (tE TP n e) h3 FU (by omega) (by omega) (by unfold FU; omega) S3 ((Keep.sI Keep.rfl (fun z => z.2.1 ⟨rfl, rfl⟩)).trans (K3.mono (fun b k hp => by unfold PPy PFk at hp; unfold PTk; omega))) (by rw [(K3 d 13 (by unfold PTk; omega)).1, gIs]; rfl) (fun j hj => by omega) (fun k _ => rfl)
end CPY
