/-! the class reads to the end -/
def CRr (d : Nat) (h0 : HH) (o : Out) (r : Option (Int32 × HH)) : Prop := o.el
  (fun q p => ∃ h', r = some (nI q, h') ∧ 1 ≤ q ∧ q ≤ 6 ∧ gI h' 2 8 = nI p ∧ Keep (PRd d) h0 h')
  (fun F _ => ∃ h', r = some (nI 0, h') ∧ VQ F ∧ F 3 ≠ 0 ∧ F 4 ≠ 0 ∧ DRep h' d F ∧ Keep (PRd d) h0 h')
def rdK (h : HH) : Option (Int32 × HH) :=
  gd (isKb 0 (gR h 2 6)) (if (gI h (gR h 2 6) 12) = 0 then some (6, h) else gd (isKb 0 (gR h 2 6)) (if (gI h ((gR h 2 6) + 4) 3) = 0 then some (6, h) else some (0, h)))
section CRD
variable {TP : Nat → Nat} {n d : Nat}
set_option maxRecDepth 100000 in
theorem ROM.kp {h h' : HH} (R : ROM h) (hd : isD d) (K : Keep (PRd d) h h') : ROM h' := by
  intro d' hd'
  have e : ∀ j k, j ≤ 5 → (k = 0 ∨ k = 1) → gI h' (d' + (2 * j + 4)) k = gI h (d' + (2 * j + 4)) k := fun j k hj hk => (K _ k ⟨by unfold isD at hd'; unfold PFN; omega, fun q1 q2 => by unfold isD at hd hd'; omega⟩).1
  obtain ⟨a1, a2, a3, a4, a5, a6⟩ := R d' hd'
  exact ⟨⟨(e 0 0 (by omega) (by omega)).trans a1.1, (e 0 1 (by omega) (by omega)).trans a1.2⟩, ⟨(e 1 0 (by omega) (by omega)).trans a2.1, (e 1 1 (by omega) (by omega)).trans a2.2⟩, ⟨(e 2 0 (by omega) (by omega)).trans a3.1, (e 2 1 (by omega) (by omega)).trans a3.2⟩, ⟨(e 3 0 (by omega) (by omega)).trans a4.1, (e 3 1 (by omega) (by omega)).trans a4.2⟩, ⟨(e 4 0 (by omega) (by omega)).trans a5.1, (e 4 1 (by omega) (by omega)).trans a5.2⟩, ⟨(e 5 0 (by omega) (by omega)).trans a6.1, (e 5 1 (by omega) (by omega)).trans a6.2⟩⟩
set_option maxRecDepth 100000 in
theorem CRr.tr {h0 h1 : HH} {o : Out} {r : Option (Int32 × HH)} (C : CRr d h1 o r) (K : Keep (PRd d) h0 h1) : CRr d h0 o r := by
  rcases o.cs with ⟨q, p, rfl⟩ | ⟨F, e, rfl⟩
  · obtain ⟨h', a1, a2, a3, a4, a5⟩ := C
    exact ⟨h', a1, a2, a3, a4, K.trans a5⟩
  · obtain ⟨h', a1, a2, a3, a4, a5, a6⟩ := C
    exact ⟨h', a1, a2, a3, a4, a5, K.trans a6⟩
set_option maxRecDepth 100000 in
theorem cLoop (H : HT TP n) : ∀ f i F e g f', VP F → LnS TP n d g F e → i ≤ e → n + 1 ≤ e + f → f ≤ f' → CRr d g (sRest TP n f F e) (lq1 (fX5_read_L49 rdK 2) f' (nI i) g) := by
  intro f
  induction f with
  | zero =>
    intro i F e g f' V L hi hf hf'
    have := L.2.1.2.2.2
    omega
  | succ f ih =>
    intro i F e g f' V L hi hf hf'
    obtain ⟨f', rfl⟩ : ∃ q, f' = q + 1 := ⟨f' - 1, by omega⟩
    have hn := H.1
    have he := L.2.1.2.2.2
    have cl := clLine H V L
    have ok := okLine (TP := TP) V he
    have LI := ih (i + 1)
    have z1 : ¬ n < i := by omega
    have g5 : gI g 2 5 = nI n := L.2.1.1.2.1
    have e1 : lq1 (fX5_read_L49 rdK 2) (f' + 1) (nI i) g = fX5_read_L49 rdK 2 (lq1 (fX5_read_L49 rdK 2) f') (nI i) g := rfl
    rw [e1]
    show CRr d g ((sLine TP n F e).bind (fun F1 e1 => if tK TP n e1 = 5 then (if F1 2 = 0 ∨ F1 3 = 0 ∨ F1 4 = 0 then .bad 6 (tA TP n e1) else .ok F1 e1) else if tK TP n e1 = 3 then sRest TP n f F1 (tE TP n e1) else .bad 1 (tA TP n e1))) _
    have LI2 : ∀ F e g, VP F → LnS TP n d g F e → i + 1 ≤ e → n + 1 ≤ e + f → CRr d g (sRest TP n f F e) (lq1 (fX5_read_L49 rdK 2) f' (nI (i + 1)) g) := fun F e g a b c d' => LI F e g f' a b c d' (by omega)
    generalize lq1 (fX5_read_L49 rdK 2) f' = sf at LI2
    unfold fX5_read_L49
    rw [g5, if_neg (show ¬ nI n < nI i by rw [ltN (by omega) (by omega)]; exact z1)]
    rcases (sLine TP n F e).cs with ⟨q, p, eo⟩ | ⟨F1, e1, eo⟩
    · rw [eo] at cl ok ⊢
      obtain ⟨b, h', a1, a2, a3, a4, a5⟩ := cl
      obtain ⟨q1, q6⟩ : 1 ≤ q ∧ q ≤ 6 := ok
      rw [a1, bd_1]
      cases b with
      | false =>
        rw [cond_false, a4 rfl]
        exact ⟨h', rfl, q1, q6, a2, a3⟩
      | true =>
        obtain ⟨b1, b2, b3⟩ : q = 1 ∧ gI h' 2 10 ≠ nI 3 ∧ gI h' 2 10 ≠ nI 5 := a5 rfl
        subst b1
        rw [cond_true, if_neg (show ¬ gI h' 2 10 = (5 : Int32) from b3), if_neg (show ¬ gI h' 2 10 = (3 : Int32) from b2)]
        exact ⟨h', rfl, by omega, by omega, a2, a3⟩
    · rw [eo] at cl ok ⊢
      obtain ⟨h', a1, a2, a3, a4, a5⟩ := cl
      obtain ⟨V1, o1, o2⟩ : VQ F1 ∧ e < e1 ∧ e1 ≤ n := ok
      have kb := kbk (TP := TP) (n := n) (e := e1)
      have t8 := a2.2.1.1
      have t10 := a2.2.1.2.2.1
      have RM := L.2.2.2.2.kp L.1 a5
      rw [a1, bd_1, cond_true]
      show CRr d g (if tK TP n e1 = 5 then (if F1 2 = 0 ∨ F1 3 = 0 ∨ F1 4 = 0 then .bad 6 (tA TP n e1) else .ok F1 e1) else if tK TP n e1 = 3 then sRest TP n f F1 (tE TP n e1) else .bad 1 (tA TP n e1)) _
      show CRr d g _ (if gI h' 2 10 = nI 5 then rdK h' else if gI h' 2 10 = nI 3 then bv (fX5_next 2 h') (fun h114 => sf (nI i + nI 1) h114) else some (1, h'))
      rw [t10]
      by_cases k5 : tK TP n e1 = 5
      · rw [if_pos k5, if_pos (show nI (tK TP n e1) = nI 5 by rw [k5])]
        have r6 := a2.2.2.1
        have b3 := V1.2.1.2.2.2.1
        have b4 := V1.2.1.2.2.2.2.1
        have b2 := V1.2.1.2.1
        have kd : isKb 0 d = true := by
          rcases L.1 with rfl | rfl
          · decide +kernel
          · decide +kernel
        unfold rdK
        have d12 := a3.2.2.1.2.2.2.1
        have d43 := a3.2.2.2.1.1.2
        rw [r6, kd, gd_1, gd_1, d12, d43]
        by_cases z3 : F1 3 = 0
        · rw [if_pos (Or.inr (Or.inl z3)), if_pos (show nI (F1 3) = (0 : Int32) by rw [z3]; rfl)]
          exact ⟨h', rfl, by omega, by omega, t8, a5⟩
        · rw [if_neg (show ¬ nI (F1 3) = (0 : Int32) by show ¬ nI (F1 3) = nI 0; rw [eqN (by omega) (by omega)]; exact z3)]
          by_cases z4 : F1 4 = 0
          · rw [if_pos (Or.inr (Or.inr z4)), if_pos (show nI (F1 4) = (0 : Int32) by rw [z4]; rfl)]
            exact ⟨h', rfl, by omega, by omega, t8, a5⟩
          · rw [if_neg (show ¬ nI (F1 4) = (0 : Int32) by show ¬ nI (F1 4) = nI 0; rw [eqN (by omega) (by omega)]; exact z4), if_neg (by omega)]
            exact ⟨h', rfl, V1, z3, z4, a3, a5⟩
      · rw [if_neg k5, if_neg (show ¬ nI (tK TP n e1) = nI 5 by rw [eqN (by omega) (by omega)]; exact k5)]
        by_cases k3 : tK TP n e1 = 3
        · rw [if_pos k3, if_pos (show nI (tK TP n e1) = nI 3 by rw [k3])]
          obtain ⟨h2, n1, n2, n3⟩ := a2.nx H
          have K2 : Keep (PRd d) h' h2 := kRd L.1 (kfk n3)
          have gt := tE_gt (TP := TP) o2 k5
          have hA := tA_le (TP := TP) o2
          rw [n1, bv_1, nI_add]
          refine (LI2 F1 (tE TP n e1) h2 (Or.inr V1) ⟨L.1, n2, ?_, ?_, RM.kp L.1 K2⟩ (by omega) (by omega)).tr (a5.trans K2)
          · exact a3.keep n3 (fun b k x1 x2 => by have := L.1; unfold isD at this; unfold PTk; omega)
          · exact a4.keep (n3.mono (fun b k hp => by unfold PNm at hp; unfold PTk; omega))
        · rw [if_neg k3, if_neg (show ¬ nI (tK TP n e1) = nI 3 by rw [eqN (by omega) (by omega)]; exact k3)]
          exact ⟨h', rfl, by omega, by omega, t8, a5⟩
end CRD
