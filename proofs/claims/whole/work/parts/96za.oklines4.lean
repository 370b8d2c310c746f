/-! pays keeps the bounds -/
section OKP2
variable {TP : Nat → Nat} {n e0 : Nat} {F : Nat → Nat}
set_option maxRecDepth 100000 in
theorem okPy (V : VQ F) : ∀ f i (G : Nat → Nat) e, f + i = 5 → i ≤ F 0 → e0 < e ∧ e ≤ n → (∀ k, ¬ (150 ≤ k ∧ k < 154) → G k = F k) → (∀ j, j < F 0 → G (150 + j) ≤ 999) → OKp n e0 (sPy TP n f i G e) := by
  have F04 := V.1.2.1
  intro f
  induction f with
  | zero => intro i G e h5 h4 _ _ _; exfalso; omega
  | succ f ih =>
    intro i G e h5 hi he hG hP
    have G0 : G 0 = F 0 := hG 0 (by omega)
    show OKp n e0 (sN TP n 0 999 e _)
    refine pN he (fun v a1 b1 h1 => ?_)
    rw [G0]
    by_cases z : i = F 0
    · rw [if_pos z]; exact okBad
    · rw [if_neg z]
      have hG' : ∀ k, ¬ (150 ≤ k ∧ k < 154) → fu G (150 + i) v k = F k := fun k hk => by rw [fuN _ (by omega)]; exact hG k hk
      have hP' : ∀ j, j < F 0 → fu G (150 + i) v (150 + j) ≤ 999 := fun j hj => by
        by_cases y : j = i
        · subst y; rw [fuS]; exact b1
        · rw [fuN _ (by omega)]; exact hP j hj
      have b := tEb (TP := TP) h1.2
      by_cases y : tK TP n (tE TP n e) = 4
      · rw [if_pos y]; exact ih (i + 1) _ _ (by omega) (by omega) (by omega) hG' hP'
      · rw [if_neg y]
        by_cases x : F 0 ≤ i + 1
        · rw [if_pos x]
          refine okOut ?_ h1.1 h1.2
          have hlo : ∀ k, k ≠ 10 → ¬ (150 ≤ k ∧ k < 154) → fu (fu G (150 + i) v) 10 1 k = F k := fun k q1 q2 => by rw [fuN _ q1]; exact hG' k q2
          have h10 : fu (fu G (150 + i) v) 10 1 10 = 1 := fuS _ _ _
          have hp : ∀ j, j < F 0 → fu (fu G (150 + i) v) 10 1 (150 + j) ≤ 999 := fun j hj => by rw [fuN _ (by omega)]; exact hP' j hj
          have N' : NMK (fu (fu G (150 + i) v) 10 1) := nmk_same V.nm (fun k q1 q2 => hlo k (by omega) (by omega)) (hlo 3 (by omega) (by omega)) (hlo 4 (by omega) (by omega)) (hlo 7 (by omega) (by omega))
          generalize fu (fu G (150 + i) v) 10 1 = F' at hlo h10 hp N' ⊢
          obtain ⟨⟨v1, v2, v3⟩, ⟨c1, c2, c3, c4, c5, c6, c7, c8, c9, c10, c11⟩, w4, w5, w6, w7, wp, w8, w9, -⟩ := V
          have f0 := hlo 0 (by omega) (by omega)
          have f1 := hlo 1 (by omega) (by omega)
          have f2 := hlo 2 (by omega) (by omega)
          have f3 := hlo 3 (by omega) (by omega)
          have f4 := hlo 4 (by omega) (by omega)
          have f5 := hlo 5 (by omega) (by omega)
          have f6 := hlo 6 (by omega) (by omega)
          have f7 := hlo 7 (by omega) (by omega)
          have f8 := hlo 8 (by omega) (by omega)
          have f9 := hlo 9 (by omega) (by omega)
          refine ⟨⟨by omega, by omega, fun f hf => ?_⟩, by rw [f1, f2, f3, f4, f5, f6, f7, f8, f9, h10]; omega, fun t ht => ?_, fun k hk => ?_, fun k hk => ?_, fun k hk => ?_, fun f hf => ?_, fun k hk => ?_, fun k hk => ?_, N'⟩
          · rw [f0] at hf; rw [hlo _ (by omega) (by omega)]; exact v3 f hf
          · rw [f4] at ht; simp (disch := omega) only [hlo]; exact w4 t ht
          · rw [f5] at hk; have a := w5 k hk; simp (disch := omega) only [hlo]; omega
          · rw [f6] at hk; have a := w6 k hk; simp (disch := omega) only [hlo]; omega
          · rw [f7] at hk; simp (disch := omega) only [hlo]; exact w7 k hk
          · rw [f0] at hf; exact hp f hf
          · rw [f8] at hk; simp (disch := omega) only [hlo]; exact w8 k hk
          · rw [f9] at hk; simp (disch := omega) only [hlo]; exact w9 k hk
        · rw [if_neg x]
          by_cases y3 : tK TP n (tE TP n e) = 3 ∨ tK TP n (tE TP n e) = 5
          · rw [if_pos y3]; exact okBad
          · rw [if_neg y3]; exact okBad
set_option maxRecDepth 100000 in
theorem okPays {e : Nat} (V : VQ F) (he : e0 < tE TP n e ∧ tE TP n e ≤ n) : OKp n e0 (lPays TP n F e) := by
  unfold lPays
  by_cases z : F 10 = 1
  · rw [if_pos z]; exact okBad
  · rw [if_neg z]; exact okPy V 5 0 F _ (by omega) (by omega) he (fun k _ => rfl) V.2.2.2.2.2.2.1
end OKP2
