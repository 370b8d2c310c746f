/-! thinks and pays keep the bounds -/
section OKN
variable {TP : Nat → Nat} {n e0 e : Nat} {F : Nat → Nat}
set_option maxRecDepth 100000 in
theorem okThinks (V : VQ F) (he : e0 < tE TP n e ∧ tE TP n e ≤ n) : OKp n e0 (lThinks TP n F e) := by
  have b := tEb (TP := TP) he.2
  have b4 : F 4 ≤ 5 := V.2.1.2.2.2.2.1
  unfold lThinks
  refine pTd (fun l u => ?_)
  have hs := FDs V.nm l u
  generalize FD TP n F (tE TP n e) - 3 = s at hs ⊢
  by_cases z : F (15 + 5 * s + 4) = 0
  · rw [if_pos z]
    refine pN (by omega) (fun v a1 b1 h1 => okOut ?_ h1.1 h1.2)
    have hlo : ∀ k, k ≠ 15 + 5 * s + 4 → fu F (15 + 5 * s + 4) (v + 1) k = F k := fun k q2 => fuN _ q2
    have h3 : fu F (15 + 5 * s + 4) (v + 1) (15 + 5 * s + 4) = v + 1 := fuS _ _ _
    have N' : NMK (fu F (15 + 5 * s + 4) (v + 1)) := nmk_same V.nm (fun k q1 q2 => hlo k (by omega)) (hlo 3 (by omega)) (hlo 4 (by omega)) (hlo 7 (by omega))
    generalize fu F (15 + 5 * s + 4) (v + 1) = F' at hlo h3 N' ⊢
    obtain ⟨⟨v1, v2, v3⟩, ⟨c1, c2, c3, c4, c5, c6, c7, c8, c9, c10, c11⟩, w4, w5, w6, w7, wp, w8, w9, -⟩ := V
    have f0 := hlo 0 (by omega)
    have f1 := hlo 1 (by omega)
    have f2 := hlo 2 (by omega)
    have f3 := hlo 3 (by omega)
    have f4 := hlo 4 (by omega)
    have f5 := hlo 5 (by omega)
    have f6 := hlo 6 (by omega)
    have f7 := hlo 7 (by omega)
    have f8 := hlo 8 (by omega)
    have f9 := hlo 9 (by omega)
    have f10 := hlo 10 (by omega)
    refine ⟨⟨by omega, by omega, fun f hf => ?_⟩, by rw [f1, f2, f3, f4, f5, f6, f7, f8, f9, f10]; omega, fun t ht => ?_, fun k hk => ?_, fun k hk => ?_, fun k hk => ?_, fun f hf => ?_, fun k hk => ?_, fun k hk => ?_, N'⟩
    · rw [f0] at hf; rw [hlo _ (by omega)]; exact v3 f hf
    · rw [f4] at ht
      have a := w4 t ht
      by_cases y : t = s
      · subst y; rw [h3, hlo _ (by omega), hlo _ (by omega), hlo _ (by omega), hlo _ (by omega)]; omega
      · simp (disch := omega) only [hlo]; exact a
    · rw [f5] at hk; have a := w5 k hk; simp (disch := omega) only [hlo]; omega
    · rw [f6] at hk; have a := w6 k hk; simp (disch := omega) only [hlo]; omega
    · rw [f7] at hk; simp (disch := omega) only [hlo]; exact w7 k hk
    · rw [f0] at hf; simp (disch := omega) only [hlo]; exact wp f hf
    · rw [f8] at hk; simp (disch := omega) only [hlo]; exact w8 k hk
    · rw [f9] at hk; simp (disch := omega) only [hlo]; exact w9 k hk
  · rw [if_neg z]; exact okBad
end OKN
