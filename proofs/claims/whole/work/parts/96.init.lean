/-! AT FIRST -/
set_option maxRecDepth 100000 in
theorem hB_I {b k : Nat} (h1 : ¬ (48 ≤ b ∧ b ≤ 74 ∧ k ≤ 1)) (h2 : ¬ (b = 181 ∧ k = 10)) : gI hB b k = nI 0 := by
  unfold hB hA drH
  simp only [gI_sR, gI_sI]
  repeat rw [if_neg (by omega)]
  rfl
set_option maxRecDepth 100000 in
theorem GI_0 : GI hB 0 := by
  have z : ∀ b k, b < 48 → gI hB b k = nI 0 := fun b k hb => hB_I (by omega) (by omega)
  refine ⟨⟨⟨0, by omega, z 0 13 (by omega), hB_I (by omega) (by omega), fun k hk => by omega⟩, Or.inl ⟨by decide +kernel, by decide +kernel⟩, ⟨by decide +kernel, fun i i' a b y => ?_⟩, by unfold IMP; decide +kernel, fun d hd => ?_⟩, ⟨(z 0 16 (by omega)).trans (hB_I (by omega) (by omega)).symm, (z 0 17 (by omega)).trans (hB_I (by omega) (by omega)).symm, fun y => ?_⟩, ⟨0, by omega, z 31 7 (by omega), fun x hx => ⟨0, by omega, z 38 x (by omega)⟩⟩, Or.inl ⟨z 0 12 (by omega), hB_I (by omega) (by omega), z 0 14 (by omega), hB_I (by omega) (by omega), z 0 15 (by omega), hB_I (by omega) (by omega)⟩⟩
  · have : ∀ i, i < 12 → ∀ i', i' < 12 → gR hB 42 i = gR hB 42 i' → i = i' := by decide +kernel
    exact this i a i' b y
  · rcases hd with e | e
    · subst e; decide +kernel
    · subst e; decide +kernel
  · rw [z 0 16 (by omega), eqN (by omega) (by omega)] at y; omega
