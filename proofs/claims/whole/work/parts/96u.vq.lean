/-! what is told keeps to its bounds -/
section VQK
variable {F F' : Nat → Nat}
set_option maxRecDepth 100000 in
theorem vq4 (V : VQ F) (hm : F 4 < 5) (hlo : ∀ k, k < 190 → k ≠ 4 → ¬ (15 + 5 * F 4 ≤ k ∧ k < 15 + 5 * F 4 + 5) → F' k = F k) (ht : F' 4 = F 4 + 1) (hv : F' (15 + 5 * F 4 + 0) ≤ 3 ∧ 1 ≤ F' (15 + 5 * F 4 + 1) ∧ F' (15 + 5 * F 4 + 1) ≤ 9999 ∧ F' (15 + 5 * F 4 + 2) ≤ 999 ∧ F' (15 + 5 * F 4 + 3) ≤ 100 ∧ F' (15 + 5 * F 4 + 4) ≤ 5) (N : NMK F') : VQ F' := by
  obtain ⟨⟨v1, v2, v3⟩, ⟨b1, b2, b3, b4, b5, b6, b7, b8, b9, b10, b11⟩, w4, w5, w6, w7, wp, w8, w9, -⟩ := V
  have f0 : F' 0 = F 0 := hlo 0 (by omega) (by omega) (by omega)
  have f1 : F' 1 = F 1 := hlo 1 (by omega) (by omega) (by omega)
  have f2 : F' 2 = F 2 := hlo 2 (by omega) (by omega) (by omega)
  have f3 : F' 3 = F 3 := hlo 3 (by omega) (by omega) (by omega)
  have f5 : F' 5 = F 5 := hlo 5 (by omega) (by omega) (by omega)
  have f6 : F' 6 = F 6 := hlo 6 (by omega) (by omega) (by omega)
  have f7 : F' 7 = F 7 := hlo 7 (by omega) (by omega) (by omega)
  have f8 : F' 8 = F 8 := hlo 8 (by omega) (by omega) (by omega)
  have f9 : F' 9 = F 9 := hlo 9 (by omega) (by omega) (by omega)
  have f10 : F' 10 = F 10 := hlo 10 (by omega) (by omega) (by omega)
  refine ⟨⟨by omega, by omega, fun f hf => ?_⟩, by rw [f1, f2, f3, f5, f6, f7, f8, f9, f10, ht]; omega, fun s hs => ?_, fun k hk => ?_, fun k hk => ?_, fun k hk => ?_, fun f hf => ?_, fun k hk => ?_, fun k hk => ?_, N⟩
  · rw [f0] at hf; rw [hlo _ (by omega) (by omega) (by omega)]; exact v3 f hf
  · rw [ht] at hs
    by_cases y : s < F 4
    · have q0 : F' (15 + 5 * s + 0) = F (15 + 5 * s + 0) := hlo _ (by omega) (by omega) (by omega); have q1 : F' (15 + 5 * s + 1) = F (15 + 5 * s + 1) := hlo _ (by omega) (by omega) (by omega); have q2 : F' (15 + 5 * s + 2) = F (15 + 5 * s + 2) := hlo _ (by omega) (by omega) (by omega); have q3 : F' (15 + 5 * s + 3) = F (15 + 5 * s + 3) := hlo _ (by omega) (by omega) (by omega); have q4 : F' (15 + 5 * s + 4) = F (15 + 5 * s + 4) := hlo _ (by omega) (by omega) (by omega); have a0 := w4 s y; omega
    · have y2 : s = F 4 := by omega
      subst y2
      omega
  · have y := hk; rw [f5] at y; have q0 : F' (40 + 3 * k) = F (40 + 3 * k) := hlo _ (by omega) (by omega) (by omega); have q1 : F' (40 + 3 * k + 1) = F (40 + 3 * k + 1) := hlo _ (by omega) (by omega) (by omega); have q2 : F' (40 + 3 * k + 2) = F (40 + 3 * k + 2) := hlo _ (by omega) (by omega) (by omega); have a0 := w5 k y; omega
  · have y := hk; rw [f6] at y; have q0 : F' (100 + 4 * k) = F (100 + 4 * k) := hlo _ (by omega) (by omega) (by omega); have q1 : F' (100 + 4 * k + 1) = F (100 + 4 * k + 1) := hlo _ (by omega) (by omega) (by omega); have q2 : F' (100 + 4 * k + 2) = F (100 + 4 * k + 2) := hlo _ (by omega) (by omega) (by omega); have q3 : F' (100 + 4 * k + 3) = F (100 + 4 * k + 3) := hlo _ (by omega) (by omega) (by omega); have a0 := w6 k y; omega
  · have y := hk; rw [f7] at y; have q0 : F' (132 + 3 * k) = F (132 + 3 * k) := hlo _ (by omega) (by omega) (by omega); have q1 : F' (132 + 3 * k + 1) = F (132 + 3 * k + 1) := hlo _ (by omega) (by omega) (by omega); have q2 : F' (132 + 3 * k + 2) = F (132 + 3 * k + 2) := hlo _ (by omega) (by omega) (by omega); have a0 := w7 k y; omega
  · rw [f0] at hf; rw [hlo _ (by omega) (by omega) (by omega)]; exact wp f hf
  · have y := hk; rw [f8] at y; have q0 : F' (154 + 3 * k) = F (154 + 3 * k) := hlo _ (by omega) (by omega) (by omega); have q1 : F' (154 + 3 * k + 1) = F (154 + 3 * k + 1) := hlo _ (by omega) (by omega) (by omega); have q2 : F' (154 + 3 * k + 2) = F (154 + 3 * k + 2) := hlo _ (by omega) (by omega) (by omega); have a0 := w8 k y; omega
  · have y := hk; rw [f9] at y; have q0 : F' (172 + 3 * k) = F (172 + 3 * k) := hlo _ (by omega) (by omega) (by omega); have q1 : F' (172 + 3 * k + 1) = F (172 + 3 * k + 1) := hlo _ (by omega) (by omega) (by omega); have q2 : F' (172 + 3 * k + 2) = F (172 + 3 * k + 2) := hlo _ (by omega) (by omega) (by omega); have a0 := w9 k y; omega
set_option maxRecDepth 100000 in
theorem vq5 (V : VQ F) (hm : F 5 < 20) (hlo : ∀ k, k < 190 → k ≠ 5 → ¬ (40 + 3 * F 5 ≤ k ∧ k < 40 + 3 * F 5 + 3) → F' k = F k) (ht : F' 5 = F 5 + 1) (hv : F' (40 + 3 * F 5) < F 4 ∧ F' (40 + 3 * F 5 + 1) ≤ F 3 ∧ F' (40 + 3 * F 5 + 2) ≤ 999) (N : NMK F') : VQ F' := by
  obtain ⟨⟨v1, v2, v3⟩, ⟨b1, b2, b3, b4, b5, b6, b7, b8, b9, b10, b11⟩, w4, w5, w6, w7, wp, w8, w9, -⟩ := V
  have f0 : F' 0 = F 0 := hlo 0 (by omega) (by omega) (by omega)
  have f1 : F' 1 = F 1 := hlo 1 (by omega) (by omega) (by omega)
  have f2 : F' 2 = F 2 := hlo 2 (by omega) (by omega) (by omega)
  have f3 : F' 3 = F 3 := hlo 3 (by omega) (by omega) (by omega)
  have f4 : F' 4 = F 4 := hlo 4 (by omega) (by omega) (by omega)
  have f6 : F' 6 = F 6 := hlo 6 (by omega) (by omega) (by omega)
  have f7 : F' 7 = F 7 := hlo 7 (by omega) (by omega) (by omega)
  have f8 : F' 8 = F 8 := hlo 8 (by omega) (by omega) (by omega)
  have f9 : F' 9 = F 9 := hlo 9 (by omega) (by omega) (by omega)
  have f10 : F' 10 = F 10 := hlo 10 (by omega) (by omega) (by omega)
  refine ⟨⟨by omega, by omega, fun f hf => ?_⟩, by rw [f1, f2, f3, f4, f6, f7, f8, f9, f10, ht]; omega, fun s hs => ?_, fun k hk => ?_, fun k hk => ?_, fun k hk => ?_, fun f hf => ?_, fun k hk => ?_, fun k hk => ?_, N⟩
  · rw [f0] at hf; rw [hlo _ (by omega) (by omega) (by omega)]; exact v3 f hf
  · have y := hs; rw [f4] at y; have q0 : F' (15 + 5 * s + 0) = F (15 + 5 * s + 0) := hlo _ (by omega) (by omega) (by omega); have q1 : F' (15 + 5 * s + 1) = F (15 + 5 * s + 1) := hlo _ (by omega) (by omega) (by omega); have q2 : F' (15 + 5 * s + 2) = F (15 + 5 * s + 2) := hlo _ (by omega) (by omega) (by omega); have q3 : F' (15 + 5 * s + 3) = F (15 + 5 * s + 3) := hlo _ (by omega) (by omega) (by omega); have q4 : F' (15 + 5 * s + 4) = F (15 + 5 * s + 4) := hlo _ (by omega) (by omega) (by omega); have a0 := w4 s y; omega
  · rw [ht] at hk
    by_cases y : k < F 5
    · have q0 : F' (40 + 3 * k) = F (40 + 3 * k) := hlo _ (by omega) (by omega) (by omega); have q1 : F' (40 + 3 * k + 1) = F (40 + 3 * k + 1) := hlo _ (by omega) (by omega) (by omega); have q2 : F' (40 + 3 * k + 2) = F (40 + 3 * k + 2) := hlo _ (by omega) (by omega) (by omega); have a0 := w5 k y; omega
    · have y2 : k = F 5 := by omega
      subst y2
      omega
  · have y := hk; rw [f6] at y; have q0 : F' (100 + 4 * k) = F (100 + 4 * k) := hlo _ (by omega) (by omega) (by omega); have q1 : F' (100 + 4 * k + 1) = F (100 + 4 * k + 1) := hlo _ (by omega) (by omega) (by omega); have q2 : F' (100 + 4 * k + 2) = F (100 + 4 * k + 2) := hlo _ (by omega) (by omega) (by omega); have q3 : F' (100 + 4 * k + 3) = F (100 + 4 * k + 3) := hlo _ (by omega) (by omega) (by omega); have a0 := w6 k y; omega
  · have y := hk; rw [f7] at y; have q0 : F' (132 + 3 * k) = F (132 + 3 * k) := hlo _ (by omega) (by omega) (by omega); have q1 : F' (132 + 3 * k + 1) = F (132 + 3 * k + 1) := hlo _ (by omega) (by omega) (by omega); have q2 : F' (132 + 3 * k + 2) = F (132 + 3 * k + 2) := hlo _ (by omega) (by omega) (by omega); have a0 := w7 k y; omega
  · rw [f0] at hf; rw [hlo _ (by omega) (by omega) (by omega)]; exact wp f hf
  · have y := hk; rw [f8] at y; have q0 : F' (154 + 3 * k) = F (154 + 3 * k) := hlo _ (by omega) (by omega) (by omega); have q1 : F' (154 + 3 * k + 1) = F (154 + 3 * k + 1) := hlo _ (by omega) (by omega) (by omega); have q2 : F' (154 + 3 * k + 2) = F (154 + 3 * k + 2) := hlo _ (by omega) (by omega) (by omega); have a0 := w8 k y; omega
  · have y := hk; rw [f9] at y; have q0 : F' (172 + 3 * k) = F (172 + 3 * k) := hlo _ (by omega) (by omega) (by omega); have q1 : F' (172 + 3 * k + 1) = F (172 + 3 * k + 1) := hlo _ (by omega) (by omega) (by omega); have q2 : F' (172 + 3 * k + 2) = F (172 + 3 * k + 2) := hlo _ (by omega) (by omega) (by omega); have a0 := w9 k y; omega
set_option maxRecDepth 100000 in
theorem vq6 (V : VQ F) (hm : F 6 < 8) (hlo : ∀ k, k < 190 → k ≠ 6 → ¬ (100 + 4 * F 6 ≤ k ∧ k < 100 + 4 * F 6 + 4) → F' k = F k) (ht : F' 6 = F 6 + 1) (hv : F' (100 + 4 * F 6) < F 3 ∧ F' (100 + 4 * F 6 + 1) < F 0 ∧ F' (100 + 4 * F 6 + 2) ≤ F 2 ∧ 1 ≤ F' (100 + 4 * F 6 + 3) ∧ F' (100 + 4 * F 6 + 3) ≤ 99) (N : NMK F') : VQ F' := by
  obtain ⟨⟨v1, v2, v3⟩, ⟨b1, b2, b3, b4, b5, b6, b7, b8, b9, b10, b11⟩, w4, w5, w6, w7, wp, w8, w9, -⟩ := V
  have f0 : F' 0 = F 0 := hlo 0 (by omega) (by omega) (by omega)
  have f1 : F' 1 = F 1 := hlo 1 (by omega) (by omega) (by omega)
  have f2 : F' 2 = F 2 := hlo 2 (by omega) (by omega) (by omega)
  have f3 : F' 3 = F 3 := hlo 3 (by omega) (by omega) (by omega)
  have f4 : F' 4 = F 4 := hlo 4 (by omega) (by omega) (by omega)
  have f5 : F' 5 = F 5 := hlo 5 (by omega) (by omega) (by omega)
  have f7 : F' 7 = F 7 := hlo 7 (by omega) (by omega) (by omega)
  have f8 : F' 8 = F 8 := hlo 8 (by omega) (by omega) (by omega)
  have f9 : F' 9 = F 9 := hlo 9 (by omega) (by omega) (by omega)
  have f10 : F' 10 = F 10 := hlo 10 (by omega) (by omega) (by omega)
  refine ⟨⟨by omega, by omega, fun f hf => ?_⟩, by rw [f1, f2, f3, f4, f5, f7, f8, f9, f10, ht]; omega, fun s hs => ?_, fun k hk => ?_, fun k hk => ?_, fun k hk => ?_, fun f hf => ?_, fun k hk => ?_, fun k hk => ?_, N⟩
  · rw [f0] at hf; rw [hlo _ (by omega) (by omega) (by omega)]; exact v3 f hf
  · have y := hs; rw [f4] at y; have q0 : F' (15 + 5 * s + 0) = F (15 + 5 * s + 0) := hlo _ (by omega) (by omega) (by omega); have q1 : F' (15 + 5 * s + 1) = F (15 + 5 * s + 1) := hlo _ (by omega) (by omega) (by omega); have q2 : F' (15 + 5 * s + 2) = F (15 + 5 * s + 2) := hlo _ (by omega) (by omega) (by omega); have q3 : F' (15 + 5 * s + 3) = F (15 + 5 * s + 3) := hlo _ (by omega) (by omega) (by omega); have q4 : F' (15 + 5 * s + 4) = F (15 + 5 * s + 4) := hlo _ (by omega) (by omega) (by omega); have a0 := w4 s y; omega
  · have y := hk; rw [f5] at y; have q0 : F' (40 + 3 * k) = F (40 + 3 * k) := hlo _ (by omega) (by omega) (by omega); have q1 : F' (40 + 3 * k + 1) = F (40 + 3 * k + 1) := hlo _ (by omega) (by omega) (by omega); have q2 : F' (40 + 3 * k + 2) = F (40 + 3 * k + 2) := hlo _ (by omega) (by omega) (by omega); have a0 := w5 k y; omega
  · rw [ht] at hk
    by_cases y : k < F 6
    · have q0 : F' (100 + 4 * k) = F (100 + 4 * k) := hlo _ (by omega) (by omega) (by omega); have q1 : F' (100 + 4 * k + 1) = F (100 + 4 * k + 1) := hlo _ (by omega) (by omega) (by omega); have q2 : F' (100 + 4 * k + 2) = F (100 + 4 * k + 2) := hlo _ (by omega) (by omega) (by omega); have q3 : F' (100 + 4 * k + 3) = F (100 + 4 * k + 3) := hlo _ (by omega) (by omega) (by omega); have a0 := w6 k y; omega
    · have y2 : k = F 6 := by omega
      subst y2
      omega
  · have y := hk; rw [f7] at y; have q0 : F' (132 + 3 * k) = F (132 + 3 * k) := hlo _ (by omega) (by omega) (by omega); have q1 : F' (132 + 3 * k + 1) = F (132 + 3 * k + 1) := hlo _ (by omega) (by omega) (by omega); have q2 : F' (132 + 3 * k + 2) = F (132 + 3 * k + 2) := hlo _ (by omega) (by omega) (by omega); have a0 := w7 k y; omega
  · rw [f0] at hf; rw [hlo _ (by omega) (by omega) (by omega)]; exact wp f hf
  · have y := hk; rw [f8] at y; have q0 : F' (154 + 3 * k) = F (154 + 3 * k) := hlo _ (by omega) (by omega) (by omega); have q1 : F' (154 + 3 * k + 1) = F (154 + 3 * k + 1) := hlo _ (by omega) (by omega) (by omega); have q2 : F' (154 + 3 * k + 2) = F (154 + 3 * k + 2) := hlo _ (by omega) (by omega) (by omega); have a0 := w8 k y; omega
  · have y := hk; rw [f9] at y; have q0 : F' (172 + 3 * k) = F (172 + 3 * k) := hlo _ (by omega) (by omega) (by omega); have q1 : F' (172 + 3 * k + 1) = F (172 + 3 * k + 1) := hlo _ (by omega) (by omega) (by omega); have q2 : F' (172 + 3 * k + 2) = F (172 + 3 * k + 2) := hlo _ (by omega) (by omega) (by omega); have a0 := w9 k y; omega
set_option maxRecDepth 100000 in
theorem vq7 (V : VQ F) (hm : F 7 < 6) (hlo : ∀ k, k < 190 → k ≠ 7 → ¬ (132 + 3 * F 7 ≤ k ∧ k < 132 + 3 * F 7 + 3) → F' k = F k) (ht : F' 7 = F 7 + 1) (hv : F' (132 + 3 * F 7) ≤ F 0 ∧ 1 ≤ F' (132 + 3 * F 7 + 1) ∧ F' (132 + 3 * F 7 + 1) ≤ 999 ∧ F' (132 + 3 * F 7 + 2) ≤ 99) (N : NMK F') : VQ F' := by
  obtain ⟨⟨v1, v2, v3⟩, ⟨b1, b2, b3, b4, b5, b6, b7, b8, b9, b10, b11⟩, w4, w5, w6, w7, wp, w8, w9, -⟩ := V
  have f0 : F' 0 = F 0 := hlo 0 (by omega) (by omega) (by omega)
  have f1 : F' 1 = F 1 := hlo 1 (by omega) (by omega) (by omega)
  have f2 : F' 2 = F 2 := hlo 2 (by omega) (by omega) (by omega)
  have f3 : F' 3 = F 3 := hlo 3 (by omega) (by omega) (by omega)
  have f4 : F' 4 = F 4 := hlo 4 (by omega) (by omega) (by omega)
  have f5 : F' 5 = F 5 := hlo 5 (by omega) (by omega) (by omega)
  have f6 : F' 6 = F 6 := hlo 6 (by omega) (by omega) (by omega)
  have f8 : F' 8 = F 8 := hlo 8 (by omega) (by omega) (by omega)
  have f9 : F' 9 = F 9 := hlo 9 (by omega) (by omega) (by omega)
  have f10 : F' 10 = F 10 := hlo 10 (by omega) (by omega) (by omega)
  refine ⟨⟨by omega, by omega, fun f hf => ?_⟩, by rw [f1, f2, f3, f4, f5, f6, f8, f9, f10, ht]; omega, fun s hs => ?_, fun k hk => ?_, fun k hk => ?_, fun k hk => ?_, fun f hf => ?_, fun k hk => ?_, fun k hk => ?_, N⟩
  · rw [f0] at hf; rw [hlo _ (by omega) (by omega) (by omega)]; exact v3 f hf
  · have y := hs; rw [f4] at y; have q0 : F' (15 + 5 * s + 0) = F (15 + 5 * s + 0) := hlo _ (by omega) (by omega) (by omega); have q1 : F' (15 + 5 * s + 1) = F (15 + 5 * s + 1) := hlo _ (by omega) (by omega) (by omega); have q2 : F' (15 + 5 * s + 2) = F (15 + 5 * s + 2) := hlo _ (by omega) (by omega) (by omega); have q3 : F' (15 + 5 * s + 3) = F (15 + 5 * s + 3) := hlo _ (by omega) (by omega) (by omega); have q4 : F' (15 + 5 * s + 4) = F (15 + 5 * s + 4) := hlo _ (by omega) (by omega) (by omega); have a0 := w4 s y; omega
  · have y := hk; rw [f5] at y; have q0 : F' (40 + 3 * k) = F (40 + 3 * k) := hlo _ (by omega) (by omega) (by omega); have q1 : F' (40 + 3 * k + 1) = F (40 + 3 * k + 1) := hlo _ (by omega) (by omega) (by omega); have q2 : F' (40 + 3 * k + 2) = F (40 + 3 * k + 2) := hlo _ (by omega) (by omega) (by omega); have a0 := w5 k y; omega
  · have y := hk; rw [f6] at y; have q0 : F' (100 + 4 * k) = F (100 + 4 * k) := hlo _ (by omega) (by omega) (by omega); have q1 : F' (100 + 4 * k + 1) = F (100 + 4 * k + 1) := hlo _ (by omega) (by omega) (by omega); have q2 : F' (100 + 4 * k + 2) = F (100 + 4 * k + 2) := hlo _ (by omega) (by omega) (by omega); have q3 : F' (100 + 4 * k + 3) = F (100 + 4 * k + 3) := hlo _ (by omega) (by omega) (by omega); have a0 := w6 k y; omega
  · rw [ht] at hk
    by_cases y : k < F 7
    · have q0 : F' (132 + 3 * k) = F (132 + 3 * k) := hlo _ (by omega) (by omega) (by omega); have q1 : F' (132 + 3 * k + 1) = F (132 + 3 * k + 1) := hlo _ (by omega) (by omega) (by omega); have q2 : F' (132 + 3 * k + 2) = F (132 + 3 * k + 2) := hlo _ (by omega) (by omega) (by omega); have a0 := w7 k y; omega
    · have y2 : k = F 7 := by omega
      subst y2
      omega
  · rw [f0] at hf; rw [hlo _ (by omega) (by omega) (by omega)]; exact wp f hf
  · have y := hk; rw [f8] at y; have q0 : F' (154 + 3 * k) = F (154 + 3 * k) := hlo _ (by omega) (by omega) (by omega); have q1 : F' (154 + 3 * k + 1) = F (154 + 3 * k + 1) := hlo _ (by omega) (by omega) (by omega); have q2 : F' (154 + 3 * k + 2) = F (154 + 3 * k + 2) := hlo _ (by omega) (by omega) (by omega); have a0 := w8 k y; omega
  · have y := hk; rw [f9] at y; have q0 : F' (172 + 3 * k) = F (172 + 3 * k) := hlo _ (by omega) (by omega) (by omega); have q1 : F' (172 + 3 * k + 1) = F (172 + 3 * k + 1) := hlo _ (by omega) (by omega) (by omega); have q2 : F' (172 + 3 * k + 2) = F (172 + 3 * k + 2) := hlo _ (by omega) (by omega) (by omega); have a0 := w9 k y; omega
set_option maxRecDepth 100000 in
theorem vq8 (V : VQ F) (hm : F 8 < 6) (hlo : ∀ k, k < 190 → k ≠ 8 → ¬ (154 + 3 * F 8 ≤ k ∧ k < 154 + 3 * F 8 + 3) → F' k = F k) (ht : F' 8 = F 8 + 1) (hv : F' (154 + 3 * F 8) ≤ 1 ∧ 1 ≤ F' (154 + 3 * F 8 + 1) ∧ F' (154 + 3 * F 8 + 1) ≤ 9999 ∧ F' (154 + 3 * F 8 + 2) ≤ 9999) (N : NMK F') : VQ F' := by
  obtain ⟨⟨v1, v2, v3⟩, ⟨b1, b2, b3, b4, b5, b6, b7, b8, b9, b10, b11⟩, w4, w5, w6, w7, wp, w8, w9, -⟩ := V
  have f0 : F' 0 = F 0 := hlo 0 (by omega) (by omega) (by omega)
  have f1 : F' 1 = F 1 := hlo 1 (by omega) (by omega) (by omega)
  have f2 : F' 2 = F 2 := hlo 2 (by omega) (by omega) (by omega)
  have f3 : F' 3 = F 3 := hlo 3 (by omega) (by omega) (by omega)
  have f4 : F' 4 = F 4 := hlo 4 (by omega) (by omega) (by omega)
  have f5 : F' 5 = F 5 := hlo 5 (by omega) (by omega) (by omega)
  have f6 : F' 6 = F 6 := hlo 6 (by omega) (by omega) (by omega)
  have f7 : F' 7 = F 7 := hlo 7 (by omega) (by omega) (by omega)
  have f9 : F' 9 = F 9 := hlo 9 (by omega) (by omega) (by omega)
  have f10 : F' 10 = F 10 := hlo 10 (by omega) (by omega) (by omega)
  refine ⟨⟨by omega, by omega, fun f hf => ?_⟩, by rw [f1, f2, f3, f4, f5, f6, f7, f9, f10, ht]; omega, fun s hs => ?_, fun k hk => ?_, fun k hk => ?_, fun k hk => ?_, fun f hf => ?_, fun k hk => ?_, fun k hk => ?_, N⟩
  · rw [f0] at hf; rw [hlo _ (by omega) (by omega) (by omega)]; exact v3 f hf
  · have y := hs; rw [f4] at y; have q0 : F' (15 + 5 * s + 0) = F (15 + 5 * s + 0) := hlo _ (by omega) (by omega) (by omega); have q1 : F' (15 + 5 * s + 1) = F (15 + 5 * s + 1) := hlo _ (by omega) (by omega) (by omega); have q2 : F' (15 + 5 * s + 2) = F (15 + 5 * s + 2) := hlo _ (by omega) (by omega) (by omega); have q3 : F' (15 + 5 * s + 3) = F (15 + 5 * s + 3) := hlo _ (by omega) (by omega) (by omega); have q4 : F' (15 + 5 * s + 4) = F (15 + 5 * s + 4) := hlo _ (by omega) (by omega) (by omega); have a0 := w4 s y; omega
  · have y := hk; rw [f5] at y; have q0 : F' (40 + 3 * k) = F (40 + 3 * k) := hlo _ (by omega) (by omega) (by omega); have q1 : F' (40 + 3 * k + 1) = F (40 + 3 * k + 1) := hlo _ (by omega) (by omega) (by omega); have q2 : F' (40 + 3 * k + 2) = F (40 + 3 * k + 2) := hlo _ (by omega) (by omega) (by omega); have a0 := w5 k y; omega
  · have y := hk; rw [f6] at y; have q0 : F' (100 + 4 * k) = F (100 + 4 * k) := hlo _ (by omega) (by omega) (by omega); have q1 : F' (100 + 4 * k + 1) = F (100 + 4 * k + 1) := hlo _ (by omega) (by omega) (by omega); have q2 : F' (100 + 4 * k + 2) = F (100 + 4 * k + 2) := hlo _ (by omega) (by omega) (by omega); have q3 : F' (100 + 4 * k + 3) = F (100 + 4 * k + 3) := hlo _ (by omega) (by omega) (by omega); have a0 := w6 k y; omega
  · have y := hk; rw [f7] at y; have q0 : F' (132 + 3 * k) = F (132 + 3 * k) := hlo _ (by omega) (by omega) (by omega); have q1 : F' (132 + 3 * k + 1) = F (132 + 3 * k + 1) := hlo _ (by omega) (by omega) (by omega); have q2 : F' (132 + 3 * k + 2) = F (132 + 3 * k + 2) := hlo _ (by omega) (by omega) (by omega); have a0 := w7 k y; omega
  · rw [f0] at hf; rw [hlo _ (by omega) (by omega) (by omega)]; exact wp f hf
  · rw [ht] at hk
    by_cases y : k < F 8
    · have q0 : F' (154 + 3 * k) = F (154 + 3 * k) := hlo _ (by omega) (by omega) (by omega); have q1 : F' (154 + 3 * k + 1) = F (154 + 3 * k + 1) := hlo _ (by omega) (by omega) (by omega); have q2 : F' (154 + 3 * k + 2) = F (154 + 3 * k + 2) := hlo _ (by omega) (by omega) (by omega); have a0 := w8 k y; omega
    · have y2 : k = F 8 := by omega
      subst y2
      omega
  · have y := hk; rw [f9] at y; have q0 : F' (172 + 3 * k) = F (172 + 3 * k) := hlo _ (by omega) (by omega) (by omega); have q1 : F' (172 + 3 * k + 1) = F (172 + 3 * k + 1) := hlo _ (by omega) (by omega) (by omega); have q2 : F' (172 + 3 * k + 2) = F (172 + 3 * k + 2) := hlo _ (by omega) (by omega) (by omega); have a0 := w9 k y; omega
set_option maxRecDepth 100000 in
theorem vq9 (V : VQ F) (hm : F 9 < 6) (hlo : ∀ k, k < 190 → k ≠ 9 → ¬ (172 + 3 * F 9 ≤ k ∧ k < 172 + 3 * F 9 + 3) → F' k = F k) (ht : F' 9 = F 9 + 1) (hv : 1 ≤ F' (172 + 3 * F 9) ∧ F' (172 + 3 * F 9) ≤ 9999 ∧ 1 ≤ F' (172 + 3 * F 9 + 1) ∧ F' (172 + 3 * F 9 + 1) ≤ F 0 ∧ 1 ≤ F' (172 + 3 * F 9 + 2) ∧ F' (172 + 3 * F 9 + 2) ≤ 999) (N : NMK F') : VQ F' := by
  obtain ⟨⟨v1, v2, v3⟩, ⟨b1, b2, b3, b4, b5, b6, b7, b8, b9, b10, b11⟩, w4, w5, w6, w7, wp, w8, w9, -⟩ := V
  have f0 : F' 0 = F 0 := hlo 0 (by omega) (by omega) (by omega)
  have f1 : F' 1 = F 1 := hlo 1 (by omega) (by omega) (by omega)
  have f2 : F' 2 = F 2 := hlo 2 (by omega) (by omega) (by omega)
  have f3 : F' 3 = F 3 := hlo 3 (by omega) (by omega) (by omega)
  have f4 : F' 4 = F 4 := hlo 4 (by omega) (by omega) (by omega)
  have f5 : F' 5 = F 5 := hlo 5 (by omega) (by omega) (by omega)
  have f6 : F' 6 = F 6 := hlo 6 (by omega) (by omega) (by omega)
  have f7 : F' 7 = F 7 := hlo 7 (by omega) (by omega) (by omega)
  have f8 : F' 8 = F 8 := hlo 8 (by omega) (by omega) (by omega)
  have f10 : F' 10 = F 10 := hlo 10 (by omega) (by omega) (by omega)
  refine ⟨⟨by omega, by omega, fun f hf => ?_⟩, by rw [f1, f2, f3, f4, f5, f6, f7, f8, f10, ht]; omega, fun s hs => ?_, fun k hk => ?_, fun k hk => ?_, fun k hk => ?_, fun f hf => ?_, fun k hk => ?_, fun k hk => ?_, N⟩
  · rw [f0] at hf; rw [hlo _ (by omega) (by omega) (by omega)]; exact v3 f hf
  · have y := hs; rw [f4] at y; have q0 : F' (15 + 5 * s + 0) = F (15 + 5 * s + 0) := hlo _ (by omega) (by omega) (by omega); have q1 : F' (15 + 5 * s + 1) = F (15 + 5 * s + 1) := hlo _ (by omega) (by omega) (by omega); have q2 : F' (15 + 5 * s + 2) = F (15 + 5 * s + 2) := hlo _ (by omega) (by omega) (by omega); have q3 : F' (15 + 5 * s + 3) = F (15 + 5 * s + 3) := hlo _ (by omega) (by omega) (by omega); have q4 : F' (15 + 5 * s + 4) = F (15 + 5 * s + 4) := hlo _ (by omega) (by omega) (by omega); have a0 := w4 s y; omega
  · have y := hk; rw [f5] at y; have q0 : F' (40 + 3 * k) = F (40 + 3 * k) := hlo _ (by omega) (by omega) (by omega); have q1 : F' (40 + 3 * k + 1) = F (40 + 3 * k + 1) := hlo _ (by omega) (by omega) (by omega); have q2 : F' (40 + 3 * k + 2) = F (40 + 3 * k + 2) := hlo _ (by omega) (by omega) (by omega); have a0 := w5 k y; omega
  · have y := hk; rw [f6] at y; have q0 : F' (100 + 4 * k) = F (100 + 4 * k) := hlo _ (by omega) (by omega) (by omega); have q1 : F' (100 + 4 * k + 1) = F (100 + 4 * k + 1) := hlo _ (by omega) (by omega) (by omega); have q2 : F' (100 + 4 * k + 2) = F (100 + 4 * k + 2) := hlo _ (by omega) (by omega) (by omega); have q3 : F' (100 + 4 * k + 3) = F (100 + 4 * k + 3) := hlo _ (by omega) (by omega) (by omega); have a0 := w6 k y; omega
  · have y := hk; rw [f7] at y; have q0 : F' (132 + 3 * k) = F (132 + 3 * k) := hlo _ (by omega) (by omega) (by omega); have q1 : F' (132 + 3 * k + 1) = F (132 + 3 * k + 1) := hlo _ (by omega) (by omega) (by omega); have q2 : F' (132 + 3 * k + 2) = F (132 + 3 * k + 2) := hlo _ (by omega) (by omega) (by omega); have a0 := w7 k y; omega
  · rw [f0] at hf; rw [hlo _ (by omega) (by omega) (by omega)]; exact wp f hf
  · have y := hk; rw [f8] at y; have q0 : F' (154 + 3 * k) = F (154 + 3 * k) := hlo _ (by omega) (by omega) (by omega); have q1 : F' (154 + 3 * k + 1) = F (154 + 3 * k + 1) := hlo _ (by omega) (by omega) (by omega); have q2 : F' (154 + 3 * k + 2) = F (154 + 3 * k + 2) := hlo _ (by omega) (by omega) (by omega); have a0 := w8 k y; omega
  · rw [ht] at hk
    by_cases y : k < F 9
    · have q0 : F' (172 + 3 * k) = F (172 + 3 * k) := hlo _ (by omega) (by omega) (by omega); have q1 : F' (172 + 3 * k + 1) = F (172 + 3 * k + 1) := hlo _ (by omega) (by omega) (by omega); have q2 : F' (172 + 3 * k + 2) = F (172 + 3 * k + 2) := hlo _ (by omega) (by omega) (by omega); have a0 := w9 k y; omega
    · have y2 : k = F 9 := by omega
      subst y2
      omega
set_option maxRecDepth 100000 in
theorem nmk_same (N : NMK F) (hs : ∀ k, 190 ≤ k → k < 316 → F' k = F k) (h3 : F' 3 = F 3) (h4 : F' 4 = F 4) (h7 : F' 7 = F 7) : NMK F' := by
  have hn : ∀ m, m < 14 → nc F' m = nc F m := fun m hm => by
    have := (N.1 m hm).1
    unfold nc
    rw [hs _ (by omega) (by omega)]
    exact cwd_cg _ (fun j hj => hs _ (by omega) (by omega))
  refine ⟨fun m hm => ?_, fun m hm => ?_, fun m hm => ?_, fun m hm => ?_, fun m m' q1 q2 q3 q4 => ?_⟩
  · have a := N.1 m hm
    rw [hs _ (by omega) (by omega)]
    exact ⟨a.1, fun j hj => by rw [hs _ (by omega) (by omega)]; exact a.2 j hj⟩
  · rw [hs _ (by omega) (by omega), h3]; exact N.2.1 m hm
  · rw [hs _ (by omega) (by omega), h4]; exact N.2.2.1 m hm
  · rw [hs _ (by omega) (by omega), h7]; exact N.2.2.2.1 m hm
  · rw [hs _ (by omega) (by omega)] at q3
    rw [hn m q1, hn m' q2] at q4
    exact N.2.2.2.2 m m' q1 q2 q3 q4
end VQK
