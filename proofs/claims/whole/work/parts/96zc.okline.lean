/-! a line keeps the bounds -/
section OKE
variable {TP : Nat → Nat} {n e0 e : Nat} {F : Nat → Nat}
set_option maxRecDepth 100000 in
theorem okDream (Z : ∀ k, k < 316 → F k = 0) (he : e0 < tE TP n e ∧ tE TP n e ≤ n) : OKp n e0 (lDream TP n F e) := by
  unfold lDream
  rw [if_pos (Z 2 (by omega))]
  refine pW he (fun h1 => okRt (fun G e2 G1 R h2 => pA h2 (fun v e3 a3 b3 h3 => pA h3 (fun w e4 a4 b4 h4 => okOut ?_ h4.1 h4.2))) 5 F _ (by rw [Z 0 (by omega)]) h1 ⟨by rw [Z 0 (by omega)]; omega, fun f hf => by rw [Z 0 (by omega)] at hf; omega, fun k _ _ hk => Z k hk⟩)
  obtain ⟨r1, r2, r3⟩ := R
  have fz : ∀ k, k ≠ 0 → k ≠ 1 → k ≠ 2 → ¬ (11 ≤ k ∧ k < 15) → k < 316 → fu (fu G 1 v) 2 w k = 0 := fun k q0 q1 q2 q3 q4 => by rw [fuN _ q2, fuN _ q1]; exact r3 k q0 q3 q4
  have f0 : fu (fu G 1 v) 2 w 0 = G 0 := by rw [fuN _ (by omega), fuN _ (by omega)]
  have f1 : fu (fu G 1 v) 2 w 1 = v := by rw [fuN _ (by omega), fuS]
  have f2 : fu (fu G 1 v) 2 w 2 = w := fuS _ _ _
  have fr : ∀ f, f < G 0 → fu (fu G 1 v) 2 w (11 + f) = G (11 + f) := fun f hf => by rw [fuN _ (by omega), fuN _ (by omega)]
  generalize fu (fu G 1 v) 2 w = F' at fz f0 f1 f2 fr ⊢
  have z3 := fz 3 (by omega) (by omega) (by omega) (by omega) (by omega)
  have z4 := fz 4 (by omega) (by omega) (by omega) (by omega) (by omega)
  have z5 := fz 5 (by omega) (by omega) (by omega) (by omega) (by omega)
  have z6 := fz 6 (by omega) (by omega) (by omega) (by omega) (by omega)
  have z7 := fz 7 (by omega) (by omega) (by omega) (by omega) (by omega)
  have z8 := fz 8 (by omega) (by omega) (by omega) (by omega) (by omega)
  have z9 := fz 9 (by omega) (by omega) (by omega) (by omega) (by omega)
  have z10 := fz 10 (by omega) (by omega) (by omega) (by omega) (by omega)
  have zs : ∀ m, m < 14 → F' (190 + m) = 0 := fun m hm => fz _ (by omega) (by omega) (by omega) (by omega) (by omega)
  refine ⟨⟨by omega, by omega, fun f hf => ?_⟩, by omega, fun s hs => by omega, fun k hk => by omega, fun k hk => by omega, fun k hk => by omega, fun f hf => ?_, fun k hk => by omega, fun k hk => by omega, fun m hm => ⟨by rw [zs m hm]; omega, fun j hj => by rw [zs m hm] at hj; omega⟩, fun m hm => ?_, fun m hm => ?_, fun m hm => ?_, fun m m' q1 q2 q3 => ?_⟩
  · rw [f0] at hf; rw [fr f hf]; exact r2 f hf
  · rw [fz _ (by omega) (by omega) (by omega) (by omega) (by omega)]; omega
  · rw [zs m (by omega), z3]; omega
  · rw [show 193 + m = 190 + (3 + m) by omega, zs _ (by omega), z4]; omega
  · rw [show 198 + m = 190 + (8 + m) by omega, zs _ (by omega), z7]; omega
  · rw [zs m q1] at q3; omega
end OKE
