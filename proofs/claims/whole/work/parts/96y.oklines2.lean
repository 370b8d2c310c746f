/-! the lines that add a name keep the bounds -/
section OKM
variable {TP : Nat → Nat} {n e0 e : Nat} {F : Nat → Nat}
set_option maxRecDepth 100000 in
theorem okTask (V : VQ F) (he : e0 < tE TP n e ∧ tE TP n e ≤ n) : OKp n e0 (lTask TP n F e) := by
  have b3 : F 3 ≤ 3 := V.2.1.2.2.2.1
  have b4 : F 4 ≤ 5 := V.2.1.2.2.2.2.1
  unfold lTask
  by_cases z : 6 ≤ F 7
  · rw [if_pos z]; exact okBad
  · rw [if_neg z]
    refine pNm he (fun y x h0 => pA h0 (fun v1 e1 a1 b1 h1 => pA h1 (fun v2 e2 a2 b2 h2 => pA h2 (fun v3 e3 a3 b3 h3 => okOut (vq7 V (by omega) (fun k q1 q2 q3 => ?_) (fuS _ _ _) ?_ (nmk_add V.nm he.2 y x (show 8 + F 7 < 14 by omega) (fun k q1 q2 => ?_) (fun q hq => ?_) (fun q hq => ?_) (fun q hq => ?_))) h3.1 h3.2))))
    · simp (disch := omega) only [fuN, addN_lo]
    · simp (disch := omega) only [fuN, fuS]; omega
    · simp (disch := omega) only [fuN]
    · simp (disch := omega) only [fuN, addN_lo]; omega
    · simp (disch := omega) only [fuN, addN_lo]; omega
    · rw [fuS]; omega
set_option maxRecDepth 100000 in
theorem okSleeper (V : VQ F) (he : e0 < tE TP n e ∧ tE TP n e ≤ n) : OKp n e0 (lSleeper TP n F e) := by
  have b3 : F 3 ≤ 3 := V.2.1.2.2.2.1
  have b7 : F 7 ≤ 6 := V.2.1.2.2.2.2.2.2.2.1
  unfold lSleeper
  by_cases z : 5 ≤ F 4
  · rw [if_pos z]; exact okBad
  · rw [if_neg z]
    refine pNm he (fun y x h0 => pKd h0 (fun kd hkd h9 => pA h9 (fun v1 e1 a1 b1 h1 => pA h1 (fun v2 e2 a2 b2 h2 => pA h2 (fun v3 e3 a3 b3 h3 => okOut (vq4 V (by omega) (fun k q1 q2 q3 => ?_) (fuS _ _ _) ?_ (nmk_add V.nm he.2 y x (show 3 + F 4 < 14 by omega) (fun k q1 q2 => ?_) (fun q hq => ?_) (fun q hq => ?_) (fun q hq => ?_))) h3.1 h3.2)))))
    · simp (disch := omega) only [fuN, addN_lo]
    · simp (disch := omega) only [fuN, fuS]; omega
    · simp (disch := omega) only [fuN]
    · simp (disch := omega) only [fuN, addN_lo]; omega
    · rw [fuS]; omega
    · simp (disch := omega) only [fuN, addN_lo]; omega
set_option maxRecDepth 100000 in
theorem okHead (V : VQ F) (he : e0 < tE TP n e ∧ tE TP n e ≤ n) : OKp n e0 (lHead TP n F e) := by
  have b4 : F 4 ≤ 5 := V.2.1.2.2.2.2.1
  have b7 : F 7 ≤ 6 := V.2.1.2.2.2.2.2.2.2.1
  unfold lHead
  by_cases z : 3 ≤ F 3
  · rw [if_pos z]; exact okBad
  · rw [if_neg z]
    refine pNm he (fun y x h0 => okOut ?_ h0.1 h0.2)
    have hlo : ∀ k, k < 190 → k ≠ 3 → fu (addN TP n F (F 3) (tE TP n e)) 3 (F 3 + 1) k = F k := fun k q1 q2 => by rw [fuN _ q2, addN_lo q1]
    have h3 : fu (addN TP n F (F 3) (tE TP n e)) 3 (F 3 + 1) 3 = F 3 + 1 := fuS _ _ _
    have N' : NMK (fu (addN TP n F (F 3) (tE TP n e)) 3 (F 3 + 1)) := nmk_add V.nm he.2 y x (show F 3 < 14 by omega) (fun k q1 q2 => fuN _ (by omega)) (fun q hq => by rw [h3]; omega) (fun q hq => by rw [hlo 4 (by omega) (by omega)]; omega) (fun q hq => by rw [hlo 7 (by omega) (by omega)]; omega)
    generalize fu (addN TP n F (F 3) (tE TP n e)) 3 (F 3 + 1) = F' at hlo h3 N' ⊢
    obtain ⟨⟨v1, v2, v3⟩, ⟨c1, c2, c3, c4, c5, c6, c7, c8, c9, c10, c11⟩, w4, w5, w6, w7, wp, w8, w9, -⟩ := V
    have f0 := hlo 0 (by omega) (by omega)
    have f1 := hlo 1 (by omega) (by omega)
    have f2 := hlo 2 (by omega) (by omega)
    have f4 := hlo 4 (by omega) (by omega)
    have f5 := hlo 5 (by omega) (by omega)
    have f6 := hlo 6 (by omega) (by omega)
    have f7 := hlo 7 (by omega) (by omega)
    have f8 := hlo 8 (by omega) (by omega)
    have f9 := hlo 9 (by omega) (by omega)
    have f10 := hlo 10 (by omega) (by omega)
    refine ⟨⟨by omega, by omega, fun f hf => ?_⟩, by rw [f1, f2, h3, f4, f5, f6, f7, f8, f9, f10]; omega, fun s hs => ?_, fun k hk => ?_, fun k hk => ?_, fun k hk => ?_, fun f hf => ?_, fun k hk => ?_, fun k hk => ?_, N'⟩
    · rw [f0] at hf; rw [hlo _ (by omega) (by omega)]; exact v3 f hf
    · rw [f4] at hs; simp (disch := omega) only [hlo]; exact w4 s hs
    · rw [f5] at hk; have a := w5 k hk; simp (disch := omega) only [hlo]; omega
    · rw [f6] at hk; have a := w6 k hk; simp (disch := omega) only [hlo]; omega
    · rw [f7] at hk; simp (disch := omega) only [hlo]; exact w7 k hk
    · rw [f0] at hf; simp (disch := omega) only [hlo]; exact wp f hf
    · rw [f8] at hk; simp (disch := omega) only [hlo]; exact w8 k hk
    · rw [f9] at hk; simp (disch := omega) only [hlo]; exact w9 k hk
end OKM
