/-! the lines keep the bounds -/
section OKL
variable {TP : Nat → Nat} {n e0 e : Nat} {F : Nat → Nat}
set_option maxRecDepth 100000 in
theorem okFelt (V : VQ F) (he : e0 < tE TP n e ∧ tE TP n e ≤ n) : OKp n e0 (lFelt TP n F e) := by
  unfold lFelt
  by_cases z : 6 ≤ F 8
  · rw [if_pos z]; exact okBad
  · rw [if_neg z]
    refine pN he (fun v1 a1 b1 h1 => pN h1 (fun v2 a2 b2 h2 => okOut (vq8 V (by omega) (fun k q1 q2 q3 => ?_) (fuS _ _ _) ?_ (nmk_same V.nm (fun k q1 q2 => ?_) ?_ ?_ ?_)) h2.1 h2.2))
    · simp (disch := omega) only [fuN]
    · simp (disch := omega) only [fuN, fuS]; omega
    · simp (disch := omega) only [fuN]
    · simp (disch := omega) only [fuN]
    · simp (disch := omega) only [fuN]
    · simp (disch := omega) only [fuN]
set_option maxRecDepth 100000 in
theorem okCame (V : VQ F) (he : e0 < tE TP n e ∧ tE TP n e ≤ n) : OKp n e0 (lCame TP n F e) := by
  unfold lCame
  by_cases z : 6 ≤ F 8
  · rw [if_pos z]; exact okBad
  · rw [if_neg z]
    refine pN he (fun v1 a1 b1 h1 => pN h1 (fun v2 a2 b2 h2 => okOut (vq8 V (by omega) (fun k q1 q2 q3 => ?_) (fuS _ _ _) ?_ (nmk_same V.nm (fun k q1 q2 => ?_) ?_ ?_ ?_)) h2.1 h2.2))
    · simp (disch := omega) only [fuN]
    · simp (disch := omega) only [fuN, fuS]; omega
    · simp (disch := omega) only [fuN]
    · simp (disch := omega) only [fuN]
    · simp (disch := omega) only [fuN]
    · simp (disch := omega) only [fuN]
set_option maxRecDepth 100000 in
theorem okKnock (V : VQ F) (he : e0 < tE TP n e ∧ tE TP n e ≤ n) : OKp n e0 (lKnock TP n F e) := by
  have b := tEb (TP := TP) he.2
  have F01 := V.1.1
  unfold lKnock
  by_cases z : 8 ≤ F 6
  · rw [if_pos z]; exact okBad
  · rw [if_neg z]
    refine pTd (fun l u => ?_)
    have hh := FDh V.nm u
    refine pA (by omega) (fun v1 e1 a1 b1 h1 => pA h1 (fun v2 e2 a2 b2 h2 => pA h2 (fun v3 e3 a3 b3 h3 => okOut (vq6 V (by omega) (fun k q1 q2 q3 => ?_) (fuS _ _ _) ?_ (nmk_same V.nm (fun k q1 q2 => ?_) ?_ ?_ ?_)) h3.1 h3.2)))
    · simp (disch := omega) only [fuN]
    · simp (disch := omega) only [fuN, fuS]; omega
    · simp (disch := omega) only [fuN]
    · simp (disch := omega) only [fuN]
    · simp (disch := omega) only [fuN]
    · simp (disch := omega) only [fuN]
set_option maxRecDepth 100000 in
theorem okDown (V : VQ F) (he : e0 < tE TP n e ∧ tE TP n e ≤ n) : OKp n e0 (lDown TP n F e) := by
  have b := tEb (TP := TP) he.2
  have b2 := tEb (TP := TP) b.2
  unfold lDown
  by_cases z : 20 ≤ F 5
  · rw [if_pos z]; exact okBad
  · rw [if_neg z]
    refine pTd (fun l1 u1 => pTd (fun l2 u2 => ?_))
    have hs := FDs V.nm l1 u1
    have hh := FDh V.nm u2
    refine pA (by omega) (fun v1 e1 a1 b1 h1 => okOut (vq5 V (by omega) (fun k q1 q2 q3 => ?_) (fuS _ _ _) ?_ (nmk_same V.nm (fun k q1 q2 => ?_) ?_ ?_ ?_)) h1.1 h1.2)
    · simp (disch := omega) only [fuN]
    · simp (disch := omega) only [fuN, fuS]; omega
    · simp (disch := omega) only [fuN]
    · simp (disch := omega) only [fuN]
    · simp (disch := omega) only [fuN]
    · simp (disch := omega) only [fuN]
set_option maxRecDepth 100000 in
theorem okUp (V : VQ F) (he : e0 < tE TP n e ∧ tE TP n e ≤ n) : OKp n e0 (lUp TP n F e) := by
  have b := tEb (TP := TP) he.2
  unfold lUp
  by_cases z : 20 ≤ F 5
  · rw [if_pos z]; exact okBad
  · rw [if_neg z]
    refine pTd (fun l1 u1 => ?_)
    have hs := FDs V.nm l1 u1
    refine pA (by omega) (fun v1 e1 a1 b1 h1 => okOut (vq5 V (by omega) (fun k q1 q2 q3 => ?_) (fuS _ _ _) ?_ (nmk_same V.nm (fun k q1 q2 => ?_) ?_ ?_ ?_)) h1.1 h1.2)
    · simp (disch := omega) only [fuN]
    · simp (disch := omega) only [fuN, fuS]; omega
    · simp (disch := omega) only [fuN]
    · simp (disch := omega) only [fuN]
    · simp (disch := omega) only [fuN]
    · simp (disch := omega) only [fuN]
end OKL
