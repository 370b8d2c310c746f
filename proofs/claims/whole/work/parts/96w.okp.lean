/-! a line that is read leaves bounds kept, and takes a sign -/
def OKp (n e0 : Nat) (o : Out) : Prop := o.el (fun q _ => 1 ≤ q ∧ q ≤ 6) (fun F1 e1 => VQ F1 ∧ e0 < e1 ∧ e1 ≤ n)
section OKP
variable {TP : Nat → Nat} {n e0 e : Nat} {F : Nat → Nat}
set_option maxRecDepth 100000 in
theorem okBad {q p : Nat} (h : 1 ≤ q ∧ q ≤ 6 := by omega) : OKp n e0 (.bad q p) := h
set_option maxRecDepth 100000 in
theorem okOut {F1 : Nat → Nat} {e1 : Nat} (V : VQ F1) (h1 : e0 < e1) (h2 : e1 ≤ n) : OKp n e0 (.ok F1 e1) := ⟨V, h1, h2⟩
set_option maxRecDepth 100000 in
theorem tEb (he : e ≤ n) : e ≤ tE TP n e ∧ tE TP n e ≤ n := by
  have a := tE_le (TP := TP) he
  have b := tA_le (TP := TP) he
  omega
set_option maxRecDepth 100000 in
theorem pW {w : Nat} {k : Nat → Out} (he : e0 < e ∧ e ≤ n) (nx : e0 < tE TP n e ∧ tE TP n e ≤ n → OKp n e0 (k (tE TP n e))) : OKp n e0 (sW TP n w e k) := by
  unfold sW
  have b := tEb (TP := TP) he.2
  by_cases z : WD TP n e w = true
  · rw [if_pos z]; exact nx (by omega)
  · rw [if_neg z]; exact okBad
set_option maxRecDepth 100000 in
theorem pN {lo hi : Nat} {k : Nat → Nat → Out} (he : e0 < e ∧ e ≤ n) (nx : ∀ v, lo ≤ v → v ≤ hi → e0 < tE TP n e ∧ tE TP n e ≤ n → OKp n e0 (k v (tE TP n e))) : OKp n e0 (sN TP n lo hi e k) := by
  unfold sN
  have b := tEb (TP := TP) he.2
  by_cases z : tK TP n e = 2
  · rw [if_pos z]
    by_cases y : lo ≤ tV TP n e ∧ tV TP n e ≤ hi
    · rw [if_pos y]; exact nx _ y.1 y.2 (by omega)
    · rw [if_neg y]; exact okBad
  · rw [if_neg z]; exact okBad
set_option maxRecDepth 100000 in
theorem pA {w lo hi : Nat} {k : Nat → Nat → Out} (he : e0 < e ∧ e ≤ n) (nx : ∀ v e2, lo ≤ v → v ≤ hi → e0 < e2 ∧ e2 ≤ n → OKp n e0 (k v e2)) : OKp n e0 (sA TP n w lo hi e k) := pW he (fun h1 => pN h1 (fun v q1 q2 h2 => nx v _ q1 q2 h2))
set_option maxRecDepth 100000 in
theorem pTd {lo hi : Nat} {k : Nat → Out} (nx : lo ≤ FD TP n F e → FD TP n F e ≤ hi → OKp n e0 (k (FD TP n F e - lo))) : OKp n e0 (sTd TP n F lo hi e k) := by
  unfold sTd
  by_cases z : nme TP n e = true
  · rw [if_pos z]
    by_cases y : lo ≤ FD TP n F e ∧ FD TP n F e ≤ hi
    · rw [if_pos y]; exact nx y.1 y.2
    · rw [if_neg y]; exact okBad
  · rw [if_neg z]; exact okBad
set_option maxRecDepth 100000 in
theorem pNm {m : Nat} {k : (Nat → Nat) → Nat → Out} (he : e0 < e ∧ e ≤ n) (nx : nme TP n e = true → FD TP n F e = 14 → e0 < tE TP n e ∧ tE TP n e ≤ n → OKp n e0 (k (addN TP n F m e) (tE TP n e))) : OKp n e0 (sNm TP n F m e k) := by
  unfold sNm
  have b := tEb (TP := TP) he.2
  by_cases z : nme TP n e = true
  · rw [if_pos z]
    by_cases y : FD TP n F e = 14
    · rw [if_pos y]; exact nx z y (by omega)
    · rw [if_neg y]; exact okBad
  · rw [if_neg z]; exact okBad
set_option maxRecDepth 100000 in
theorem pKd {k : Nat → Nat → Out} (he : e0 < e ∧ e ≤ n) (nx : ∀ kd, kd ≤ 3 → e0 < tE TP n e ∧ tE TP n e ≤ n → OKp n e0 (k kd (tE TP n e))) : OKp n e0 (sKd TP n e k) := by
  have b := tEb (TP := TP) he.2
  unfold sKd
  by_cases a0 : WD TP n e 15 = true
  · rw [if_pos a0]; exact nx 0 (by omega) (by omega)
  · rw [if_neg a0]
    by_cases a1 : WD TP n e 16 = true
    · rw [if_pos a1]; exact nx 1 (by omega) (by omega)
    · rw [if_neg a1]
      by_cases a2 : WD TP n e 17 = true
      · rw [if_pos a2]; exact nx 2 (by omega) (by omega)
      · rw [if_neg a2]
        by_cases a3 : WD TP n e 18 = true
        · rw [if_pos a3]; exact nx 3 (by omega) (by omega)
        · rw [if_neg a3]; exact okBad
set_option maxRecDepth 100000 in
theorem okDid (V : VQ F) (he : e0 < tE TP n e ∧ tE TP n e ≤ n) : OKp n e0 (lDid TP n F e) := by
  unfold lDid
  by_cases z : 6 ≤ F 9
  · rw [if_pos z]; exact okBad
  · rw [if_neg z]
    refine pN he (fun v1 a1 b1 h1 => pA h1 (fun v2 e2 a2 b2 h2 => pA h2 (fun v3 e3 a3 b3 h3 => okOut (vq9 V (by omega) (fun k q1 q2 q3 => ?_) (fuS _ _ _) ?_ (nmk_same V.nm (fun k q1 q2 => ?_) ?_ ?_ ?_)) h3.1 h3.2)))
    · simp (disch := omega) only [fuN]
    · simp (disch := omega) only [fuN, fuS]; omega
    · simp (disch := omega) only [fuN]
    · simp (disch := omega) only [fuN]
    · simp (disch := omega) only [fuN]
    · simp (disch := omega) only [fuN]
end OKP
