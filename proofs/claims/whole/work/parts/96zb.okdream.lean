/-! the dream line keeps the bounds; a line does -/
section OKD
variable {TP : Nat → Nat} {n e0 : Nat} {F : Nat → Nat}
/-- rates told so far, and nothing else -/
def RTs (G : Nat → Nat) : Prop := G 0 ≤ 4 ∧ (∀ f, f < G 0 → 2 ≤ G (11 + f) ∧ G (11 + f) ≤ 12) ∧ (∀ k, k ≠ 0 → ¬ (11 ≤ k ∧ k < 15) → k < 316 → G k = 0)
set_option maxRecDepth 100000 in
theorem okRt {k : (Nat → Nat) → Nat → Out} (nx : ∀ G e2, 1 ≤ G 0 → RTs G → e0 < e2 ∧ e2 ≤ n → OKp n e0 (k G e2)) : ∀ f (G : Nat → Nat) e, f + G 0 = 5 → e0 < e ∧ e ≤ n → RTs G → OKp n e0 (sRt TP n f G e k) := by
  intro f
  induction f with
  | zero => intro G e h5 _ R; have := R.1; exfalso; omega
  | succ f ih =>
    intro G e h5 he R
    obtain ⟨r1, r2, r3⟩ := R
    show OKp n e0 (sN TP n 2 12 e _)
    refine pN he (fun v a1 b1 h1 => ?_)
    by_cases z : G 0 = 4
    · rw [if_pos z]; exact okBad
    · rw [if_neg z]
      have R' : RTs (fu (fu G (11 + G 0) v) 0 (G 0 + 1)) := by
        refine ⟨by rw [fuS]; omega, fun f hf => ?_, fun q q1 q2 q3 => ?_⟩
        · rw [fuS] at hf
          rw [fuN _ (by omega)]
          by_cases y : f = G 0
          · subst y; rw [fuS]; exact ⟨a1, b1⟩
          · rw [fuN _ (by omega)]; exact r2 f (by omega)
        · rw [fuN _ q1, fuN _ (by omega)]; exact r3 q q1 q2 q3
      have b := tEb (TP := TP) h1.2
      by_cases y : tK TP n (tE TP n e) = 4
      · rw [if_pos y]; exact ih _ _ (by rw [fuS]; omega) (by omega) R'
      · rw [if_neg y]; exact nx _ _ (by rw [fuS]; omega) R' h1
end OKD
