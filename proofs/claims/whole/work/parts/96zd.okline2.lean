/-! a line keeps the bounds -/
section OKF
variable {TP : Nat → Nat} {n e : Nat} {F : Nat → Nat}
set_option maxRecDepth 100000 in
theorem okLine (V : VP F) (he : e ≤ n) : OKp n e (sLine TP n F e) := by
  have b := tEb (TP := TP) he
  have hA := tA_le (TP := TP) he
  have adv : ∀ w, WD TP n e w = true → e < tE TP n e ∧ tE TP n e ≤ n := fun w z => by
    have k1 := (of_decide_eq_true z).1
    have := tE_gt (TP := TP) he (by omega)
    omega
  unfold sLine
  by_cases w0 : WD TP n e 0 = true
  · rw [if_pos w0]
    rcases V with Z | V
    · exact okDream Z (adv 0 w0)
    · have := V.2.1.2.1
      unfold lDream
      rw [if_neg (by omega)]; exact okBad
  · rw [if_neg w0]
    by_cases lw : LW TP n e = false
    · rw [if_pos lw]; exact okBad
    · rw [if_neg lw]
      by_cases f2 : F 2 = 0
      · rw [if_pos f2]; exact okBad
      · rw [if_neg f2]
        have V : VQ F := by
          rcases V with Z | V
          · exact absurd (Z 2 (by omega)) f2
          · exact V
        have adv2 : e < tE TP n e ∧ tE TP n e ≤ n := by
          have k1 : tK TP n e = 1 := by
            by_cases k : tK TP n e = 1
            · exact k
            · exfalso
              apply lw
              have nw : ∀ w, WD TP n e w = false := fun w => decide_eq_false (fun z => k z.1)
              unfold LW
              simp only [nw, Bool.or_false]
          have := tE_gt (TP := TP) he (by omega)
          omega
        by_cases w1 : WD TP n e 1 = true
        · rw [if_pos w1]; exact okHead V adv2
        · rw [if_neg w1]
          by_cases w2 : WD TP n e 2 = true
          · rw [if_pos w2]; exact okSleeper V adv2
          · rw [if_neg w2]
            by_cases w3 : WD TP n e 3 = true
            · rw [if_pos w3]; exact okDown V adv2
            · rw [if_neg w3]
              by_cases w4 : WD TP n e 4 = true
              · rw [if_pos w4]; exact okUp V adv2
              · rw [if_neg w4]
                by_cases w5 : WD TP n e 5 = true
                · rw [if_pos w5]; exact okKnock V adv2
                · rw [if_neg w5]
                  by_cases w6 : WD TP n e 6 = true
                  · rw [if_pos w6]; exact okTask V adv2
                  · rw [if_neg w6]
                    by_cases w7 : WD TP n e 7 = true
                    · rw [if_pos w7]; exact okPays V adv2
                    · rw [if_neg w7]
                      by_cases w8 : WD TP n e 8 = true
                      · rw [if_pos w8]; exact okThinks V adv2
                      · rw [if_neg w8]
                        by_cases w9 : WD TP n e 9 = true
                        · rw [if_pos w9]; exact okFelt V adv2
                        · rw [if_neg w9]
                          by_cases w10 : WD TP n e 10 = true
                          · rw [if_pos w10]; exact okCame V adv2
                          · rw [if_neg w10]; exact okDid V adv2
end OKF
