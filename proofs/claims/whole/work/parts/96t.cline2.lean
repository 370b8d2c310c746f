/-! the class reads a line -/
section CLL
variable {TP : Nat → Nat} {n d e : Nat} {h : HH} {F : Nat → Nat}
set_option maxRecDepth 100000 in
theorem clLine (H : HT TP n) (V : VP F) (L : LnS TP n d h F e) : CR TP n d h (sLine TP n F e) (fX5_readLine 2 h) := by
  obtain ⟨hd, S, D, C, RM⟩ := id L
  have sp : ∀ w, w < 58 → fX5_spells 2 w h = some (WD TP n e w, h) := fun w hw => cSpell hw S.2.2.2 S.2.1
  have hd6 : 44 ≤ d := by unfold isD at hd; omega
  unfold sLine fX5_readLine
  rw [cLW S, bd_1]
  cases w0 : WD TP n e 0 with
  | true =>
    have lw : LW TP n e = true := by unfold LW; rw [w0]; simp only [Bool.true_or]
    rw [if_pos rfl, lw, cond_true, sp 0 (by omega), w0, bd_1, cond_true]
    refine CR.wrap2 ?_
    rcases V with Z | V
    · exact clDream H Z L
    · exact clDream2 V L
  | false =>
    rw [if_neg (fun z => by cases z)]
    cases lw : LW TP n e with
    | false =>
      rw [if_pos rfl, cond_false]
      exact CR.wrap2 (CRbad S rfl Keep.rfl)
    | true =>
      rw [if_neg (fun z => by cases z), cond_true, sp 0 (by omega), w0, bd_1, cond_false]
      refine rG hd S ?_
      rw [S.2.2.1, D.2.2.1.1]
      rcases V with Z | V
      · rw [if_pos (Z 2 (by omega)), Z 0 (by omega), if_pos (show nI 0 = (0 : Int32) from rfl)]
        exact CR.wrap2 (CRbad S rfl Keep.rfl)
      · have b0 := V.1.1
        have b1 := V.1.2.1
        have b2 := V.2.1.2.1
        rw [if_neg (show ¬ F 2 = 0 by omega), if_neg (show ¬ nI (F 0) = (0 : Int32) by show ¬ nI (F 0) = nI 0; rw [eqN (by omega) (by omega)]; omega), sp 1 (by omega), bd_1]
        cases WD TP n e 1 with
        | true => rw [if_pos rfl, cond_true]; exact CR.wrap2 (clHead H V L)
        | false =>
          rw [if_neg (fun z => by cases z), cond_false, sp 2 (by omega), bd_1]
          cases WD TP n e 2 with
          | true => rw [if_pos rfl, cond_true]; exact clSleeper H V L
          | false =>
            rw [if_neg (fun z => by cases z), cond_false, sp 3 (by omega), bd_1]
            cases WD TP n e 3 with
            | true => rw [if_pos rfl, cond_true]; exact clDown H V L
            | false =>
              rw [if_neg (fun z => by cases z), cond_false, sp 4 (by omega), bd_1]
              cases WD TP n e 4 with
              | true => rw [if_pos rfl, cond_true]; exact clUp H V L
              | false =>
                rw [if_neg (fun z => by cases z), cond_false, sp 5 (by omega), bd_1]
                cases WD TP n e 5 with
                | true => rw [if_pos rfl, cond_true]; exact clKnock H V L
                | false =>
                  rw [if_neg (fun z => by cases z), cond_false, sp 6 (by omega), bd_1]
                  cases WD TP n e 6 with
                  | true => rw [if_pos rfl, cond_true]; exact clTask H V L
                  | false =>
                    rw [if_neg (fun z => by cases z), cond_false, sp 7 (by omega), bd_1]
                    cases WD TP n e 7 with
                    | true => rw [if_pos rfl, cond_true]; exact CR.wrap2 (clPays H V L)
                    | false =>
                      rw [if_neg (fun z => by cases z), cond_false, sp 8 (by omega), bd_1]
                      cases WD TP n e 8 with
                      | true => rw [if_pos rfl, cond_true]; exact CR.wrap2 (clThinks H V L)
                      | false =>
                        rw [if_neg (fun z => by cases z), cond_false, sp 9 (by omega), bd_1]
                        cases WD TP n e 9 with
                        | true => rw [if_pos rfl, cond_true]; exact clFelt H V L
                        | false =>
                          rw [if_neg (fun z => by cases z), cond_false, sp 10 (by omega), bd_1]
                          cases WD TP n e 10 with
                          | true => rw [if_pos rfl, cond_true]; exact clCame H V L
                          | false =>
                            rw [if_neg (fun z => by cases z), cond_false]
                            exact clDid H V L
end CLL
