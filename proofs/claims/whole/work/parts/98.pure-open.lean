theorem pure_ok (xs : Nat → Int32) (L : Nat) (hL : L ≤ 3072) : ∃ hv, lq1 (fL_law_L23 xs L 0 181 201) FU 0 hB = some (true, hv) := by
  sorry
