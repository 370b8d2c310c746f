theorem rem_half {b c : Nat} (h0 : 0 < c) (h : c < b) : 2 * (b % c) < b := by
  have h1 := Nat.mod_lt b h0
  have h2 := Nat.div_add_mod b c
  have h3 : 1 ≤ b / c := Nat.div_pos (by omega) h0
  have h4 : c * 1 ≤ c * (b / c) := Nat.mul_le_mul_left c h3
  omega
/-! Euclid's loop, by two turns at a time: I k a b fuel says that it ends from there with the last upper one -/
theorem euclid (I : Nat → Nat → Nat → Prop) (h0 : ∀ a n, 1 ≤ n → I a 0 n) (hs : ∀ a b n, 0 < b → I b (a % b) n → I a b (n + 1)) : ∀ k a b, b < 2 ^ k → ∀ n, 2 * k + 1 ≤ n → I a b n := by
  intro k
  induction k with
  | zero => intro a b hb n hn
            have : b = 0 := by omega
            subst this; exact h0 a n (by omega)
  | succ k ih =>
    intro a b hb n hn
    rcases Nat.eq_zero_or_pos b with e | e
    · subst e; exact h0 a n (by omega)
    obtain ⟨n, rfl⟩ : ∃ m, n = m + 1 := ⟨n - 1, by omega⟩
    refine hs a b n e ?_
    rcases Nat.eq_zero_or_pos (a % b) with e1 | e1
    · rw [e1]; exact h0 b n (by omega)
    obtain ⟨n, rfl⟩ : ∃ m, n = m + 1 := ⟨n - 1, by omega⟩
    refine hs b (a % b) n e1 (ih _ _ ?_ n (by omega))
    have := rem_half e1 (Nat.mod_lt a e)
    rw [Nat.pow_succ] at hb
    omega
def lowF (u d : Nat) (b : Bool) : Nat := (bif b then d else u) / Nat.gcd u d
theorem mLow {h : HH} {u d : Nat} (b : Bool) (hu : u < 2 ^ 63) (h0 : 0 < d) (hd : d < 2 ^ 63) : fX9_lowest (lN u) (lN d) b h = some (lN (lowF u d b), h) := by
  have main := euclid (fun x y n => x < 2 ^ 63 → y < 2 ^ 63 → (0 < x ∨ 0 < y) → Nat.gcd x y = Nat.gcd u d → lq2 (fX9_lowest_L6 (lN u) (lN d) b) n (lN x) (lN y) h = some (lN (lowF u d b), h)) ?_ ?_ 63 u d hd FU (by unfold FU; omega)
  · exact main hu hd (Or.inr h0) rfl
  · intro x n hn hx hy hp hg
    obtain ⟨n, rfl⟩ : ∃ m, n = m + 1 := ⟨n - 1, by omega⟩
    have hx0 : ¬ x = 0 := by omega
    rw [Nat.gcd_zero_right] at hg
    cases b <;> simp (disch := omega) only [lI, lJ, gd_1, bd_1, bv_1, nm_1, ixN, inbN, eqN, leN, ltN, eqL, leL, ltL, beqN, beqL, nI_add, pk_mul, lN_add, lN_mul, nI_l, lN_i, pk_div, pk_lDiv, pk_sub, lN_sub, remN, remL, neg1, neg2, negL, negL2, M1e, M1f, M1g, M1h, M1i, M1j, M2e, M2f, L1g, L1h, L1i, L1j, les_eq, les_e, les_n, les_m, lq2, fX9_lowest_L6, if_true, hx0, decide_false, Bool.not_false, cond_true, cond_false, lowF, ← hg]
  · intro x y n hy ih hx hy2 hp hg
    have hy0 : ¬ y = 0 := by omega
    have := Nat.mod_lt x hy
    simp (disch := omega) only [lI, lJ, gd_1, bd_1, bv_1, nm_1, ixN, inbN, eqN, leN, ltN, eqL, leL, ltL, beqN, beqL, nI_add, pk_mul, lN_add, lN_mul, nI_l, lN_i, pk_div, pk_lDiv, pk_sub, lN_sub, remN, remL, neg1, neg2, negL, negL2, M1e, M1f, M1g, M1h, M1i, M1j, M2e, M2f, L1g, L1h, L1i, L1j, les_eq, les_e, les_n, les_m, lq2, fX9_lowest_L6, if_false, hy0, decide_false, Bool.not_false]
    refine ih hy2 (by omega) (Or.inl hy) ?_
    rw [← hg, Nat.gcd_comm y, ← Nat.gcd_rec, Nat.gcd_comm]
theorem cQuo {h : HH} {u d : Nat} (hu : u < 2 ^ 63) (h0 : 0 < d) (hd : d < 2 ^ 63) : fX8_quotient (lN u) (lN d) h = some (lN (u / d), h) := by
  have hn : ¬ d = 0 := by omega
  simp (disch := omega) only [lI, lJ, gd_1, bd_1, bv_1, nm_1, ixN, inbN, eqN, leN, ltN, eqL, leL, ltL, beqN, beqL, nI_add, pk_mul, lN_add, lN_mul, nI_l, lN_i, pk_div, pk_lDiv, pk_sub, lN_sub, remN, remL, neg1, neg2, negL, negL2, M1e, M1f, M1g, M1h, M1i, M1j, M2e, M2f, L1g, L1h, L1i, L1j, les_eq, les_e, les_n, les_m, fX8_quotient, if_false, hn, decide_false, Bool.not_false]
theorem cLow {h : HH} {u d : Nat} (b : Bool) (hu : u < 2 ^ 63) (h0 : 0 < d) (hd : d < 2 ^ 63) : fX8_inLowestTerms (lN u) (lN d) b h = some (lN (lowF u d b), h) := by
  rcases Nat.eq_zero_or_pos u with e | e
  · subst e
    have e2 : lowF 0 d b = if b = true then 1 else 0 := by
      unfold lowF; rw [Nat.gcd_zero_left]; cases b <;> simp [h0]
    cases b <;> simp (disch := omega) only [lI, lJ, gd_1, bd_1, bv_1, nm_1, ixN, inbN, eqN, leN, ltN, eqL, leL, ltL, beqN, beqL, nI_add, pk_mul, lN_add, lN_mul, nI_l, lN_i, pk_div, pk_lDiv, pk_sub, lN_sub, remN, remL, neg1, neg2, negL, negL2, M1e, M1f, M1g, M1h, M1i, M1j, M2e, M2f, L1g, L1h, L1i, L1j, les_eq, les_e, les_n, les_m, fX8_inLowestTerms, if_true, cond_true, cond_false, e2] <;> rfl
  have main := euclid (fun x y n => ∀ i, i + n ≤ 200 → x < 2 ^ 63 → y < 2 ^ 63 → (0 < x ∨ 0 < y) → Nat.gcd x y = Nat.gcd u d → ∀ m, n ≤ m → lq3 (fX8_inLowestTerms_L26 (lN u) (lN d) b) m (lN x) (lN y) (nI i) h = some (lN (lowF u d b), h)) ?_ ?_ 63 u d hd 127 (by omega)
  · have hn : ¬ u = 0 := by omega
    simp (disch := omega) only [lI, lJ, gd_1, bd_1, bv_1, nm_1, ixN, inbN, eqN, leN, ltN, eqL, leL, ltL, beqN, beqL, nI_add, pk_mul, lN_add, lN_mul, nI_l, lN_i, pk_div, pk_lDiv, pk_sub, lN_sub, remN, remL, neg1, neg2, negL, negL2, M1e, M1f, M1g, M1h, M1i, M1j, M2e, M2f, L1g, L1h, L1i, L1j, les_eq, les_e, les_n, les_m, fX8_inLowestTerms, if_false, hn]
    exact main 0 (by omega) hu hd (Or.inr h0) rfl FU (by unfold FU; omega)
  · intro x n hn i hi hx hy hp hg m hm
    obtain ⟨m, rfl⟩ : ∃ q, m = q + 1 := ⟨m - 1, by omega⟩
    have hx0 : 0 < x := by omega
    have hi2 : ¬ 200 ≤ i := by omega
    rw [Nat.gcd_zero_right] at hg
    cases b <;> simp (disch := omega) only [lI, lJ, gd_1, bd_1, bv_1, nm_1, ixN, inbN, eqN, leN, ltN, eqL, leL, ltL, beqN, beqL, nI_add, pk_mul, lN_add, lN_mul, nI_l, lN_i, pk_div, pk_lDiv, pk_sub, lN_sub, remN, remL, neg1, neg2, negL, negL2, M1e, M1f, M1g, M1h, M1i, M1j, M2e, M2f, L1g, L1h, L1i, L1j, les_eq, les_e, les_n, les_m, lq3, fX8_inLowestTerms_L26, if_true, if_false, hi2, cond_true, cond_false, lowF, ← hg, cQuo]
  · intro x y n hy ih i hi hx hy2 hp hg m hm
    obtain ⟨m, rfl⟩ : ∃ q, m = q + 1 := ⟨m - 1, by omega⟩
    have hy0 : ¬ y = 0 := by omega
    have hi2 : ¬ 200 ≤ i := by omega
    have := Nat.mod_lt x hy
    simp (disch := omega) only [lI, lJ, gd_1, bd_1, bv_1, nm_1, ixN, inbN, eqN, leN, ltN, eqL, leL, ltL, beqN, beqL, nI_add, pk_mul, lN_add, lN_mul, nI_l, lN_i, pk_div, pk_lDiv, pk_sub, lN_sub, remN, remL, neg1, neg2, negL, negL2, M1e, M1f, M1g, M1h, M1i, M1j, M2e, M2f, L1g, L1h, L1i, L1j, les_eq, les_e, les_n, les_m, lq3, fX8_inLowestTerms_L26, if_false, hy0, hi2, decide_false, Bool.not_false]
    refine ih (i + 1) (by omega) hy2 (by omega) (Or.inl hy) ?_ m (by omega)
    rw [← hg, Nat.gcd_comm y, ← Nat.gcd_rec, Nat.gcd_comm]
theorem cLow0 {h : HH} (d : Int64) (b : Bool) : fX8_inLowestTerms (lN 0) d b h = some (lN (bif b then 1 else 0), h) := by
  cases b <;> simp (disch := omega) only [lI, lJ, gd_1, bd_1, bv_1, nm_1, ixN, inbN, eqN, leN, ltN, eqL, leL, ltL, beqN, beqL, nI_add, pk_mul, lN_add, lN_mul, nI_l, lN_i, pk_div, pk_lDiv, pk_sub, lN_sub, remN, remL, neg1, neg2, negL, negL2, M1e, M1f, M1g, M1h, M1i, M1j, M2e, M2f, L1g, L1h, L1i, L1j, les_eq, les_e, les_n, les_m, fX8_inLowestTerms, if_true, cond_true, cond_false]
