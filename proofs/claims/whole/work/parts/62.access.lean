theorem ad4 (d : Nat) : d + 4 + 1 = d + 5 := rfl
theorem ad6 (d : Nat) : d + 6 + 1 = d + 7 := rfl
theorem ad8 (d : Nat) : d + 8 + 1 = d + 9 := rfl
theorem ad10 (d : Nat) : d + 10 + 1 = d + 11 := rfl
theorem ad12 (d : Nat) : d + 12 + 1 = d + 13 := rfl
theorem ad14 (d : Nat) : d + 14 + 1 = d + 15 := rfl
theorem isKb_D {d : Nat} (h : isD d) : isKb 0 d = true := by rcases h with rfl | rfl <;> decide
theorem ln_D {d : Nat} (h : isD d) : ln (d + 5) = 30 ∧ ln (d + 7) = 60 ∧ ln (d + 9) = 32 ∧ ln (d + 11) = 18 ∧ ln (d + 13) = 18 ∧ ln (d + 15) = 18 := by rcases h with rfl | rfl <;> decide
theorem atR {h : HH} {w c m r k n : Nat} (q : RowsR h w c m) (hr : r < m) (hk : k < c) (hn : ln (w + 1) = n) (hb : r * c + k < n) (hm : m < 1000) (hc : c < 1000) (h9 : n < 2 ^ 31) : fX7_at w (nI r) (nI k) h = some (gI h (w + 1) (r * c + k), h) := by
  obtain ⟨q1, q2⟩ := q
  have h1 : ¬ m ≤ r := by omega
  have h2 : ¬ c ≤ k := by omega
  simp (disch := omega) only [lI, lJ, gd_1, bd_1, bv_1, nm_1, ixN, inbN, eqN, leN, ltN, eqL, leL, ltL, beqN, beqL, nI_add, pk_mul, lN_add, lN_mul, nI_l, lN_i, pk_div, pk_lDiv, pk_sub, lN_sub, remN, remL, neg1, neg2, negL, negL2, M1e, M1f, M1g, M1h, M1i, M1j, M2e, M2f, L1g, L1h, L1i, L1j, les_eq, les_e, les_n, les_m, fX7_at, q1, q2, hn, h1, h2, Nat.not_lt_zero, if_false]
/-! cells in rows -/
theorem cel_lt {r m c k N : Nat} (hr : r < m) (hk : k < c) (hN : m * c ≤ N) : r * c + k < N := by
  have : (r + 1) * c ≤ m * c := Nat.mul_le_mul_right c hr
  rw [Nat.add_mul] at this
  omega
section CLS
variable {h : HH} {d : Nat} {R : Nat → Nat}
theorem cSl (D : DRep h d R) (hd : isD d) (v : VR R) {s k : Nat} (hs : s < R 4) (hk : k < 6) : fX7_at (d + 4) (nI s) (nI k) h = some (gI h (d + 5) (s * 6 + k), h) := by
  have := v.S
  exact atR D.2.2.2.1.1 hs hk (ln_D hd).1 (cel_lt (N := 30) hs hk (by omega)) (by omega) (by omega) (by omega)
theorem cSt (D : DRep h d R) (hd : isD d) (v : VR R) {s k : Nat} (hs : s < R 5) (hk : k < 3) : fX7_at (d + 6) (nI s) (nI k) h = some (gI h (d + 7) (s * 3 + k), h) := by
  have := v.2.1
  exact atR D.2.2.2.1.2.1 hs hk (ln_D hd).2.1 (cel_lt (N := 60) hs hk (by omega)) (by omega) (by omega) (by omega)
theorem cKn (D : DRep h d R) (hd : isD d) (v : VR R) {s k : Nat} (hs : s < R 6) (hk : k < 4) : fX7_at (d + 8) (nI s) (nI k) h = some (gI h (d + 9) (s * 4 + k), h) := by
  have := v.2.1
  exact atR D.2.2.2.1.2.2.1 hs hk (ln_D hd).2.2.1 (cel_lt (N := 32) hs hk (by omega)) (by omega) (by omega) (by omega)
theorem cTa (D : DRep h d R) (hd : isD d) (v : VR R) {s k : Nat} (hs : s < R 7) (hk : k < 3) : fX7_at (d + 10) (nI s) (nI k) h = some (gI h (d + 11) (s * 3 + k), h) := by
  have := v.2.1
  exact atR D.2.2.2.1.2.2.2.1 hs hk (ln_D hd).2.2.2.1 (cel_lt (N := 18) hs hk (by omega)) (by omega) (by omega) (by omega)
theorem cSg (D : DRep h d R) (hd : isD d) (v : VR R) {s k : Nat} (hs : s < R 8) (hk : k < 3) : fX7_at (d + 12) (nI s) (nI k) h = some (gI h (d + 13) (s * 3 + k), h) := by
  have := v.2.1
  exact atR D.2.2.2.1.2.2.2.2.1 hs hk (ln_D hd).2.2.2.2.1 (cel_lt (N := 18) hs hk (by omega)) (by omega) (by omega) (by omega)
theorem cDi (D : DRep h d R) (hd : isD d) (v : VR R) {s k : Nat} (hs : s < R 9) (hk : k < 3) : fX7_at (d + 14) (nI s) (nI k) h = some (gI h (d + 15) (s * 3 + k), h) := by
  have := v.2.1
  exact atR D.2.2.2.1.2.2.2.2.2 hs hk (ln_D hd).2.2.2.2.2 (cel_lt (N := 18) hs hk (by omega)) (by omega) (by omega) (by omega)
theorem cQuick (D : DRep h d R) (v : VR R) {f : Nat} (hf : f ≤ R 0) : fX0_quickOf d (nI f) h = some (nI (qk R f), h) := by
  have := v.F
  simp (disch := omega) only [lI, lJ, gd_1, bd_1, bv_1, nm_1, ixN, inbN, eqN, leN, ltN, eqL, leL, ltL, beqN, beqL, nI_add, pk_mul, lN_add, lN_mul, nI_l, lN_i, pk_div, pk_lDiv, pk_sub, lN_sub, remN, remL, neg1, neg2, negL, negL2, M1e, M1f, M1g, M1h, M1i, M1j, M2e, M2f, L1g, L1h, L1i, L1j, les_eq, les_e, les_n, les_m, fX0_quickOf, D.2.2.1.1, D.1 f hf, hf, Nat.not_lt_zero, if_false, if_true]
theorem cBottom (D : DRep h d R) (v : VR R) : fX0_bottom d h = some (nI (bt R), h) := by
  simp (disch := omega) only [lI, lJ, gd_1, bd_1, bv_1, nm_1, ixN, inbN, eqN, leN, ltN, eqL, leL, ltL, beqN, beqL, nI_add, pk_mul, lN_add, lN_mul, nI_l, lN_i, pk_div, pk_lDiv, pk_sub, lN_sub, remN, remL, neg1, neg2, negL, negL2, M1e, M1f, M1g, M1h, M1i, M1j, M2e, M2f, L1g, L1h, L1i, L1j, les_eq, les_e, les_n, les_m, fX0_bottom, D.2.2.1.1, cQuick D v (Nat.le_refl (R 0)), bt]
theorem cRatio (D : DRep h d R) (v : VR R) {u l : Nat} (hu : u ≤ R 0) (hl : l ≤ R 0) : fX0_ratio d (nI u) (nI l) h = some (nI (rt R u l), h) := by
  have := v.F
  have q1 := qk_pos v u hu
  have q2 := qk_le v hu
  have q3 := qk_le v hl
  have n1 : ¬ R 0 < u := by omega
  have n2 : ¬ R 0 < l := by omega
  have n3 : ¬ qk R u ≤ 0 := by omega
  have n4 : ¬ qk R u = 0 := by omega
  simp (disch := omega) only [lI, lJ, gd_1, bd_1, bv_1, nm_1, ixN, inbN, eqN, leN, ltN, eqL, leL, ltL, beqN, beqL, nI_add, pk_mul, lN_add, lN_mul, nI_l, lN_i, pk_div, pk_lDiv, pk_sub, lN_sub, remN, remL, neg1, neg2, negL, negL2, M1e, M1f, M1g, M1h, M1i, M1j, M2e, M2f, L1g, L1h, L1i, L1j, les_eq, les_e, les_n, les_m, fX0_ratio, D.2.2.1.1, D.1 u hu, D.1 l hl, n1, n2, n3, n4, Nat.not_lt_zero, if_false, if_true, decide_false, Bool.not_false, rt]
theorem cMinute (D : DRep h d R) (v : VR R) {f : Nat} (hf : f ≤ R 0) : fX0_minuteOf d (nI f) h = some (nI (mn R f), h) := by
  simp (disch := omega) only [lI, lJ, gd_1, bd_1, bv_1, nm_1, ixN, inbN, eqN, leN, ltN, eqL, leL, ltL, beqN, beqL, nI_add, pk_mul, lN_add, lN_mul, nI_l, lN_i, pk_div, pk_lDiv, pk_sub, lN_sub, remN, remL, neg1, neg2, negL, negL2, M1e, M1f, M1g, M1h, M1i, M1j, M2e, M2f, L1g, L1h, L1i, L1j, les_eq, les_e, les_n, les_m, fX0_minuteOf, D.2.2.1.1, cRatio D v hf (Nat.le_refl (R 0)), mn]
end CLS
section MDL
variable {h : HH} {R : Nat → Nat}
theorem mBottom (M : MRep h R) (v : VR R) : fX9_bottom 181 h = some (nI (bt R), h) := by
  have := v.F
  simp (disch := omega) only [lI, lJ, gd_1, bd_1, bv_1, nm_1, ixN, inbN, eqN, leN, ltN, eqL, leL, ltL, beqN, beqL, nI_add, pk_mul, lN_add, lN_mul, nI_l, lN_i, pk_div, pk_lDiv, pk_sub, lN_sub, remN, remL, neg1, neg2, negL, negL2, M1e, M1f, M1g, M1h, M1i, M1j, M2e, M2f, L1g, L1h, L1i, L1j, les_eq, les_e, les_n, les_m, fX9_bottom, Nat.reduceAdd, M 0, mQuick M this.2, bt]
theorem mMinute (M : MRep h R) (v : VR R) {f : Nat} (hf : f ≤ R 0) : fX9_minute 181 (nI f) h = some (lN (mn R f), h) := by
  have := v.F
  have q1 := qk_pos v f hf
  have q2 := qk_le v hf
  have q3 := v.bt
  have n4 : ¬ qk R f = 0 := by omega
  have q4 : bt R / qk R f < 2 ^ 31 := Nat.lt_of_le_of_lt (Nat.div_le_self _ _) (by omega)
  simp (disch := omega) only [lI, lJ, gd_1, bd_1, bv_1, nm_1, ixN, inbN, eqN, leN, ltN, eqL, leL, ltL, beqN, beqL, nI_add, pk_mul, lN_add, lN_mul, nI_l, lN_i, pk_div, pk_lDiv, pk_sub, lN_sub, remN, remL, neg1, neg2, negL, negL2, M1e, M1f, M1g, M1h, M1i, M1j, M2e, M2f, L1g, L1h, L1i, L1j, les_eq, les_e, les_n, les_m, fX9_minute, mBottom M v, mQuick M (f := f) (by omega), n4, decide_false, Bool.not_false]
  rfl
end MDL
