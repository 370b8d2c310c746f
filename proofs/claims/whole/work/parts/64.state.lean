/-- the class's night at a: N the small numbers, T the ticks -/
def NRep (h : HH) (a : Nat) (R N T : Nat → Nat) : Prop :=
  gL h a 6 = lN (T 0) ∧ (∀ s, s < 5 → gI h (a + 1) s = nI (N (4 * s + 0)) ∧ gI h (a + 2) s = les M2 (N (4 * s + 1)) ∧ gI h (a + 3) s = nI (N (4 * s + 2)) ∧ gI h (a + 4) s = nI (N (4 * s + 3)) ∧ gL h (a + 5) s = lN (T (1 + s))) ∧
  (∀ s, s < R 4 → ∃ p, gL h (a + 6) s = lN p ∧ p + (T 0 - T (1 + s)) * qk R (N (4 * s + 0)) = T (6 + 5 * s + 0) * qk R 0 + T (6 + 5 * s + 1) * qk R 1 + T (6 + 5 * s + 2) * qk R 2 + T (6 + 5 * s + 3) * qk R 3 + T (6 + 5 * s + 4) * qk R 4)
def MNRep (h : HH) (N T : Nat → Nat) : Prop := (∀ k, k < 20 → gI h 186 k = nI (N k)) ∧ (∀ k, k < 31 → gL h 190 k = lN (T k))
/-- the next step of a sleeper of whom n are done: its number among all -/
def scan (R : Nat → Nat) (s n : Nat) : Nat → Option Nat
  | 0 => none
  | k + 1 => match scan R s n k with
    | some j => some j
    | none => if R (40 + 3 * k) = s ∧ cnt R s k = n then some k else none
def nst (R : Nat → Nat) (s n : Nat) : Option Nat := scan R s n (R 5)
/-- when his next step is due -/
def due (R N T : Nat → Nat) (s : Nat) : Option Nat := (nst R s (N (4 * s + 2))).map (fun k => T (1 + s) + R (40 + 3 * k + 2) * mn R (N (4 * s + 0)))
/-- what a night keeps to; B: awake minutes at most -/
def VN (R N T : Nat → Nat) (B : Nat) : Prop :=
  T 0 ≤ B * bt R ∧ (∀ s, s < 5 → N (4 * s + 0) ≤ R 0 ∧ N (4 * s + 1) ≤ R 3 ∧ (N (4 * s + 0) = 0 ↔ N (4 * s + 1) = 0) ∧ N (4 * s + 2) ≤ cnt R s (R 5) ∧ T (1 + s) ≤ T 0) ∧
  (∀ s, s < R 4 → T (6 + 5 * s + 0) + T (6 + 5 * s + 1) + T (6 + 5 * s + 2) + T (6 + 5 * s + 3) + T (6 + 5 * s + 4) = T 0 ∧ ∀ f, R 0 < f → f < 5 → T (6 + 5 * s + f) = 0)
def SN (R N T : Nat → Nat) : Prop := ∀ s, s < R 4 → ∀ t, due R N T s = some t → T 0 < t
/-- the class with a dream; the model with one -/
def CA (h : HH) (d : Nat) (R N T : Nat → Nat) : Prop := gR h 0 10 = d ∧ isD d ∧ gI h 0 12 = nI 1 ∧ DRep h d R ∧ VR R ∧ NRep h 6 R N T ∧ VN R N T 1200 ∧ SN R N T
def MA (h : HH) (R N T : Nat → Nat) : Prop := gI h 181 14 = nI 1 ∧ MRep h R ∧ VR R ∧ MNRep h N T ∧ VN R N T 1200 ∧ SN R N T
/-- what a question leaves as it is, of the class, of the model -/
def PQ (b k : Nat) : Prop := ¬ (b = 0 ∧ k = 16) ∧ ¬ (13 ≤ b ∧ b ≤ 27)
def PM (b k : Nat) : Prop := ¬ (b = 181 ∧ (k = 0 ∨ k = 11 ∨ (29 ≤ k ∧ k ≤ 32) ∨ (36 ≤ k ∧ k ≤ 41))) ∧ ¬ (b = 189 ∨ b = 193 ∨ (194 ≤ b ∧ b ≤ 200))
def CQ {α : Type} (h : HH) (x : Option (α × HH)) (a : α) (t : Nat) : Prop := ∃ h', x = some (a, h') ∧ gI h' 0 16 = nI t ∧ Keep PQ h h'
def MQ' {α : Type} (h : HH) (x : Option (α × HH)) (a : α) (t : Nat) : Prop := ∃ h', x = some (a, h') ∧ gI h' 181 11 = nI t ∧ Keep PM h h'
/-- class and model answer alike, and nothing that counts has changed -/
def OpQ {α : Type} (h : HH) (x : Option (α × HH)) (y : HH → Option (α × HH)) (M : HH → Prop) : Prop := ∃ a t, (t ≠ 4 ∧ t < 100) ∧ CQ h x a t ∧ ∀ h1, M h1 → MQ' h1 (y h1) a t
theorem CQ.of {α : Type} {h : HH} {x : Option (α × HH)} {a : α} {t : Nat} (e : x = some (a, sI h 0 16 (nI t))) : CQ h x a t := ⟨_, e, by rw [gI_sI, if_pos ⟨rfl, rfl⟩], Keep.rfl.sI (by unfold PQ; omega)⟩
theorem MQ'.of {α : Type} {h g : HH} {x : Option (α × HH)} {a : α} {t : Nat} (e : x = some (a, g)) (hg : gI g 181 11 = nI t) (K : Keep PM h g) : MQ' h x a t := ⟨_, e, hg, K⟩
theorem MQ'.no {α : Type} {h g : HH} {x : Option (α × HH)} {a : α} {t : Nat} (e : x = some (a, sI g 181 11 (nI t))) (K : Keep PM h g) : MQ' h x a t := ⟨_, e, by rw [gI_sI, if_pos ⟨rfl, rfl⟩], K.sI (by unfold PM; omega)⟩
theorem MNRep.keep {P : Nat → Nat → Prop} {h h' : HH} {N T : Nat → Nat} (a : MNRep h N T) (K : Keep P h h') (p1 : ∀ k, P 186 k) (p2 : ∀ k, P 190 k) : MNRep h' N T := ⟨fun k hk => (K 186 k (p1 k)).1.trans (a.1 k hk), fun k hk => (K 190 k (p2 k)).2.1.trans (a.2 k hk)⟩
theorem NRep.keep {P : Nat → Nat → Prop} {h h' : HH} {a : Nat} {R N T : Nat → Nat} (q : NRep h a R N T) (K : Keep P h h') (hp : ∀ b k, a ≤ b → b ≤ a + 6 → P b k) : NRep h' a R N T := by
  have e : ∀ b k, a ≤ b → b ≤ a + 6 → gI h' b k = gI h b k := fun b k h1 h2 => (K b k (hp b k h1 h2)).1
  have e2 : ∀ b k, a ≤ b → b ≤ a + 6 → gL h' b k = gL h b k := fun b k h1 h2 => (K b k (hp b k h1 h2)).2.1
  obtain ⟨q1, q2, q3⟩ := q
  refine ⟨?_, fun s hs => ?_, fun s hs => ?_⟩
  · rw [e2 _ _ (by omega) (by omega)]; exact q1
  · rw [e _ _ (by omega) (by omega), e _ _ (by omega) (by omega), e _ _ (by omega) (by omega), e _ _ (by omega) (by omega), e2 _ _ (by omega) (by omega)]; exact q2 s hs
  · rw [e2 _ _ (by omega) (by omega)]; exact q3 s hs
theorem MA.keep {h h' : HH} {R N T : Nat → Nat} (a : MA h R N T) (K : Keep PM h h') : MA h' R N T := by
  obtain ⟨a1, a2, a3, a4, a5, a6⟩ := a
  exact ⟨(K 181 14 (by unfold PM; omega)).1.trans a1, a2.keep K (fun k => by unfold PM; omega), a3, a4.keep K (fun k => by unfold PM; omega) (fun k => by unfold PM; omega), a5, a6⟩
theorem MA.keepQ {h h' : HH} {R N T : Nat → Nat} (a : MA h R N T) (K : Keep PQ h h') : MA h' R N T := by
  obtain ⟨a1, a2, a3, a4, a5, a6⟩ := a
  exact ⟨(K 181 14 (by unfold PQ; omega)).1.trans a1, a2.keep K (fun k => by unfold PQ; omega), a3, a4.keep K (fun k => by unfold PQ; omega) (fun k => by unfold PQ; omega), a5, a6⟩
theorem CA.keep {h h' : HH} {d : Nat} {R N T : Nat → Nat} (a : CA h d R N T) (K : Keep PQ h h') : CA h' d R N T := by
  obtain ⟨a1, a2, a3, a4, a5, a6, a7⟩ := a
  refine ⟨(K 0 10 (by unfold PQ; omega)).2.2.trans a1, a2, (K 0 12 (by unfold PQ; omega)).1.trans a3, a4.keep K (fun b k h1 h2 => ?_), a5, a6.keep K (fun b k h1 h2 => by unfold PQ; omega), a7⟩
  rcases a2 with rfl | rfl <;> (unfold PQ; omega)
/-! thrown and trouble are put to 0 at the beginning of a question -/
theorem mGood {h : HH} {R N T : Nat → Nat} (a : MA h R N T) : ∃ g, fX9_good 181 h = some g ∧ MA g R N T ∧ Keep PM h g ∧ gI g 181 11 = nI 0 := by
  have K : Keep PM h (sI (sI h 181 0 0) 181 11 0) := (Keep.rfl.sI (by unfold PM; omega)).sI (by unfold PM; omega)
  exact ⟨_, rfl, a.keep K, K, by rw [gI_sI, if_pos ⟨rfl, rfl⟩]; rfl⟩
theorem mGoodI {h : HH} (a : gI h 181 14 = 0) : ∃ g, fX9_good 181 h = some g ∧ gI g 181 14 = 0 ∧ Keep PM h g ∧ gI g 181 11 = nI 0 := by
  have K : Keep PM h (sI (sI h 181 0 0) 181 11 0) := (Keep.rfl.sI (by unfold PM; omega)).sI (by unfold PM; omega)
  exact ⟨_, rfl, (K 181 14 (by unfold PM; omega)).1.trans a, K, by rw [gI_sI, if_pos ⟨rfl, rfl⟩]; rfl⟩
/-! where a number that a caller gives lies -/
theorem rng (x : Int32) {n : Nat} (hn : n < 2 ^ 31) : (∃ j, j ≤ n ∧ x = nI j) ∨ x < nI 0 ∨ (¬ x < nI 0 ∧ ¬ x ≤ nI n ∧ nI n < x ∧ nI (n + 1) ≤ x) ∨ (n + 1 = 2 ^ 31 ∧ ¬ x < nI 0 ∧ ¬ x ≤ nI n) := by
  have h0 : (nI 0).toInt = 0 := by decide
  have hx := Int32.toInt_lt x
  by_cases h : x < nI 0
  · exact Or.inr (Or.inl h)
  · rw [Int32.lt_iff_toInt_lt, h0] at h
    by_cases h2 : x.toInt ≤ (n : Int)
    · refine Or.inl ⟨x.toInt.toNat, by omega, Int32.toInt_inj.mp ?_⟩
      rw [nI_toInt (by omega)]; omega
    · refine Or.inr (Or.inr (Or.inl ⟨?_, ?_, ?_, ?_⟩))
      · rw [Int32.lt_iff_toInt_lt, h0]; omega
      · rw [Int32.le_iff_toInt_le, nI_toInt hn]; omega
      · rw [Int32.lt_iff_toInt_lt, nI_toInt hn]; omega
      · rw [Int32.le_iff_toInt_le, nI_toInt (by omega)]; omega
theorem rg (x : Int32) {lo hi : Nat} (hn : hi < 2 ^ 31) (hl : lo < 2 ^ 31) : (∃ j, lo ≤ j ∧ j ≤ hi ∧ x = nI j) ∨ x < nI lo ∨ (¬ x < nI lo ∧ nI hi < x ∧ ¬ x ≤ nI hi) := by
  have hx := Int32.toInt_lt x
  by_cases h : x < nI lo
  · exact Or.inr (Or.inl h)
  · have h' := h
    rw [Int32.lt_iff_toInt_lt, nI_toInt hl] at h
    by_cases h2 : x.toInt ≤ (hi : Int)
    · refine Or.inl ⟨x.toInt.toNat, by omega, by omega, Int32.toInt_inj.mp ?_⟩
      rw [nI_toInt (by omega)]; omega
    · refine Or.inr (Or.inr ⟨h', ?_, ?_⟩)
      · rw [Int32.lt_iff_toInt_lt, nI_toInt hn]; omega
      · rw [Int32.le_iff_toInt_le, nI_toInt hn]; omega
theorem wa {x : Int32} {b n : Nat} {h : HH} : x < nI b → fX9_within x (nI b) (nI n) h = some (false, h) := fun hx => by simp only [fX9_within, hx, if_true]
theorem wb {x : Int32} {b n : Nat} {h : HH} : ¬ x < nI b → nI n < x → fX9_within x (nI b) (nI n) h = some (false, h) := fun hx hy => by simp only [fX9_within, hx, hy, if_true, if_false]
theorem wit {x : Int32} {n : Nat} {h : HH} : x < nI 0 → fX9_within x (nI 0) (nI n) h = some (false, h) := fun hx => by simp only [fX9_within, hx, if_true]
theorem wit2 {x : Int32} {n : Nat} {h : HH} : ¬ x < nI 0 → nI n < x → fX9_within x (nI 0) (nI n) h = some (false, h) := fun hx hy => by simp only [fX9_within, hx, hy, if_true, if_false]
theorem wit3 {a b c : Nat} {h : HH} (h1 : b ≤ a) (h2 : a ≤ c) (hc : c < 2 ^ 31) : fX9_within (nI a) (nI b) (nI c) h = some (true, h) := by
  have n1 : ¬ a < b := by omega
  have n2 : ¬ c < a := by omega
  simp (disch := omega) only [lI, lJ, gd_1, bd_1, bv_1, nm_1, ixN, inbN, eqN, leN, ltN, eqL, leL, ltL, beqN, beqL, nI_add, pk_mul, lN_add, lN_mul, nI_l, lN_i, pk_div, pk_lDiv, pk_sub, lN_sub, remN, remL, neg1, neg2, negL, negL2, M1e, M1f, M1g, M1h, M1i, M1j, M2e, M2f, L1g, L1h, L1i, L1j, les_eq, les_e, les_n, les_m, fX9_within, n1, n2, if_false]
section CASES
variable {h : HH} {d : Nat} {R N T : Nat → Nat}
theorem flC (C : CA h d R N T) (x : Int32) : (∃ f, f ≤ R 0 ∧ x = nI f ∧ fX8_isFloor 0 x h = some (true, h) ∧ ∀ h1, MA h1 R N T → fX9_isFloor 181 x h1 = some (true, h1)) ∨ (fX8_isFloor 0 x h = some (false, h) ∧ ∀ h1, MA h1 R N T → fX9_isFloor 181 x h1 = some (false, h1)) := by
  obtain ⟨c1, c2, c3, c4, v, c6, c7⟩ := C
  have k := isKb_D c2
  have vF := v.F
  have f0 := c4.2.2.1.1
  have z1 : ¬ (1 : Nat) = 0 := by omega
  rcases rng x (n := R 0) (by omega) with ⟨f, hf, rfl⟩ | hx | ⟨hx1, hx2, hx3, -⟩ | hx
  · refine Or.inl ⟨f, hf, rfl, ?_, fun h1 m => ?_⟩
    · have n1 : ¬ R 0 < f := by omega
      simp (disch := omega) only [lI, lJ, gd_1, bd_1, bv_1, nm_1, ixN, inbN, eqN, leN, ltN, eqL, leL, ltL, beqN, beqL, nI_add, pk_mul, lN_add, lN_mul, nI_l, lN_i, pk_div, pk_lDiv, pk_sub, lN_sub, remN, remL, neg1, neg2, negL, negL2, M1e, M1f, M1g, M1h, M1i, M1j, M2e, M2f, L1g, L1h, L1i, L1j, les_eq, les_e, les_n, les_m, fX8_isFloor, c1, c3, k, f0, z1, n1, Nat.not_lt_zero, if_false]
    · have m0 := m.2.1 0 (by omega)
      simp (disch := omega) only [lI, lJ, gd_1, bd_1, bv_1, nm_1, ixN, inbN, eqN, leN, ltN, eqL, leL, ltL, beqN, beqL, nI_add, pk_mul, lN_add, lN_mul, nI_l, lN_i, pk_div, pk_lDiv, pk_sub, lN_sub, remN, remL, neg1, neg2, negL, negL2, M1e, M1f, M1g, M1h, M1i, M1j, M2e, M2f, L1g, L1h, L1i, L1j, les_eq, les_e, les_n, les_m, fX9_isFloor, Nat.reduceAdd, m.1, m0, z1, wit3, if_false, cond_true]
  · refine Or.inr ⟨?_, fun h1 m => ?_⟩
    · simp (disch := omega) only [lI, lJ, gd_1, bd_1, bv_1, nm_1, ixN, inbN, eqN, leN, ltN, eqL, leL, ltL, beqN, beqL, nI_add, pk_mul, lN_add, lN_mul, nI_l, lN_i, pk_div, pk_lDiv, pk_sub, lN_sub, remN, remL, neg1, neg2, negL, negL2, M1e, M1f, M1g, M1h, M1i, M1j, M2e, M2f, L1g, L1h, L1i, L1j, les_eq, les_e, les_n, les_m, fX8_isFloor, c1, c3, k, f0, z1, hx, if_false, if_true]
    · have m0 := m.2.1 0 (by omega)
      simp (disch := omega) only [lI, lJ, gd_1, bd_1, bv_1, nm_1, ixN, inbN, eqN, leN, ltN, eqL, leL, ltL, beqN, beqL, nI_add, pk_mul, lN_add, lN_mul, nI_l, lN_i, pk_div, pk_lDiv, pk_sub, lN_sub, remN, remL, neg1, neg2, negL, negL2, M1e, M1f, M1g, M1h, M1i, M1j, M2e, M2f, L1g, L1h, L1i, L1j, les_eq, les_e, les_n, les_m, fX9_isFloor, Nat.reduceAdd, m.1, m0, z1, wit hx, if_false, cond_false]
  · refine Or.inr ⟨?_, fun h1 m => ?_⟩
    · simp (disch := omega) only [lI, lJ, gd_1, bd_1, bv_1, nm_1, ixN, inbN, eqN, leN, ltN, eqL, leL, ltL, beqN, beqL, nI_add, pk_mul, lN_add, lN_mul, nI_l, lN_i, pk_div, pk_lDiv, pk_sub, lN_sub, remN, remL, neg1, neg2, negL, negL2, M1e, M1f, M1g, M1h, M1i, M1j, M2e, M2f, L1g, L1h, L1i, L1j, les_eq, les_e, les_n, les_m, fX8_isFloor, c1, c3, k, f0, z1, hx1, hx3, if_false, if_true]
    · have m0 := m.2.1 0 (by omega)
      simp (disch := omega) only [lI, lJ, gd_1, bd_1, bv_1, nm_1, ixN, inbN, eqN, leN, ltN, eqL, leL, ltL, beqN, beqL, nI_add, pk_mul, lN_add, lN_mul, nI_l, lN_i, pk_div, pk_lDiv, pk_sub, lN_sub, remN, remL, neg1, neg2, negL, negL2, M1e, M1f, M1g, M1h, M1i, M1j, M2e, M2f, L1g, L1h, L1i, L1j, les_eq, les_e, les_n, les_m, fX9_isFloor, Nat.reduceAdd, m.1, m0, z1, wit2 hx1 hx3, if_false, cond_false]
  · omega
theorem slC (C : CA h d R N T) (x : Int32) : (∃ s, s < R 4 ∧ x = nI s ∧ fX8_isSleeper 0 x h = some (true, h) ∧ ∀ h1, MA h1 R N T → fX9_isSleeper 181 x h1 = some (true, h1)) ∨ (fX8_isSleeper 0 x h = some (false, h) ∧ ∀ h1, MA h1 R N T → fX9_isSleeper 181 x h1 = some (false, h1)) := by
  obtain ⟨c1, c2, c3, c4, v, c6, c7⟩ := C
  have k := isKb_D c2
  have vF := v.S
  have f0 := c4.2.2.2.1.1.2
  have z1 : ¬ (1 : Nat) = 0 := by omega
  have e4 : R 4 - 1 + 1 = R 4 := by omega
  rcases rng x (n := R 4 - 1) (by omega) with ⟨f, hf, rfl⟩ | hx | ⟨hx1, hx2, hx3, hx4⟩ | hx
  · refine Or.inl ⟨f, by omega, rfl, ?_, fun h1 m => ?_⟩
    · have n1 : ¬ R 4 ≤ f := by omega
      simp (disch := omega) only [lI, lJ, gd_1, bd_1, bv_1, nm_1, ixN, inbN, eqN, leN, ltN, eqL, leL, ltL, beqN, beqL, nI_add, pk_mul, lN_add, lN_mul, nI_l, lN_i, pk_div, pk_lDiv, pk_sub, lN_sub, remN, remL, neg1, neg2, negL, negL2, M1e, M1f, M1g, M1h, M1i, M1j, M2e, M2f, L1g, L1h, L1i, L1j, les_eq, les_e, les_n, les_m, fX8_isSleeper, c1, c3, k, f0, z1, n1, Nat.not_lt_zero, if_false]
    · have m0 := m.2.1 4 (by omega)
      simp (disch := omega) only [lI, lJ, gd_1, bd_1, bv_1, nm_1, ixN, inbN, eqN, leN, ltN, eqL, leL, ltL, beqN, beqL, nI_add, pk_mul, lN_add, lN_mul, nI_l, lN_i, pk_div, pk_lDiv, pk_sub, lN_sub, remN, remL, neg1, neg2, negL, negL2, M1e, M1f, M1g, M1h, M1i, M1j, M2e, M2f, L1g, L1h, L1i, L1j, les_eq, les_e, les_n, les_m, fX9_isSleeper, Nat.reduceAdd, m.1, m0, z1, wit3, if_false, cond_true]
  · refine Or.inr ⟨?_, fun h1 m => ?_⟩
    · simp (disch := omega) only [lI, lJ, gd_1, bd_1, bv_1, nm_1, ixN, inbN, eqN, leN, ltN, eqL, leL, ltL, beqN, beqL, nI_add, pk_mul, lN_add, lN_mul, nI_l, lN_i, pk_div, pk_lDiv, pk_sub, lN_sub, remN, remL, neg1, neg2, negL, negL2, M1e, M1f, M1g, M1h, M1i, M1j, M2e, M2f, L1g, L1h, L1i, L1j, les_eq, les_e, les_n, les_m, fX8_isSleeper, c1, c3, k, f0, z1, hx, if_false, if_true]
    · have m0 := m.2.1 4 (by omega)
      simp (disch := omega) only [lI, lJ, gd_1, bd_1, bv_1, nm_1, ixN, inbN, eqN, leN, ltN, eqL, leL, ltL, beqN, beqL, nI_add, pk_mul, lN_add, lN_mul, nI_l, lN_i, pk_div, pk_lDiv, pk_sub, lN_sub, remN, remL, neg1, neg2, negL, negL2, M1e, M1f, M1g, M1h, M1i, M1j, M2e, M2f, L1g, L1h, L1i, L1j, les_eq, les_e, les_n, les_m, fX9_isSleeper, Nat.reduceAdd, m.1, m0, z1, wit hx, if_false, cond_false]
  · rw [e4] at hx4
    refine Or.inr ⟨?_, fun h1 m => ?_⟩
    · simp (disch := omega) only [lI, lJ, gd_1, bd_1, bv_1, nm_1, ixN, inbN, eqN, leN, ltN, eqL, leL, ltL, beqN, beqL, nI_add, pk_mul, lN_add, lN_mul, nI_l, lN_i, pk_div, pk_lDiv, pk_sub, lN_sub, remN, remL, neg1, neg2, negL, negL2, M1e, M1f, M1g, M1h, M1i, M1j, M2e, M2f, L1g, L1h, L1i, L1j, les_eq, les_e, les_n, les_m, fX8_isSleeper, c1, c3, k, f0, z1, hx1, hx4, if_false, if_true]
    · have m0 := m.2.1 4 (by omega)
      simp (disch := omega) only [lI, lJ, gd_1, bd_1, bv_1, nm_1, ixN, inbN, eqN, leN, ltN, eqL, leL, ltL, beqN, beqL, nI_add, pk_mul, lN_add, lN_mul, nI_l, lN_i, pk_div, pk_lDiv, pk_sub, lN_sub, remN, remL, neg1, neg2, negL, negL2, M1e, M1f, M1g, M1h, M1i, M1j, M2e, M2f, L1g, L1h, L1i, L1j, les_eq, les_e, les_n, les_m, fX9_isSleeper, Nat.reduceAdd, m.1, m0, z1, wit2 hx1 hx3, if_false, cond_false]
  · omega
end CASES
