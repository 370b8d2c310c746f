theorem lI (n : Nat) : (OfNat.ofNat n : Int32) = nI (OfNat.ofNat n) := Eq.trans rfl rfl
theorem lJ (n : Nat) : (OfNat.ofNat n : Int64) = lN (OfNat.ofNat n) := Eq.trans rfl rfl
def M1 : Int32 := -1
def M2 : Int32 := -2
def L1 : Int64 := -1
theorem neg1 : -nI 1 = M1 := Eq.trans rfl rfl
theorem neg2 : -nI 2 = M2 := Eq.trans rfl rfl
theorem negL : -lN 1 = L1 := Eq.trans rfl rfl
theorem negL2 : -lN 2 = M2.toInt64 := by decide +kernel
theorem M1_toInt : M1.toInt = -1 := by decide
theorem M2_toInt : M2.toInt = -2 := by decide
theorem L1_toInt : L1.toInt = -1 := by decide
theorem M1e {a : Nat} (h : a < 2 ^ 31) : (M1 = nI a) = False := by rw [← Int32.toInt_inj, M1_toInt, nI_toInt h]; exact eq_false (by omega)
theorem M1f {a : Nat} (h : a < 2 ^ 31) : (nI a = M1) = False := by rw [← Int32.toInt_inj, M1_toInt, nI_toInt h]; exact eq_false (by omega)
theorem M1g {a : Nat} (h : a < 2 ^ 31) : (nI a ≤ M1) = False := by rw [Int32.le_iff_toInt_le, M1_toInt, nI_toInt h]; exact eq_false (by omega)
theorem M1h {a : Nat} (h : a < 2 ^ 31) : (nI a < M1) = False := by rw [Int32.lt_iff_toInt_lt, M1_toInt, nI_toInt h]; exact eq_false (by omega)
theorem M1i {a : Nat} (h : a < 2 ^ 31) : (M1 < nI a) = True := by rw [Int32.lt_iff_toInt_lt, M1_toInt, nI_toInt h]; exact eq_true (by omega)
theorem M1j {a : Nat} (h : a < 2 ^ 31) : (M1 ≤ nI a) = True := by rw [Int32.le_iff_toInt_le, M1_toInt, nI_toInt h]; exact eq_true (by omega)
theorem M2e {a : Nat} (h : a < 2 ^ 31) : (M2 = nI a) = False := by rw [← Int32.toInt_inj, M2_toInt, nI_toInt h]; exact eq_false (by omega)
theorem M2f {a : Nat} (h : a < 2 ^ 31) : (nI a = M2) = False := by rw [← Int32.toInt_inj, M2_toInt, nI_toInt h]; exact eq_false (by omega)
theorem L1g {a : Nat} (h : a < 2 ^ 63) : (lN a ≤ L1) = False := by rw [Int64.le_iff_toInt_le, L1_toInt, pk_lT h]; exact eq_false (by omega)
theorem L1h {a : Nat} (h : a < 2 ^ 63) : (lN a < L1) = False := by rw [Int64.lt_iff_toInt_lt, L1_toInt, pk_lT h]; exact eq_false (by omega)
theorem L1i {a : Nat} (h : a < 2 ^ 63) : (L1 < lN a) = True := by rw [Int64.lt_iff_toInt_lt, L1_toInt, pk_lT h]; exact eq_true (by omega)
theorem L1j {a : Nat} (h : a < 2 ^ 63) : (L1 ≤ lN a) = True := by rw [Int64.le_iff_toInt_le, L1_toInt, pk_lT h]; exact eq_true (by omega)
theorem gd_1 {α : Type} (x : Option α) : gd true x = x := Eq.trans rfl rfl
theorem bd_1 {α β : Type} (a : α) (h : HH) (f : α → HH → Option β) : bd (some (a, h)) f = f a h := Eq.trans rfl rfl
theorem bv_1 {β : Type} (h : HH) (f : HH → Option β) : bv (some h) f = f h := Eq.trans rfl rfl
theorem nm_1 {α β : Type} (x : α) (f : α → Option β) : nm x f = f x := Eq.trans rfl rfl
theorem ixN {n : Nat} (h : n < 2 ^ 31) : ix (nI n) = n := nI_clamp h
theorem inbN {n m : Nat} (h : n < m) (hm : m < 2 ^ 31) : inb (nI n) m = true := by
  have h1 : ¬ nI n < 0 := nI_pos (by omega)
  have h2 : ix (nI n) < m := by rw [ixN (by omega)]; exact h
  simp [inb, h1, h2]
theorem eqN {a b : Nat} (ha : a < 2 ^ 31) (hb : b < 2 ^ 31) : (nI a = nI b) = (a = b) := propext (nI_eq ha hb)
theorem leN {a b : Nat} (ha : a < 2 ^ 31) (hb : b < 2 ^ 31) : (nI a ≤ nI b) = (a ≤ b) := propext (nI_leI ha hb)
theorem ltN {a b : Nat} (ha : a < 2 ^ 31) (hb : b < 2 ^ 31) : (nI a < nI b) = (a < b) := propext (nI_ltI ha hb)
theorem eqL {a b : Nat} (ha : a < 2 ^ 63) (hb : b < 2 ^ 63) : (lN a = lN b) = (a = b) := propext (pk_lEQ ha hb)
theorem leL {a b : Nat} (ha : a < 2 ^ 63) (hb : b < 2 ^ 63) : (lN a ≤ lN b) = (a ≤ b) := propext (pk_lLE ha hb)
theorem ltL {a b : Nat} (ha : a < 2 ^ 63) (hb : b < 2 ^ 63) : (lN a < lN b) = (a < b) := propext (pk_lLT ha hb)
theorem beqN {a b : Nat} (ha : a < 2 ^ 31) (hb : b < 2 ^ 31) : (nI a == nI b) = decide (a = b) := by
  by_cases h : a = b
  · subst h; simp
  · have : ¬ nI a = nI b := fun z => h ((nI_eq ha hb).mp z)
    simp [h, this]
theorem beqL {a b : Nat} (ha : a < 2 ^ 63) (hb : b < 2 ^ 63) : (lN a == lN b) = decide (a = b) := by
  by_cases h : a = b
  · subst h; simp
  · have : ¬ lN a = lN b := fun z => h ((pk_lEQ ha hb).mp z)
    simp [h, this]
theorem gI_sI (h : HH) (a k : Nat) (v : Int32) (b j : Nat) : gI (sI h a k v) b j = if b = a ∧ j = k then v else gI h b j := Eq.trans rfl rfl
theorem gL_sL (h : HH) (a k : Nat) (v : Int64) (b j : Nat) : gL (sL h a k v) b j = if b = a ∧ j = k then v else gL h b j := Eq.trans rfl rfl
theorem gR_sR (h : HH) (a k : Nat) (v : Nat) (b j : Nat) : gR (sR h a k v) b j = if b = a ∧ j = k then v else gR h b j := Eq.trans rfl rfl
theorem gI_sL (h : HH) (a k : Nat) (v : Int64) (b j : Nat) : gI (sL h a k v) b j = gI h b j := Eq.trans rfl rfl
theorem gI_sR (h : HH) (a k : Nat) (v : Nat) (b j : Nat) : gI (sR h a k v) b j = gI h b j := Eq.trans rfl rfl
theorem gL_sI (h : HH) (a k : Nat) (v : Int32) (b j : Nat) : gL (sI h a k v) b j = gL h b j := Eq.trans rfl rfl
theorem gL_sR (h : HH) (a k : Nat) (v : Nat) (b j : Nat) : gL (sR h a k v) b j = gL h b j := Eq.trans rfl rfl
theorem gR_sI (h : HH) (a k : Nat) (v : Int32) (b j : Nat) : gR (sI h a k v) b j = gR h b j := Eq.trans rfl rfl
theorem gR_sL (h : HH) (a k : Nat) (v : Int64) (b j : Nat) : gR (sL h a k v) b j = gR h b j := Eq.trans rfl rfl
theorem remN (a b : Nat) : nI a - nI (a / b * b) = nI (a % b) := by
  have h := Nat.div_add_mod a b
  rw [Nat.mul_comm] at h
  rw [pk_sub (Nat.div_mul_le_self a b)]
  congr 1
  omega
theorem remL (a b : Nat) : lN a - lN (a / b * b) = lN (a % b) := by
  have h := Nat.div_add_mod a b
  rw [Nat.mul_comm] at h
  rw [lN_sub (Nat.div_mul_le_self a b)]
  congr 1
  omega
/-- the quick of a floor, out of the told numbers -/
def qk (R : Nat → Nat) : Nat → Nat
  | 0 => 1
  | f + 1 => qk R f * R (11 + f)
theorem mQuick {R : Nat → Nat} {h : HH} (hM : ∀ k, k < 316 → gI h 184 k = nI (R k)) {f : Nat} (hf : f ≤ 4) : fX9_quickOf 181 (nI f) h = some (nI (qk R f), h) := by
  have main : ∀ m i fuel, i + m = f → m < fuel → lq2 (fX9_quickOf_L4 181 (nI f)) fuel (nI (qk R i)) (nI i) h = some (nI (qk R f), h) := by
    intro m
    induction m with
    | zero =>
      intro i fuel e hl
      obtain ⟨n, rfl⟩ : ∃ n, fuel = n + 1 := ⟨fuel - 1, by omega⟩
      have : i = f := by omega
      subst this
      simp (disch := omega) only [lI, lJ, gd_1, bd_1, bv_1, nm_1, ixN, inbN, eqN, leN, ltN, eqL, leL, ltL, beqN, beqL, nI_add, pk_mul, lN_add, lN_mul, nI_l, lN_i, pk_div, pk_lDiv, pk_sub, lN_sub, remN, remL, neg1, neg2, negL, negL2, lq2, fX9_quickOf_L4, Nat.le_refl, if_true]
    | succ m ih =>
      intro i fuel e hl
      obtain ⟨n, rfl⟩ : ∃ n, fuel = n + 1 := ⟨fuel - 1, by omega⟩
      have h1 : ¬ f ≤ i := by omega
      simp (disch := omega) only [lI, lJ, gd_1, bd_1, bv_1, nm_1, ixN, inbN, eqN, leN, ltN, eqL, leL, ltL, beqN, beqL, nI_add, pk_mul, lN_add, lN_mul, nI_l, lN_i, pk_div, pk_lDiv, pk_sub, lN_sub, remN, remL, neg1, neg2, negL, negL2, lq2, fX9_quickOf_L4, h1, if_false, Nat.reduceAdd, hM]
      exact ih (i + 1) n (by omega) (by omega)
  exact main f 0 FU (by omega) (by unfold FU; omega)
