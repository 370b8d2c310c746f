/-! THE TEXT: tokens -/
section TOK
variable (TP : Nat → Nat) (n : Nat)
def isL (c : Nat) : Bool := decide (97 ≤ c ∧ c ≤ 122)
def isG (c : Nat) : Bool := decide (48 ≤ c ∧ c ≤ 57)
/-- how far signs of a sort stand together from k on -/
def rn (P : Nat → Bool) : Nat → Nat → Nat
  | 0, k => k
  | m + 1, k => if k < n ∧ P (TP k) = true then rn P m (k + 1) else k
def cwd (a : Nat) : Nat → Nat
  | 0 => 0
  | k + 1 => cwd a k * 256 + TP (a + k)
def dgv (a : Nat) : Nat → Nat
  | 0 => 0
  | k + 1 => 10 * dgv a k + (TP (a + k) - 48)
def tA (e : Nat) : Nat := rn TP n (fun c => decide (c = 32)) n e
def tW (e : Nat) : Nat := rn TP n isL n (tA TP n e)
def tG (e : Nat) : Nat := rn TP n isG n (tA TP n e)
/-- the kind of a token: 0 bad, 1 a word, 2 a whole, 3 ; 4 , 5 the end -/
def tK (e : Nat) : Nat := if n ≤ tA TP n e then 5 else if TP (tA TP n e) = 59 then 3 else if TP (tA TP n e) = 44 then 4 else if isL (TP (tA TP n e)) = true then (if tW TP n e - tA TP n e ≤ 8 then 1 else 0) else if isG (TP (tA TP n e)) = true then (if tG TP n e - tA TP n e ≤ 4 then 2 else 0) else 0
def tE (e : Nat) : Nat := if n ≤ tA TP n e then n else if TP (tA TP n e) = 59 then tA TP n e + 1 else if TP (tA TP n e) = 44 then tA TP n e + 1 else if isL (TP (tA TP n e)) = true then tW TP n e else if isG (TP (tA TP n e)) = true then tG TP n e else tA TP n e + 1
def tN (e : Nat) : Nat := tW TP n e - tA TP n e
def tC (e : Nat) : Nat := cwd TP (tA TP n e) (tN TP n e)
def tV (e : Nat) : Nat := dgv TP (tA TP n e) (tG TP n e - tA TP n e)
end TOK
section TOK2
variable {TP : Nat → Nat} {n : Nat} {P : Nat → Bool}
set_option maxRecDepth 100000 in
theorem rn_le : ∀ m k, k ≤ n → k ≤ rn TP n P m k ∧ rn TP n P m k ≤ n := by
  intro m
  induction m with
  | zero => intro k h; exact ⟨Nat.le_refl _, h⟩
  | succ m ih =>
    intro k h
    show k ≤ (if k < n ∧ P (TP k) = true then rn TP n P m (k + 1) else k) ∧ (if k < n ∧ P (TP k) = true then rn TP n P m (k + 1) else k) ≤ n
    by_cases c : k < n ∧ P (TP k) = true
    · rw [if_pos c]; have := ih (k + 1) (by omega); omega
    · rw [if_neg c]; omega
set_option maxRecDepth 100000 in
theorem rn_all : ∀ m k i, k ≤ i → i < rn TP n P m k → P (TP i) = true := by
  intro m
  induction m with
  | zero => intro k i h1 h2; have : i < k := h2; omega
  | succ m ih =>
    intro k i h1 h2
    have e : rn TP n P (m + 1) k = if k < n ∧ P (TP k) = true then rn TP n P m (k + 1) else k := rfl
    rw [e] at h2
    by_cases c : k < n ∧ P (TP k) = true
    · rw [if_pos c] at h2
      by_cases z : i = k
      · subst z; exact c.2
      · exact ih (k + 1) i (by omega) h2
    · rw [if_neg c] at h2; omega
set_option maxRecDepth 100000 in
theorem rn_end : ∀ m k, k ≤ n → n ≤ k + m → rn TP n P m k < n → P (TP (rn TP n P m k)) = false := by
  intro m
  induction m with
  | zero => intro k h1 h2 h3; have : k < n := h3; omega
  | succ m ih =>
    intro k h1 h2 h3
    have e : rn TP n P (m + 1) k = if k < n ∧ P (TP k) = true then rn TP n P m (k + 1) else k := rfl
    rw [e] at h3 ⊢
    by_cases c : k < n ∧ P (TP k) = true
    · rw [if_pos c] at h3 ⊢; exact ih (k + 1) (by omega) (by omega) h3
    · rw [if_neg c] at h3 ⊢
      cases hp : P (TP k) with
      | false => rfl
      | true => exact absurd ⟨h3, hp⟩ c
set_option maxRecDepth 100000 in
theorem rn_step {m k : Nat} (h1 : k < n) (h2 : P (TP k) = true) : rn TP n P (m + 1) k = rn TP n P m (k + 1) := if_pos ⟨h1, h2⟩
/-! the run does not hang on the fuel -/
set_option maxRecDepth 100000 in
theorem rn_fuel : ∀ m k, k ≤ n → n ≤ k + m → ∀ m', n ≤ k + m' → rn TP n P m k = rn TP n P m' k := by
  intro m
  induction m with
  | zero =>
    intro k h1 h2 m' h3
    cases m' with
    | zero => rfl
    | succ m' => exact (if_neg (fun z => by omega)).symm
  | succ m ih =>
    intro k h1 h2 m' h3
    cases m' with
    | zero => exact if_neg (fun z => by omega)
    | succ m' =>
      show (if k < n ∧ P (TP k) = true then rn TP n P m (k + 1) else k) = (if k < n ∧ P (TP k) = true then rn TP n P m' (k + 1) else k)
      by_cases c : k < n ∧ P (TP k) = true
      · rw [if_pos c, if_pos c]; exact ih (k + 1) (by omega) (by omega) m' (by omega)
      · rw [if_neg c, if_neg c]
set_option maxRecDepth 100000 in
theorem cwd_lt {a : Nat} : ∀ k, (∀ i, i < k → TP (a + i) < 128) → 2 * cwd TP a k < 256 ^ k := by
  intro k
  induction k with
  | zero => intro _; show 2 * 0 < 1; omega
  | succ k ih =>
    intro h
    have h1 := ih (fun i hi => h i (by omega))
    have h2 := h k (by omega)
    have e : cwd TP a (k + 1) = cwd TP a k * 256 + TP (a + k) := rfl
    rw [e, Nat.pow_succ]
    omega
set_option maxRecDepth 100000 in
theorem cwd_inj {f g : Nat → Nat} {a b : Nat} : ∀ k l, (∀ i, i < k → 1 ≤ f (a + i) ∧ f (a + i) < 256) → (∀ i, i < l → 1 ≤ g (b + i) ∧ g (b + i) < 256) → cwd f a k = cwd g b l → k = l ∧ ∀ i, i < k → f (a + i) = g (b + i) := by
  intro k
  induction k with
  | zero =>
    intro l hf hg e
    cases l with
    | zero => exact ⟨rfl, fun i hi => by omega⟩
    | succ l =>
      exfalso
      have e2 : cwd g b (l + 1) = cwd g b l * 256 + g (b + l) := rfl
      have := hg l (by omega)
      have e3 : cwd f a 0 = 0 := rfl
      omega
  | succ k ih =>
    intro l hf hg e
    cases l with
    | zero =>
      exfalso
      have e2 : cwd f a (k + 1) = cwd f a k * 256 + f (a + k) := rfl
      have := hf k (by omega)
      have e3 : cwd g b 0 = 0 := rfl
      omega
    | succ l =>
      have e2 : cwd f a (k + 1) = cwd f a k * 256 + f (a + k) := rfl
      have e3 : cwd g b (l + 1) = cwd g b l * 256 + g (b + l) := rfl
      have h1 := hf k (by omega)
      have h2 := hg l (by omega)
      have e4 : f (a + k) = g (b + l) := by omega
      have e5 : cwd f a k = cwd g b l := by omega
      obtain ⟨r1, r2⟩ := ih l (fun i hi => hf i (by omega)) (fun i hi => hg i (by omega)) e5
      refine ⟨by omega, fun i hi => ?_⟩
      by_cases z : i = k
      · subst z; rw [e4, r1]
      · exact r2 i (by omega)
set_option maxRecDepth 100000 in
theorem dgv_lt {a : Nat} : ∀ k, (∀ i, i < k → 48 ≤ TP (a + i) ∧ TP (a + i) ≤ 57) → dgv TP a k < 10 ^ k := by
  intro k
  induction k with
  | zero => intro _; show 0 < 1; omega
  | succ k ih =>
    intro h
    have h1 := ih (fun i hi => h i (by omega))
    have h2 := h k (by omega)
    have e : dgv TP a (k + 1) = 10 * dgv TP a k + (TP (a + k) - 48) := rfl
    rw [e, Nat.pow_succ]
    omega
set_option maxRecDepth 100000 in
theorem tA_le {e : Nat} (he : e ≤ n) : e ≤ tA TP n e ∧ tA TP n e ≤ n := rn_le n e he
set_option maxRecDepth 100000 in
theorem tW_le {e : Nat} (he : e ≤ n) : tA TP n e ≤ tW TP n e ∧ tW TP n e ≤ n := rn_le n _ (tA_le he).2
set_option maxRecDepth 100000 in
theorem tG_le {e : Nat} (he : e ≤ n) : tA TP n e ≤ tG TP n e ∧ tG TP n e ≤ n := rn_le n _ (tA_le he).2
set_option maxRecDepth 100000 in
theorem tE_le {e : Nat} (he : e ≤ n) : tA TP n e ≤ tE TP n e ∧ tE TP n e ≤ n ∧ (tK TP n e ≠ 5 → tA TP n e < n) ∧ (tK TP n e = 3 → tE TP n e = tA TP n e + 1) := by
  have h1 := tA_le (TP := TP) he
  have h2 := tW_le (TP := TP) he
  have h3 := tG_le (TP := TP) he
  unfold tE tK
  by_cases c : n ≤ tA TP n e
  · rw [if_pos c, if_pos c]; omega
  · rw [if_neg c, if_neg c]
    by_cases c1 : TP (tA TP n e) = 59
    · rw [if_pos c1, if_pos c1]; omega
    · rw [if_neg c1, if_neg c1]
      by_cases c2 : TP (tA TP n e) = 44
      · rw [if_pos c2, if_pos c2]; omega
      · rw [if_neg c2, if_neg c2]
        by_cases c3 : isL (TP (tA TP n e)) = true
        · rw [if_pos c3, if_pos c3]; refine ⟨h2.1, h2.2, fun _ => by omega, fun z => ?_⟩
          split at z <;> omega
        · rw [if_neg c3, if_neg c3]
          by_cases c4 : isG (TP (tA TP n e)) = true
          · rw [if_pos c4, if_pos c4]; refine ⟨h3.1, h3.2, fun _ => by omega, fun z => ?_⟩
            split at z <;> omega
          · rw [if_neg c4, if_neg c4]; omega
end TOK2
/-! a name grows by a letter -/
set_option maxRecDepth 100000 in
theorem sh64 (c : Nat) : lN c <<< ((8 : Int32).toInt64 &&& 63) = lN (c * 256) := by
  apply Int64.toBitVec_inj.1
  have e : (((8 : Int32).toInt64 &&& 63).toBitVec.smod 64) = 8#64 := by decide
  rw [Int64.toBitVec_shiftLeft, e]
  show BitVec.ofNat 64 c <<< 8#64 = BitVec.ofNat 64 (c * 256)
  apply BitVec.eq_of_toNat_eq
  simp [BitVec.toNat_shiftLeft, Nat.shiftLeft_eq]
set_option maxRecDepth 100000 in
theorem or64 {c b : Nat} (hb : b < 256) : lN (c * 256) ||| lN b = lN (c * 256 + b) := by
  apply Int64.toBitVec_inj.1
  rw [Int64.toBitVec_or]
  show BitVec.ofNat 64 (c * 256) ||| BitVec.ofNat 64 b = BitVec.ofNat 64 (c * 256 + b)
  rw [← BitVec.ofNat_or]
  congr 1
  have := Nat.two_pow_add_eq_or_of_lt (i := 8) (b := b) hb c
  rw [Nat.mul_comm] at this
  exact this.symm
