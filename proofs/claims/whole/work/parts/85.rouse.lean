/-! TOGETHER: digits -/
def sg (B : Nat) (f : Nat → Nat) : Nat → Nat
  | 0 => 0
  | s + 1 => sg B f s + B ^ s * f s
set_option maxRecDepth 100000 in
theorem sg_lt {B : Nat} {f : Nat → Nat} : ∀ s, (∀ i, i < s → f i < B) → sg B f s < B ^ s := by
  intro s
  induction s with
  | zero => intro _; exact Nat.one_pos
  | succ s ih =>
    intro h
    have h1 := ih (fun i hi => h i (by omega))
    have h2 := h s (by omega)
    have h3 : B ^ s * f s ≤ B ^ s * (B - 1) := Nat.mul_le_mul_left _ (by omega)
    have h4 : B ^ (s + 1) = B ^ s * (B - 1) + B ^ s := by rw [Nat.pow_succ, ← Nat.mul_succ]; congr 1; omega
    show sg B f s + B ^ s * f s < B ^ (s + 1)
    omega
set_option maxRecDepth 100000 in
theorem sg_dig {B : Nat} {f : Nat → Nat} (hB : 0 < B) : ∀ s, (∀ i, i < s → f i < B) → ∀ i, i < s → sg B f s / B ^ i % B = f i := by
  intro s
  induction s with
  | zero => intro _ i hi; omega
  | succ s ih =>
    intro h i hi
    show (sg B f s + B ^ s * f s) / B ^ i % B = f i
    by_cases e : i = s
    · subst e
      rw [Nat.add_mul_div_left _ _ (Nat.pow_pos hB), Nat.div_eq_of_lt (sg_lt i (fun j hj => h j (by omega))), Nat.zero_add]
      exact Nat.mod_eq_of_lt (h i (by omega))
    · have e2 : B ^ s * f s = B ^ i * (B * (B ^ (s - i - 1) * f s)) := by
        rw [← Nat.mul_assoc B, Nat.mul_comm B, ← Nat.pow_succ, ← Nat.mul_assoc, ← Nat.pow_add]
        congr 2; omega
      rw [e2, Nat.add_mul_div_left _ _ (Nat.pow_pos hB), Nat.add_mul_mod_self_left]
      exact ih (fun j hj => h j (by omega)) i (by omega)
set_option maxRecDepth 100000 in
theorem dig_ext {B : Nat} (hB : 0 < B) : ∀ s c c', c < B ^ s → c' < B ^ s → (∀ i, i < s → c / B ^ i % B = c' / B ^ i % B) → c = c' := by
  intro s
  induction s with
  | zero => intro c c' h1 h2 _; rw [Nat.pow_zero] at h1 h2; omega
  | succ s ih =>
    intro c c' h1 h2 h
    rw [Nat.pow_succ] at h1 h2
    have e0 := h 0 (by omega)
    rw [Nat.pow_zero, Nat.div_one, Nat.div_one] at e0
    have e1 : c / B = c' / B := ih _ _ (Nat.div_lt_of_lt_mul (by rw [Nat.mul_comm]; exact h1)) (Nat.div_lt_of_lt_mul (by rw [Nat.mul_comm]; exact h2)) (fun i hi => by
      have := h (i + 1) (by omega)
      rw [Nat.pow_succ, Nat.mul_comm (B ^ i), ← Nat.div_div_eq_div_mul, ← Nat.div_div_eq_div_mul] at this
      exact this)
    rw [← Nat.div_add_mod c B, ← Nat.div_add_mod c' B, e0, e1]
set_option maxRecDepth 100000 in
theorem sg_congr {B : Nat} {f g : Nat → Nat} : ∀ s, (∀ i, i < s → f i = g i) → sg B f s = sg B g s := by
  intro s
  induction s with
  | zero => intro _; rfl
  | succ s ih => intro h; show sg B f s + _ = sg B g s + _; rw [ih (fun i hi => h i (by omega)), h s (by omega)]
/-! shifts -/
set_option maxRecDepth 100000 in
theorem shm : ∀ n, n < 32 → ((nI n &&& nI 31).toBitVec.smod 32).toNat = n := by decide +kernel
set_option maxRecDepth 100000 in
theorem shrN {n k : Nat} (hn : n < 2 ^ 31) (hk : k < 32) : nI n >>> (nI k &&& nI 31) = nI (n / 2 ^ k) := pk_shrN hn _ k (shm k hk)
set_option maxRecDepth 100000 in
theorem shlN {n k : Nat} (h : n * 2 ^ k < 2 ^ 32) (hk : k < 32) : nI n <<< (nI k &&& nI 31) = nI (n * 2 ^ k) := pk_shlN _ k (shm k hk) h
set_option maxRecDepth 100000 in
theorem and3 {n : Nat} (h : n < 2 ^ 32) : nI n &&& nI 3 = nI (n % 4) := pk_andN h 2 (by decide)
set_option maxRecDepth 100000 in
theorem and1 {n : Nat} (h : n < 2 ^ 32) : nI n &&& nI 1 = nI (n % 2) := pk_andN h 1 (by decide)
set_option maxRecDepth 100000 in
theorem p4 (k : Nat) : 2 ^ (2 * k) = 4 ^ k := by rw [Nat.pow_mul]
set_option maxRecDepth 100000 in
theorem p4_le {k : Nat} (h : k ≤ 4) : 4 ^ k ≤ 256 := Nat.le_trans (Nat.pow_le_pow_right (by omega) h) (by decide)
set_option maxRecDepth 100000 in
theorem p4_le5 {k : Nat} (h : k ≤ 5) : 4 ^ k ≤ 1024 := Nat.le_trans (Nat.pow_le_pow_right (by omega) h) (by decide)
/-! a part more of a state -/
set_option maxRecDepth 100000 in
theorem or4 {X v k : Nat} (hX : X < 4 ^ k) (hv : v < 4) (hk : k < 5) : nI X ||| (nI v <<< (nI (2 * k) &&& nI 31)) = nI (X + 4 ^ k * v) := by
  have h4 := p4_le (show k ≤ 4 by omega)
  have hm : v * 4 ^ k ≤ 3 * 256 := Nat.mul_le_mul (by omega) h4
  rw [shlN (by rw [p4]; omega) (by omega), nI_or, p4]
  congr 1
  have := Nat.two_pow_add_eq_or_of_lt (i := 2 * k) (b := X) (by rw [p4]; exact hX) v
  rw [p4] at this
  rw [Nat.or_comm, Nat.mul_comm v, ← this, Nat.add_comm]
set_option maxRecDepth 100000 in
theorem ex4 {X k : Nat} (hX : X < 2 ^ 31) (hk : k < 5) : (nI X >>> (nI (2 * k) &&& nI 31)) &&& nI 3 = nI (X / 4 ^ k % 4) := by
  have : X / 4 ^ k ≤ X := Nat.div_le_self _ _
  rw [shrN hX (by omega), p4, and3 (by omega)]
set_option maxRecDepth 100000 in
theorem dec4 : ∀ f, f < 5 → 1 ≤ f → (nI f - nI 1) &&& nI 3 = nI (f - 1) := by decide +kernel
/-! members of a set -/
abbrev bb (b s : Nat) : Prop := b / 2 ^ s % 2 = 1
def ml (b : Nat) : List Nat := (List.range 5).filter (fun s => decide (b / 2 ^ s % 2 = 1))
def sz (b : Nat) : Nat := (ml b).length
def mem (b m : Nat) : Nat := (ml b).getD m 0
def rk (b s : Nat) : Nat := ((List.range s).filter (fun s => decide (b / 2 ^ s % 2 = 1))).length
set_option maxRecDepth 100000 in
theorem mem_ok : ∀ b, b < 32 → ∀ m, m < 5 → m < sz b → mem b m < 5 ∧ b / 2 ^ (mem b m) % 2 = 1 ∧ rk b (mem b m) = m := by decide +kernel
set_option maxRecDepth 100000 in
theorem rk_mem : ∀ b, b < 32 → ∀ s, s < 5 → b / 2 ^ s % 2 = 1 → mem b (rk b s) = s ∧ rk b s < sz b := by decide +kernel
set_option maxRecDepth 100000 in
theorem rk_s : ∀ b, b < 32 → ∀ s, s < 5 → rk b (s + 1) = rk b s + (if b / 2 ^ s % 2 = 1 then 1 else 0) := by decide +kernel
set_option maxRecDepth 100000 in
theorem rk_5 : ∀ b, b < 32 → rk b 5 = sz b ∧ sz b ≤ 5 ∧ (1 ≤ b → 1 ≤ sz b) := by decide +kernel
set_option maxRecDepth 100000 in
theorem bb_lt {b s S : Nat} (hb : b < 2 ^ S) (h : bb b s) : s < S := by
  rcases Nat.lt_or_ge s S with z | z
  · exact z
  · have : 2 ^ S ≤ 2 ^ s := Nat.pow_le_pow_right (by omega) z
    have e : b / 2 ^ s = 0 := Nat.div_eq_of_lt (by omega)
    unfold bb at h
    rw [e] at h
    omega
abbrev dg (c s : Nat) : Nat := c / 5 ^ s % 5
set_option maxRecDepth 100000 in
theorem dg_lt (c s : Nat) : dg c s < 5 := Nat.mod_lt _ (by omega)
/-- a code of floors all of whose members sleep -/
def wfc (R : Nat → Nat) (b c : Nat) : Prop := c < 5 ^ R 4 ∧ ∀ s, s < R 4 → (bb b s → 1 ≤ dg c s ∧ dg c s ≤ R 0) ∧ (¬ bb b s → dg c s = 0)
def ndg (R : Nat → Nat) (b c st s : Nat) : Nat := if bb b s ∧ 0 < dg c s then br R s (dg c s) 0 st else dg c s
set_option maxRecDepth 100000 in
theorem ndg_le (R : Nat → Nat) (b c st s : Nat) : ndg R b c st s ≤ dg c s := by
  unfold ndg
  split
  · rename_i h; exact (br_le R (s := s) (st := st) h.2).1
  · exact Nat.le_refl _
set_option maxRecDepth 100000 in
theorem ndg_lt (R : Nat → Nat) (b c st s : Nat) : ndg R b c st s < 5 := Nat.lt_of_le_of_lt (ndg_le R b c st s) (dg_lt c s)
def kc (R : Nat → Nat) (b c st : Nat) : Nat := sg 5 (ndg R b c st) (R 4)
set_option maxRecDepth 100000 in
theorem kc_dg {R : Nat → Nat} {b c st s : Nat} (hs : s < R 4) : dg (kc R b c st) s = ndg R b c st s := sg_dig (by omega) (R 4) (fun i _ => ndg_lt R b c st i) s hs
set_option maxRecDepth 100000 in
theorem kc_lt (R : Nat → Nat) (b c st : Nat) : kc R b c st < 5 ^ R 4 := sg_lt (R 4) (fun i _ => ndg_lt R b c st i)
def slp (R : Nat → Nat) (b c : Nat) : Bool := decide (∀ s, s < R 4 → bb b s → 0 < dg c s)
set_option maxRecDepth 100000 in
theorem slp_wf {R : Nat → Nat} {b c st : Nat} (h : wfc R b c) (hs : slp R b (kc R b c st) = true) : wfc R b (kc R b c st) := by
  have hs' := of_decide_eq_true hs
  refine ⟨kc_lt R b c st, fun s h1 => ⟨fun h2 => ⟨hs' s h1 h2, ?_⟩, fun h2 => ?_⟩⟩
  · rw [kc_dg h1]
    exact Nat.le_trans (ndg_le R b c st s) ((h.2 s h1).1 h2).2
  · rw [kc_dg h1]
    have := ndg_le R b c st s
    have := (h.2 s h1).2 h2
    omega
/-- all floors together -/
def tfl (R : Nat → Nat) (c : Nat) : Nat := sm (dg c) (R 4)
set_option maxRecDepth 100000 in
theorem sm_le {F G : Nat → Nat} : ∀ n, (∀ d, d < n → F d ≤ G d) → sm F n ≤ sm G n := by
  intro n
  induction n with
  | zero => intro _; exact Nat.le_refl _
  | succ n ih => intro h; show sm F n + F n ≤ sm G n + G n; have := ih (fun d hd => h d (by omega)); have := h n (by omega); omega
set_option maxRecDepth 100000 in
theorem sm_lt {F G : Nat → Nat} {d : Nat} : ∀ n, (∀ d, d < n → F d ≤ G d) → d < n → F d < G d → sm F n < sm G n := by
  intro n
  induction n with
  | zero => intro _ h; omega
  | succ n ih =>
    intro h h1 h2
    show sm F n + F n < sm G n + G n
    have a := sm_le n (fun d hd => h d (by omega))
    have b := h n (by omega)
    by_cases e : d = n
    · subst e; omega
    · have := ih (fun d hd => h d (by omega)) (by omega) h2; omega
set_option maxRecDepth 100000 in
theorem tfl_kc {R : Nat → Nat} {b c st : Nat} (hc : c < 5 ^ R 4) (hn : kc R b c st ≠ c) : tfl R (kc R b c st) < tfl R c := by
  have h1 : ∃ s, s < R 4 ∧ dg (kc R b c st) s ≠ dg c s := by
    refine Classical.byContradiction (fun z => hn (dig_ext (by omega) (R 4) _ _ (kc_lt R b c st) hc (fun i hi => ?_)))
    exact Classical.byContradiction (fun y => z ⟨i, hi, y⟩)
  obtain ⟨s, hs, hd⟩ := h1
  refine sm_lt (d := s) (R 4) (fun i hi => ?_) hs ?_
  · rw [kc_dg hi]; exact ndg_le R b c st i
  · have := ndg_le R b c st s
    rw [kc_dg hs] at hd ⊢
    omega
set_option maxRecDepth 100000 in
theorem tfl_le {R : Nat → Nat} (v : VR R) {c : Nat} : tfl R c ≤ 20 := by
  have h : ∀ n, sm (dg c) n ≤ 4 * n := by
    intro n
    induction n with
    | zero => exact Nat.le_refl _
    | succ n ih => have := dg_lt c n; show sm (dg c) n + dg c n ≤ _; omega
  have := h (R 4)
  have := v.S
  unfold tfl
  omega
set_option maxRecDepth 100000 in
theorem tfl_pos {R : Nat → Nat} {b c s : Nat} (h : wfc R b c) (hs : s < R 4) (hb : bb b s) : 1 ≤ tfl R c := by
  have h1 := ((h.2 s hs).1 hb).1
  have : ∀ n, s < n → 1 ≤ sm (dg c) n := by
    intro n
    induction n with
    | zero => intro z; omega
    | succ n ih =>
      intro z
      show 1 ≤ sm (dg c) n + dg c n
      by_cases e : s = n
      · subst e; omega
      · have := ih (by omega); omega
  exact this (R 4) hs
/-! the class's codes -/
def cc (b c : Nat) : Nat := sg 4 (fun j => dg c (mem b j) - 1) (sz b)
set_option maxRecDepth 100000 in
theorem cc_lt4 (b c m : Nat) : sg 4 (fun j => dg c (mem b j) - 1) m < 4 ^ m := sg_lt m (fun i _ => by have := dg_lt c (mem b i); show dg c (mem b i) - 1 < 4; omega)
set_option maxRecDepth 100000 in
theorem cc_lt {b c : Nat} (hb : b < 32) : cc b c < 1024 := Nat.lt_of_lt_of_le (cc_lt4 b c (sz b)) (p4_le5 (rk_5 b hb).2.1)
set_option maxRecDepth 100000 in
theorem cc_dig {b c m : Nat} (hm : m < sz b) : cc b c / 4 ^ m % 4 = dg c (mem b m) - 1 := sg_dig (by omega) (sz b) (fun i _ => by have := dg_lt c (mem b i); show dg c (mem b i) - 1 < 4; omega) m hm
set_option maxRecDepth 100000 in
theorem cc_inj {R : Nat → Nat} {b c c' : Nat} (h5 : R 4 ≤ 5) (hb : b < 32) (h : wfc R b c) (h' : wfc R b c') (e : cc b c = cc b c') : c = c' := by
  refine dig_ext (by omega) (R 4) _ _ h.1 h'.1 (fun s hs => ?_)
  by_cases z : bb b s
  · obtain ⟨m1, m2⟩ := rk_mem b hb s (by omega) z
    have e1 := cc_dig (c := c) m2
    have e2 := cc_dig (c := c') m2
    rw [e, e2, m1] at e1
    have a := ((h.2 s hs).1 z).1
    have a' := ((h'.2 s hs).1 z).1
    show dg c s = dg c' s
    omega
  · have a := (h.2 s hs).2 z
    have a' := (h'.2 s hs).2 z
    show dg c s = dg c' s
    omega
/-! the search: how many, codes, parents, strengths, depths -/
abbrev BS : Type := Nat × (Nat → Nat) × (Nat → Nat) × (Nat → Nat) × (Nat → Nat)
def inq (Q : Nat → Nat) (c : Nat) : Nat → Bool
  | 0 => false
  | n + 1 => inq Q c n || decide (Q n = c)
set_option maxRecDepth 100000 in
theorem inq_iff {Q : Nat → Nat} {c : Nat} : ∀ n, inq Q c n = true ↔ ∃ i, i < n ∧ Q i = c := by
  intro n
  induction n with
  | zero => exact ⟨fun h => (by cases h), fun ⟨i, h, _⟩ => absurd h (Nat.not_lt_zero i)⟩
  | succ n ih =>
    show (inq Q c n || decide (Q n = c)) = true ↔ _
    rw [Bool.or_eq_true, ih, decide_eq_true_eq]
    constructor
    · rintro (⟨i, h1, h2⟩ | h)
      · exact ⟨i, by omega, h2⟩
      · exact ⟨n, by omega, h⟩
    · rintro ⟨i, h1, h2⟩
      by_cases e : i = n
      · subst e; exact Or.inr h2
      · exact Or.inl ⟨i, by omega, h2⟩
def adB (at' st c : Nat) (A : BS) : BS := (A.1 + 1, up A.2.1 A.1 c, up A.2.2.1 A.1 at', up A.2.2.2.1 A.1 st, up A.2.2.2.2 A.1 (A.2.2.2.2 at' + 1))
def bi (R : Nat → Nat) (b at' : Nat) : Nat → Nat → BS → Option Nat × BS
  | 0, _, A => (none, A)
  | n + 1, st, A => if kc R b (A.2.1 at') st = 0 then (some st, A) else if (inq A.2.1 (kc R b (A.2.1 at') st) A.1 || !slp R b (kc R b (A.2.1 at') st)) = true then bi R b at' n (st + 1) A else bi R b at' n (st + 1) (adB at' st (kc R b (A.2.1 at') st) A)
def bo (R : Nat → Nat) (b : Nat) : Nat → Nat → BS → Option (Nat × Nat) × BS
  | 0, _, A => (none, A)
  | n + 1, at', A => if A.1 ≤ at' then (none, A) else match bi R b at' 9 1 A with
    | (some st, A') => (some (at', st), A')
    | (none, A') => bo R b n (at' + 1) A'
/-- what the search keeps to -/
def WB (R : Nat → Nat) (b : Nat) (A : BS) : Prop := 1 ≤ A.1 ∧ (∀ i, i < A.1 → wfc R b (A.2.1 i) ∧ A.2.2.2.2 i + tfl R (A.2.1 i) ≤ 20 ∧ (1 ≤ i → A.2.2.1 i < i ∧ A.2.2.2.2 i = A.2.2.2.2 (A.2.2.1 i) + 1 ∧ 1 ≤ A.2.2.2.1 i ∧ A.2.2.2.1 i ≤ 9)) ∧ A.2.2.2.2 0 = 0 ∧ (∀ i j, i < j → j < A.1 → A.2.1 i ≠ A.2.1 j) ∧ cf (fun x => inq (fun i => cc b (A.2.1 i)) x A.1) 1024 = A.1
set_option maxRecDepth 100000 in
theorem WB.L {R : Nat → Nat} {b : Nat} {A : BS} (W : WB R b A) : A.1 ≤ 1024 := by
  have := cf_le (fun x => inq (fun i => cc b (A.2.1 i)) x A.1) 1024
  rw [W.2.2.2.2] at this
  exact this
set_option maxRecDepth 100000 in
theorem cf_upd {P P' : Nat → Bool} {x : Nat} (h1 : P x = false) (h2 : P' x = true) (h3 : ∀ y, y ≠ x → P' y = P y) : ∀ n, cf P' n = cf P n + (if x < n then 1 else 0) := by
  intro n
  induction n with
  | zero => rfl
  | succ n ih =>
    show cf P' n + (if P' n then 1 else 0) = cf P n + (if P n then 1 else 0) + _
    rw [ih]
    by_cases e : n = x
    · subst e
      rw [h1, h2, if_neg (Nat.lt_irrefl n), if_pos (Nat.lt_succ_self n)]
      simp
    · rw [h3 n e]
      have : (if x < n then 1 else 0) = (if x < n + 1 then 1 else 0) := by
        by_cases c : x < n
        · rw [if_pos c, if_pos (by omega)]
        · rw [if_neg c, if_neg (by omega)]
      omega
set_option maxRecDepth 100000 in
theorem inq_up {Q : Nat → Nat} {n c x : Nat} : ∀ m, m ≤ n → inq (fun i => cc x (up Q n c i)) = inq (fun i => cc x (up Q n c i)) → ∀ y, inq (fun i => cc x (up Q n c i)) y m = inq (fun i => cc x (Q i)) y m := by
  intro m
  induction m with
  | zero => intro _ _ y; rfl
  | succ m ih =>
    intro h _ y
    show (inq _ y m || decide (cc x (up Q n c m) = y)) = (inq _ y m || decide (cc x (Q m) = y))
    rw [ih (by omega) rfl, up_o (by omega)]
set_option maxRecDepth 100000 in
theorem WB.ad {R : Nat → Nat} (v : VR R) {b : Nat} (hb : b < 32) {A : BS} (W : WB R b A) {at' st : Nat} (ha : at' < A.1) (h1 : 1 ≤ st) (h9 : st ≤ 9) (hi : inq A.2.1 (kc R b (A.2.1 at') st) A.1 = false) (hs : slp R b (kc R b (A.2.1 at') st) = true) : WB R b (adB at' st (kc R b (A.2.1 at') st) A) ∧ A.1 < 1024 ∧ (∀ i, i < A.1 → cc b (A.2.1 i) ≠ cc b (kc R b (A.2.1 at') st)) := by
  have vS := v.S
  obtain ⟨w1, w2, w3, w4, w5⟩ := id W
  have wa := w2 at' ha
  have wn := slp_wf wa.1 hs
  have ni : ∀ i, i < A.1 → A.2.1 i ≠ kc R b (A.2.1 at') st := fun i hi2 z => by
    have := (inq_iff A.1).mpr ⟨i, hi2, z⟩
    rw [hi] at this; cases this
  have nc : ∀ i, i < A.1 → cc b (A.2.1 i) ≠ cc b (kc R b (A.2.1 at') st) := fun i hi2 z => ni i hi2 (cc_inj (by omega) hb (w2 i hi2).1 wn z)
  have ht := tfl_kc (st := st) wa.1.1 (fun z => ni at' ha z.symm)
  have hcc := cc_lt (c := kc R b (A.2.1 at') st) hb
  have key : cf (fun x => inq (fun i => cc b (up A.2.1 A.1 (kc R b (A.2.1 at') st) i)) x (A.1 + 1)) 1024 = A.1 + 1 := by
    have := cf_upd (P := fun x => inq (fun i => cc b (A.2.1 i)) x A.1) (P' := fun x => inq (fun i => cc b (up A.2.1 A.1 (kc R b (A.2.1 at') st) i)) x (A.1 + 1)) (x := cc b (kc R b (A.2.1 at') st)) (by
      cases hq : inq (fun i => cc b (A.2.1 i)) (cc b (kc R b (A.2.1 at') st)) A.1 with
      | false => rfl
      | true =>
        obtain ⟨i, i1, i2⟩ := (inq_iff A.1).mp hq
        exact absurd i2 (nc i i1)) (by
      show (inq _ _ A.1 || decide (cc b (up A.2.1 A.1 (kc R b (A.2.1 at') st) A.1) = _)) = true
      rw [up_s, decide_eq_true rfl, Bool.or_true]) (fun y hy => by
      show (inq _ y A.1 || decide (cc b (up A.2.1 A.1 (kc R b (A.2.1 at') st) A.1) = y)) = inq _ y A.1
      rw [up_s, decide_eq_false (fun z => hy z.symm), Bool.or_false]
      exact inq_up A.1 (Nat.le_refl _) rfl y) 1024
    rw [if_pos hcc, w5] at this
    exact this
  have hL : A.1 < 1024 := by
    have := cf_le (fun x => inq (fun i => cc b (up A.2.1 A.1 (kc R b (A.2.1 at') st) i)) x (A.1 + 1)) 1024
    omega
  refine ⟨⟨by show 1 ≤ A.1 + 1; omega, fun i hi2 => ?_, ?_, fun i j h1 h2 => ?_, key⟩, hL, nc⟩
  · show wfc R b (up A.2.1 A.1 (kc R b (A.2.1 at') st) i) ∧ up A.2.2.2.2 A.1 (A.2.2.2.2 at' + 1) i + tfl R (up A.2.1 A.1 (kc R b (A.2.1 at') st) i) ≤ 20 ∧ (1 ≤ i → up A.2.2.1 A.1 at' i < i ∧ up A.2.2.2.2 A.1 (A.2.2.2.2 at' + 1) i = up A.2.2.2.2 A.1 (A.2.2.2.2 at' + 1) (up A.2.2.1 A.1 at' i) + 1 ∧ 1 ≤ up A.2.2.2.1 A.1 st i ∧ up A.2.2.2.1 A.1 st i ≤ 9)
    have hi3 : i < A.1 + 1 := hi2
    by_cases e : i = A.1
    · rw [e, up_s, up_s, up_s, up_s, up_o (j := at') (by omega)]
      exact ⟨wn, by omega, fun _ => ⟨ha, rfl, h1, h9⟩⟩
    · rw [up_o e, up_o e, up_o e, up_o e]
      have w := w2 i (by omega)
      refine ⟨w.1, w.2.1, fun z => ?_⟩
      have wz := w.2.2 z
      rw [up_o (by omega)]
      exact wz
  · show up A.2.2.2.2 A.1 (A.2.2.2.2 at' + 1) 0 = 0
    rw [up_o (by omega)]; exact w3
  · show up A.2.1 A.1 (kc R b (A.2.1 at') st) i ≠ up A.2.1 A.1 (kc R b (A.2.1 at') st) j
    have h3 : j < A.1 + 1 := h2
    rw [up_o (j := i) (by omega)]
    by_cases e : j = A.1
    · rw [e, up_s]; exact ni i (by omega)
    · rw [up_o e]; exact w4 i j h1 (by omega)
