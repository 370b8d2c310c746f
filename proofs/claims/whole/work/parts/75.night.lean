section NIGHT
variable {R : Nat → Nat} {B : Nat}
abbrev ST : Type := (Nat → Nat) × (Nat → Nat)
def up (f : Nat → Nat) (k v : Nat) : Nat → Nat := fun j => if j = k then v else f j
set_option maxRecDepth 100000 in
theorem up_s (f : Nat → Nat) (k v : Nat) : up f k v k = v := if_pos rfl
set_option maxRecDepth 100000 in
theorem up_o {f : Nat → Nat} {k v j : Nat} (h : j ≠ k) : up f k v j = f j := if_neg h
/-- one comes to a floor -/
def cmS (s fl hd : Nat) (σ : ST) : ST := (up (up σ.1 (4 * s + 0) fl) (4 * s + 1) (if fl = 0 then 0 else hd), up σ.2 (1 + s) (σ.2 0))
set_option maxRecDepth 100000 in
theorem cm_0 (s fl hd : Nat) (σ : ST) : (cmS s fl hd σ).1 (4 * s + 0) = fl := by
  show up (up σ.1 (4 * s + 0) fl) (4 * s + 1) _ (4 * s + 0) = fl
  rw [up_o (by omega), up_s]
set_option maxRecDepth 100000 in
theorem cm_1 (s fl hd : Nat) (σ : ST) : (cmS s fl hd σ).1 (4 * s + 1) = if fl = 0 then 0 else hd := up_s _ _ _
set_option maxRecDepth 100000 in
theorem cm_o {s fl hd : Nat} {σ : ST} {j : Nat} (h0 : j ≠ 4 * s + 0) (h1 : j ≠ 4 * s + 1) : (cmS s fl hd σ).1 j = σ.1 j := by
  show up (up σ.1 (4 * s + 0) fl) (4 * s + 1) _ j = σ.1 j
  rw [up_o h1, up_o h0]
set_option maxRecDepth 100000 in
theorem cm_t (s fl hd : Nat) (σ : ST) : (cmS s fl hd σ).2 (1 + s) = σ.2 0 := up_s _ _ _
set_option maxRecDepth 100000 in
theorem cm_to {s fl hd : Nat} {σ : ST} {j : Nat} (h : j ≠ 1 + s) : (cmS s fl hd σ).2 j = σ.2 j := up_o h
set_option maxRecDepth 100000 in
theorem VN.cm {σ : ST} (W : VN R σ.1 σ.2 B) {s fl hd : Nat} (hs : s < 5) (h1 : fl ≤ R 0) (h2 : hd ≤ R 3) (h3 : fl ≠ 0 → hd ≠ 0) : VN R (cmS s fl hd σ).1 (cmS s fl hd σ).2 B := by
  obtain ⟨w1, w2, w3⟩ := W
  refine ⟨?_, fun q hq => ?_, fun q hq => ?_⟩
  · rw [cm_to (by omega)]; exact w1
  · have w := w2 q hq
    by_cases e : q = s
    · subst e
      rw [cm_0, cm_1, cm_o (j := 4 * q + 2) (by omega) (by omega), cm_t, cm_to (j := 0) (by omega)]
      refine ⟨h1, ?_, ?_, w.2.2.2.1, Nat.le_refl _⟩
      · by_cases z : fl = 0
        · rw [if_pos z]; omega
        · rw [if_neg z]; exact h2
      · by_cases z : fl = 0
        · rw [if_pos z]; omega
        · rw [if_neg z]; have := h3 z; omega
    · rw [cm_o (j := 4 * q + 0) (by omega) (by omega), cm_o (j := 4 * q + 1) (by omega) (by omega), cm_o (j := 4 * q + 2) (by omega) (by omega), cm_to (j := 1 + q) (by omega), cm_to (j := 0) (by omega)]
      exact w
  · have w := w3 q hq
    refine ⟨?_, fun f hf hf5 => ?_⟩
    · rw [cm_to (by omega), cm_to (by omega), cm_to (by omega), cm_to (by omega), cm_to (by omega), cm_to (j := 0) (by omega)]; exact w.1
    · rw [cm_to (by omega)]; exact w.2 f hf hf5
set_option maxRecDepth 100000 in
theorem VN.upd {σ : ST} (W : VN R σ.1 σ.2 B) {s n : Nat} (hn : n ≤ cnt R s (R 5)) : VN R (up σ.1 (4 * s + 2) n) σ.2 B := by
  obtain ⟨w1, w2, w3⟩ := W
  refine ⟨w1, fun q hq => ?_, w3⟩
  have w := w2 q hq
  rw [up_o (j := 4 * q + 0) (by omega), up_o (j := 4 * q + 1) (by omega)]
  by_cases e : q = s
  · subst e; rw [up_s]; exact ⟨w.1, w.2.1, w.2.2.1, hn, w.2.2.2.2⟩
  · rw [up_o (by omega)]; exact w
set_option maxRecDepth 100000 in
theorem VN.upr {σ : ST} (W : VN R σ.1 σ.2 B) {s n : Nat} : VN R (up σ.1 (4 * s + 3) n) σ.2 B := by
  obtain ⟨w1, w2, w3⟩ := W
  refine ⟨w1, fun q hq => ?_, w3⟩
  rw [up_o (j := 4 * q + 0) (by omega), up_o (j := 4 * q + 1) (by omega), up_o (j := 4 * q + 2) (by omega)]
  exact w2 q hq
/-- he takes his next step -/
def stB (R : Nat → Nat) (s k : Nat) (σ : ST) : ST := cmS s (if R (40 + 3 * k + 1) = 0 then σ.1 (4 * s + 0) - 1 else min (σ.1 (4 * s + 0) + 1) (R 0)) (if σ.1 (4 * s + 0) = 0 then R (40 + 3 * k + 1) else σ.1 (4 * s + 1)) (up σ.1 (4 * s + 2) (σ.1 (4 * s + 2) + 1), σ.2)
def stS (R : Nat → Nat) (s : Nat) (σ : ST) : ST := match nst R s (σ.1 (4 * s + 2)) with
  | none => σ
  | some k => stB R s k σ
set_option maxRecDepth 100000 in
theorem stS_some {s k : Nat} {σ : ST} (h : nst R s (σ.1 (4 * s + 2)) = some k) : stS R s σ = stB R s k σ := by unfold stS; rw [h]
set_option maxRecDepth 100000 in
theorem due_some {s t : Nat} {N T : Nat → Nat} (h : due R N T s = some t) : ∃ k, nst R s (N (4 * s + 2)) = some k ∧ t = T (1 + s) + R (40 + 3 * k + 2) * mn R (N (4 * s + 0)) := by
  unfold due at h
  cases hk : nst R s (N (4 * s + 2)) with
  | none => rw [hk] at h; cases h
  | some k => rw [hk] at h; exact ⟨k, rfl, (Option.some.inj h).symm⟩
set_option maxRecDepth 100000 in
theorem nst_cnt {s n k : Nat} (h : nst R s n = some k) : n + 1 ≤ cnt R s (R 5) := by
  obtain ⟨k1, k2, k3⟩ := nst_some h
  have h2 := cnt_mono R s (show k + 1 ≤ R 5 by omega)
  rw [show cnt R s (k + 1) = cnt R s k + (if R (40 + 3 * k) = s then 1 else 0) from rfl, if_pos k2] at h2
  omega
set_option maxRecDepth 100000 in
theorem VN.st (v : VR R) {σ : ST} (W : VN R σ.1 σ.2 B) {s k : Nat} (hs : s < R 4) (hk : nst R s (σ.1 (4 * s + 2)) = some k) : VN R (stB R s k σ).1 (stB R s k σ).2 B := by
  have vS := v.S
  have w := W.2.1 s (by omega)
  have vk := v.2.2.2.1 k (nst_some hk).1
  have W1 : VN R (up σ.1 (4 * s + 2) (σ.1 (4 * s + 2) + 1), σ.2).1 (up σ.1 (4 * s + 2) (σ.1 (4 * s + 2) + 1), σ.2).2 B := VN.upd W (nst_cnt hk)
  refine VN.cm W1 (by omega) ?_ ?_ ?_
  · by_cases z : R (40 + 3 * k + 1) = 0
    · rw [if_pos z]; omega
    · rw [if_neg z]; omega
  · by_cases z : σ.1 (4 * s + 0) = 0
    · rw [if_pos z]; exact vk.2.1
    · rw [if_neg z]; exact w.2.1
  · intro h3
    by_cases z : σ.1 (4 * s + 0) = 0
    · rw [if_pos z]
      intro y
      rw [if_pos y] at h3
      omega
    · rw [if_neg z]
      intro y
      exact z (w.2.2.1.mpr y)
/-! what a step leaves as it is -/
set_option maxRecDepth 100000 in
theorem st_o {s k j : Nat} {σ : ST} (h0 : j ≠ 4 * s + 0) (h1 : j ≠ 4 * s + 1) (h2 : j ≠ 4 * s + 2) : (stB R s k σ).1 j = σ.1 j := by
  show (cmS s _ _ _).1 j = _
  rw [cm_o h0 h1]; exact up_o h2
set_option maxRecDepth 100000 in
theorem st_to {s k j : Nat} {σ : ST} (h : j ≠ 1 + s) : (stB R s k σ).2 j = σ.2 j := cm_to h
set_option maxRecDepth 100000 in
theorem st_2 {s k : Nat} {σ : ST} : (stB R s k σ).1 (4 * s + 2) = σ.1 (4 * s + 2) + 1 := by
  show (cmS s _ _ _).1 (4 * s + 2) = _
  rw [cm_o (by omega) (by omega)]; exact up_s _ _ _
set_option maxRecDepth 100000 in
theorem st_t {s k : Nat} {σ : ST} : (stB R s k σ).2 (1 + s) = σ.2 0 := cm_t _ _ _ _
/-- all that is due of one; of all -/
def stW (R : Nat → Nat) (s : Nat) : Nat → ST → ST
  | 0, σ => σ
  | n + 1, σ => match due R σ.1 σ.2 s with
    | none => σ
    | some t => if t ≤ σ.2 0 then stW R s n (stS R s σ) else σ
set_option maxRecDepth 100000 in
theorem stW_none {s n : Nat} {σ : ST} (h : due R σ.1 σ.2 s = none) : stW R s n σ = σ := by
  cases n with
  | zero => rfl
  | succ n => show (match due R σ.1 σ.2 s with | none => σ | some t => if t ≤ σ.2 0 then stW R s n (stS R s σ) else σ) = σ; rw [h]
set_option maxRecDepth 100000 in
theorem stW_gt {s n t : Nat} {σ : ST} (h : due R σ.1 σ.2 s = some t) (ht : ¬ t ≤ σ.2 0) : stW R s n σ = σ := by
  cases n with
  | zero => rfl
  | succ n => show (match due R σ.1 σ.2 s with | none => σ | some t => if t ≤ σ.2 0 then stW R s n (stS R s σ) else σ) = σ; rw [h]; exact if_neg ht
set_option maxRecDepth 100000 in
theorem stW_le {s n t k : Nat} {σ : ST} (h : due R σ.1 σ.2 s = some t) (ht : t ≤ σ.2 0) (hk : nst R s (σ.1 (4 * s + 2)) = some k) : stW R s (n + 1) σ = stW R s n (stB R s k σ) := by
  show (match due R σ.1 σ.2 s with | none => σ | some t => if t ≤ σ.2 0 then stW R s n (stS R s σ) else σ) = _
  rw [h, ← stS_some hk]; exact if_pos ht
def stA (R : Nat → Nat) : Nat → ST → ST
  | 0, σ => σ
  | m + 1, σ => stW R m 20 (stA R m σ)
/-! what stW keeps: VN; other sleepers; the tick; and that done grows -/
set_option maxRecDepth 100000 in
theorem stW_ok (v : VR R) {s : Nat} (hs : s < R 4) : ∀ n (σ : ST), VN R σ.1 σ.2 B → VN R (stW R s n σ).1 (stW R s n σ).2 B ∧ (∀ q c, q ≠ s → c < 4 → (stW R s n σ).1 (4 * q + c) = σ.1 (4 * q + c)) ∧ (∀ j, j ≠ 1 + s → (stW R s n σ).2 j = σ.2 j) ∧ σ.1 (4 * s + 2) ≤ (stW R s n σ).1 (4 * s + 2) ∧ (cnt R s (R 5) ≤ σ.1 (4 * s + 2) + n → ∀ t, due R (stW R s n σ).1 (stW R s n σ).2 s = some t → σ.2 0 < t) := by
  intro n
  induction n with
  | zero =>
    intro σ W
    refine ⟨W, fun _ _ _ _ => rfl, fun _ _ => rfl, Nat.le_refl _, fun h t ht => ?_⟩
    obtain ⟨k, hk, -⟩ := due_some ht
    have hc := nst_cnt hk
    have : stW R s 0 σ = σ := rfl
    rw [this] at hc
    omega
  | succ n ih =>
    intro σ W
    cases hd : due R σ.1 σ.2 s with
    | none =>
      rw [stW_none hd]
      refine ⟨W, fun _ _ _ _ => rfl, fun _ _ => rfl, Nat.le_refl _, fun h t ht => ?_⟩
      rw [hd] at ht; cases ht
    | some t =>
      by_cases c : t ≤ σ.2 0
      · obtain ⟨k, hk, -⟩ := due_some hd
        rw [stW_le hd c hk]
        obtain ⟨a1, a2, a3, a4, a5⟩ := ih (stB R s k σ) (VN.st v W hs hk)
        have t0 : (stB R s k σ).2 0 = σ.2 0 := st_to (by omega)
        rw [st_2, t0] at a5
        rw [st_2] at a4
        refine ⟨a1, fun q c h1 h2 => ?_, fun j hj => ?_, by omega, fun h => a5 (by omega)⟩
        · rw [a2 q c h1 h2]; exact st_o (by omega) (by omega) (by omega)
        · rw [a3 j hj]; exact st_to hj
      · rw [stW_gt hd c]
        refine ⟨W, fun _ _ _ _ => rfl, fun _ _ => rfl, Nat.le_refl _, fun h t' ht => ?_⟩
        rw [hd] at ht
        cases ht
        omega
set_option maxRecDepth 100000 in
theorem due_congr {N T N' T' : Nat → Nat} {s : Nat} (h0 : N' (4 * s + 0) = N (4 * s + 0)) (h2 : N' (4 * s + 2) = N (4 * s + 2)) (ht : T' (1 + s) = T (1 + s)) : due R N' T' s = due R N T s := by
  unfold due
  rw [h0, h2, ht]
set_option maxRecDepth 100000 in
theorem stA_ok (v : VR R) : ∀ m (σ : ST), m ≤ R 4 → VN R σ.1 σ.2 B → VN R (stA R m σ).1 (stA R m σ).2 B ∧ (∀ q c, m ≤ q → c < 4 → (stA R m σ).1 (4 * q + c) = σ.1 (4 * q + c)) ∧ (∀ j, (j = 0 ∨ m < j) → (stA R m σ).2 j = σ.2 j) ∧ (∀ q, σ.1 (4 * q + 2) ≤ (stA R m σ).1 (4 * q + 2)) ∧ (∀ q, q < m → ∀ t, due R (stA R m σ).1 (stA R m σ).2 q = some t → σ.2 0 < t) := by
  intro m
  have v5 := v.2.1
  induction m with
  | zero => intro σ _ W; exact ⟨W, fun _ _ _ _ => rfl, fun _ _ => rfl, fun _ => Nat.le_refl _, fun q hq => absurd hq (Nat.not_lt_zero q)⟩
  | succ m ih =>
    intro σ hm W
    obtain ⟨a1, a2, a3, a4, a5⟩ := ih σ (by omega) W
    obtain ⟨b1, b2, b3, b4, b5⟩ := stW_ok v (show m < R 4 by omega) 20 (stA R m σ) a1
    have hc := cnt_le R m (R 5)
    refine ⟨b1, fun q c h1 h2 => ?_, fun j hj => ?_, fun q => ?_, fun q hq t ht => ?_⟩
    · exact (b2 q c (by omega) h2).trans (a2 q c (by omega) h2)
    · exact (b3 j (by omega)).trans (a3 j (by omega))
    · by_cases e : q = m
      · subst e; exact Nat.le_trans (a4 q) b4
      · exact Nat.le_trans (a4 q) (Nat.le_of_eq (b2 q 2 e (by omega)).symm)
    · have t0 := a3 0 (Or.inl rfl)
      by_cases e : q = m
      · subst e
        rw [← t0]
        exact b5 (by omega) t ht
      · refine a5 q (by omega) t ?_
        rw [← ht]
        exact (due_congr (b2 q 0 e (by omega)) (b2 q 2 e (by omega)) (b3 (1 + q) (by omega))).symm
/-! the lived ones stay -/
set_option maxRecDepth 100000 in
theorem stA_id {σ : ST} (S : SN R σ.1 σ.2) : ∀ m, m ≤ R 4 → stA R m σ = σ := by
  intro m
  induction m with
  | zero => intro _; rfl
  | succ m ih =>
    intro hm
    show stW R m 20 (stA R m σ) = σ
    rw [ih (by omega)]
    cases hd : due R σ.1 σ.2 m with
    | none => exact stW_none hd
    | some t => exact stW_gt hd (by have := S m (by omega) t hd; omega)
/-! knocks -/
abbrev knc (R : Nat → Nat) (hd fl st s : Nat) (σ : ST) : Prop := σ.1 (4 * s + 1) = hd + 1 ∧ fl < σ.1 (4 * s + 0) ∧ br R s (σ.1 (4 * s + 0)) fl st ≠ σ.1 (4 * s + 0)
def knU (R : Nat → Nat) (fl st s : Nat) (σ : ST) : ST := (up (cmS s (br R s (σ.1 (4 * s + 0)) fl st) (σ.1 (4 * s + 1)) σ).1 (4 * s + 3) (σ.1 (4 * s + 3) + 1), (cmS s (br R s (σ.1 (4 * s + 0)) fl st) (σ.1 (4 * s + 1)) σ).2)
def kn1 (R : Nat → Nat) (hd fl st s : Nat) (σ : ST) : ST := if knc R hd fl st s σ then knU R fl st s σ else σ
def knB (R : Nat → Nat) (hd fl st s : Nat) (σ : ST) (x : Int32) : Int32 := if knc R hd fl st s σ then x ||| (nI 1 <<< (nI s &&& nI 31)) else x
def knS (R : Nat → Nat) (hd fl st : Nat) : Nat → ST → ST
  | 0, σ => σ
  | m + 1, σ => kn1 R hd fl st m (knS R hd fl st m σ)
def knX (R : Nat → Nat) (hd fl st : Nat) : Nat → ST → Int32
  | 0, _ => nI 0
  | m + 1, σ => knB R hd fl st m (knS R hd fl st m σ) (knX R hd fl st m σ)
set_option maxRecDepth 100000 in
theorem VN.kn {σ : ST} (W : VN R σ.1 σ.2 B) {fl st s : Nat} (hs : s < 5) (hl : fl < σ.1 (4 * s + 0)) : VN R (knU R fl st s σ).1 (knU R fl st s σ).2 B := by
  have w := W.2.1 s hs
  have hb := br_le R (s := s) (st := st) hl
  refine VN.upr (VN.cm W hs (by omega) w.2.1 (fun _ => ?_))
  omega
set_option maxRecDepth 100000 in
theorem kn1_ok {σ : ST} (W : VN R σ.1 σ.2 B) {hd fl st s : Nat} (hs : s < 5) : VN R (kn1 R hd fl st s σ).1 (kn1 R hd fl st s σ).2 B ∧ (∀ q, (kn1 R hd fl st s σ).1 (4 * q + 2) = σ.1 (4 * q + 2)) ∧ (∀ q c, q ≠ s → c < 4 → (kn1 R hd fl st s σ).1 (4 * q + c) = σ.1 (4 * q + c)) ∧ (∀ j, j ≠ 1 + s → (kn1 R hd fl st s σ).2 j = σ.2 j) := by
  unfold kn1
  by_cases c : knc R hd fl st s σ
  · rw [if_pos c]
    refine ⟨VN.kn W hs c.2.1, fun q => ?_, fun q c h1 h2 => ?_, fun j hj => cm_to (fl := br R s (σ.1 (4 * s + 0)) fl st) (hd := σ.1 (4 * s + 1)) hj⟩
    · show up (cmS s _ _ σ).1 (4 * s + 3) _ (4 * q + 2) = _
      rw [up_o (by omega), cm_o (by omega) (by omega)]
    · show up (cmS s _ _ σ).1 (4 * s + 3) _ (4 * q + c) = _
      rw [up_o (by omega), cm_o (by omega) (by omega)]
  · rw [if_neg c]; exact ⟨W, fun _ => rfl, fun _ _ _ _ => rfl, fun _ _ => rfl⟩
set_option maxRecDepth 100000 in
theorem knS_ok (v : VR R) {hd fl st : Nat} : ∀ m (σ : ST), m ≤ R 4 → VN R σ.1 σ.2 B → VN R (knS R hd fl st m σ).1 (knS R hd fl st m σ).2 B ∧ (∀ q, (knS R hd fl st m σ).1 (4 * q + 2) = σ.1 (4 * q + 2)) ∧ (∀ q c, m ≤ q → c < 4 → (knS R hd fl st m σ).1 (4 * q + c) = σ.1 (4 * q + c)) ∧ (∀ j, (j = 0 ∨ m < j) → (knS R hd fl st m σ).2 j = σ.2 j) := by
  intro m
  have vS := v.S
  induction m with
  | zero => intro σ _ W; exact ⟨W, fun _ => rfl, fun _ _ _ _ => rfl, fun _ _ => rfl⟩
  | succ m ih =>
    intro σ hm W
    obtain ⟨a1, a2, a3, a4⟩ := ih σ (by omega) W
    obtain ⟨b1, b2, b3, b4⟩ := kn1_ok (hd := hd) (fl := fl) (st := st) a1 (show m < 5 by omega)
    exact ⟨b1, fun q => (b2 q).trans (a2 q), fun q c h1 h2 => (b3 q c (by omega) h2).trans (a3 q c (by omega) h2), fun j hj => (b4 j (by omega)).trans (a4 j (by omega))⟩
/-- told knocks of now -/
def ktk (R : Nat → Nat) (k : Nat) : Nat := R (100 + 4 * k + 2) * bt R
def kN (R : Nat → Nat) : Nat → ST → ST
  | 0, σ => σ
  | k + 1, σ => if ktk R k = (kN R k σ).2 0 then knS R (R (100 + 4 * k)) (R (100 + 4 * k + 1)) (R (100 + 4 * k + 3)) (R 4) (kN R k σ) else kN R k σ
set_option maxRecDepth 100000 in
theorem kN_ok (v : VR R) : ∀ m (σ : ST), VN R σ.1 σ.2 B → VN R (kN R m σ).1 (kN R m σ).2 B ∧ (∀ q, (kN R m σ).1 (4 * q + 2) = σ.1 (4 * q + 2)) ∧ (∀ j, (j = 0 ∨ R 4 < j) → (kN R m σ).2 j = σ.2 j) := by
  intro m
  induction m with
  | zero => intro σ W; exact ⟨W, fun _ => rfl, fun _ _ => rfl⟩
  | succ m ih =>
    intro σ W
    obtain ⟨a1, a2, a3⟩ := ih σ W
    by_cases c : ktk R m = (kN R m σ).2 0
    · rw [show kN R (m + 1) σ = knS R (R (100 + 4 * m)) (R (100 + 4 * m + 1)) (R (100 + 4 * m + 3)) (R 4) (kN R m σ) from if_pos c]
      obtain ⟨b1, b2, b3, b4⟩ := knS_ok v (hd := R (100 + 4 * m)) (fl := R (100 + 4 * m + 1)) (st := R (100 + 4 * m + 3)) (R 4) (kN R m σ) (Nat.le_refl _) a1
      exact ⟨b1, fun q => (b2 q).trans (a2 q), fun j hj => (b4 j hj).trans (a3 j hj)⟩
    · rw [show kN R (m + 1) σ = kN R m σ from if_neg c]
      exact ⟨a1, a2, a3⟩
set_option maxRecDepth 100000 in
theorem kN_id {σ : ST} : ∀ m, (∀ k, k < m → ktk R k ≠ σ.2 0) → kN R m σ = σ := by
  intro m
  induction m with
  | zero => intro _; rfl
  | succ m ih =>
    intro h
    have e := ih (fun k hk => h k (by omega))
    show (if ktk R m = (kN R m σ).2 0 then _ else kN R m σ) = σ
    rw [e, if_neg (h m (by omega))]
/-! time goes by -/
def adv (R : Nat → Nat) (t : Nat) (σ : ST) : ST := (σ.1, fun j => if j = 0 then t else if 6 ≤ j ∧ j < 6 + 5 * R 4 ∧ (j - 6) % 5 = σ.1 (4 * ((j - 6) / 5) + 0) then σ.2 j + (t - σ.2 0) else σ.2 j)
set_option maxRecDepth 100000 in
theorem adv_0 (R : Nat → Nat) (t : Nat) (σ : ST) : (adv R t σ).2 0 = t := rfl
set_option maxRecDepth 100000 in
theorem adv_c {t j : Nat} {σ : ST} (h : 1 ≤ j) (h2 : j < 6) : (adv R t σ).2 j = σ.2 j := by
  show (if j = 0 then t else _) = _
  rw [if_neg (by omega), if_neg (by omega)]
set_option maxRecDepth 100000 in
theorem adv_l {t s f : Nat} {σ : ST} (hs : s < R 4) (hf : f < 5) : (adv R t σ).2 (6 + 5 * s + f) = σ.2 (6 + 5 * s + f) + (if f = σ.1 (4 * s + 0) then t - σ.2 0 else 0) := by
  show (if 6 + 5 * s + f = 0 then t else if 6 ≤ 6 + 5 * s + f ∧ 6 + 5 * s + f < 6 + 5 * R 4 ∧ (6 + 5 * s + f - 6) % 5 = σ.1 (4 * ((6 + 5 * s + f - 6) / 5) + 0) then _ else _) = _
  have e1 : (6 + 5 * s + f - 6) % 5 = f := by omega
  have e2 : (6 + 5 * s + f - 6) / 5 = s := by omega
  rw [if_neg (by omega), e1, e2]
  by_cases c : f = σ.1 (4 * s + 0)
  · rw [if_pos ⟨by omega, by omega, c⟩, if_pos c]
  · rw [if_neg (fun z => c z.2.2), if_neg c]; rfl
set_option maxRecDepth 100000 in
theorem due_adv {σ : ST} {t s : Nat} (hs : s < 5) : due R (adv R t σ).1 (adv R t σ).2 s = due R σ.1 σ.2 s := due_congr (N' := (adv R t σ).1) (T' := (adv R t σ).2) (N := σ.1) (T := σ.2) rfl rfl (adv_c (by omega) (by omega))
set_option maxRecDepth 100000 in
theorem adv_same {σ : ST} : adv R (σ.2 0) σ = σ := by
  refine Prod.ext rfl (funext fun j => ?_)
  show (if j = 0 then σ.2 0 else _) = σ.2 j
  by_cases c : j = 0
  · rw [if_pos c, c]
  · rw [if_neg c, Nat.sub_self]
    split <;> rfl
set_option maxRecDepth 100000 in
theorem adv_adv {σ : ST} {t u : Nat} (h1 : σ.2 0 ≤ t) (h2 : t ≤ u) : adv R u (adv R t σ) = adv R u σ := by
  refine Prod.ext rfl (funext fun j => ?_)
  show (if j = 0 then u else if 6 ≤ j ∧ j < 6 + 5 * R 4 ∧ (j - 6) % 5 = σ.1 (4 * ((j - 6) / 5) + 0) then (adv R t σ).2 j + (u - t) else (adv R t σ).2 j) = (if j = 0 then u else if 6 ≤ j ∧ j < 6 + 5 * R 4 ∧ (j - 6) % 5 = σ.1 (4 * ((j - 6) / 5) + 0) then σ.2 j + (u - σ.2 0) else σ.2 j)
  by_cases c : j = 0
  · rw [if_pos c, if_pos c]
  · rw [if_neg c, if_neg c]
    have e : (adv R t σ).2 j = if 6 ≤ j ∧ j < 6 + 5 * R 4 ∧ (j - 6) % 5 = σ.1 (4 * ((j - 6) / 5) + 0) then σ.2 j + (t - σ.2 0) else σ.2 j := if_neg c
    rw [e]
    by_cases c2 : 6 ≤ j ∧ j < 6 + 5 * R 4 ∧ (j - 6) % 5 = σ.1 (4 * ((j - 6) / 5) + 0)
    · rw [if_pos c2, if_pos c2, if_pos c2]; omega
    · rw [if_neg c2, if_neg c2, if_neg c2]
set_option maxRecDepth 100000 in
theorem VN.adw (v : VR R) {σ : ST} {B' : Nat} (W : VN R σ.1 σ.2 B') {t : Nat} (h1 : σ.2 0 ≤ t) (h2 : t ≤ B * bt R) : VN R (adv R t σ).1 (adv R t σ).2 B := by
  obtain ⟨w1, w2, w3⟩ := W
  have vF := v.F
  have vS := v.S
  refine ⟨h2, fun q hq => ?_, fun q hq => ?_⟩
  · have w := w2 q hq
    rw [adv_c (j := 1 + q) (by omega) (by omega), adv_0]
    exact ⟨w.1, w.2.1, w.2.2.1, w.2.2.2.1, by omega⟩
  · have w := w3 q hq
    have wq := w2 q (by omega)
    rw [adv_l hq (by omega), adv_l hq (by omega), adv_l hq (by omega), adv_l hq (by omega), adv_l hq (by omega), adv_0]
    refine ⟨?_, fun f hf hf5 => ?_⟩
    · rcases (show σ.1 (4 * q + 0) = 0 ∨ σ.1 (4 * q + 0) = 1 ∨ σ.1 (4 * q + 0) = 2 ∨ σ.1 (4 * q + 0) = 3 ∨ σ.1 (4 * q + 0) = 4 by omega) with e | e | e | e | e <;>
        (simp only [e]; simp only [if_true, Nat.reduceEqDiff, if_false]; omega)
    · rw [adv_l hq hf5, if_neg (by omega), w.2 f hf hf5]
/-! the next change -/
def mnf (f : Nat → Nat) (x : Nat) : Nat → Nat
  | 0 => x
  | m + 1 => min (mnf f x m) (f m)
set_option maxRecDepth 100000 in
theorem mnf_le (f : Nat → Nat) (x : Nat) : ∀ m, mnf f x m ≤ x
  | 0 => Nat.le_refl _
  | m + 1 => Nat.le_trans (Nat.min_le_left _ _) (mnf_le f x m)
set_option maxRecDepth 100000 in
theorem mnf_at {f : Nat → Nat} {x : Nat} : ∀ {m i}, i < m → mnf f x m ≤ f i := by
  intro m
  induction m with
  | zero => intro i h; exact absurd h (Nat.not_lt_zero i)
  | succ m ih =>
    intro i h
    show min (mnf f x m) (f m) ≤ f i
    by_cases e : i = m
    · subst e; exact Nat.min_le_right _ _
    · exact Nat.le_trans (Nat.min_le_left _ _) (ih (by omega))
set_option maxRecDepth 100000 in
theorem mnf_mem (f : Nat → Nat) (x : Nat) : ∀ m, mnf f x m = x ∨ ∃ i, i < m ∧ mnf f x m = f i := by
  intro m
  induction m with
  | zero => exact Or.inl rfl
  | succ m ih =>
    have e : mnf f x (m + 1) = min (mnf f x m) (f m) := rfl
    rcases Nat.le_total (mnf f x m) (f m) with c | c
    · rw [e, Nat.min_eq_left c]
      rcases ih with h | ⟨i, h1, h2⟩
      · exact Or.inl h
      · exact Or.inr ⟨i, by omega, h2⟩
    · rw [e, Nat.min_eq_right c]
      exact Or.inr ⟨m, by omega, rfl⟩
set_option maxRecDepth 100000 in
theorem mnf_min (f : Nat → Nat) (x y : Nat) : ∀ m, mnf f (min x y) m = min x (mnf f y m)
  | 0 => rfl
  | m + 1 => by
    show min (mnf f (min x y) m) (f m) = min x (min (mnf f y m) (f m))
    rw [mnf_min f x y m]; omega
set_option maxRecDepth 100000 in
theorem mnf_congr {f g : Nat → Nat} {x : Nat} : ∀ {m}, (∀ i, i < m → f i = g i) → mnf f x m = mnf g x m := by
  intro m
  induction m with
  | zero => intro _; rfl
  | succ m ih =>
    intro h
    show min (mnf f x m) (f m) = min (mnf g x m) (g m)
    rw [ih (fun i hi => h i (by omega)), h m (by omega)]
def NV : Nat := 1152921504606846976
def duN (R : Nat → Nat) (σ : ST) (s : Nat) : Nat := (due R σ.1 σ.2 s).getD NV
def ktN (R : Nat → Nat) (σ : ST) (k : Nat) : Nat := if σ.2 0 < ktk R k then ktk R k else NV
def nxt (R : Nat → Nat) (σ : ST) : Nat := mnf (ktN R σ) (mnf (duN R σ) NV (R 4)) (R 6)
set_option maxRecDepth 100000 in
theorem ktk_le (v : VR R) {k : Nat} (hk : k < R 6) : ktk R k ≤ 12441600 := by
  have vk := v.2.2.2.2.1 k hk
  have v2 := v.2.1
  exact Nat.le_trans (Nat.mul_le_mul (Nat.le_trans vk.2.2.1 (by omega)) v.bt.2) (by decide : 600 * 20736 ≤ 12441600)
set_option maxRecDepth 100000 in
theorem nxt_gt (v : VR R) {σ : ST} (W : VN R σ.1 σ.2 B) (hB : B ≤ 2000) (S : SN R σ.1 σ.2) : σ.2 0 < nxt R σ := by
  have hT := VN.t v W hB
  have hN : σ.2 0 < NV := by unfold NV; omega
  have h1 : σ.2 0 < mnf (duN R σ) NV (R 4) := by
    rcases mnf_mem (duN R σ) NV (R 4) with e | ⟨i, hi, e⟩
    · rw [e]; exact hN
    · rw [e]
      unfold duN
      cases hd : due R σ.1 σ.2 i with
      | none => exact hN
      | some t => exact S i hi t hd
  rcases mnf_mem (ktN R σ) (mnf (duN R σ) NV (R 4)) (R 6) with e | ⟨i, hi, e⟩
  · unfold nxt; rw [e]; exact h1
  · unfold nxt; rw [e]
    unfold ktN
    by_cases c : σ.2 0 < ktk R i
    · rw [if_pos c]; exact c
    · rw [if_neg c]; exact hN
set_option maxRecDepth 100000 in
theorem nxt_due {σ : ST} {s t : Nat} (hs : s < R 4) (h : due R σ.1 σ.2 s = some t) : nxt R σ ≤ t := by
  refine Nat.le_trans (mnf_le _ _ _) ?_
  have := mnf_at (f := duN R σ) (x := NV) hs
  unfold duN at this ⊢
  rw [h] at this
  exact this
set_option maxRecDepth 100000 in
theorem nxt_kt {σ : ST} {k : Nat} (hk : k < R 6) (h : σ.2 0 < ktk R k) : nxt R σ ≤ ktk R k := by
  have := mnf_at (f := ktN R σ) (x := mnf (duN R σ) NV (R 4)) hk
  unfold nxt
  refine Nat.le_trans this ?_
  unfold ktN
  rw [if_pos h]
  exact Nat.le_refl _
set_option maxRecDepth 100000 in
theorem nxt_mem {σ : ST} : nxt R σ = NV ∨ (∃ s, s < R 4 ∧ due R σ.1 σ.2 s = some (nxt R σ)) ∨ (∃ k, k < R 6 ∧ σ.2 0 < ktk R k ∧ nxt R σ = ktk R k) := by
  rcases mnf_mem (ktN R σ) (mnf (duN R σ) NV (R 4)) (R 6) with e | ⟨i, hi, e⟩
  · rcases mnf_mem (duN R σ) NV (R 4) with e2 | ⟨i, hi, e2⟩
    · exact Or.inl (e.trans e2)
    · have e3 : nxt R σ = duN R σ i := e.trans e2
      unfold duN at e3
      cases hd : due R σ.1 σ.2 i with
      | none => rw [hd] at e3; exact Or.inl e3
      | some t => rw [hd] at e3; exact Or.inr (Or.inl ⟨i, hi, by rw [hd, e3]; rfl⟩)
  · have e3 : nxt R σ = ktN R σ i := e
    unfold ktN at e3
    by_cases c : σ.2 0 < ktk R i
    · rw [if_pos c] at e3; exact Or.inr (Or.inr ⟨i, hi, c, e3⟩)
    · rw [if_neg c] at e3; exact Or.inl e3
/-! time goes by with nothing between -/
set_option maxRecDepth 100000 in
theorem nxt_adv {σ : ST} {t : Nat} (h1 : σ.2 0 ≤ t) (h2 : t < nxt R σ) (h3 : ∀ s, s < R 4 → s < 5) : nxt R (adv R t σ) = nxt R σ := by
  unfold nxt
  have e1 : mnf (duN R (adv R t σ)) NV (R 4) = mnf (duN R σ) NV (R 4) := mnf_congr (fun s hs => by
    unfold duN
    rw [due_adv (h3 s hs)])
  rw [e1]
  refine mnf_congr (fun k hk => ?_)
  unfold ktN
  rw [adv_0]
  by_cases c : σ.2 0 < ktk R k
  · have := nxt_kt hk c
    rw [if_pos c, if_pos (by omega)]
  · rw [if_neg c, if_neg (by omega)]
set_option maxRecDepth 100000 in
theorem SN.adw {σ : ST} {t : Nat} (h2 : t < nxt R σ) (h3 : ∀ s, s < R 4 → s < 5) : SN R (adv R t σ).1 (adv R t σ).2 := by
  intro s hs u hu
  rw [due_adv (h3 s hs)] at hu
  have := nxt_due hs hu
  rw [adv_0]; omega
def ev (R : Nat → Nat) (t : Nat) (σ : ST) : ST := stA R (R 4) (kN R (R 6) (adv R t σ))
set_option maxRecDepth 100000 in
theorem ev_ok (v : VR R) {σ : ST} {B' : Nat} (W : VN R σ.1 σ.2 B') {t : Nat} (h1 : σ.2 0 ≤ t) (h2 : t ≤ B * bt R) : VN R (ev R t σ).1 (ev R t σ).2 B ∧ SN R (ev R t σ).1 (ev R t σ).2 ∧ (ev R t σ).2 0 = t ∧ (∀ q, σ.1 (4 * q + 2) ≤ (ev R t σ).1 (4 * q + 2)) := by
  obtain ⟨a1, a2, a3⟩ := kN_ok v (R 6) _ (VN.adw v W h1 h2)
  obtain ⟨b1, b2, b3, b4, b5⟩ := stA_ok v (R 4) _ (Nat.le_refl _) a1
  have t1 : (kN R (R 6) (adv R t σ)).2 0 = t := a3 0 (Or.inl rfl)
  have t0 : (ev R t σ).2 0 = t := (b3 0 (Or.inl rfl)).trans t1
  refine ⟨b1, fun s hs u hu => ?_, t0, fun q => ?_⟩
  · have := b5 s hs u hu
    rw [t0]; rw [t1] at this; exact this
  · exact Nat.le_trans (Nat.le_of_eq (a2 q).symm) (b4 q)
set_option maxRecDepth 100000 in
theorem ev_no (v : VR R) {σ : ST} {t : Nat} (h1 : σ.2 0 < t) (h2 : t < nxt R σ) : ev R t σ = adv R t σ := by
  have vS := v.S
  have e : kN R (R 6) (adv R t σ) = adv R t σ := kN_id (R 6) (fun k hk => by
    rw [adv_0]
    intro z
    have := nxt_kt (σ := σ) hk (by omega)
    omega)
  unfold ev
  rw [e]
  exact stA_id (SN.adw h2 (fun s hs => by omega)) (R 4) (Nat.le_refl _)
/-! how much is still to come -/
def rsm (R : Nat → Nat) (σ : ST) : Nat → Nat
  | 0 => 0
  | m + 1 => rsm R σ m + (cnt R m (R 5) - σ.1 (4 * m + 2))
def rkm (R : Nat → Nat) (t : Nat) : Nat → Nat
  | 0 => 0
  | m + 1 => rkm R t m + (if t < ktk R m then 1 else 0)
def mu (R : Nat → Nat) (σ : ST) : Nat := rsm R σ (R 4) + rkm R (σ.2 0) (R 6)
def cs (R : Nat → Nat) (k : Nat) : Nat → Nat
  | 0 => 0
  | m + 1 => cs R k m + cnt R m k
set_option maxRecDepth 100000 in
theorem cs_le (R : Nat → Nat) : ∀ k m, cs R k m ≤ k := by
  intro k
  induction k with
  | zero =>
    intro m
    induction m with
    | zero => exact Nat.le_refl _
    | succ m ih => show cs R 0 m + cnt R m 0 ≤ 0; rw [show cnt R m 0 = 0 from rfl]; omega
  | succ k ih =>
    intro m
    have key : ∀ m, cs R (k + 1) m ≤ cs R k m + (if R (40 + 3 * k) < m then 1 else 0) := by
      intro m
      induction m with
      | zero => exact Nat.zero_le _
      | succ m ihm =>
        show cs R (k + 1) m + cnt R m (k + 1) ≤ cs R k m + cnt R m k + _
        rw [show cnt R m (k + 1) = cnt R m k + (if R (40 + 3 * k) = m then 1 else 0) from rfl]
        by_cases c : R (40 + 3 * k) < m
        · rw [if_pos c] at ihm; rw [if_neg (by omega), if_pos (by omega)]; omega
        · rw [if_neg c] at ihm
          by_cases c2 : R (40 + 3 * k) = m
          · rw [if_pos c2, if_pos (by omega)]; omega
          · rw [if_neg c2, if_neg (by omega)]; omega
    have h1 := key m
    have h2 := ih m
    split at h1 <;> omega
set_option maxRecDepth 100000 in
theorem rsm_le (R : Nat → Nat) (σ : ST) : ∀ m, rsm R σ m ≤ cs R (R 5) m
  | 0 => Nat.le_refl _
  | m + 1 => by
    have := rsm_le R σ m
    show rsm R σ m + _ ≤ cs R (R 5) m + _
    omega
set_option maxRecDepth 100000 in
theorem rkm_le (R : Nat → Nat) (t : Nat) : ∀ m, rkm R t m ≤ m
  | 0 => Nat.le_refl _
  | m + 1 => by
    have := rkm_le R t m
    show rkm R t m + _ ≤ m + 1
    split <;> omega
set_option maxRecDepth 100000 in
theorem mu_le (v : VR R) (σ : ST) : mu R σ ≤ 28 := by
  have v5 := v.2.1
  have h1 := rsm_le R σ (R 4)
  have h2 := cs_le R (R 5) (R 4)
  have h3 := rkm_le R (σ.2 0) (R 6)
  unfold mu
  omega
set_option maxRecDepth 100000 in
theorem rsm_mono {σ τ : ST} (h : ∀ q, σ.1 (4 * q + 2) ≤ τ.1 (4 * q + 2)) : ∀ m, rsm R τ m ≤ rsm R σ m
  | 0 => Nat.le_refl _
  | m + 1 => by
    have h1 := rsm_mono h m
    have h2 := h m
    show rsm R τ m + _ ≤ rsm R σ m + _
    omega
set_option maxRecDepth 100000 in
theorem rsm_lt {σ τ : ST} (h : ∀ q, σ.1 (4 * q + 2) ≤ τ.1 (4 * q + 2)) {s : Nat} (hs : σ.1 (4 * s + 2) < τ.1 (4 * s + 2)) (hc : σ.1 (4 * s + 2) < cnt R s (R 5)) : ∀ m, s < m → rsm R τ m < rsm R σ m := by
  intro m
  induction m with
  | zero => intro z; exact absurd z (Nat.not_lt_zero s)
  | succ m ih =>
    intro hm
    show rsm R τ m + _ < rsm R σ m + _
    have h2 := h m
    by_cases e : s = m
    · subst e
      have := rsm_mono (R := R) h s
      omega
    · have := ih (by omega)
      omega
set_option maxRecDepth 100000 in
theorem rkm_mono {t u : Nat} (h : t ≤ u) : ∀ m, rkm R u m ≤ rkm R t m
  | 0 => Nat.le_refl _
  | m + 1 => by
    have h1 := rkm_mono h m
    show rkm R u m + _ ≤ rkm R t m + _
    by_cases c : u < ktk R m
    · rw [if_pos c, if_pos (by omega)]; omega
    · rw [if_neg c]; omega
set_option maxRecDepth 100000 in
theorem rkm_lt {t u : Nat} (h : t ≤ u) {k : Nat} (h1 : t < ktk R k) (h2 : ktk R k ≤ u) : ∀ m, k < m → rkm R u m < rkm R t m := by
  intro m
  induction m with
  | zero => intro z; exact absurd z (Nat.not_lt_zero k)
  | succ m ih =>
    intro hm
    show rkm R u m + _ < rkm R t m + _
    by_cases e : k = m
    · subst e
      have := rkm_mono (R := R) h k
      rw [if_neg (by omega), if_pos h1]; omega
    · have := ih (by omega)
      by_cases c : u < ktk R m
      · rw [if_pos c, if_pos (by omega)]; omega
      · rw [if_neg c]; omega
/-! a change uses something up -/
set_option maxRecDepth 100000 in
theorem stA_step (v : VR R) {σ : ST} (W : VN R σ.1 σ.2 B) {s t : Nat} (hd : due R σ.1 σ.2 s = some t) (ht : t ≤ σ.2 0) : ∀ m, s < m → m ≤ R 4 → σ.1 (4 * s + 2) < (stA R m σ).1 (4 * s + 2) := by
  intro m
  induction m with
  | zero => intro z; exact absurd z (Nat.not_lt_zero s)
  | succ m ih =>
    intro h1 h2
    obtain ⟨a1, a2, a3, a4, a5⟩ := stA_ok v m σ (by omega) W
    obtain ⟨b1, b2, b3, b4, b5⟩ := stW_ok v (show m < R 4 by omega) 20 (stA R m σ) a1
    show σ.1 (4 * s + 2) < (stW R m 20 (stA R m σ)).1 (4 * s + 2)
    by_cases e : s = m
    · subst e
      have e0 := a2 s 0 (Nat.le_refl _) (by omega)
      have e2 := a2 s 2 (Nat.le_refl _) (by omega)
      have d1 : due R (stA R s σ).1 (stA R s σ).2 s = some t := (due_congr e0 e2 (a3 (1 + s) (by omega))).trans hd
      obtain ⟨k, hk, -⟩ := due_some d1
      have t0 := a3 0 (Or.inl rfl)
      rw [stW_le d1 (by omega) hk]
      obtain ⟨c1, c2, c3, c4, c5⟩ := stW_ok v (show s < R 4 by omega) 19 _ (VN.st v a1 (show s < R 4 by omega) hk)
      rw [st_2, e2] at c4
      omega
    · have := ih (by omega) (by omega)
      rw [b2 s 2 e (by omega)]
      exact this
set_option maxRecDepth 100000 in
theorem mu_ev (v : VR R) {σ : ST} {B' : Nat} (W : VN R σ.1 σ.2 B') {t : Nat} (h1 : σ.2 0 < t) (h2 : t ≤ B * bt R) (ht : t < NV) (h3 : nxt R σ = t) : mu R (ev R t σ) < mu R σ := by
  have vS := v.S
  obtain ⟨-, -, e0, em⟩ := ev_ok v W (Nat.le_of_lt h1) h2
  have m1 := rsm_mono (R := R) em (R 4)
  have m2 := rkm_mono (R := R) (Nat.le_of_lt h1) (R 6)
  unfold mu
  rw [e0]
  by_cases c : ∃ k, k < R 6 ∧ ktk R k = t
  · obtain ⟨k, hk, ek⟩ := c
    have := rkm_lt (R := R) (Nat.le_of_lt h1) (k := k) (by omega) (by omega) (R 6) hk
    omega
  · rcases nxt_mem (R := R) (σ := σ) with e | ⟨s, hs, e⟩ | ⟨k, hk, e, e3⟩
    · omega
    · rw [h3] at e
      have ek : kN R (R 6) (adv R t σ) = adv R t σ := kN_id (R 6) (fun k hk z => c ⟨k, hk, z⟩)
      have e9 : ev R t σ = stA R (R 4) (adv R t σ) := by unfold ev; rw [ek]
      have d1 : due R (adv R t σ).1 (adv R t σ).2 s = some t := (due_congr rfl rfl (adv_c (by omega) (by omega))).trans e
      have st := stA_step v (VN.adw v W (Nat.le_of_lt h1) h2) d1 (Nat.le_refl t) (R 4) hs (Nat.le_refl _)
      rw [← e9] at st
      obtain ⟨k, hk, -⟩ := due_some e
      have := rsm_lt (R := R) em (s := s) st (nst_cnt hk) (R 4) hs
      omega
    · exact absurd ⟨k, hk, by omega⟩ c
/-! all goes on to a tick -/
def run (R : Nat → Nat) (tick : Nat) : Nat → ST → ST
  | 0, σ => adv R tick σ
  | n + 1, σ => if nxt R σ ≤ tick then run R tick n (ev R (nxt R σ) σ) else adv R tick σ
set_option maxRecDepth 100000 in
theorem run_le {tick n : Nat} {σ : ST} (h : nxt R σ ≤ tick) : run R tick (n + 1) σ = run R tick n (ev R (nxt R σ) σ) := if_pos h
set_option maxRecDepth 100000 in
theorem run_gt {tick n : Nat} {σ : ST} (h : tick < nxt R σ) : run R tick n σ = adv R tick σ := by
  cases n with
  | zero => rfl
  | succ n => exact if_neg (by omega)
set_option maxRecDepth 100000 in
theorem bt2 (v : VR R) {t : Nat} (hB : B ≤ 2000) (h : t ≤ B * bt R) : t < NV := by
  have : B * bt R ≤ 2000 * 20736 := Nat.mul_le_mul hB v.bt.2
  unfold NV; omega
set_option maxRecDepth 100000 in
theorem run_ok (v : VR R) (hB : B ≤ 2000) {tick : Nat} (h2 : tick ≤ B * bt R) : ∀ n (σ : ST) B', B' ≤ 2000 → mu R σ < n → VN R σ.1 σ.2 B' → SN R σ.1 σ.2 → σ.2 0 ≤ tick → VN R (run R tick n σ).1 (run R tick n σ).2 B ∧ SN R (run R tick n σ).1 (run R tick n σ).2 ∧ (run R tick n σ).2 0 = tick ∧ (∀ m, mu R σ < m → run R tick m σ = run R tick n σ) := by
  have vS := v.S
  intro n
  induction n with
  | zero => intro σ B' _ h; exact absurd h (Nat.not_lt_zero _)
  | succ n ih =>
    intro σ B' hB' hn W S ht
    have hg := nxt_gt v W hB' S
    by_cases c : nxt R σ ≤ tick
    · have hN := bt2 v hB h2
      have hm := mu_ev v W hg (Nat.le_trans c h2) (by omega) rfl
      obtain ⟨e1, e2, e3, e4⟩ := ev_ok v W (Nat.le_of_lt hg) (Nat.le_trans c h2)
      obtain ⟨a1, a2, a3, a4⟩ := ih (ev R (nxt R σ) σ) B hB (by omega) e1 e2 (by omega)
      rw [run_le c]
      refine ⟨a1, a2, a3, fun m hm2 => ?_⟩
      obtain ⟨q, rfl⟩ : ∃ q, m = q + 1 := ⟨m - 1, by omega⟩
      rw [run_le c]
      exact a4 q (by omega)
    · have c' : tick < nxt R σ := by omega
      rw [run_gt c']
      exact ⟨VN.adw v W ht h2, SN.adw c' (fun s hs => by omega), rfl, fun m _ => run_gt c'⟩
set_option maxRecDepth 100000 in
theorem run_run (v : VR R) (hB : B ≤ 2000) {t u : Nat} (htu : t ≤ u) (h2 : u ≤ B * bt R) : ∀ n (σ : ST) B', B' ≤ 2000 → mu R σ < n → VN R σ.1 σ.2 B' → SN R σ.1 σ.2 → σ.2 0 ≤ t → run R u 29 (run R t n σ) = run R u n σ := by
  have vS := v.S
  intro n
  induction n with
  | zero => intro σ B' _ h; exact absurd h (Nat.not_lt_zero _)
  | succ n ih =>
    intro σ B' hB' hn W S ht
    have hg := nxt_gt v W hB' S
    by_cases c : nxt R σ ≤ t
    · have hN := bt2 v hB h2
      have hm := mu_ev v W hg (Nat.le_trans c (Nat.le_trans htu h2)) (by omega) rfl
      obtain ⟨e1, e2, e3, e4⟩ := ev_ok v W (Nat.le_of_lt hg) (Nat.le_trans c (Nat.le_trans htu h2))
      rw [run_le c, run_le (Nat.le_trans c htu)]
      exact ih (ev R (nxt R σ) σ) B hB (by omega) e1 e2 (by omega)
    · have c' : t < nxt R σ := by omega
      rw [run_gt c']
      have en : nxt R (adv R t σ) = nxt R σ := nxt_adv ht c' (fun s hs => by omega)
      by_cases c2 : nxt R σ ≤ u
      · rw [run_le (n := n) c2, run_le (n := 28) (by omega), en]
        have ee : ev R (nxt R σ) (adv R t σ) = ev R (nxt R σ) σ := by
          unfold ev
          rw [adv_adv ht (Nat.le_of_lt c')]
        rw [ee]
        have hN := bt2 v hB h2
        have hm := mu_ev v W hg (Nat.le_trans c2 h2) (by omega) rfl
        obtain ⟨e1, e2, e3, e4⟩ := ev_ok v W (Nat.le_of_lt hg) (Nat.le_trans c2 h2)
        have h28 := mu_le v σ
        exact (run_ok v hB h2 n (ev R (nxt R σ) σ) B hB (by omega) e1 e2 (by omega)).2.2.2 28 (by omega)
      · have c3 : u < nxt R σ := by omega
        rw [run_gt c3, run_gt (by omega), adv_adv ht htu]
end NIGHT
