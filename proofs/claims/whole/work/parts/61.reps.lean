/-- pictures that agree at all places of P -/
def Keep (P : Nat → Nat → Prop) (h h' : HH) : Prop := ∀ b k, P b k → gI h' b k = gI h b k ∧ gL h' b k = gL h b k ∧ gR h' b k = gR h b k
theorem Keep.rfl {P : Nat → Nat → Prop} {h : HH} : Keep P h h := fun _ _ _ => ⟨Eq.refl _, Eq.refl _, Eq.refl _⟩
theorem Keep.trans {P : Nat → Nat → Prop} {h h1 h2 : HH} (a : Keep P h h1) (b : Keep P h1 h2) : Keep P h h2 := fun x k hp => ⟨(b x k hp).1.trans (a x k hp).1, (b x k hp).2.1.trans (a x k hp).2.1, (b x k hp).2.2.trans (a x k hp).2.2⟩
theorem Keep.mono {P Q : Nat → Nat → Prop} {h h1 : HH} (a : Keep P h h1) (b : ∀ x k, Q x k → P x k) : Keep Q h h1 := fun x k hp => a x k (b x k hp)
theorem Keep.sI {P : Nat → Nat → Prop} {h h1 : HH} (a : Keep P h h1) {b k : Nat} {v : Int32} (n : ¬ P b k) : Keep P h (sI h1 b k v) := fun x j hp => by
  have : ¬ (x = b ∧ j = k) := fun e => n (by rw [← e.1, ← e.2]; exact hp)
  rw [gI_sI, if_neg this]
  exact a x j hp
theorem Keep.sL {P : Nat → Nat → Prop} {h h1 : HH} (a : Keep P h h1) {b k : Nat} {v : Int64} (n : ¬ P b k) : Keep P h (sL h1 b k v) := fun x j hp => by
  have : ¬ (x = b ∧ j = k) := fun e => n (by rw [← e.1, ← e.2]; exact hp)
  rw [gL_sL, if_neg this]
  exact a x j hp
theorem Keep.sR {P : Nat → Nat → Prop} {h h1 : HH} (a : Keep P h h1) {b k : Nat} {v : Nat} (n : ¬ P b k) : Keep P h (sR h1 b k v) := fun x j hp => by
  have : ¬ (x = b ∧ j = k) := fun e => n (by rw [← e.1, ← e.2]; exact hp)
  rw [gR_sR, if_neg this]
  exact a x j hp
def isD (d : Nat) : Prop := d = 44 ∨ d = 60
/-- what the told numbers keep to -/
def VR (R : Nat → Nat) : Prop :=
  (1 ≤ R 0 ∧ R 0 ≤ 4 ∧ (∀ f, f < R 0 → 2 ≤ R (11 + f) ∧ R (11 + f) ≤ 12)) ∧ (R 1 ≤ 60 ∧ 1 ≤ R 2 ∧ R 2 ≤ 600 ∧ 1 ≤ R 3 ∧ R 3 ≤ 3 ∧ 1 ≤ R 4 ∧ R 4 ≤ 5 ∧ R 5 ≤ 20 ∧ R 6 ≤ 8 ∧ R 7 ≤ 6 ∧ R 8 ≤ 6 ∧ R 9 ≤ 6 ∧ R 10 ≤ 1) ∧
  (∀ s, s < R 4 → R (15 + 5 * s + 0) ≤ 3 ∧ 1 ≤ R (15 + 5 * s + 1) ∧ R (15 + 5 * s + 1) ≤ 9999 ∧ R (15 + 5 * s + 2) ≤ 999 ∧ R (15 + 5 * s + 3) ≤ 100 ∧ R (15 + 5 * s + 4) ≤ 5) ∧
  (∀ k, k < R 5 → R (40 + 3 * k) < R 4 ∧ R (40 + 3 * k + 1) ≤ R 3 ∧ R (40 + 3 * k + 2) ≤ 999) ∧
  (∀ k, k < R 6 → R (100 + 4 * k) < R 3 ∧ R (100 + 4 * k + 1) < R 0 ∧ R (100 + 4 * k + 2) ≤ R 2 ∧ 1 ≤ R (100 + 4 * k + 3) ∧ R (100 + 4 * k + 3) ≤ 99) ∧
  (∀ k, k < R 7 → R (132 + 3 * k) ≤ R 0 ∧ 1 ≤ R (132 + 3 * k + 1) ∧ R (132 + 3 * k + 1) ≤ 999 ∧ R (132 + 3 * k + 2) ≤ 99) ∧
  (∀ f, f < R 0 → R (150 + f) ≤ 999) ∧
  (∀ k, k < R 8 → R (154 + 3 * k) ≤ 1 ∧ 1 ≤ R (154 + 3 * k + 1) ∧ R (154 + 3 * k + 1) ≤ 9999 ∧ R (154 + 3 * k + 2) ≤ 9999) ∧
  (∀ k, k < R 9 → 1 ≤ R (172 + 3 * k) ∧ R (172 + 3 * k) ≤ 9999 ∧ 1 ≤ R (172 + 3 * k + 1) ∧ R (172 + 3 * k + 1) ≤ R 0 ∧ 1 ≤ R (172 + 3 * k + 2) ∧ R (172 + 3 * k + 2) ≤ 999)
/-- how many of the first k steps are those of s -/
def cnt (R : Nat → Nat) (s : Nat) : Nat → Nat
  | 0 => 0
  | k + 1 => cnt R s k + (if R (40 + 3 * k) = s then 1 else 0)
/-- nothing, or a number less 1 -/
def les (a : Int32) : Nat → Int32
  | 0 => a
  | n + 1 => nI n
theorem les_eq {a b : Nat} (ha : a < 2 ^ 31) (hb : b < 2 ^ 31) : (les M2 a = les M2 b) = (a = b) := by
  cases a with
  | zero => cases b with
    | zero => simp
    | succ b => simp [les, M2e (show b < 2 ^ 31 by omega)]
  | succ a => cases b with
    | zero => simp [les, M2f (show a < 2 ^ 31 by omega)]
    | succ b => simp [les, eqN (show a < 2 ^ 31 by omega) (show b < 2 ^ 31 by omega)]
theorem les_e {a : Nat} (ha : a < 2 ^ 31) : (les M2 a = M2) = (a = 0) := by
  cases a with
  | zero => simp [les]
  | succ a => simp [les, M2f (show a < 2 ^ 31 by omega)]
theorem les_n {a b : Nat} (ha : a < 2 ^ 31) (hb : b + 1 < 2 ^ 31) : (les M2 a = nI b) = (a = b + 1) := by
  cases a with
  | zero => simp [les, M2e (show b < 2 ^ 31 by omega)]
  | succ a => simp [les, eqN (show a < 2 ^ 31 by omega) (show b < 2 ^ 31 by omega)]
theorem les_m {a b : Nat} (ha : a < 2 ^ 31) (hb : b + 1 < 2 ^ 31) : (nI b = les M2 a) = (a = b + 1) := by
  cases a with
  | zero => simp [les, M2f (show b < 2 ^ 31 by omega)]
  | succ a => simp [les, eqN (show b < 2 ^ 31 by omega) (show a < 2 ^ 31 by omega)]; exact ⟨fun h => h.symm, fun h => h.symm⟩
def RowsR (h : HH) (w c m : Nat) : Prop := gI h w 1 = nI c ∧ gI h w 3 = nI m
/-- the class's dream at d holds the told numbers R -/
def DRep (h : HH) (d : Nat) (R : Nat → Nat) : Prop :=
  (∀ f, f ≤ R 0 → gI h (d + 1) f = nI (qk R f)) ∧ (R 10 = 1 → ∀ f, 1 ≤ f → f ≤ R 0 → gI h (d + 2) f = nI (R (150 + f - 1))) ∧
  (gI h d 9 = nI (R 0) ∧ gI h d 10 = nI (R 1) ∧ gI h d 11 = nI (R 2) ∧ gI h d 12 = nI (R 3) ∧ gI h d 13 = nI (R 10)) ∧
  (RowsR h (d + 4) 6 (R 4) ∧ RowsR h (d + 6) 3 (R 5) ∧ RowsR h (d + 8) 4 (R 6) ∧ RowsR h (d + 10) 3 (R 7) ∧ RowsR h (d + 12) 3 (R 8) ∧ RowsR h (d + 14) 3 (R 9)) ∧
  (∀ s, s < R 4 → (∀ c, c < 4 → gI h (d + 5) (s * 6 + c) = nI (R (15 + 5 * s + c))) ∧ gI h (d + 5) (s * 6 + 4) = les M2 (R (15 + 5 * s + 4)) ∧ gI h (d + 5) (s * 6 + 5) = nI (cnt R s (R 5))) ∧
  (∀ k, k < R 5 → gI h (d + 7) (k * 3 + 0) = nI (R (40 + 3 * k)) ∧ gI h (d + 7) (k * 3 + 1) = les M1 (R (40 + 3 * k + 1)) ∧ gI h (d + 7) (k * 3 + 2) = nI (R (40 + 3 * k + 2))) ∧
  (∀ k, k < R 5 → gI h (d + 3) (R (40 + 3 * k) * 20 + cnt R (R (40 + 3 * k)) k) = nI k) ∧
  (∀ k, k < R 6 → gI h (d + 9) (k * 4 + 0) = nI (R (100 + 4 * k)) ∧ gI h (d + 9) (k * 4 + 1) = nI (R (100 + 4 * k + 1)) ∧ gI h (d + 9) (k * 4 + 2) = nI (R (100 + 4 * k + 2)) ∧ gI h (d + 9) (k * 4 + 3) = nI (R (100 + 4 * k + 3))) ∧
  (∀ k, k < R 7 → gI h (d + 11) (k * 3 + 0) = nI (R (132 + 3 * k)) ∧ gI h (d + 11) (k * 3 + 1) = nI (R (132 + 3 * k + 1)) ∧ gI h (d + 11) (k * 3 + 2) = nI (R (132 + 3 * k + 2))) ∧
  (∀ k, k < R 8 → gI h (d + 13) (k * 3 + 0) = nI (R (154 + 3 * k)) ∧ gI h (d + 13) (k * 3 + 1) = nI (R (154 + 3 * k + 1)) ∧ gI h (d + 13) (k * 3 + 2) = nI (R (154 + 3 * k + 2))) ∧
  (∀ k, k < R 9 → gI h (d + 15) (k * 3 + 0) = nI (R (172 + 3 * k)) ∧ gI h (d + 15) (k * 3 + 1) = nI (R (172 + 3 * k + 1)) ∧ gI h (d + 15) (k * 3 + 2) = nI (R (172 + 3 * k + 2)))
def MRep (h : HH) (R : Nat → Nat) : Prop := ∀ k, k < 316 → gI h 184 k = nI (R k)
theorem MRep.keep {P : Nat → Nat → Prop} {h h' : HH} {R : Nat → Nat} (a : MRep h R) (K : Keep P h h') (hp : ∀ k, P 184 k) : MRep h' R := fun k hk => (K 184 k (hp k)).1.trans (a k hk)
theorem DRep.keep {P : Nat → Nat → Prop} {h h' : HH} {d : Nat} {R : Nat → Nat} (a : DRep h d R) (K : Keep P h h') (hp : ∀ b k, d ≤ b → b ≤ d + 15 → P b k) : DRep h' d R := by
  have e : ∀ b k, d ≤ b → b ≤ d + 15 → gI h' b k = gI h b k := fun b k h1 h2 => (K b k (hp b k h1 h2)).1
  obtain ⟨a1, a2, a3, a4, a5, a6, a7, a8, a9, a10, a11⟩ := a
  refine ⟨fun f hf => ?_, fun h1 f h2 hf => ?_, ?_, ?_, fun s hs => ?_, fun k hk => ?_, fun k hk => ?_, fun k hk => ?_, fun k hk => ?_, fun k hk => ?_, fun k hk => ?_⟩
  · rw [e _ _ (by omega) (by omega)]; exact a1 f hf
  · rw [e _ _ (by omega) (by omega)]; exact a2 h1 f h2 hf
  · rw [e _ _ (by omega) (by omega), e _ _ (by omega) (by omega), e _ _ (by omega) (by omega), e _ _ (by omega) (by omega), e _ _ (by omega) (by omega)]; exact a3
  · unfold RowsR at a4 ⊢
    repeat rw [e _ _ (by omega) (by omega)]
    exact a4
  · refine ⟨fun c hc => ?_, ?_, ?_⟩
    · rw [e _ _ (by omega) (by omega)]; exact (a5 s hs).1 c hc
    · rw [e _ _ (by omega) (by omega)]; exact (a5 s hs).2.1
    · rw [e _ _ (by omega) (by omega)]; exact (a5 s hs).2.2
  · rw [e _ _ (by omega) (by omega), e _ _ (by omega) (by omega), e _ _ (by omega) (by omega)]; exact a6 k hk
  · rw [e _ _ (by omega) (by omega)]; exact a7 k hk
  · rw [e _ _ (by omega) (by omega), e _ _ (by omega) (by omega), e _ _ (by omega) (by omega), e _ _ (by omega) (by omega)]; exact a8 k hk
  · rw [e _ _ (by omega) (by omega), e _ _ (by omega) (by omega), e _ _ (by omega) (by omega)]; exact a9 k hk
  · rw [e _ _ (by omega) (by omega), e _ _ (by omega) (by omega), e _ _ (by omega) (by omega)]; exact a10 k hk
  · rw [e _ _ (by omega) (by omega), e _ _ (by omega) (by omega), e _ _ (by omega) (by omega)]; exact a11 k hk
/-! quicks -/
theorem VR.rate {R : Nat → Nat} (v : VR R) {f : Nat} (hf : f < R 0) : 2 ≤ R (11 + f) ∧ R (11 + f) ≤ 12 := v.1.2.2 f hf
theorem VR.F {R : Nat → Nat} (v : VR R) : 1 ≤ R 0 ∧ R 0 ≤ 4 := ⟨v.1.1, v.1.2.1⟩
theorem VR.S {R : Nat → Nat} (v : VR R) : 1 ≤ R 4 ∧ R 4 ≤ 5 := ⟨v.2.1.2.2.2.2.2.1, v.2.1.2.2.2.2.2.2.1⟩
theorem VR.H {R : Nat → Nat} (v : VR R) : 1 ≤ R 3 ∧ R 3 ≤ 3 := ⟨v.2.1.2.2.2.1, v.2.1.2.2.2.2.1⟩
theorem qk_pos {R : Nat → Nat} (v : VR R) : ∀ f, f ≤ R 0 → 1 ≤ qk R f
  | 0, _ => Nat.le_refl 1
  | f + 1, h => Nat.le_trans (qk_pos v f (by omega)) (Nat.le_mul_of_pos_right _ (by have := v.rate (f := f) (by omega); omega))
theorem qk_pow {R : Nat → Nat} (v : VR R) : ∀ f, f ≤ R 0 → qk R f ≤ 12 ^ f
  | 0, _ => Nat.le_refl 1
  | f + 1, h => Nat.mul_le_mul (qk_pow v f (by omega)) (v.rate (f := f) (by omega)).2
theorem qk_le {R : Nat → Nat} (v : VR R) {f : Nat} (h : f ≤ R 0) : qk R f ≤ 20736 := Nat.le_trans (qk_pow v f h) (Nat.le_trans (Nat.pow_le_pow_right (by omega) (Nat.le_trans h v.F.2)) (by decide))
theorem qk_mul {R : Nat → Nat} (v : VR R) : ∀ g f, f + g ≤ R 0 → ∃ m, qk R (f + g) = qk R f * m ∧ 2 ^ g ≤ m
  | 0, f, _ => ⟨1, (Nat.mul_one _).symm, Nat.le_refl 1⟩
  | g + 1, f, h => by
    obtain ⟨m, e, hm⟩ := qk_mul v g f (by omega)
    refine ⟨m * R (11 + (f + g)), ?_, Nat.mul_le_mul hm (v.rate (f := f + g) (by omega)).1⟩
    show qk R (f + g) * R (11 + (f + g)) = _
    rw [e, Nat.mul_assoc]
/-- how much quicker a lower floor is -/
def rt (R : Nat → Nat) (u l : Nat) : Nat := qk R l / qk R u
/-- ticks of a minute of a floor -/
def mn (R : Nat → Nat) (f : Nat) : Nat := rt R f (R 0)
def bt (R : Nat → Nat) : Nat := qk R (R 0)
theorem rt_le {R : Nat → Nat} (v : VR R) (u : Nat) {l : Nat} (h : l ≤ R 0) : rt R u l ≤ 20736 := Nat.le_trans (Nat.div_le_self _ _) (qk_le v h)
theorem rt_mul {R : Nat → Nat} (v : VR R) {u l : Nat} (h : u ≤ l) (hl : l ≤ R 0) : qk R l = qk R u * rt R u l ∧ 2 ^ (l - u) ≤ rt R u l := by
  obtain ⟨m, e, hm⟩ := qk_mul v (l - u) u (by omega)
  rw [show u + (l - u) = l by omega] at e
  have : rt R u l = m := by unfold rt; rw [e]; exact Nat.mul_div_cancel_left _ (qk_pos v u (by omega))
  rw [this]; exact ⟨e, hm⟩
theorem rt_pos {R : Nat → Nat} (v : VR R) {u l : Nat} (h : u ≤ l) (hl : l ≤ R 0) : 1 ≤ rt R u l := Nat.le_trans (Nat.two_pow_pos _) (rt_mul v h hl).2
theorem VR.bt {R : Nat → Nat} (v : VR R) : 1 ≤ bt R ∧ bt R ≤ 20736 := ⟨qk_pos v _ (Nat.le_refl _), qk_le v (Nat.le_refl _)⟩
theorem VR.mn {R : Nat → Nat} (v : VR R) {f : Nat} (h : f ≤ R 0) : 1 ≤ mn R f ∧ mn R f ≤ 20736 := ⟨rt_pos v h (Nat.le_refl _), rt_le v f (Nat.le_refl _)⟩
theorem VR.qk {R : Nat → Nat} (v : VR R) {f : Nat} (h : f ≤ R 0) : 1 ≤ qk R f ∧ qk R f ≤ 20736 := ⟨qk_pos v _ h, qk_le v h⟩
theorem VR.rt {R : Nat → Nat} (v : VR R) {u l : Nat} (h : u ≤ l) (hl : l ≤ R 0) : 1 ≤ rt R u l ∧ rt R u l ≤ 20736 := ⟨rt_pos v h hl, rt_le v u hl⟩
theorem rt_self {R : Nat → Nat} (v : VR R) {u : Nat} (h : u ≤ R 0) : rt R u u = 1 := Nat.div_self (qk_pos v u h)
theorem rt_0 (R : Nat → Nat) (l : Nat) : rt R 0 l = qk R l := Nat.div_one _
theorem cnt_le (R : Nat → Nat) (s : Nat) : ∀ k, cnt R s k ≤ k
  | 0 => Nat.le_refl 0
  | k + 1 => by have := cnt_le R s k; unfold cnt; split <;> omega
theorem cnt_mono (R : Nat → Nat) (s : Nat) {j k : Nat} (h : j ≤ k) : cnt R s j ≤ cnt R s k := by
  induction k with
  | zero => have : j = 0 := by omega
            subst this; exact Nat.le_refl _
  | succ k ih =>
    rcases Nat.lt_or_ge j (k + 1) with z | z
    · exact Nat.le_trans (ih (by omega)) (Nat.le_add_right _ _)
    · have : j = k + 1 := by omega
      subst this; exact Nat.le_refl _
