/-! RATES that fit -/
set_option maxRecDepth 100000 in
theorem nI_or (a b : Nat) : nI a ||| nI b = nI (a ||| b) := by
  apply Int32.toBitVec_inj.1
  simp [nI]
set_option maxRecDepth 100000 in
theorem sh1 : ∀ v, v < 13 → nI 1 <<< (nI v &&& nI 31) = nI (2 ^ v) := by decide +kernel
/-- bits of a set of rates -/
def BI (b : Int32) (P : Nat → Prop) : Prop := ∃ X, X < 2 ^ 13 ∧ b = nI X ∧ ∀ v, X.testBit v = true ↔ P v
set_option maxRecDepth 100000 in
theorem BI.eq {b b' : Int32} {P : Nat → Prop} (h : BI b P) (h' : BI b' P) : b = b' := by
  obtain ⟨X, -, rfl, hX⟩ := h
  obtain ⟨Y, -, rfl, hY⟩ := h'
  have : X = Y := Nat.eq_of_testBit_eq (fun i => by
    cases hx : X.testBit i with
    | true => exact ((hY i).mpr ((hX i).mp hx)).symm
    | false =>
      cases hy : Y.testBit i with
      | true => rw [(hX i).mpr ((hY i).mp hy)] at hx; cases hx
      | false => rfl)
  rw [this]
set_option maxRecDepth 100000 in
theorem BI.zero {P : Nat → Prop} (h : ∀ v, ¬ P v) : BI (nI 0) P := ⟨0, by omega, rfl, fun v => by
  rw [Nat.zero_testBit]; exact ⟨fun z => (by cases z), fun z => absurd z (h v)⟩⟩
set_option maxRecDepth 100000 in
theorem BI.or {b : Int32} {P : Nat → Prop} (h : BI b P) {v : Nat} (hv : v < 13) : BI (b ||| (nI 1 <<< (nI v &&& nI 31))) (fun w => P w ∨ w = v) := by
  obtain ⟨X, hX, rfl, hP⟩ := h
  rw [sh1 v hv, nI_or]
  refine ⟨X ||| 2 ^ v, Nat.or_lt_two_pow hX (Nat.pow_lt_pow_right (by omega) hv), rfl, fun w => ?_⟩
  rw [Nat.testBit_or, Nat.testBit_two_pow, Bool.or_eq_true, hP w, decide_eq_true_eq]
  exact ⟨fun z => z.imp id Eq.symm, fun z => z.imp id Eq.symm⟩
set_option maxRecDepth 100000 in
theorem BI.congr {b : Int32} {P Q : Nat → Prop} (h : BI b P) (e : ∀ v, P v ↔ Q v) : BI b Q := by
  obtain ⟨X, h1, h2, h3⟩ := h
  exact ⟨X, h1, h2, fun v => (h3 v).trans (e v)⟩
/-- how many below n -/
def cf (P : Nat → Bool) : Nat → Nat
  | 0 => 0
  | n + 1 => cf P n + (if P n then 1 else 0)
def sm (F : Nat → Nat) : Nat → Nat
  | 0 => 0
  | n + 1 => sm F n + F n
set_option maxRecDepth 100000 in
theorem cf_le (P : Nat → Bool) : ∀ n, cf P n ≤ n
  | 0 => Nat.le_refl _
  | n + 1 => by
    have := cf_le P n
    show cf P n + _ ≤ n + 1
    split <;> omega
set_option maxRecDepth 100000 in
theorem cf_add (P : Nat → Bool) (a : Nat) : ∀ j, cf P (a + j) = cf P a + sm (fun d => if P (a + d) then 1 else 0) j
  | 0 => rfl
  | j + 1 => by
    show cf P (a + j) + _ = cf P a + (sm _ j + _)
    rw [cf_add P a j, Nat.add_assoc]
    rfl
set_option maxRecDepth 100000 in
theorem sm_add (F G : Nat → Nat) : ∀ n, sm (fun d => F d + G d) n = sm F n + sm G n
  | 0 => rfl
  | n + 1 => by
    show sm _ n + (F n + G n) = sm F n + F n + (sm G n + G n)
    rw [sm_add F G n]; omega
set_option maxRecDepth 100000 in
theorem sm_congr {F G : Nat → Nat} : ∀ {n}, (∀ d, d < n → F d = G d) → sm F n = sm G n := by
  intro n
  induction n with
  | zero => intro _; rfl
  | succ n ih => intro h; show sm F n + F n = sm G n + G n; rw [ih (fun d hd => h d (by omega)), h n (by omega)]
set_option maxRecDepth 100000 in
theorem cf_split (P : Nat → Bool) : ∀ n, cf P (11 * n) = sm (fun d => cf (fun c => P (d + 11 * c)) n) 11
  | 0 => rfl
  | n + 1 => by
    have e : sm (fun d => cf (fun c => P (d + 11 * c)) (n + 1)) 11 = sm (fun d => cf (fun c => P (d + 11 * c)) n + (if P (d + 11 * n) then 1 else 0)) 11 := rfl
    rw [e, sm_add, ← cf_split P n, show 11 * (n + 1) = 11 * n + 11 by omega, cf_add]
    congr 1
    exact sm_congr (fun d _ => by rw [Nat.add_comm d])
set_option maxRecDepth 100000 in
theorem cf_pos {P : Nat → Bool} : ∀ n, 0 < cf P n ↔ ∃ c, c < n ∧ P c = true := by
  intro n
  induction n with
  | zero => exact ⟨fun h => absurd h (Nat.lt_irrefl _), fun ⟨c, h, _⟩ => absurd h (Nat.not_lt_zero c)⟩
  | succ n ih =>
    show 0 < cf P n + (if P n then 1 else 0) ↔ _
    constructor
    · intro h
      by_cases c : 0 < cf P n
      · obtain ⟨q, h1, h2⟩ := ih.mp c
        exact ⟨q, by omega, h2⟩
      · cases hp : P n with
        | true => exact ⟨n, by omega, hp⟩
        | false => rw [hp] at h; simp at h; omega
    · rintro ⟨q, h1, h2⟩
      by_cases e : q = n
      · subst e; rw [h2, if_pos rfl]; omega
      · have := ih.mpr ⟨q, by omega, h2⟩; omega
set_option maxRecDepth 100000 in
theorem cf_and (b : Bool) (P : Nat → Bool) (n : Nat) : cf (fun c => b && P c) n = if b then cf P n else 0 := by
  cases b with
  | true => simp
  | false =>
    simp
    induction n with
    | zero => rfl
    | succ n ih => show cf _ n + _ = 0; rw [ih]; rfl
def okB (R : Nat → Nat) (f q : Nat) : Bool := decide (∀ k, k < R 9 → R (172 + 3 * k + 1) = f → R (172 + 3 * k + 2) * q = R (172 + 3 * k))
set_option maxRecDepth 100000 in
theorem okB_iff {R : Nat → Nat} {f q : Nat} : okB R f q = true ↔ ∀ k, k < R 9 → R (172 + 3 * k + 1) = f → R (172 + 3 * k + 2) * q = R (172 + 3 * k) := decide_eq_true_iff
def vd (R : Nat → Nat) : Nat → Nat → Nat → Nat → Bool
  | 0, _, _, _ => true
  | m + 1, f, q, c => okB R f (q * (2 + c % 11)) && vd R m (f + 1) (q * (2 + c % 11)) (c / 11)
set_option maxRecDepth 100000 in
theorem vd_dig (R : Nat → Nat) (m f q : Nat) {x : Nat} (hd : x < 11) (c : Nat) : vd R (m + 1) f q (x + 11 * c) = (okB R f (q * (2 + x)) && vd R m (f + 1) (q * (2 + x)) c) := by
  show (okB R f (q * (2 + (x + 11 * c) % 11)) && vd R m (f + 1) (q * (2 + (x + 11 * c) % 11)) ((x + 11 * c) / 11)) = _
  rw [show (x + 11 * c) % 11 = x by omega, show (x + 11 * c) / 11 = c by omega]
set_option maxRecDepth 100000 in
theorem cf_vd (R : Nat → Nat) (m f q : Nat) : cf (vd R (m + 1) f q) (11 ^ (m + 1)) = sm (fun x => if okB R f (q * (2 + x)) then cf (vd R m (f + 1) (q * (2 + x))) (11 ^ m) else 0) 11 := by
  rw [show 11 ^ (m + 1) = 11 * 11 ^ m by rw [Nat.pow_succ, Nat.mul_comm], cf_split]
  refine sm_congr (fun x hx => ?_)
  rw [← cf_and]
  congr 1
  funext c
  exact vd_dig R m f q hx c
/-- which rates a floor has in rows that fit -/
def Sx (R : Nat → Nat) (m f q e v : Nat) : Prop := ∃ c, c < 11 ^ m ∧ vd R m f q c = true ∧ 2 + c / 11 ^ e % 11 = v
set_option maxRecDepth 100000 in
theorem Sx_0 {R : Nat → Nat} {m f q v : Nat} : Sx R (m + 1) f q 0 v ↔ ∃ x, x < 11 ∧ v = 2 + x ∧ okB R f (q * (2 + x)) = true ∧ 0 < cf (vd R m (f + 1) (q * (2 + x))) (11 ^ m) := by
  have hp : 11 ^ (m + 1) = 11 * 11 ^ m := by rw [Nat.pow_succ, Nat.mul_comm]
  constructor
  · rintro ⟨c, h1, h2, h3⟩
    rw [hp] at h1
    have e : c = c % 11 + 11 * (c / 11) := by omega
    rw [e, vd_dig R m f q (Nat.mod_lt _ (by omega)), Bool.and_eq_true] at h2
    rw [Nat.pow_zero, Nat.div_one] at h3
    exact ⟨c % 11, Nat.mod_lt _ (by omega), h3.symm, h2.1, (cf_pos _).mpr ⟨c / 11, by omega, h2.2⟩⟩
  · rintro ⟨x, h1, rfl, h2, h3⟩
    obtain ⟨c, h4, h5⟩ := (cf_pos _).mp h3
    refine ⟨x + 11 * c, by rw [hp]; omega, by rw [vd_dig R m f q h1, h2, h5]; rfl, ?_⟩
    rw [Nat.pow_zero, Nat.div_one]; omega
set_option maxRecDepth 100000 in
theorem Sx_s {R : Nat → Nat} {m f q e v : Nat} : Sx R (m + 1) f q (e + 1) v ↔ ∃ x, x < 11 ∧ okB R f (q * (2 + x)) = true ∧ Sx R m (f + 1) (q * (2 + x)) e v := by
  have hp : 11 ^ (m + 1) = 11 * 11 ^ m := by rw [Nat.pow_succ, Nat.mul_comm]
  have he : ∀ c, c / 11 ^ (e + 1) = c / 11 / 11 ^ e := fun c => by rw [Nat.pow_succ, Nat.mul_comm, Nat.div_div_eq_div_mul]
  constructor
  · rintro ⟨c, h1, h2, h3⟩
    rw [hp] at h1
    have e1 : c = c % 11 + 11 * (c / 11) := by omega
    rw [e1, vd_dig R m f q (Nat.mod_lt _ (by omega)), Bool.and_eq_true] at h2
    rw [he] at h3
    exact ⟨c % 11, Nat.mod_lt _ (by omega), h2.1, c / 11, by omega, h2.2, h3⟩
  · rintro ⟨x, h1, h2, c, h4, h5, h6⟩
    refine ⟨x + 11 * c, by rw [hp]; omega, by rw [vd_dig R m f q h1, h2, h5]; rfl, ?_⟩
    rw [he, show (x + 11 * c) / 11 = c by omega]; exact h6
/-! the class -/
def NeR (R : Nat → Nat) (i f : Nat) (b : Int32) : Prop := (b = nI 0 ∧ ∀ k, k < i → R (172 + 3 * k + 1) ≠ f) ∨ (∃ q, 1 ≤ q ∧ q < 10000 ∧ b = nI q ∧ (∃ k, k < i ∧ R (172 + 3 * k + 1) = f) ∧ ∀ k, k < i → R (172 + 3 * k + 1) = f → R (172 + 3 * k + 2) * q = R (172 + 3 * k)) ∨ (b = M1 ∧ ∀ q, ¬ ∀ k, k < i → R (172 + 3 * k + 1) = f → R (172 + 3 * k + 2) * q = R (172 + 3 * k))
set_option maxRecDepth 100000 in
theorem NeR_ok {R : Nat → Nat} (v : VR R) {f : Nat} {b : Int32} (h : NeR R (R 9) f b) {q : Nat} (hq : 1 ≤ q) (hq2 : q < 2 ^ 31) : (b = nI 0 ∨ b = nI q) ↔ okB R f q = true := by
  rw [okB_iff]
  rcases h with ⟨rfl, h1⟩ | ⟨p, p1, p2, rfl, ⟨k, k1, k2⟩, p3⟩ | ⟨rfl, h1⟩
  · exact ⟨fun _ k hk hf => absurd hf (h1 k hk), fun _ => Or.inl rfl⟩
  · rw [eqN (by omega) (by omega), eqN (by omega) hq2]
    constructor
    · rintro (z | z)
      · omega
      · subst z; exact p3
    · intro z
      right
      have vk := v.2.2.2.2.2.2.2.2 k k1
      have := (p3 k k1 k2).trans (z k k1 k2).symm
      exact Nat.eq_of_mul_eq_mul_left (show 0 < R (172 + 3 * k + 2) by omega) this
  · constructor
    · rintro (z | z)
      · rw [M1e (by omega)] at z; exact z.elim
      · rw [M1e hq2] at z; exact z.elim
    · intro z; exact absurd z (h1 q)
section FIT
variable {h : HH} {d : Nat} {R N T : Nat → Nat}
def PF (b k : Nat) : Prop := b ≠ 40
set_option maxRecDepth 100000 in
theorem cCount (hD : isD d) (v : VR R) : ∀ m f fu q (h : HH) (Bs : Nat → Nat → Prop), f + m = R 0 + 1 → m < fu → 1 ≤ f → 1 ≤ q → q * 12 ^ m ≤ 20736 → DRep h d R → (∀ e, 1 ≤ e → e ≤ 4 → NeR R (R 9) e (gI h 41 e)) → (∀ e, f ≤ e → e ≤ R 0 → BI (gI h 40 e) (Bs e)) → ∃ h', lq4 fX1_countFrom_0 fu 39 d (nI f) (nI q) h = some (nI (cf (vd R m f q) (11 ^ m)), h') ∧ Keep PF h h' ∧ (∀ e, f ≤ e → e ≤ R 0 → BI (gI h' 40 e) (fun x => Bs e x ∨ Sx R m f q (e - f) x)) ∧ (∀ e, e < f → gI h' 40 e = gI h 40 e) := by
  have vF := v.F
  intro m
  induction m with
  | zero =>
    intro f fu q h Bs hfm hfu h1 hq hqb D Ne Bi
    obtain ⟨fu, rfl⟩ : ∃ q, fu = q + 1 := ⟨fu - 1, by omega⟩
    have n1 : R 0 < f := by omega
    refine ⟨h, ?_, Keep.rfl, fun e h1 h2 => by omega, fun _ _ => rfl⟩
    show fX1_countFrom_0 (lq4 fX1_countFrom_0 fu) 39 d (nI f) (nI q) h = _
    simp (disch := omega) only [fX1_countFrom_0, D.2.2.1.1, ltN, n1, if_true]
    rfl
  | succ m ih =>
    intro f fu q h Bs hfm hfu h1 hq hqb D Ne Bi
    obtain ⟨fu, rfl⟩ : ∃ q, fu = q + 1 := ⟨fu - 1, by omega⟩
    have n1 : ¬ R 0 < f := by omega
    have n2 : f ≤ 4 := by omega
    have hpm : 11 ^ m ≤ 14641 := Nat.le_trans (Nat.pow_le_pow_right (by omega) (show m ≤ 4 by omega)) (by decide)
    have loop : ∀ n x ff (g : HH) (Cs : Nat → Nat → Prop), x + n = 11 → n < ff → Keep PF h g → (∀ e, f ≤ e → e ≤ R 0 → BI (gI g 40 e) (Cs e)) → (∀ e, e < f → gI g 40 e = gI h 40 e) → ∃ h', lq2 (fX1_countFrom_L21 (lq4 fX1_countFrom_0 fu) 39 d (nI f) (nI q)) ff (nI (sm (fun x => if okB R f (q * (2 + x)) then cf (vd R m (f + 1) (q * (2 + x))) (11 ^ m) else 0) x)) (nI (2 + x)) g = some (nI (sm (fun x => if okB R f (q * (2 + x)) then cf (vd R m (f + 1) (q * (2 + x))) (11 ^ m) else 0) 11), h') ∧ Keep PF h h' ∧ (∀ e, f ≤ e → e ≤ R 0 → BI (gI h' 40 e) (fun w => Cs e w ∨ ∃ y, x ≤ y ∧ y < 11 ∧ okB R f (q * (2 + y)) = true ∧ (if e = f then w = 2 + y ∧ 0 < cf (vd R m (f + 1) (q * (2 + y))) (11 ^ m) else Sx R m (f + 1) (q * (2 + y)) (e - (f + 1)) w))) ∧ (∀ e, e < f → gI h' 40 e = gI h 40 e) := by
      intro n
      induction n with
      | zero =>
        intro x ff g Cs ex hff K Bg kg
        obtain ⟨ff, rfl⟩ : ∃ q, ff = q + 1 := ⟨ff - 1, by omega⟩
        have : x = 11 := by omega
        subst this
        have n3 : 12 < 2 + 11 := by omega
        refine ⟨g, ?_, K, fun e h1 h2 => (Bg e h1 h2).congr (fun w => ⟨Or.inl, fun z => z.elim id (fun ⟨y, a, b, _⟩ => by omega)⟩), kg⟩
        simp (disch := omega) only [lI, lq2, fX1_countFrom_L21, ltN, n3, if_true]
      | succ n ihn =>
        intro x ff g Cs ex hff K Bg kg
        obtain ⟨ff, rfl⟩ : ∃ q, ff = q + 1 := ⟨ff - 1, by omega⟩
        have n3 : ¬ 12 < 2 + x := by omega
        have Dg : DRep g d R := D.keep K (fun b k h1 h2 => by rcases hD with z | z <;> (unfold PF; omega))
        have g41 : ∀ e, gI g 41 e = gI h 41 e := fun e => (K 41 e (by unfold PF; omega)).1
        have hqr : q * (2 + x) * 12 ^ m ≤ 20736 := by
          have : q * (2 + x) * 12 ^ m ≤ q * 12 * 12 ^ m := Nat.mul_le_mul_right _ (Nat.mul_le_mul_left _ (by omega))
          rw [Nat.pow_succ, Nat.mul_comm (12 ^ m), ← Nat.mul_assoc] at hqb
          omega
        have hpos : 1 ≤ 12 ^ m := Nat.pow_pos (by omega)
        have hq1 : 1 ≤ q * (2 + x) := Nat.mul_pos (by omega) (by omega)
        have hq2 : q * (2 + x) ≤ 20736 := Nat.le_trans (Nat.le_mul_of_pos_right _ hpos) hqr
        have hsm : ∀ x, x ≤ 11 → sm (fun x => if okB R f (q * (2 + x)) then cf (vd R m (f + 1) (q * (2 + x))) (11 ^ m) else 0) x ≤ 14641 * x := by
          intro x
          induction x with
          | zero => intro _; exact Nat.le_refl _
          | succ x ihx =>
            intro hx
            have a := ihx (by omega)
            have b := cf_le (vd R m (f + 1) (q * (2 + x))) (11 ^ m)
            show sm _ x + (if okB R f (q * (2 + x)) then cf (vd R m (f + 1) (q * (2 + x))) (11 ^ m) else 0) ≤ _
            split <;> omega
        have hs0 := hsm x (by omega)
        have es : sm (fun x => if okB R f (q * (2 + x)) then cf (vd R m (f + 1) (q * (2 + x))) (11 ^ m) else 0) (x + 1) = sm (fun x => if okB R f (q * (2 + x)) then cf (vd R m (f + 1) (q * (2 + x))) (11 ^ m) else 0) x + (if okB R f (q * (2 + x)) then cf (vd R m (f + 1) (q * (2 + x))) (11 ^ m) else 0) := rfl
        have ne := NeR_ok v (Ne f h1 n2) hq1 (by omega)
        rw [← g41 f] at ne
        by_cases c : okB R f (q * (2 + x)) = true
        · rw [if_pos c] at es
          obtain ⟨g2, e2, K2, B2, k2⟩ := ih (f + 1) fu (q * (2 + x)) g Cs (by omega) (by omega) (by omega) hq1 hqr Dg (fun e a b => by rw [g41]; exact Ne e a b) (fun e a b => Bg e (by omega) b)
          have hcl := cf_le (vd R m (f + 1) (q * (2 + x))) (11 ^ m)
          by_cases c0 : cf (vd R m (f + 1) (q * (2 + x))) (11 ^ m) ≤ 0
          · have ez : cf (vd R m (f + 1) (q * (2 + x))) (11 ^ m) = 0 := by omega
            obtain ⟨g3, e3, K3, B3, k3⟩ := ihn (x + 1) ff g2 (fun e w => Cs e w) (by omega) (by omega) (K.trans K2) (fun e a b => by
              by_cases z : e = f
              · subst z; rw [k2 e (by omega)]; exact Bg e a b
              · refine (B2 e (by omega) b).congr (fun w => ⟨fun y => y.elim id (fun ⟨cc, y1, y2, _⟩ => ?_), Or.inl⟩)
                have := (cf_pos (P := vd R m (f + 1) (q * (2 + x))) (11 ^ m)).mpr ⟨cc, y1, y2⟩
                omega) (fun e he => by rw [k2 e (by omega)]; exact kg e he)
            refine ⟨g3, ?_, K3, fun e a b => (B3 e a b).congr (fun w => ?_), k3⟩
            · rw [es, ez, Nat.add_zero] at e3
              have b59 : fX1_countFrom_b59 (lq4 fX1_countFrom_0 fu) (lq2 (fX1_countFrom_L21 (lq4 fX1_countFrom_0 fu) 39 d (nI f) (nI q)) ff) 39 d (nI f) (nI q) (nI (sm (fun x => if okB R f (q * (2 + x)) then cf (vd R m (f + 1) (q * (2 + x))) (11 ^ m) else 0) x)) (nI (2 + x)) (nI (q * (2 + x))) g = some (nI (sm (fun x => if okB R f (q * (2 + x)) then cf (vd R m (f + 1) (q * (2 + x))) (11 ^ m) else 0) 11), g3) := by
                simp (disch := omega) only [lI, bd_1, nI_add, fX1_countFrom_b59, e2, leN, c0, if_true]
                exact e3
              rcases ne.mpr c with z | z
              · simp (disch := omega) only [lI, gd_1, nm_1, inbN, ixN, pk_mul, lq2, fX1_countFrom_L21, fX1_countFrom_b54, ltN, n3, if_false, Nat.reduceAdd, z, if_true]
                exact b59
              · have hq0 : ¬ q * (2 + x) = 0 := by omega
                simp (disch := omega) only [lI, gd_1, nm_1, inbN, ixN, pk_mul, lq2, fX1_countFrom_L21, fX1_countFrom_b54, ltN, n3, if_false, Nat.reduceAdd, z, eqN, hq0, if_true]
                exact b59
            · refine ⟨fun y => y.imp id (fun ⟨y, y1, y2, y3, y4⟩ => ⟨y, by omega, y2, y3, y4⟩), fun y => y.elim Or.inl (fun ⟨y, y1, y2, y3, y4⟩ => ?_)⟩
              by_cases yx : y = x
              · rw [yx] at y3 y4
                by_cases z : e = f
                · rw [if_pos z] at y4; omega
                · rw [if_neg z] at y4
                  obtain ⟨cc, w1, w2, -⟩ := y4
                  have := (cf_pos (P := vd R m (f + 1) (q * (2 + x))) (11 ^ m)).mpr ⟨cc, w1, w2⟩
                  omega
              · exact Or.inr ⟨y, by omega, y2, y3, y4⟩
          · -- some below fit
            have K2b : Keep PF h (sI g2 40 f (gI g2 40 f ||| (nI 1 <<< (nI (2 + x) &&& nI 31)))) := Keep.sI (K.trans K2) (fun z => z rfl)
            obtain ⟨g3, e3, K3, B3, k3⟩ := ihn (x + 1) ff (sI g2 40 f (gI g2 40 f ||| (nI 1 <<< (nI (2 + x) &&& nI 31)))) (fun e w => if e = f then (Cs e w ∨ w = 2 + x) else (Cs e w ∨ Sx R m (f + 1) (q * (2 + x)) (e - (f + 1)) w)) (by omega) (by omega) K2b (fun e a b => by
              by_cases z : e = f
              · subst z
                rw [gIs, k2 e (by omega)]
                refine ((Bg e a b).or (show 2 + x < 13 by omega)).congr (fun w => ?_)
                rw [if_pos rfl]
              · rw [gIk z]
                refine (B2 e (by omega) b).congr (fun w => ?_)
                rw [if_neg z]) (fun e he => by rw [gIk (by omega), k2 e (by omega)]; exact kg e he)
            refine ⟨g3, ?_, K3, fun e a b => (B3 e a b).congr (fun w => ?_), k3⟩
            · rw [es] at e3
              have b59 : fX1_countFrom_b59 (lq4 fX1_countFrom_0 fu) (lq2 (fX1_countFrom_L21 (lq4 fX1_countFrom_0 fu) 39 d (nI f) (nI q)) ff) 39 d (nI f) (nI q) (nI (sm (fun x => if okB R f (q * (2 + x)) then cf (vd R m (f + 1) (q * (2 + x))) (11 ^ m) else 0) x)) (nI (2 + x)) (nI (q * (2 + x))) g = some (nI (sm (fun x => if okB R f (q * (2 + x)) then cf (vd R m (f + 1) (q * (2 + x))) (11 ^ m) else 0) 11), g3) := by
                simp (disch := omega) only [lI, gd_1, bd_1, nm_1, inbN, ixN, nI_add, fX1_countFrom_b59, e2, leN, c0, if_false, Nat.reduceAdd]
                exact e3
              rcases ne.mpr c with z | z
              · simp (disch := omega) only [lI, gd_1, nm_1, inbN, ixN, pk_mul, lq2, fX1_countFrom_L21, fX1_countFrom_b54, ltN, n3, if_false, Nat.reduceAdd, z, if_true]
                exact b59
              · have hq0 : ¬ q * (2 + x) = 0 := by omega
                simp (disch := omega) only [lI, gd_1, nm_1, inbN, ixN, pk_mul, lq2, fX1_countFrom_L21, fX1_countFrom_b54, ltN, n3, if_false, Nat.reduceAdd, z, eqN, hq0, if_true]
                exact b59
            · by_cases z : e = f
              · rw [if_pos z]
                simp only [if_pos z]
                constructor
                · rintro ((y | y) | ⟨y, y1, y2, y3, y4⟩)
                  · exact Or.inl y
                  · exact Or.inr ⟨x, by omega, by omega, c, y, by omega⟩
                  · exact Or.inr ⟨y, by omega, y2, y3, y4⟩
                · rintro (y | ⟨y, y1, y2, y3, y4⟩)
                  · exact Or.inl (Or.inl y)
                  · by_cases yx : y = x
                    · rw [yx] at y4; exact Or.inl (Or.inr y4.1)
                    · exact Or.inr ⟨y, by omega, y2, y3, y4⟩
              · rw [if_neg z]
                simp only [if_neg z]
                constructor
                · rintro ((y | y) | ⟨y, y1, y2, y3, y4⟩)
                  · exact Or.inl y
                  · exact Or.inr ⟨x, by omega, by omega, c, y⟩
                  · exact Or.inr ⟨y, by omega, y2, y3, y4⟩
                · rintro (y | ⟨y, y1, y2, y3, y4⟩)
                  · exact Or.inl (Or.inl y)
                  · by_cases yx : y = x
                    · rw [yx] at y4; exact Or.inl (Or.inr y4)
                    · exact Or.inr ⟨y, by omega, y2, y3, y4⟩
        · rw [if_neg c, Nat.add_zero] at es
          have nz : ¬ (gI g 41 f = nI 0 ∨ gI g 41 f = nI (q * (2 + x))) := fun z => c (ne.mp z)
          have z0 : ¬ gI g 41 f = nI 0 := fun z => nz (Or.inl z)
          have z2 : ¬ gI g 41 f = nI (q * (2 + x)) := fun z => nz (Or.inr z)
          obtain ⟨g3, e3, K3, B3, k3⟩ := ihn (x + 1) ff g Cs (by omega) (by omega) K Bg kg
          refine ⟨g3, ?_, K3, fun e a b => (B3 e a b).congr (fun w => ?_), k3⟩
          · rw [es] at e3
            simp (disch := omega) only [lI, gd_1, nm_1, inbN, ixN, pk_mul, nI_add, lq2, fX1_countFrom_L21, ltN, n3, if_false, Nat.reduceAdd, z0, z2]
            exact e3
          · refine ⟨fun y => y.imp id (fun ⟨y, y1, y2, y3, y4⟩ => ⟨y, by omega, y2, y3, y4⟩), fun y => y.elim Or.inl (fun ⟨y, y1, y2, y3, y4⟩ => ?_)⟩
            by_cases yx : y = x
            · rw [yx] at y3; exact absurd y3 c
            · exact Or.inr ⟨y, by omega, y2, y3, y4⟩
    obtain ⟨h', e1, K1, B1, k1⟩ := loop 11 0 FU h Bs (by omega) (by unfold FU; omega) Keep.rfl Bi (fun _ _ => rfl)
    refine ⟨h', ?_, K1, fun e a b => (B1 e a b).congr (fun w => ?_), k1⟩
    · rw [cf_vd]
      show fX1_countFrom_0 (lq4 fX1_countFrom_0 fu) 39 d (nI f) (nI q) h = _
      simp (disch := omega) only [lI, fX1_countFrom_0, D.2.2.1.1, ltN, n1, if_false, leN, n2, if_true]
      exact e1
    · by_cases z : e = f
      · subst z
        simp only [if_true, Nat.sub_self]
        rw [Sx_0]
        refine ⟨fun y => y.imp id (fun ⟨y, y1, y2, y3, y4, y5⟩ => ⟨y, y2, y4, y3, y5⟩), fun y => y.imp id (fun ⟨y, y2, y4, y3, y5⟩ => ⟨y, Nat.zero_le _, y2, y3, y4, y5⟩)⟩
      · simp only [if_neg z]
        rw [show e - f = (e - (f + 1)) + 1 by omega, Sx_s]
        exact ⟨fun y => y.imp id (fun ⟨y, y1, y2, y3, y4⟩ => ⟨y, y2, y3, y4⟩), fun y => y.imp id (fun ⟨y, y2, y3, y4⟩ => ⟨y, Nat.zero_le _, y2, y3, y4⟩)⟩
end FIT
