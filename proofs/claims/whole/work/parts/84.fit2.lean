section FIT2
variable {h : HH} {d : Nat} {R N T : Nat → Nat}
def PF3 (b k : Nat) : Prop := b ≠ 39 ∧ b ≠ 40 ∧ b ≠ 41
set_option maxRecDepth 100000 in
theorem DRep.F {h h' : HH} (D : DRep h d R) (hD : isD d) (K : Keep PF3 h h') : DRep h' d R := D.keep K (fun b k h1 h2 => by rcases hD with e | e <;> (unfold PF3; omega))
/-! one did more -/
set_option maxRecDepth 100000 in
theorem cNeed (v : VR R) {i : Nat} (hi : i < R 9) (Ne : ∀ e, 1 ≤ e → e ≤ 4 → NeR R i e (gI h 41 e)) : ∃ h', fX1_need 39 (nI (R (172 + 3 * i + 1))) (nI (R (172 + 3 * i))) (nI (R (172 + 3 * i + 2))) h = some h' ∧ (∀ e, 1 ≤ e → e ≤ 4 → NeR R (i + 1) e (gI h' 41 e)) ∧ Keep (fun b _ => b ≠ 41) h h' := by
  have vF := v.F
  have vk := v.2.2.2.2.2.2.2.2 i hi
  have n1 : ¬ R (172 + 3 * i + 1) < 1 := by omega
  have n2 : R (172 + 3 * i + 1) ≤ 4 := by omega
  have hq : R (172 + 3 * i) / R (172 + 3 * i + 2) ≤ 9999 := Nat.le_trans (Nat.div_le_self _ _) vk.2.1
  have hm : R (172 + 3 * i) / R (172 + 3 * i + 2) * R (172 + 3 * i + 2) ≤ R (172 + 3 * i) := Nat.div_mul_le_self _ _
  have nf := Ne (R (172 + 3 * i + 1)) vk.2.2.1 n2
  have oth : ∀ (x : Int32) e, 1 ≤ e → e ≤ 4 → e ≠ R (172 + 3 * i + 1) → NeR R (i + 1) e (gI (sI h 41 (R (172 + 3 * i + 1)) x) 41 e) := by
    intro x e h1 h2 h3
    rw [gIk h3]
    rcases Ne e h1 h2 with ⟨a, b⟩ | ⟨q, q1, q2, q3, ⟨k, k1, k2⟩, q5⟩ | ⟨a, b⟩
    · refine Or.inl ⟨a, fun k hk => ?_⟩
      by_cases z : k = i
      · subst z; exact fun y => h3 y.symm
      · exact b k (by omega)
    · refine Or.inr (Or.inl ⟨q, q1, q2, q3, ⟨k, by omega, k2⟩, fun k hk hf => ?_⟩)
      by_cases z : k = i
      · subst z; exact absurd hf.symm h3
      · exact q5 k (by omega) hf
    · exact Or.inr (Or.inr ⟨a, fun q hq => b q (fun k hk hf => hq k (by omega) hf)⟩)
  have all : ∀ (x : Int32), NeR R (i + 1) (R (172 + 3 * i + 1)) x → fX1_need 39 (nI (R (172 + 3 * i + 1))) (nI (R (172 + 3 * i))) (nI (R (172 + 3 * i + 2))) h = some (sI h 41 (R (172 + 3 * i + 1)) x) → ∃ h', fX1_need 39 (nI (R (172 + 3 * i + 1))) (nI (R (172 + 3 * i))) (nI (R (172 + 3 * i + 2))) h = some h' ∧ (∀ e, 1 ≤ e → e ≤ 4 → NeR R (i + 1) e (gI h' 41 e)) ∧ Keep (fun b _ => b ≠ 41) h h' := by
    intro x hx e
    refine ⟨_, e, fun e h1 h2 => ?_, Keep.sI Keep.rfl (fun z => z rfl)⟩
    by_cases z : e = R (172 + 3 * i + 1)
    · rw [z, gIs]; exact hx
    · exact oth x e h1 h2 z
  by_cases c : R (172 + 3 * i) / R (172 + 3 * i + 2) * R (172 + 3 * i + 2) = R (172 + 3 * i)
  · have q1 : 1 ≤ R (172 + 3 * i) / R (172 + 3 * i + 2) := by
      rcases Nat.eq_zero_or_pos (R (172 + 3 * i) / R (172 + 3 * i + 2)) with z | z
      · rw [z, Nat.zero_mul] at c; omega
      · exact z
    have c' : R (172 + 3 * i + 2) * (R (172 + 3 * i) / R (172 + 3 * i + 2)) = R (172 + 3 * i) := by rw [Nat.mul_comm]; exact c
    rcases nf with ⟨a, b⟩ | ⟨q, p1, p2, p3, ⟨k, k1, k2⟩, p5⟩ | ⟨a, b⟩
    · refine all (nI (R (172 + 3 * i) / R (172 + 3 * i + 2))) (Or.inr (Or.inl ⟨_, q1, by omega, rfl, ⟨i, by omega, rfl⟩, fun k hk hf => ?_⟩)) ?_
      · by_cases z : k = i
        · subst z; exact c'
        · exact absurd hf (b k (by omega))
      · simp (disch := omega) only [lI, gd_1, bd_1, nm_1, inbN, ixN, nI_l, lN_i, cQuo, pk_mul, eqN, fX1_need, fX1_need_b34, ltN, n1, if_false, leN, n2, if_true, eq_true c, Nat.reduceAdd, a, cond_true]
    · have q0 : ¬ q = 0 := by omega
      by_cases z : q = R (172 + 3 * i) / R (172 + 3 * i + 2)
      · refine all (nI (R (172 + 3 * i) / R (172 + 3 * i + 2))) (Or.inr (Or.inl ⟨_, q1, by omega, rfl, ⟨i, by omega, rfl⟩, fun k hk hf => ?_⟩)) ?_
        · by_cases y : k = i
          · subst y; exact c'
          · rw [← z]; exact p5 k (by omega) hf
        · simp (disch := omega) only [lI, gd_1, bd_1, nm_1, inbN, ixN, nI_l, lN_i, cQuo, pk_mul, eqN, fX1_need, fX1_need_b34, ltN, n1, if_false, leN, n2, if_true, eq_true c, Nat.reduceAdd, p3, q0, eq_true z, cond_true]
      · refine all M1 (Or.inr (Or.inr ⟨rfl, fun w hw => ?_⟩)) ?_
        · have w1 := hw k (by omega) k2
          have w2 := hw i (by omega) rfl
          have vk2 := v.2.2.2.2.2.2.2.2 k (by omega)
          have e1 : w = q := Nat.eq_of_mul_eq_mul_left (show 0 < R (172 + 3 * k + 2) by omega) (w1.trans (p5 k k1 k2).symm)
          have e2 : w = R (172 + 3 * i) / R (172 + 3 * i + 2) := Nat.eq_of_mul_eq_mul_left (show 0 < R (172 + 3 * i + 2) by omega) (w2.trans c'.symm)
          exact z (e1.symm.trans e2)
        · simp (disch := omega) only [lI, gd_1, bd_1, nm_1, inbN, ixN, nI_l, lN_i, cQuo, pk_mul, eqN, fX1_need, fX1_need_b34, ltN, n1, if_false, leN, n2, if_true, eq_true c, Nat.reduceAdd, p3, q0, z, cond_true, neg1]
    · refine all M1 (Or.inr (Or.inr ⟨rfl, fun w hw => b w (fun k hk hf => hw k (by omega) hf)⟩)) ?_
      simp (disch := omega) only [lI, gd_1, bd_1, nm_1, inbN, ixN, nI_l, lN_i, cQuo, pk_mul, eqN, fX1_need, fX1_need_b34, ltN, n1, if_false, leN, n2, if_true, eq_true c, Nat.reduceAdd, a, M1e, cond_true, neg1]
  · have bad : NeR R (i + 1) (R (172 + 3 * i + 1)) M1 := Or.inr (Or.inr ⟨rfl, fun w hw => c (by
      have := hw i (by omega) rfl
      rw [← this, Nat.mul_div_cancel_left _ (show 0 < R (172 + 3 * i + 2) by omega), Nat.mul_comm])⟩)
    refine all M1 bad ?_
    rcases nf with ⟨a, b⟩ | ⟨q, p1, p2, p3, -⟩ | ⟨a, b⟩
    · simp (disch := omega) only [lI, gd_1, bd_1, nm_1, inbN, ixN, nI_l, lN_i, cQuo, pk_mul, eqN, fX1_need, fX1_need_b34, ltN, n1, if_false, leN, n2, if_true, c, Nat.reduceAdd, a, cond_false, neg1]
    · have q0 : ¬ q = 0 := by omega
      by_cases z : q = R (172 + 3 * i) / R (172 + 3 * i + 2)
      · simp (disch := omega) only [lI, gd_1, bd_1, nm_1, inbN, ixN, nI_l, lN_i, cQuo, pk_mul, eqN, fX1_need, fX1_need_b34, ltN, n1, if_false, leN, n2, if_true, c, Nat.reduceAdd, p3, q0, eq_true z, cond_false, neg1]
      · simp (disch := omega) only [lI, gd_1, bd_1, nm_1, inbN, ixN, nI_l, lN_i, cQuo, pk_mul, eqN, fX1_need, fX1_need_b34, ltN, n1, if_false, leN, n2, if_true, c, Nat.reduceAdd, p3, q0, z, cond_false, neg1]
    · simp (disch := omega) only [lI, gd_1, bd_1, nm_1, inbN, ixN, nI_l, lN_i, cQuo, pk_mul, eqN, fX1_need, fX1_need_b34, ltN, n1, if_false, leN, n2, if_true, c, Nat.reduceAdd, a, M1e, cond_false, neg1]
def FTV (h : HH) (R : Nat → Nat) : Prop := gI h 39 1 = nI (cf (vd R (R 0) 1 1) (11 ^ R 0)) ∧ ∀ f, 1 ≤ f → f ≤ R 0 → BI (gI h 40 f) (fun x => Sx R (R 0) 1 1 (f - 1) x)
def FTR (h : HH) (R : Nat → Nat) : Prop := gI h 39 0 = nI 0 ∨ (gI h 39 0 = nI 1 ∧ FTV h R)
set_option maxRecDepth 100000 in
theorem cFit (D : DRep h d R) (hD : isD d) (v : VR R) (P : FTR h R) : ∃ h', fX1_make 39 d h = some h' ∧ gI h' 39 0 = nI 1 ∧ FTV h' R ∧ Keep PF3 h h' := by
  have vF := v.F
  have v9 := v.2.1
  rcases P with p | ⟨p, q⟩
  · have l2 : ∀ m i f (g : HH), i + m = R 9 → m < f → Keep PF3 h g → gI g 39 0 = nI 1 → (∀ e, 1 ≤ e → e ≤ 4 → NeR R i e (gI g 41 e)) → (∀ e, 1 ≤ e → e ≤ 4 → gI g 40 e = nI 0) → ∃ h', lq1 (fX1_make_L42 39 d) f (nI i) g = some h' ∧ gI h' 39 0 = nI 1 ∧ FTV h' R ∧ Keep PF3 h h' := by
      intro m
      induction m with
      | zero =>
        intro i f g e hf K g0 Ne B0
        obtain ⟨f, rfl⟩ : ∃ q, f = q + 1 := ⟨f - 1, by omega⟩
        have : i = R 9 := by omega
        subst this
        have Dg := D.F hD K
        have hp : 1 * 12 ^ R 0 ≤ 20736 := by
          rw [Nat.one_mul]
          exact Nat.le_trans (Nat.pow_le_pow_right (by omega) vF.2) (by decide)
        obtain ⟨g2, e2, K2, B2, -⟩ := cCount hD v (R 0) 1 6 1 g (fun _ _ => False) (by omega) (by omega) (by omega) (by omega) hp Dg Ne (fun e h1 h2 => by rw [B0 e h1 (by omega)]; exact BI.zero (fun _ z => z))
        refine ⟨sI g2 39 1 (nI (cf (vd R (R 0) 1 1) (11 ^ R 0))), ?_, ?_, ⟨gIs _ _ _ _, fun f h1 h2 => ?_⟩, ?_⟩
        · simp (disch := omega) only [lI, bd_1, lq1, fX1_make_L42, Dg.2.2.2.1.2.2.2.2.2.2, leN, Nat.le_refl, if_true, fX1_countFrom, e2]
        · rw [gIk (by omega), (K2 39 0 (by unfold PF; omega)).1]; exact g0
        · rw [gIa (by omega)]
          exact (B2 f h1 h2).congr (fun w => ⟨fun z => z.elim False.elim id, Or.inr⟩)
        · exact Keep.sI (K.trans (K2.mono (fun x k hp => hp.2.1))) (fun z => z.1 rfl)
      | succ m ih =>
        intro i f g e hf K g0 Ne B0
        obtain ⟨f, rfl⟩ : ∃ q, f = q + 1 := ⟨f - 1, by omega⟩
        have n1 : ¬ R 9 ≤ i := by omega
        have hi : i < R 9 := by omega
        have Dg := D.F hD K
        have dk := Dg.2.2.2.2.2.2.2.2.2.2 i hi
        obtain ⟨g2, e2, Ne2, K2⟩ := cNeed v hi Ne
        obtain ⟨g3, e3, r3⟩ := ih (i + 1) f g2 (by omega) (by omega) (K.trans (K2.mono (fun x k hp => hp.2.2))) ((K2 39 0 (by omega)).1.trans g0) Ne2 (fun e h1 h2 => (K2 40 e (by omega)).1.trans (B0 e h1 h2))
        refine ⟨g3, ?_, r3⟩
        simp (disch := omega) only [lI, bd_1, bv_1, nI_add, lq1, fX1_make_L42, Dg.2.2.2.1.2.2.2.2.2.2, leN, n1, if_false, cDi Dg hD v hi, dk, e2]
        exact e3
    have l1 : ∀ m i f (g : HH), i + m = 5 → m < f → Keep PF3 h g → gI g 39 0 = nI 1 → (∀ e, e < i → gI g 41 e = nI 0) → (∀ e, e < i → gI g 40 e = nI 0) → ∃ h', lq1 (fX1_make_L15 (fun h => lq1 (fX1_make_L42 39 d) FU (nI 0) h) 39 d) f (nI i) g = some h' ∧ gI h' 39 0 = nI 1 ∧ FTV h' R ∧ Keep PF3 h h' := by
      intro m
      induction m with
      | zero =>
        intro i f g e hf K g0 N0 B0
        obtain ⟨f, rfl⟩ : ∃ q, f = q + 1 := ⟨f - 1, by omega⟩
        have n1 : 4 < i := by omega
        obtain ⟨g3, e3, r3⟩ := l2 (R 9) 0 FU g (by omega) (by unfold FU; omega) K g0 (fun e h1 h2 => Or.inl ⟨N0 e (by omega), fun k hk => by omega⟩) (fun e h1 h2 => B0 e (by omega))
        refine ⟨g3, ?_, r3⟩
        simp (disch := omega) only [lI, lq1, fX1_make_L15, ltN, n1, if_true]
        exact e3
      | succ m ih =>
        intro i f g e hf K g0 N0 B0
        obtain ⟨f, rfl⟩ : ∃ q, f = q + 1 := ⟨f - 1, by omega⟩
        have n1 : ¬ 4 < i := by omega
        obtain ⟨g3, e3, r3⟩ := ih (i + 1) f (sI (sI g 40 i (nI 0)) 41 i (nI 0)) (by omega) (by omega) (Keep.sI (Keep.sI K (fun z => z.2.1 rfl)) (fun z => z.2.2 rfl)) (by rw [gIa (by omega), gIa (by omega)]; exact g0) (fun e he => by
          by_cases z : e = i
          · subst z; rw [gIs]
          · rw [gIk z, gIa (by omega)]; exact N0 e (by omega)) (fun e he => by
          rw [gIa (by omega)]
          by_cases z : e = i
          · subst z; rw [gIs]
          · rw [gIk z]; exact B0 e (by omega))
        refine ⟨g3, ?_, r3⟩
        simp (disch := omega) only [lI, gd_1, nm_1, inbN, ixN, nI_add, lq1, fX1_make_L15, ltN, n1, if_false, Nat.reduceAdd]
        exact e3
    obtain ⟨g3, e3, r3⟩ := l1 5 0 FU (sI h 39 0 (nI 1)) (by omega) (by unfold FU; omega) (Keep.sI Keep.rfl (fun z => z.1 rfl)) (gIs _ _ _ _) (fun e he => by omega) (fun e he => by omega)
    refine ⟨g3, ?_, r3⟩
    simp (disch := omega) only [lI, fX1_make, p, if_true]
    exact e3
  · have z1 : ¬ (1 : Nat) = 0 := by omega
    refine ⟨h, ?_, p, q, Keep.rfl⟩
    simp (disch := omega) only [lI, eqN, fX1_make, p, z1, if_false]
/-! the model -/
def prc (c : Nat) : Nat → Nat
  | 0 => 1
  | g + 1 => prc c g * (2 + c / 11 ^ g % 11)
set_option maxRecDepth 100000 in
theorem prc_le (c : Nat) : ∀ n, prc c n ≤ 12 ^ n
  | 0 => Nat.le_refl _
  | n + 1 => by
    show prc c n * _ ≤ 12 ^ n * 12
    exact Nat.mul_le_mul (prc_le c n) (by have := Nat.mod_lt (c / 11 ^ n) (show 0 < 11 by omega); omega)
set_option maxRecDepth 100000 in
theorem prc_s (c : Nat) : ∀ n, prc c (n + 1) = (2 + c % 11) * prc (c / 11) n
  | 0 => by show 1 * (2 + c / 11 ^ 0 % 11) = _ * 1; rw [Nat.pow_zero, Nat.div_one]; omega
  | n + 1 => by
    show prc c (n + 1) * (2 + c / 11 ^ (n + 1) % 11) = (2 + c % 11) * (prc (c / 11) n * (2 + c / 11 / 11 ^ n % 11))
    rw [prc_s c n, Nat.div_div_eq_div_mul, Nat.pow_succ, Nat.mul_comm 11 (11 ^ n), Nat.mul_assoc]
set_option maxRecDepth 100000 in
theorem vd_iff : ∀ m f q c, vd R m f q c = true ↔ ∀ i, i < m → okB R (f + i) (q * prc c (i + 1)) = true := by
  intro m
  induction m with
  | zero => intro f q c; exact ⟨fun _ i hi => by omega, fun _ => rfl⟩
  | succ m ih =>
    intro f q c
    show (okB R f (q * (2 + c % 11)) && vd R m (f + 1) (q * (2 + c % 11)) (c / 11)) = true ↔ _
    rw [Bool.and_eq_true, ih]
    have e0 : prc c 1 = 2 + c % 11 := by show 1 * (2 + c / 11 ^ 0 % 11) = _; rw [Nat.pow_zero, Nat.div_one]; omega
    constructor
    · rintro ⟨a, b⟩ i hi
      cases i with
      | zero => rw [e0]; exact a
      | succ i =>
        have := b i (by omega)
        rw [Nat.mul_assoc, ← prc_s] at this
        rw [show f + (i + 1) = f + 1 + i by omega]
        exact this
    · intro a
      refine ⟨?_, fun i hi => ?_⟩
      · have := a 0 (by omega)
        rw [e0] at this; exact this
      · have := a (i + 1) (by omega)
        rw [show f + (i + 1) = f + 1 + i by omega] at this
        rw [Nat.mul_assoc, ← prc_s]
        exact this
set_option maxRecDepth 100000 in
theorem vd_all (v : VR R) (c : Nat) : vd R (R 0) 1 1 c = true ↔ ∀ k, k < R 9 → R (172 + 3 * k + 2) * prc c (R (172 + 3 * k + 1)) = R (172 + 3 * k) := by
  rw [vd_iff]
  constructor
  · intro h k hk
    have vk := v.2.2.2.2.2.2.2.2 k hk
    have := okB_iff.mp (h (R (172 + 3 * k + 1) - 1) (by omega)) k hk (by omega)
    rw [Nat.one_mul, show R (172 + 3 * k + 1) - 1 + 1 = R (172 + 3 * k + 1) by omega] at this
    exact this
  · intro h i hi
    refine okB_iff.mpr (fun k hk hf => ?_)
    have := h k hk
    rw [hf, Nat.add_comm 1 i] at this
    rw [Nat.one_mul]; exact this
def PT (b k : Nat) : Prop := ¬ (b = 181 ∧ k = 41) ∧ b ≠ 199 ∧ b ≠ 200
set_option maxRecDepth 100000 in
theorem MRep.Tk {g g' : HH} (M : MRep g R) (K : Keep PT g g') : MRep g' R := M.keep K (fun k => by unfold PT; omega)
def okk (R : Nat → Nat) (c : Nat) : Nat → Bool
  | 0 => true
  | k + 1 => okk R c k && decide (R (172 + 3 * k + 2) * prc c (R (172 + 3 * k + 1)) = R (172 + 3 * k))
set_option maxRecDepth 100000 in
theorem okk_iff {c : Nat} : ∀ n, okk R c n = true ↔ ∀ k, k < n → R (172 + 3 * k + 2) * prc c (R (172 + 3 * k + 1)) = R (172 + 3 * k) := by
  intro n
  induction n with
  | zero => exact ⟨fun _ k hk => by omega, fun _ => rfl⟩
  | succ n ih =>
    show (okk R c n && decide _) = true ↔ _
    rw [Bool.and_eq_true, ih, decide_eq_true_eq]
    constructor
    · rintro ⟨a, b⟩ k hk
      by_cases e : k = n
      · subst e; exact b
      · exact a k (by omega)
    · intro a; exact ⟨fun k hk => a k (by omega), a n (by omega)⟩
set_option maxRecDepth 100000 in
theorem mFitB {g : HH} (M : MRep g R) (v : VR R) {c : Nat} (ht : ∀ e, e < R 0 → gI g 200 e = nI (2 + c / 11 ^ e % 11)) : fX9_doRatesFit 181 g = some (vd R (R 0) 1 1 c, g) := by
  have vF := v.F
  have v9 := v.2.1
  have e0 : vd R (R 0) 1 1 c = okk R c (R 9) := by
    cases h1 : okk R c (R 9) with
    | true => exact (vd_all v c).mpr ((okk_iff (R 9)).mp h1)
    | false =>
      cases h2 : vd R (R 0) 1 1 c with
      | true => rw [(okk_iff (R 9)).mpr ((vd_all v c).mp h2)] at h1; cases h1
      | false => rfl
  rw [e0]
  have main : ∀ m k f, k + m = R 9 → m < f → lq2 (fX9_doRatesFit_L4 181) f (okk R c k) (nI k) g = some (okk R c (R 9), g) := by
    intro m
    induction m with
    | zero =>
      intro k f e hf
      obtain ⟨f, rfl⟩ : ∃ q, f = q + 1 := ⟨f - 1, by omega⟩
      have : k = R 9 := by omega
      subst this
      simp (disch := omega) only [lI, gd_1, inbN, ixN, lq2, fX9_doRatesFit_L4, Nat.reduceAdd, M 9, leN, Nat.le_refl, if_true]
    | succ m ih =>
      intro k f e hf
      obtain ⟨f, rfl⟩ : ∃ q, f = q + 1 := ⟨f - 1, by omega⟩
      have n1 : ¬ R 9 ≤ k := by omega
      have vk := v.2.2.2.2.2.2.2.2 k (by omega)
      have key := ih (k + 1) f (by omega) (by omega)
      have inner : ∀ (KK : Int64 → HH → Option (Bool × HH)) n j ff, j + n = R (172 + 3 * k + 1) → n < ff → lq2 (fX9_doRatesFit_L37 KK 181 (okk R c k) (nI k) (nI (172 + 3 * k))) ff (lN (R (172 + 3 * k + 2) * prc c j)) (nI j) g = KK (lN (R (172 + 3 * k + 2) * prc c (R (172 + 3 * k + 1)))) g := by
        intro KK n
        induction n with
        | zero =>
          intro j ff ej hff
          obtain ⟨ff, rfl⟩ : ∃ q, ff = q + 1 := ⟨ff - 1, by omega⟩
          have : j = R (172 + 3 * k + 1) := by omega
          rw [this]
          simp (disch := omega) only [lI, gd_1, inbN, ixN, nI_add, lq2, fX9_doRatesFit_L37, Nat.reduceAdd, M (172 + 3 * k + 1), leN, Nat.le_refl, if_true]
        | succ n ihn =>
          intro j ff ej hff
          obtain ⟨ff, rfl⟩ : ∃ q, ff = q + 1 := ⟨ff - 1, by omega⟩
          have n2 : ¬ R (172 + 3 * k + 1) ≤ j := by omega
          have hj := ht j (by omega)
          have hmod := Nat.mod_lt (c / 11 ^ j) (show 0 < 11 by omega)
          have key2 := ihn (j + 1) ff (by omega) (by omega)
          rw [show prc c (j + 1) = prc c j * (2 + c / 11 ^ j % 11) from rfl, ← Nat.mul_assoc] at key2
          generalize c / 11 ^ j % 11 = z at hj hmod key2
          simp (disch := omega) only [lI, gd_1, nm_1, inbN, ixN, nI_add, nI_l, lN_mul, lq2, fX9_doRatesFit_L37, Nat.reduceAdd, M (172 + 3 * k + 1), leN, n2, if_false, hj]
          exact key2
      have i0 : ∀ (KK : Int64 → HH → Option (Bool × HH)), lq2 (fX9_doRatesFit_L37 KK 181 (okk R c k) (nI k) (nI (172 + 3 * k))) FU (lN (R (172 + 3 * k + 2))) (nI 0) g = KK (lN (R (172 + 3 * k + 2) * prc c (R (172 + 3 * k + 1)))) g := fun KK => by
        have := inner KK (R (172 + 3 * k + 1)) 0 FU (by omega) (by unfold FU; omega)
        rw [show prc c 0 = 1 from rfl, Nat.mul_one] at this
        exact this
      have hb : R (172 + 3 * k + 2) * prc c (R (172 + 3 * k + 1)) ≤ 999 * 20736 := Nat.mul_le_mul vk.2.2.2.2.2 (Nat.le_trans (prc_le c _) (Nat.le_trans (Nat.pow_le_pow_right (by omega) (show R (172 + 3 * k + 1) ≤ 4 by omega)) (by decide)))
      rw [show okk R c (k + 1) = (okk R c k && decide (R (172 + 3 * k + 2) * prc c (R (172 + 3 * k + 1)) = R (172 + 3 * k))) from rfl] at key
      have m0 := M (172 + 3 * k) (by omega)
      generalize R (172 + 3 * k + 2) * prc c (R (172 + 3 * k + 1)) = Z at i0 hb key
      cases ho : okk R c k with
      | false =>
        rw [ho] at i0
        rw [ho, Bool.false_and] at key
        simp (disch := omega) only [lI, gd_1, nm_1, inbN, ixN, pk_mul, nI_add, nI_l, lq2, fX9_doRatesFit_L4, Nat.reduceAdd, M 9, M (172 + 3 * k + 2), leN, n1, if_false, i0, cond_false]
        exact key
      | true =>
        rw [ho] at i0
        rw [ho, Bool.true_and] at key
        by_cases cz : Z = R (172 + 3 * k)
        · rw [decide_eq_true cz] at key
          simp (disch := omega) only [lI, gd_1, nm_1, inbN, ixN, pk_mul, nI_add, nI_l, lq2, fX9_doRatesFit_L4, Nat.reduceAdd, M 9, M (172 + 3 * k + 2), leN, n1, if_false, i0, cond_true, m0, eqL, eq_true cz, if_true]
          exact key
        · rw [decide_eq_false cz] at key
          simp (disch := omega) only [lI, gd_1, nm_1, inbN, ixN, pk_mul, nI_add, nI_l, lq2, fX9_doRatesFit_L4, Nat.reduceAdd, M 9, M (172 + 3 * k + 2), leN, n1, if_false, i0, cond_true, m0, eqL, cz]
          exact key
  exact main (R 9) 0 FU (by omega) (by unfold FU; omega)
/-- what the model's search has found among the first codes -/
def MFt (g : HH) (R : Nat → Nat) (c : Nat) : Prop := gI g 181 41 = nI (cf (vd R (R 0) 1 1) c) ∧ ∀ e, e < R 0 → BI (gI g 199 e) (fun x => ∃ c', c' < c ∧ vd R (R 0) 1 1 c' = true ∧ 2 + c' / 11 ^ e % 11 = x)
set_option maxRecDepth 100000 in
theorem mRates {g : HH} (M : MRep g R) (v : VR R) : ∃ g', fX9_seekRates 181 g = some g' ∧ MFt g' R (11 ^ R 0) ∧ Keep PT g g' := by
  have vF := v.F
  have hpw : 11 ^ R 0 ≤ 14641 := Nat.le_trans (Nat.pow_le_pow_right (by omega) vF.2) (by decide)
  -- over all codes
  have codes : ∀ n c f (h : HH), c + n = 11 ^ R 0 → n < f → Keep PT g h → MFt h R c → ∃ g', lq1 (fX9_seekRates_L52 181 (nI (11 ^ R 0))) f (nI c) h = some g' ∧ MFt g' R (11 ^ R 0) ∧ Keep PT g g' := by
    intro n
    induction n with
    | zero =>
      intro c f h e hf K F
      obtain ⟨f, rfl⟩ : ∃ q, f = q + 1 := ⟨f - 1, by omega⟩
      have n1 : 11 ^ R 0 ≤ c := by omega
      have : c = 11 ^ R 0 := by omega
      refine ⟨h, ?_, by rw [← this]; exact F, K⟩
      simp (disch := omega) only [lq1, fX9_seekRates_L52, leN, n1, if_true]
    | succ n ih =>
      intro c f h e hf K F
      obtain ⟨f, rfl⟩ : ∃ q, f = q + 1 := ⟨f - 1, by omega⟩
      have n1 : ¬ 11 ^ R 0 ≤ c := by omega
      -- digits
      have digs : ∀ (KK : HH → Option HH) m i ff (k : HH), i + m = R 0 → m < ff → Keep PT g k → MFt k R c → (∀ e, e < i → gI k 200 e = nI (2 + c / 11 ^ e % 11)) → ∃ k', lq2 (fX9_seekRates_L62 KK 181 (nI (11 ^ R 0)) (nI c)) ff (nI (c / 11 ^ i)) (nI i) k = KK k' ∧ Keep PT g k' ∧ MFt k' R c ∧ (∀ e, e < R 0 → gI k' 200 e = nI (2 + c / 11 ^ e % 11)) := by
        intro KK m
        induction m with
        | zero =>
          intro i ff k ei hff Kk Fk hk
          obtain ⟨ff, rfl⟩ : ∃ q, ff = q + 1 := ⟨ff - 1, by omega⟩
          have : i = R 0 := by omega
          rw [this] at hk ⊢
          refine ⟨k, ?_, Kk, Fk, hk⟩
          simp (disch := omega) only [lI, gd_1, inbN, ixN, lq2, fX9_seekRates_L62, Nat.reduceAdd, (M.Tk Kk) 0, leN, Nat.le_refl, if_true]
        | succ m ihm =>
          intro i ff k ei hff Kk Fk hk
          obtain ⟨ff, rfl⟩ : ∃ q, ff = q + 1 := ⟨ff - 1, by omega⟩
          have n2 : ¬ R 0 ≤ i := by omega
          have hdl : c / 11 ^ i ≤ c := Nat.div_le_self _ _
          have hmod := Nat.mod_lt (c / 11 ^ i) (show 0 < 11 by omega)
          obtain ⟨k2, e2, r2⟩ := ihm (i + 1) ff (sI k 200 i (nI (2 + c / 11 ^ i % 11))) (by omega) (by omega) (Keep.sI Kk (fun z => z.2.2 rfl)) ⟨by rw [gIa (by omega)]; exact Fk.1, fun e he => by rw [gIa (by omega)]; exact Fk.2 e he⟩ (fun e he => by
            by_cases z : e = i
            · rw [z, gIs]
            · rw [gIk z]; exact hk e (by omega))
          refine ⟨k2, ?_, r2⟩
          rw [show c / 11 ^ (i + 1) = c / 11 ^ i / 11 by rw [Nat.pow_succ, Nat.div_div_eq_div_mul]] at e2
          generalize c / 11 ^ i = Z at hdl hmod e2 ⊢
          simp (disch := omega) only [lI, gd_1, nm_1, inbN, ixN, nI_add, pk_div, pk_mul, remN, lq2, fX9_seekRates_L62, Nat.reduceAdd, (M.Tk Kk) 0, leN, n2, if_false]
          exact e2
      have F1 := cf_le (vd R (R 0) 1 1) c
      cases hv : vd R (R 0) 1 1 c with
      | false =>
        obtain ⟨k1, e1, K1, F1', t1⟩ := digs (fun h => bd (fX9_doRatesFit 181 h) (fun r98 h98 => bif r98 then lq1 (fX9_seekRates_L120 (fun h => lq1 (fX9_seekRates_L52 181 (nI (11 ^ R 0))) f (nI c + nI 1) h) 181 (nI (11 ^ R 0)) (nI c)) FU (nI 0) (sI h98 181 41 (gI h98 181 41 + nI 1)) else lq1 (fX9_seekRates_L52 181 (nI (11 ^ R 0))) f (nI c + nI 1) h98)) (R 0) 0 FU h (by omega) (by unfold FU; omega) K F (fun e he => by omega)
        rw [Nat.pow_zero, Nat.div_one] at e1
        have fb := mFitB (M.Tk K1) v t1
        rw [hv] at fb
        obtain ⟨g3, e3, r3⟩ := ih (c + 1) f k1 (by omega) (by omega) K1 ⟨by
          show gI k1 181 41 = nI (cf (vd R (R 0) 1 1) c + (if vd R (R 0) 1 1 c then 1 else 0))
          rw [hv]; exact F1'.1, fun e he => (F1'.2 e he).congr (fun w => ⟨fun ⟨c', a, b⟩ => ⟨c', by omega, b⟩, fun ⟨c', a, b, b2⟩ => by
            by_cases z : c' = c
            · rw [z, hv] at b; cases b
            · exact ⟨c', by omega, b, b2⟩⟩)⟩
        refine ⟨g3, ?_, r3⟩
        simp (disch := omega) only [lI, lq1, fX9_seekRates_L52, leN, n1, if_false]
        refine e1.trans ?_
        simp (disch := omega) only [bd_1, fb, cond_false, nI_add]
        exact e3
      | true =>
        -- bits
        have bits : ∀ (KK : HH → Option HH) m i ff (k : HH), i + m = R 0 → m < ff → Keep PT g k → gI k 181 41 = nI (cf (vd R (R 0) 1 1) c + 1) → (∀ e, e < R 0 → gI k 200 e = nI (2 + c / 11 ^ e % 11)) → (∀ e, e < R 0 → BI (gI k 199 e) (fun x => (∃ c', c' < c ∧ vd R (R 0) 1 1 c' = true ∧ 2 + c' / 11 ^ e % 11 = x) ∨ (e < i ∧ x = 2 + c / 11 ^ e % 11))) → ∃ k', lq1 (fX9_seekRates_L120 KK 181 (nI (11 ^ R 0)) (nI c)) ff (nI i) k = KK k' ∧ Keep PT g k' ∧ MFt k' R (c + 1) := by
          intro KK m
          induction m with
          | zero =>
            intro i ff k ei hff Kk k41 hk Bk
            obtain ⟨ff, rfl⟩ : ∃ q, ff = q + 1 := ⟨ff - 1, by omega⟩
            have : i = R 0 := by omega
            refine ⟨k, ?_, Kk, ?_, fun e he => (Bk e he).congr (fun w => ?_)⟩
            · rw [this]
              simp (disch := omega) only [lI, gd_1, inbN, ixN, lq1, fX9_seekRates_L120, Nat.reduceAdd, (M.Tk Kk) 0, leN, Nat.le_refl, if_true]
            · show gI k 181 41 = nI (cf (vd R (R 0) 1 1) c + (if vd R (R 0) 1 1 c then 1 else 0))
              rw [hv]; exact k41
            · constructor
              · rintro (⟨c', a, b⟩ | ⟨a, b⟩)
                · exact ⟨c', by omega, b⟩
                · exact ⟨c, by omega, hv, b.symm⟩
              · rintro ⟨c', a, b, b2⟩
                by_cases z : c' = c
                · rw [z] at b2; exact Or.inr ⟨by omega, b2.symm⟩
                · exact Or.inl ⟨c', by omega, b, b2⟩
          | succ m ihm =>
            intro i ff k ei hff Kk k41 hk Bk
            obtain ⟨ff, rfl⟩ : ∃ q, ff = q + 1 := ⟨ff - 1, by omega⟩
            have n2 : ¬ R 0 ≤ i := by omega
            have hmod := Nat.mod_lt (c / 11 ^ i) (show 0 < 11 by omega)
            have ti := hk i (by omega)
            obtain ⟨k2, e2, r2⟩ := ihm (i + 1) ff (sI k 199 i (gI k 199 i ||| (nI 1 <<< (nI (2 + c / 11 ^ i % 11) &&& nI 31)))) (by omega) (by omega) (Keep.sI Kk (fun z => z.2.1 rfl)) (by rw [gIa (by omega)]; exact k41) (fun e he => by rw [gIa (by omega)]; exact hk e he) (fun e he => by
              by_cases z : e = i
              · rw [z, gIs]
                refine ((Bk i (by omega)).or (show 2 + c / 11 ^ i % 11 < 13 by omega)).congr (fun w => ?_)
                constructor
                · rintro ((y | y) | y)
                  · exact Or.inl y
                  · omega
                  · exact Or.inr ⟨by omega, y⟩
                · rintro (y | y)
                  · exact Or.inl (Or.inl y)
                  · exact Or.inr y.2
              · rw [gIk z]
                refine (Bk e he).congr (fun w => ?_)
                constructor
                · rintro (y | y)
                  · exact Or.inl y
                  · exact Or.inr ⟨by omega, y.2⟩
                · rintro (y | y)
                  · exact Or.inl y
                  · exact Or.inr ⟨by omega, y.2⟩)
            refine ⟨k2, ?_, r2⟩
            simp (disch := omega) only [lI, gd_1, nm_1, inbN, ixN, nI_add, lq1, fX9_seekRates_L120, Nat.reduceAdd, (M.Tk Kk) 0, leN, n2, if_false, ti]
            exact e2
        obtain ⟨k1, e1, K1, F1', t1⟩ := digs (fun h => bd (fX9_doRatesFit 181 h) (fun r98 h98 => bif r98 then lq1 (fX9_seekRates_L120 (fun h => lq1 (fX9_seekRates_L52 181 (nI (11 ^ R 0))) f (nI c + nI 1) h) 181 (nI (11 ^ R 0)) (nI c)) FU (nI 0) (sI h98 181 41 (gI h98 181 41 + nI 1)) else lq1 (fX9_seekRates_L52 181 (nI (11 ^ R 0))) f (nI c + nI 1) h98)) (R 0) 0 FU h (by omega) (by unfold FU; omega) K F (fun e he => by omega)
        rw [Nat.pow_zero, Nat.div_one] at e1
        have fb := mFitB (M.Tk K1) v t1
        rw [hv] at fb
        obtain ⟨k2, e2, K2, F2⟩ := bits (fun h => lq1 (fX9_seekRates_L52 181 (nI (11 ^ R 0))) f (nI c + nI 1) h) (R 0) 0 FU (sI k1 181 41 (nI (cf (vd R (R 0) 1 1) c + 1))) (by omega) (by unfold FU; omega) (Keep.sI K1 (fun z => z.1 ⟨rfl, rfl⟩)) (gIs _ _ _ _) (fun e he => by rw [gIa (by omega)]; exact t1 e he) (fun e he => by
          rw [gIa (by omega)]
          refine (F1'.2 e he).congr (fun w => ⟨Or.inl, fun y => y.elim id (fun z => ?_)⟩)
          omega)
        obtain ⟨g3, e3, r3⟩ := ih (c + 1) f k2 (by omega) (by omega) K2 F2
        refine ⟨g3, ?_, r3⟩
        simp (disch := omega) only [lI, lq1, fX9_seekRates_L52, leN, n1, if_false]
        refine e1.trans ?_
        have f1 := F1'.1
        simp (disch := omega) only [bd_1, fb, cond_true, f1, nI_add]
        rw [nI_add] at e2
        exact e2.trans e3
  -- eleven to the floors
  have pw : ∀ (KK : Int32 → HH → Option HH) m i ff (k : HH), i + m = R 0 → m < ff → MRep k R → lq2 (fX9_seekRates_L29 KK 181) ff (nI (11 ^ i)) (nI i) k = KK (nI (11 ^ R 0)) k := by
    intro KK m
    induction m with
    | zero =>
      intro i ff k ei hff Mk
      obtain ⟨ff, rfl⟩ : ∃ q, ff = q + 1 := ⟨ff - 1, by omega⟩
      have : i = R 0 := by omega
      rw [this]
      simp (disch := omega) only [lI, gd_1, inbN, ixN, lq2, fX9_seekRates_L29, Nat.reduceAdd, Mk 0, leN, Nat.le_refl, if_true]
    | succ m ih =>
      intro i ff k ei hff Mk
      obtain ⟨ff, rfl⟩ : ∃ q, ff = q + 1 := ⟨ff - 1, by omega⟩
      have n2 : ¬ R 0 ≤ i := by omega
      have key := ih (i + 1) ff k (by omega) (by omega) Mk
      rw [Nat.pow_succ] at key
      simp (disch := omega) only [lI, gd_1, nm_1, inbN, ixN, pk_mul, nI_add, lq2, fX9_seekRates_L29, Nat.reduceAdd, Mk 0, leN, n2, if_false]
      exact key
  have zero : ∀ m i ff (k : HH), i + m = 4 → m < ff → Keep PT g k → gI k 181 41 = nI 0 → (∀ e, e < i → gI k 199 e = nI 0) → ∃ g', lq1 (fX9_seekRates_L7 (fun h => lq2 (fX9_seekRates_L29 (fun x1 h => lq1 (fX9_seekRates_L52 181 x1) FU (nI 0) h) 181) FU (nI 1) (nI 0) h) 181) ff (nI i) k = some g' ∧ MFt g' R (11 ^ R 0) ∧ Keep PT g g' := by
    intro m
    induction m with
    | zero =>
      intro i ff k ei hff Kk k41 hz
      obtain ⟨ff, rfl⟩ : ∃ q, ff = q + 1 := ⟨ff - 1, by omega⟩
      have n1 : 4 ≤ i := by omega
      obtain ⟨g3, e3, r3⟩ := codes (11 ^ R 0) 0 FU k (by omega) (by unfold FU; omega) Kk ⟨k41, fun e he => by
        rw [hz e (by omega)]
        exact BI.zero (fun w ⟨c', a, _⟩ => by omega)⟩
      refine ⟨g3, ?_, r3⟩
      have p0 := pw (fun x1 h => lq1 (fX9_seekRates_L52 181 x1) FU (nI 0) h) (R 0) 0 FU k (by omega) (by unfold FU; omega) (M.Tk Kk)
      simp (disch := omega) only [lI, lq1, fX9_seekRates_L7, leN, n1, if_true]
      exact p0.trans e3
    | succ m ih =>
      intro i ff k ei hff Kk k41 hz
      obtain ⟨ff, rfl⟩ : ∃ q, ff = q + 1 := ⟨ff - 1, by omega⟩
      have n1 : ¬ 4 ≤ i := by omega
      obtain ⟨g3, e3, r3⟩ := ih (i + 1) ff (sI k 199 i (nI 0)) (by omega) (by omega) (Keep.sI Kk (fun z => z.2.1 rfl)) (by rw [gIa (by omega)]; exact k41) (fun e he => by
        by_cases z : e = i
        · rw [z, gIs]
        · rw [gIk z]; exact hz e (by omega))
      refine ⟨g3, ?_, r3⟩
      simp (disch := omega) only [lI, gd_1, inbN, ixN, nI_add, lq1, fX9_seekRates_L7, Nat.reduceAdd, leN, n1, if_false]
      exact e3
  obtain ⟨g3, e3, r3⟩ := zero 4 0 FU (sI g 181 41 (nI 0)) (by omega) (by unfold FU; omega) (Keep.sI Keep.rfl (fun z => z.1 ⟨rfl, rfl⟩)) (gIs _ _ _ _) (fun e he => by omega)
  refine ⟨g3, ?_, r3⟩
  simp (disch := omega) only [lI, fX9_seekRates]
  exact e3
end FIT2
