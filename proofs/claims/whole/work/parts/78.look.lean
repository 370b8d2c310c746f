set_option maxRecDepth 100000 in
theorem VN.mono {R N T : Nat → Nat} {B B' : Nat} (W : VN R N T B) (h : B ≤ B') : VN R N T B' := ⟨Nat.le_trans W.1 (Nat.mul_le_mul_right _ h), W.2⟩
/-- the night at b is like that at a was -/
def CpN (h : HH) (a : Nat) (h' : HH) (b : Nat) : Prop := gL h' b 6 = gL h a 6 ∧ ∀ q, q < 5 → gI h' (b + 1) q = gI h (a + 1) q ∧ gI h' (b + 2) q = gI h (a + 2) q ∧ gI h' (b + 3) q = gI h (a + 3) q ∧ gI h' (b + 4) q = gI h (a + 4) q ∧ gL h' (b + 5) q = gL h (a + 5) q ∧ gL h' (b + 6) q = gL h (a + 6) q
set_option maxRecDepth 100000 in
theorem CpN.rep {h h' : HH} {a b : Nat} {R N T : Nat → Nat} (c : CpN h a h' b) (Q : NRep h a R N T) (h5 : R 4 ≤ 5) : NRep h' b R N T := by
  obtain ⟨c1, c2⟩ := c
  refine ⟨c1.trans Q.1, fun q hq => ?_, fun q hq => ?_⟩
  · have := c2 q hq
    rw [this.1, this.2.1, this.2.2.1, this.2.2.2.1, this.2.2.2.2.1]; exact Q.2.1 q hq
  · have := c2 q (by omega)
    rw [this.2.2.2.2.2]; exact Q.2.2 q hq
set_option maxHeartbeats 1000000 in
set_option maxRecDepth 100000 in
theorem cCopy {h : HH} {a b : Nat} (hs : a + 6 < b ∨ b + 6 < a) : ∃ h', fX2_copyFrom b a h = some h' ∧ CpN h a h' b ∧ Keep (PN b) h h' := by
  have main : ∀ m i f (g : HH), i + m = 5 → m < f → Keep (PN b) h g → gL g b 6 = gL h a 6 → (∀ q, q < i → gI g (b + 1) q = gI h (a + 1) q ∧ gI g (b + 2) q = gI h (a + 2) q ∧ gI g (b + 3) q = gI h (a + 3) q ∧ gI g (b + 4) q = gI h (a + 4) q ∧ gL g (b + 5) q = gL h (a + 5) q ∧ gL g (b + 6) q = gL h (a + 6) q) → ∃ h', lq1 (fX2_copyFrom_L10 b a) f (nI i) g = some h' ∧ CpN h a h' b ∧ Keep (PN b) h h' := by
    intro m
    induction m with
    | zero =>
      intro i f g e hf K k6 kq
      obtain ⟨f, rfl⟩ : ∃ q, f = q + 1 := ⟨f - 1, by omega⟩
      have : i = 5 := by omega
      subst this
      refine ⟨g, ?_, ⟨k6, kq⟩, K⟩
      simp (disch := omega) only [lI, lq1, fX2_copyFrom_L10, leN, Nat.le_refl, if_true]
    | succ m ih =>
      intro i f g e hf K k6 kq
      obtain ⟨f, rfl⟩ : ∃ q, f = q + 1 := ⟨f - 1, by omega⟩
      have n1 : ¬ 5 ≤ i := by omega
      have ka : ∀ j, a ≤ j → j ≤ a + 6 → gI g j i = gI h j i ∧ gL g j i = gL h j i := fun j h1 h2 => ⟨(K j i (fun z => by omega)).1, (K j i (fun z => by omega)).2.1⟩
      have a1 := (ka (a + 1) (by omega) (by omega)).1
      have a2 := (ka (a + 2) (by omega) (by omega)).1
      have a3 := (ka (a + 3) (by omega) (by omega)).1
      have a4 := (ka (a + 4) (by omega) (by omega)).1
      have a5 := (ka (a + 5) (by omega) (by omega)).2
      have a6 := (ka (a + 6) (by omega) (by omega)).2
      simp (disch := omega) only [lI, gd_1, nm_1, ixN, inbN, nI_add, lq1, fX2_copyFrom_L10, leN, n1, if_false, gIa, gLa, gL_sI, gI_sL, a1, a2, a3, a4, a5, a6]
      refine ih (i + 1) f _ (by omega) (by omega) ((((((K.N1 (by omega) (by omega)).N1 (by omega) (by omega)).N1 (by omega) (by omega)).N1 (by omega) (by omega)).N2 (by omega) (by omega)).N2 (by omega) (by omega)) ?_ ?_
      · simp (disch := omega) only [gLa, gL_sI, k6]
      · intro q hq
        by_cases eq : q = i
        · subst eq
          refine ⟨?_, ?_, ?_, ?_, ?_, ?_⟩ <;> simp (disch := omega) only [gIs, gIa, gLs, gLa, gL_sI, gI_sL]
        · have := kq q (by omega)
          refine ⟨?_, ?_, ?_, ?_, ?_, ?_⟩ <;> simp (disch := omega) only [gIk, gLk, gL_sI, gI_sL, this]
  refine main 5 0 FU _ (by omega) (by unfold FU; omega) (Keep.rfl.N2 (k := 6) (v := gL h a 6) (by omega) (by omega)) (gLs _ _ _ _) (fun q hq => absurd hq (Nat.not_lt_zero q))
/-! the model's copies -/
def PC (b j n c k : Nat) : Prop := ¬ (c = b ∧ j ≤ k ∧ k < j + n)
set_option maxRecDepth 100000 in
theorem mCopy {g : HH} {a b i j n : Nat} (hab : a ≠ b) (h1 : i + n ≤ ln a) (h2 : j + n ≤ ln b) (hn : n < 1000) (l1 : ln a < 2 ^ 31) (l2 : ln b < 2 ^ 31) : ∃ g', fX9_copy a (nI i) b (nI j) (nI n) g = some g' ∧ (∀ k, k < n → gI g' b (j + k) = gI g a (i + k)) ∧ Keep (PC b j n) g g' := by
  have main : ∀ m q f (h : HH), q + m = n → m < f → (∀ k, k < q → gI h b (j + k) = gI g a (i + k)) → Keep (PC b j n) g h → ∃ g', lq1 (fX9_copy_L3 a (nI i) b (nI j) (nI n)) f (nI q) h = some g' ∧ (∀ k, k < n → gI g' b (j + k) = gI g a (i + k)) ∧ Keep (PC b j n) g g' := by
    intro m
    induction m with
    | zero =>
      intro q f h e hf hk K
      obtain ⟨f, rfl⟩ : ∃ q, f = q + 1 := ⟨f - 1, by omega⟩
      have : q = n := by omega
      subst this
      refine ⟨h, ?_, hk, K⟩
      simp (disch := omega) only [lq1, fX9_copy_L3, leN, Nat.le_refl, if_true]
    | succ m ih =>
      intro q f h e hf hk K
      obtain ⟨f, rfl⟩ : ∃ q, f = q + 1 := ⟨f - 1, by omega⟩
      have n1 : ¬ n ≤ q := by omega
      have e1 : gI h a (i + q) = gI g a (i + q) := (K a (i + q) (fun z => hab z.1)).1
      simp (disch := omega) only [lI, gd_1, ixN, inbN, nI_add, lq1, fX9_copy_L3, leN, n1, if_false, e1]
      refine ih (q + 1) f _ (by omega) (by omega) (fun k hk2 => ?_) (K.sI (fun z => z ⟨rfl, by omega, by omega⟩))
      by_cases e2 : k = q
      · subst e2; rw [gIs]
      · rw [gIk (by omega)]; exact hk k (by omega)
  exact main n 0 FU g (by omega) (by unfold FU; omega) (fun k hk => absurd hk (Nat.not_lt_zero k)) Keep.rfl
set_option maxRecDepth 100000 in
theorem mCopyL {g : HH} {a b i j : Nat} (hab : a ≠ b) (h1 : i + 31 ≤ ln a) (h2 : j + 31 ≤ ln b) (l1 : ln a < 2 ^ 31) (l2 : ln b < 2 ^ 31) : ∃ g', fX9_copyLongs a (nI i) b (nI j) g = some g' ∧ (∀ k, k < 31 → gL g' b (j + k) = gL g a (i + k)) ∧ Keep (PC b j 31) g g' := by
  have main : ∀ m q f (h : HH), q + m = 31 → m < f → (∀ k, k < q → gL h b (j + k) = gL g a (i + k)) → Keep (PC b j 31) g h → ∃ g', lq1 (fX9_copyLongs_L3 a (nI i) b (nI j)) f (nI q) h = some g' ∧ (∀ k, k < 31 → gL g' b (j + k) = gL g a (i + k)) ∧ Keep (PC b j 31) g g' := by
    intro m
    induction m with
    | zero =>
      intro q f h e hf hk K
      obtain ⟨f, rfl⟩ : ∃ q, f = q + 1 := ⟨f - 1, by omega⟩
      have : q = 31 := by omega
      subst this
      refine ⟨h, ?_, hk, K⟩
      simp (disch := omega) only [lI, lq1, fX9_copyLongs_L3, leN, Nat.le_refl, if_true]
    | succ m ih =>
      intro q f h e hf hk K
      obtain ⟨f, rfl⟩ : ∃ q, f = q + 1 := ⟨f - 1, by omega⟩
      have n1 : ¬ 31 ≤ q := by omega
      have e1 : gL h a (i + q) = gL g a (i + q) := (K a (i + q) (fun z => hab z.1)).2.1
      simp (disch := omega) only [lI, gd_1, ixN, inbN, nI_add, lq1, fX9_copyLongs_L3, leN, n1, if_false, e1]
      refine ih (q + 1) f _ (by omega) (by omega) (fun k hk2 => ?_) (K.sL (fun z => z ⟨rfl, by omega, by omega⟩))
      by_cases e2 : k = q
      · subst e2; rw [gLs]
      · rw [gLk (by omega)]; exact hk k (by omega)
  exact main 31 0 FU g (by omega) (by unfold FU; omega) (fun k hk => absurd hk (Nat.not_lt_zero k)) Keep.rfl
set_option maxRecDepth 100000 in
theorem ln186 : ln 186 = 20 ∧ ln 187 = 240 ∧ ln 188 = 60 ∧ ln 189 = 20 ∧ ln 190 = 31 ∧ ln 191 = 372 ∧ ln 192 = 93 ∧ ln 193 = 31 := by decide +kernel
def PM2 (b k : Nat) : Prop := PM b k ∧ b ≠ 186 ∧ b ≠ 190
def PM3 (b k : Nat) : Prop := b ≠ 186 ∧ b ≠ 190 ∧ b ≠ 189 ∧ b ≠ 193
set_option maxRecDepth 100000 in
theorem PM32 : ∀ x k, PM2 x k → PM3 x k := fun x k hp => by unfold PM2 PM at hp; unfold PM3; omega
/-! saved, gone on, and brought back -/
set_option maxRecDepth 100000 in
theorem mSave {g : HH} {N T : Nat → Nat} (Q : MNRep g N T) : ∃ g1, fX9_save 181 g = some g1 ∧ MNRep g1 N T ∧ Keep PM3 g g1 ∧ ∀ g2, Keep PW g1 g2 → ∃ g3, fX9_bringBack 181 g2 = some g3 ∧ MNRep g3 N T ∧ Keep PM3 g g3 := by
  obtain ⟨l6, l7, l8, l9, l0, l1, l2, l3⟩ := ln186
  obtain ⟨a1, e1, v1, K1⟩ := mCopy (g := g) (a := 186) (b := 189) (i := 0) (j := 0) (n := 20) (by omega) (by omega) (by omega) (by omega) (by omega) (by omega)
  obtain ⟨a2, e2, v2, K2⟩ := mCopyL (g := a1) (a := 190) (b := 193) (i := 0) (j := 0) (by omega) (by omega) (by omega) (by omega) (by omega)
  have KA : Keep PM3 g a2 := (K1.mono (fun x k hp z => by unfold PM3 at hp; omega)).trans (K2.mono (fun x k hp z => by unfold PM3 at hp; omega))
  refine ⟨a2, ?_, ⟨fun k hk => ?_, fun k hk => ?_⟩, KA, fun g2 K => ?_⟩
  · simp only [lI, fX9_save, Nat.reduceAdd, e1, e2, bv_1]
  · exact ((K2 186 k (fun z => by omega)).1.trans (K1 186 k (fun z => by omega)).1).trans (Q.1 k hk)
  · exact ((K2 190 k (fun z => by omega)).2.1.trans (K1 190 k (fun z => by omega)).2.1).trans (Q.2 k hk)
  · obtain ⟨a3, e3, v3, K3⟩ := mCopy (g := g2) (a := 189) (b := 186) (i := 0) (j := 0) (n := 20) (by omega) (by omega) (by omega) (by omega) (by omega) (by omega)
    obtain ⟨a4, e4, v4, K4⟩ := mCopyL (g := a3) (a := 193) (b := 190) (i := 0) (j := 0) (by omega) (by omega) (by omega) (by omega) (by omega)
    refine ⟨a4, ?_, ⟨fun k hk => ?_, fun k hk => ?_⟩, ?_⟩
    · simp only [lI, fX9_bringBack, Nat.reduceAdd, e3, e4, bv_1]
    · have b4 := (K4 186 k (fun z => by omega)).1
      have b3 := v3 k hk
      have b2 := (K 189 k ⟨fun z => by omega, fun z => by omega⟩).1
      have b1 := (K2 189 k (fun z => by omega)).1
      have b0 := v1 k hk
      rw [Nat.zero_add] at b3 b0
      exact b4.trans (b3.trans (b2.trans (b1.trans (b0.trans (Q.1 k hk)))))
    · have b4 := v4 k hk
      have b3 := (K3 193 k (fun z => by omega)).2.1
      have b2 := (K 193 k ⟨fun z => by omega, fun z => by omega⟩).2.1
      have b1 := v2 k hk
      have b0 := (K1 190 k (fun z => by omega)).2.1
      rw [Nat.zero_add] at b4 b1
      exact b4.trans (b3.trans (b2.trans (b1.trans (b0.trans (Q.2 k hk)))))
    · refine KA.trans ((K.mono (fun x k hp => ?_)).trans ((K3.mono (fun x k hp z => ?_)).trans (K4.mono (fun x k hp z => ?_))))
      · unfold PM3 at hp; exact ⟨fun z => by omega, fun z => by omega⟩
      · unfold PM3 at hp; omega
      · unfold PM3 at hp; omega
/-- class and model answer alike; a question's general form -/
def OpW {α : Type} (R N T : Nat → Nat) (h : HH) (x : Option (α × HH)) (y : HH → Option (α × HH)) : Prop := ∃ a t, (t ≠ 4 ∧ t < 100) ∧ CQ h x a t ∧ ∀ h1, MA h1 R N T → ∃ h', y h1 = some (a, h') ∧ gI h' 181 11 = nI t ∧ Keep PM2 h1 h' ∧ MA h' R N T
set_option maxRecDepth 100000 in
theorem OpQ.W {α : Type} {R N T : Nat → Nat} {h : HH} {x : Option (α × HH)} {y : HH → Option (α × HH)} (o : OpQ h x y (fun h1 => MA h1 R N T)) : OpW R N T h x y := by
  obtain ⟨a, t, ht, c, m⟩ := o
  refine ⟨a, t, ht, c, fun h1 M => ?_⟩
  obtain ⟨h', e, g, K⟩ := m h1 M
  exact ⟨h', e, g, K.mono (fun x k hp => hp.1), M.keep K⟩
set_option maxRecDepth 100000 in
theorem MA.keep2 {h h' : HH} {R N T : Nat → Nat} (a : MA h R N T) (K : Keep PM2 h h') (Q : MNRep h' N T) : MA h' R N T := by
  obtain ⟨a1, a2, a3, a4, a5, a6⟩ := a
  exact ⟨(K 181 14 (by unfold PM2 PM; omega)).1.trans a1, a2.keep K (fun k => by unfold PM2 PM; omega), a3, Q, a5, a6⟩
set_option maxRecDepth 100000 in
theorem opw {α : Type} {h : HH} {x : Option (α × HH)} {y : HH → Option (α × HH)} {R N T : Nat → Nat} (a : α) (hc : ∃ h', x = some (a, sI h' 0 16 (nI 0)) ∧ Keep PQ h h') (hm : ∀ h1 g, MA g R N T → fX9_good 181 h1 = some g → ∃ g', y h1 = some (a, g') ∧ Keep PM3 g g' ∧ MNRep g' N T) : OpW R N T h x y := by
  obtain ⟨h', e, K⟩ := hc
  refine ⟨a, 0, by omega, ⟨_, e, gIs _ _ _ _, K.sI (fun z => z.1 ⟨rfl, rfl⟩)⟩, fun h1 M => ?_⟩
  obtain ⟨g, hg, Mg, Kg, t0⟩ := mGood M
  obtain ⟨g', eg, Kg', Qg'⟩ := hm h1 g Mg hg
  have t1 : gI g' 181 11 = gI g 181 11 := (Kg' 181 11 (by unfold PM3; omega)).1
  have K2 : Keep PM2 h1 g' := (Kg.mono (fun x k hp => hp.1)).trans (Kg'.mono PM32)
  exact ⟨g', eg, t1.trans t0, K2, M.keep2 K2 Qg'⟩
set_option maxRecDepth 100000 in
theorem PN_PQ {a : Nat} (h1 : 13 ≤ a) (h2 : a ≤ 21) : ∀ x k, PQ x k → PN a x k := fun x k hp z => hp.2 ⟨by omega, by omega⟩
section LOOK
variable {h : HH} {d : Nat} {R N T : Nat → Nat}
set_option maxRecDepth 100000 in
theorem tB (v : VR R) (W : VN R N T 1200) {t : Nat} (ht : t ≤ 600) : T 0 + t * bt R ≤ 1800 * bt R := by
  have h1 := W.1
  have h2 : t * bt R ≤ 600 * bt R := Nat.mul_le_mul_right _ ht
  omega
set_option maxRecDepth 100000 in
theorem cLook (C : CA h d R N T) {t : Nat} (ht : t ≤ 600) : ∃ h', fX8_lookAhead 0 (nI t) h = some h' ∧ NRep h' 13 R (run R (T 0 + t * bt R) 29 (N, T)).1 (run R (T 0 + t * bt R) 29 (N, T)).2 ∧ Keep (PN 13) h h' := by
  obtain ⟨c1, c2, c3, D, v, Q, W, S⟩ := C
  have vS := v.S
  have vb := v.bt
  have k := isKb_D c2
  have hda : 13 + 6 < d := by rcases c2 with e | e <;> omega
  obtain ⟨h1, e1, p1, K1⟩ := cCopy (h := h) (a := 6) (b := 13) (by omega)
  have D1 := D.N K1 hda
  have Q1 : NRep h1 13 R (N, T).1 (N, T).2 := p1.rep Q vS.2
  have g1 : gR h1 0 10 = d := (K1 0 10 (fun z => by omega)).2.2.trans c1
  have g2 : gL h1 6 6 = lN (T 0) := (K1 6 6 (fun z => by omega)).2.1.trans Q.1
  obtain ⟨h2, e2, Q2, K2⟩ := cRun D1 c2 hda v Q1 (VN.mono W (B' := 1800) (by omega)) (by omega) S (t := T 0 + t * bt R) (Nat.le_add_right _ _) (tB v W ht)
  refine ⟨h2, ?_, Q2, K1.trans K2⟩
  simp (disch := omega) only [lI, lJ, gd_1, bd_1, bv_1, nm_1, ixN, inbN, eqN, leN, ltN, eqL, leL, ltL, beqN, beqL, nI_add, pk_mul, lN_add, lN_mul, nI_l, lN_i, pk_div, pk_lDiv, pk_sub, lN_sub, remN, remL, neg1, neg2, negL, negL2, M1e, M1f, M1g, M1h, M1i, M1j, M2e, M2f, L1g, L1h, L1i, L1j, les_eq, les_e, les_n, les_m, fX8_lookAhead, Nat.reduceAdd, e1, g1, g2, k, cBottom D1 v, e2]
set_option maxRecDepth 100000 in
theorem spC (x : Int32) : (∃ t, t ≤ 600 ∧ x = nI t ∧ (∀ h, fX8_isSpan x h = some (true, h)) ∧ ∀ h, fX9_within x (nI 0) (nI 600) h = some (true, h)) ∨ ((∀ h, fX8_isSpan x h = some (false, h)) ∧ ∀ h, fX9_within x (nI 0) (nI 600) h = some (false, h)) := by
  rcases rng x (n := 600) (by omega) with ⟨t, ht, rfl⟩ | hx | ⟨h1, h2, h3, h4⟩ | hx
  · have n1 : ¬ 600 < t := by omega
    exact Or.inl ⟨t, ht, rfl, fun h => by simp (disch := omega) only [lI, lJ, gd_1, bd_1, bv_1, nm_1, ixN, inbN, eqN, leN, ltN, eqL, leL, ltL, beqN, beqL, nI_add, pk_mul, lN_add, lN_mul, nI_l, lN_i, pk_div, pk_lDiv, pk_sub, lN_sub, remN, remL, neg1, neg2, negL, negL2, M1e, M1f, M1g, M1h, M1i, M1j, M2e, M2f, L1g, L1h, L1i, L1j, les_eq, les_e, les_n, les_m, fX8_isSpan, Nat.not_lt_zero, n1, if_false], fun h => wit3 (by omega) (by omega) (by omega)⟩
  · exact Or.inr ⟨fun h => by simp (disch := omega) only [lI, lJ, gd_1, bd_1, bv_1, nm_1, ixN, inbN, eqN, leN, ltN, eqL, leL, ltL, beqN, beqL, nI_add, pk_mul, lN_add, lN_mul, nI_l, lN_i, pk_div, pk_lDiv, pk_sub, lN_sub, remN, remL, neg1, neg2, negL, negL2, M1e, M1f, M1g, M1h, M1i, M1j, M2e, M2f, L1g, L1h, L1i, L1j, les_eq, les_e, les_n, les_m, fX8_isSpan, hx, if_true], fun h => wit hx⟩
  · exact Or.inr ⟨fun h => by simp (disch := omega) only [lI, lJ, gd_1, bd_1, bv_1, nm_1, ixN, inbN, eqN, leN, ltN, eqL, leL, ltL, beqN, beqL, nI_add, pk_mul, lN_add, lN_mul, nI_l, lN_i, pk_div, pk_lDiv, pk_sub, lN_sub, remN, remL, neg1, neg2, negL, negL2, M1e, M1f, M1g, M1h, M1i, M1j, M2e, M2f, L1g, L1h, L1i, L1j, les_eq, les_e, les_n, les_m, fX8_isSpan, h1, h3, if_true, if_false], fun h => wit2 h1 h3⟩
  · omega
/-! why not -/
set_option maxRecDepth 100000 in
theorem whC (C : CA h d R N T) (x y : Int32) : (∃ s t, s < R 4 ∧ t ≤ 600 ∧ x = nI s ∧ y = nI t ∧ fX8_whyNotIn 0 x y h = some (nI 0, h) ∧ ∀ h1, MA h1 R N T → fX9_inWhy 181 x y h1 = some (nI 0, h1)) ∨ (∃ w, (w = 1 ∨ w = 2) ∧ fX8_whyNotIn 0 x y h = some (nI w, h) ∧ ∀ h1, MA h1 R N T → fX9_inWhy 181 x y h1 = some (nI w, h1)) := by
  rcases slC C x with ⟨s, hs, rfl, e1, e2⟩ | ⟨e1, e2⟩
  · rcases spC y with ⟨t, ht, rfl, e3, e4⟩ | ⟨e3, e4⟩
    · refine Or.inl ⟨s, t, hs, ht, rfl, rfl, ?_, fun h1 M => ?_⟩
      · simp (disch := omega) only [lI, lJ, gd_1, bd_1, bv_1, nm_1, ixN, inbN, eqN, leN, ltN, eqL, leL, ltL, beqN, beqL, nI_add, pk_mul, lN_add, lN_mul, nI_l, lN_i, pk_div, pk_lDiv, pk_sub, lN_sub, remN, remL, neg1, neg2, negL, negL2, M1e, M1f, M1g, M1h, M1i, M1j, M2e, M2f, L1g, L1h, L1i, L1j, les_eq, les_e, les_n, les_m, fX8_whyNotIn, e1, e3, cond_true]
      · simp (disch := omega) only [lI, lJ, gd_1, bd_1, bv_1, nm_1, ixN, inbN, eqN, leN, ltN, eqL, leL, ltL, beqN, beqL, nI_add, pk_mul, lN_add, lN_mul, nI_l, lN_i, pk_div, pk_lDiv, pk_sub, lN_sub, remN, remL, neg1, neg2, negL, negL2, M1e, M1f, M1g, M1h, M1i, M1j, M2e, M2f, L1g, L1h, L1i, L1j, les_eq, les_e, les_n, les_m, fX9_inWhy, e2 h1 M, e4, cond_true]
    · refine Or.inr ⟨2, Or.inr rfl, ?_, fun h1 M => ?_⟩
      · simp (disch := omega) only [lI, lJ, gd_1, bd_1, bv_1, nm_1, ixN, inbN, eqN, leN, ltN, eqL, leL, ltL, beqN, beqL, nI_add, pk_mul, lN_add, lN_mul, nI_l, lN_i, pk_div, pk_lDiv, pk_sub, lN_sub, remN, remL, neg1, neg2, negL, negL2, M1e, M1f, M1g, M1h, M1i, M1j, M2e, M2f, L1g, L1h, L1i, L1j, les_eq, les_e, les_n, les_m, fX8_whyNotIn, e1, e3, cond_true, cond_false]
      · simp (disch := omega) only [lI, lJ, gd_1, bd_1, bv_1, nm_1, ixN, inbN, eqN, leN, ltN, eqL, leL, ltL, beqN, beqL, nI_add, pk_mul, lN_add, lN_mul, nI_l, lN_i, pk_div, pk_lDiv, pk_sub, lN_sub, remN, remL, neg1, neg2, negL, negL2, M1e, M1f, M1g, M1h, M1i, M1j, M2e, M2f, L1g, L1h, L1i, L1j, les_eq, les_e, les_n, les_m, fX9_inWhy, e2 h1 M, e4, cond_true, cond_false]
  · refine Or.inr ⟨1, Or.inl rfl, ?_, fun h1 M => ?_⟩
    · simp (disch := omega) only [lI, lJ, gd_1, bd_1, bv_1, nm_1, ixN, inbN, eqN, leN, ltN, eqL, leL, ltL, beqN, beqL, nI_add, pk_mul, lN_add, lN_mul, nI_l, lN_i, pk_div, pk_lDiv, pk_sub, lN_sub, remN, remL, neg1, neg2, negL, negL2, M1e, M1f, M1g, M1h, M1i, M1j, M2e, M2f, L1g, L1h, L1i, L1j, les_eq, les_e, les_n, les_m, fX8_whyNotIn, e1, cond_false]
    · simp (disch := omega) only [lI, lJ, gd_1, bd_1, bv_1, nm_1, ixN, inbN, eqN, leN, ltN, eqL, leL, ltL, beqN, beqL, nI_add, pk_mul, lN_add, lN_mul, nI_l, lN_i, pk_div, pk_lDiv, pk_sub, lN_sub, remN, remL, neg1, neg2, negL, negL2, M1e, M1f, M1g, M1h, M1i, M1j, M2e, M2f, L1g, L1h, L1i, L1j, les_eq, les_e, les_n, les_m, fX9_inWhy, e2 h1 M, cond_false]
set_option maxRecDepth 100000 in
theorem mIn {g : HH} (M : MA g R N T) {s t k : Nat} (hs : s < R 4) (ht : t ≤ 600) (hk : k < 4) : ∃ g', fX9_itsIn 181 (nI s) (nI t) (nI k) g = some (nI ((run R (T 0 + t * bt R) 29 (N, T)).1 (4 * s + k)), g') ∧ Keep PM3 g g' ∧ MNRep g' N T := by
  obtain ⟨a1, M1, v, Q, W, S⟩ := M
  have vS := v.S
  have vb := v.bt
  obtain ⟨g1, e1, Q1, K1, bb⟩ := mSave Q
  have M2 : MRep g1 R := M1.keep K1 (fun k => by unfold PM3; omega)
  have Q1' : MNRep g1 (N, T).1 (N, T).2 := Q1
  obtain ⟨g2, e2, Q2, K2⟩ := mGo M2 v Q1' (B := 1800) W (by omega) (by omega) S (to := T 0 + t * bt R) (Nat.le_add_right _ _) (tB v W ht)
  obtain ⟨g3, e3, Q3, K3⟩ := bb g2 K2
  have q0 := Q1.2 0 (by omega)
  refine ⟨g3, ?_, K3, Q3⟩
  simp (disch := omega) only [lI, lJ, gd_1, bd_1, bv_1, nm_1, ixN, inbN, eqN, leN, ltN, eqL, leL, ltL, beqN, beqL, nI_add, pk_mul, lN_add, lN_mul, nI_l, lN_i, pk_div, pk_lDiv, pk_sub, lN_sub, remN, remL, neg1, neg2, negL, negL2, M1e, M1f, M1g, M1h, M1i, M1j, M2e, M2f, L1g, L1h, L1i, L1j, les_eq, les_e, les_n, les_m, fX9_itsIn, e1, Nat.reduceAdd, q0, mBottom M2 v, e2, mIts Q2, e3]
set_option maxRecDepth 100000 in
theorem oFloorIn (C : CA h d R N T) (x y : Int32) : OpW R N T h (fX8_floorIn 0 x y h) (fun h1 => fX9_floorIn 181 x y h1) := by
  have k := isKb_D C.2.1
  have vS := C.2.2.2.2.1.S
  rcases whC C x y with ⟨s, t, hs, ht, rfl, rfl, e1, e2⟩ | ⟨w, hw, e1, e2⟩
  · obtain ⟨h', e3, Q3, K3⟩ := cLook C ht
    have q := Q3.2.1 s (by omega)
    refine opw (nI ((run R (T 0 + t * bt R) 29 (N, T)).1 (4 * s + 0))) ⟨h', ?_, K3.mono (PN_PQ (by omega) (by omega))⟩ (fun h1 g Mg hg => ?_)
    · simp (disch := omega) only [lI, lJ, gd_1, bd_1, bv_1, nm_1, ixN, inbN, eqN, leN, ltN, eqL, leL, ltL, beqN, beqL, nI_add, pk_mul, lN_add, lN_mul, nI_l, lN_i, pk_div, pk_lDiv, pk_sub, lN_sub, remN, remL, neg1, neg2, negL, negL2, M1e, M1f, M1g, M1h, M1i, M1j, M2e, M2f, L1g, L1h, L1i, L1j, les_eq, les_e, les_n, les_m, cond_true, cond_false, if_true, if_false, fX8_refuse, fX8_allow, fX8_allow_, Nat.not_lt_zero, Nat.reduceAdd, Nat.reduceLT, Nat.reduceLeDiff, Nat.reduceEqDiff, decide_false, decide_true, Bool.not_false, Bool.not_true, C.1, k, fX8_floorIn, e1, e3, q]
    · obtain ⟨g', e4, K4, Q4⟩ := mIn Mg hs ht (k := 0) (by omega)
      refine ⟨g', ?_, K4, Q4⟩
      simp (disch := omega) only [lI, lJ, gd_1, bd_1, bv_1, nm_1, ixN, inbN, eqN, leN, ltN, eqL, leL, ltL, beqN, beqL, nI_add, pk_mul, lN_add, lN_mul, nI_l, lN_i, pk_div, pk_lDiv, pk_sub, lN_sub, remN, remL, neg1, neg2, negL, negL2, M1e, M1f, M1g, M1h, M1i, M1j, M2e, M2f, L1g, L1h, L1i, L1j, les_eq, les_e, les_n, les_m, cond_true, cond_false, if_true, if_false, fX9_no, hg, Nat.not_lt_zero, Nat.reduceAdd, Nat.reduceLT, Nat.reduceLeDiff, Nat.reduceEqDiff, decide_false, decide_true, Bool.not_false, Bool.not_true, fX9_floorIn, e2 g Mg, e4]
  · have w0 : ¬ w = 0 := by omega
    refine OpQ.W (opr w (by omega) M1 ?_ (fun h1 g Mg hg => ?_))
    · simp (disch := omega) only [lI, lJ, gd_1, bd_1, bv_1, nm_1, ixN, inbN, eqN, leN, ltN, eqL, leL, ltL, beqN, beqL, nI_add, pk_mul, lN_add, lN_mul, nI_l, lN_i, pk_div, pk_lDiv, pk_sub, lN_sub, remN, remL, neg1, neg2, negL, negL2, M1e, M1f, M1g, M1h, M1i, M1j, M2e, M2f, L1g, L1h, L1i, L1j, les_eq, les_e, les_n, les_m, cond_true, cond_false, if_true, if_false, fX8_refuse, fX8_allow, fX8_allow_, Nat.not_lt_zero, Nat.reduceAdd, Nat.reduceLT, Nat.reduceLeDiff, Nat.reduceEqDiff, decide_false, decide_true, Bool.not_false, Bool.not_true, C.1, k, fX8_floorIn, e1, w0]
    · simp (disch := omega) only [lI, lJ, gd_1, bd_1, bv_1, nm_1, ixN, inbN, eqN, leN, ltN, eqL, leL, ltL, beqN, beqL, nI_add, pk_mul, lN_add, lN_mul, nI_l, lN_i, pk_div, pk_lDiv, pk_sub, lN_sub, remN, remL, neg1, neg2, negL, negL2, M1e, M1f, M1g, M1h, M1i, M1j, M2e, M2f, L1g, L1h, L1i, L1j, les_eq, les_e, les_n, les_m, cond_true, cond_false, if_true, if_false, fX9_no, hg, Nat.not_lt_zero, Nat.reduceAdd, Nat.reduceLT, Nat.reduceLeDiff, Nat.reduceEqDiff, decide_false, decide_true, Bool.not_false, Bool.not_true, fX9_floorIn, e2 g Mg, w0]
set_option maxRecDepth 100000 in
theorem lesM {n : Nat} (hn : n < 2 ^ 31) : (if nI n = nI 0 then M2 else nI n - nI 1) = les M2 n := by
  cases n with
  | zero => rfl
  | succ m =>
    rw [if_neg (fun z => by rw [eqN hn (by omega)] at z; omega), pk_sub (by omega)]
    rfl
set_option maxRecDepth 100000 in
theorem oHeadIn (C : CA h d R N T) (x y : Int32) : OpW R N T h (fX8_headIn 0 x y h) (fun h1 => fX9_headIn 181 x y h1) := by
  have k := isKb_D C.2.1
  have v := C.2.2.2.2.1
  have vS := v.S
  have vH := v.H
  rcases whC C x y with ⟨s, t, hs, ht, rfl, rfl, e1, e2⟩ | ⟨w, hw, e1, e2⟩
  · obtain ⟨h', e3, Q3, K3⟩ := cLook C ht
    have q := Q3.2.1 s (by omega)
    have hm := mu_le v (N, T)
    have W := (run_ok v (B := 1800) (by omega) (tB v C.2.2.2.2.2.2.1 ht) 29 (N, T) 1200 (by omega) (by omega) C.2.2.2.2.2.2.1 C.2.2.2.2.2.2.2 (Nat.le_add_right _ _)).1.2.1 s (by omega)
    refine opw (les M2 ((run R (T 0 + t * bt R) 29 (N, T)).1 (4 * s + 1))) ⟨h', ?_, K3.mono (PN_PQ (by omega) (by omega))⟩ (fun h1 g Mg hg => ?_)
    · simp (disch := omega) only [lI, lJ, gd_1, bd_1, bv_1, nm_1, ixN, inbN, eqN, leN, ltN, eqL, leL, ltL, beqN, beqL, nI_add, pk_mul, lN_add, lN_mul, nI_l, lN_i, pk_div, pk_lDiv, pk_sub, lN_sub, remN, remL, neg1, neg2, negL, negL2, M1e, M1f, M1g, M1h, M1i, M1j, M2e, M2f, L1g, L1h, L1i, L1j, les_eq, les_e, les_n, les_m, cond_true, cond_false, if_true, if_false, fX8_refuse, fX8_allow, fX8_allow_, Nat.not_lt_zero, Nat.reduceAdd, Nat.reduceLT, Nat.reduceLeDiff, Nat.reduceEqDiff, decide_false, decide_true, Bool.not_false, Bool.not_true, C.1, k, fX8_headIn, e1, e3, q]
    · obtain ⟨g', e4, K4, Q4⟩ := mIn Mg hs ht (k := 1) (by omega)
      refine ⟨g', ?_, K4, Q4⟩
      rw [← lesM (show (run R (T 0 + t * bt R) 29 (N, T)).1 (4 * s + 1) < 2 ^ 31 by omega)]
      simp (disch := omega) only [lI, bd_1, bv_1, neg2, fX9_headIn, hg, e2 g Mg, if_true, e4]
      split <;> rfl
  · have w0 : ¬ w = 0 := by omega
    refine OpQ.W (opr w (by omega) M1 ?_ (fun h1 g Mg hg => ?_))
    · simp (disch := omega) only [lI, lJ, gd_1, bd_1, bv_1, nm_1, ixN, inbN, eqN, leN, ltN, eqL, leL, ltL, beqN, beqL, nI_add, pk_mul, lN_add, lN_mul, nI_l, lN_i, pk_div, pk_lDiv, pk_sub, lN_sub, remN, remL, neg1, neg2, negL, negL2, M1e, M1f, M1g, M1h, M1i, M1j, M2e, M2f, L1g, L1h, L1i, L1j, les_eq, les_e, les_n, les_m, cond_true, cond_false, if_true, if_false, fX8_refuse, fX8_allow, fX8_allow_, Nat.not_lt_zero, Nat.reduceAdd, Nat.reduceLT, Nat.reduceLeDiff, Nat.reduceEqDiff, decide_false, decide_true, Bool.not_false, Bool.not_true, C.1, k, fX8_headIn, e1, w0]
    · simp (disch := omega) only [lI, lJ, gd_1, bd_1, bv_1, nm_1, ixN, inbN, eqN, leN, ltN, eqL, leL, ltL, beqN, beqL, nI_add, pk_mul, lN_add, lN_mul, nI_l, lN_i, pk_div, pk_lDiv, pk_sub, lN_sub, remN, remL, neg1, neg2, negL, negL2, M1e, M1f, M1g, M1h, M1i, M1j, M2e, M2f, L1g, L1h, L1i, L1j, les_eq, les_e, les_n, les_m, cond_true, cond_false, if_true, if_false, fX9_no, hg, Nat.not_lt_zero, Nat.reduceAdd, Nat.reduceLT, Nat.reduceLeDiff, Nat.reduceEqDiff, decide_false, decide_true, Bool.not_false, Bool.not_true, fX9_headIn, e2 g Mg, w0]
set_option maxRecDepth 100000 in
theorem oWoken (C : CA h d R N T) (x y : Int32) : OpW R N T h (fX8_woken 0 x y h) (fun h1 => fX9_woken 181 x y h1) := by
  have k := isKb_D C.2.1
  have v := C.2.2.2.2.1
  have vS := v.S
  rcases whC C x y with ⟨s, t, hs, ht, rfl, rfl, e1, e2⟩ | ⟨w, hw, e1, e2⟩
  · obtain ⟨h', e3, Q3, K3⟩ := cLook C ht
    have q := (Q3.2.1 s (by omega)).2.2.2.1
    have q2 : gI h' 10 s = nI (N (4 * s + 3)) := (K3 10 s (fun z => by omega)).1.trans (C.2.2.2.2.2.1.2.1 s (by omega)).2.2.2.1
    refine opw (nI ((run R (T 0 + t * bt R) 29 (N, T)).1 (4 * s + 3)) - nI (N (4 * s + 3))) ⟨h', ?_, K3.mono (PN_PQ (by omega) (by omega))⟩ (fun h1 g Mg hg => ?_)
    · simp (disch := omega) only [lI, gd_1, bd_1, bv_1, inbN, ixN, if_true, fX8_allow, Nat.reduceAdd, fX8_woken, e1, e3, q, q2]
    · obtain ⟨g', e4, K4, Q4⟩ := mIn Mg hs ht (k := 3) (by omega)
      refine ⟨g', ?_, K4, Q4⟩
      simp (disch := omega) only [lI, bd_1, bv_1, if_true, fX9_woken, hg, e2 g Mg, e4, mIts Q4]
  · have w0 : ¬ w = 0 := by omega
    refine OpQ.W (opr w (by omega) M1 ?_ (fun h1 g Mg hg => ?_))
    · simp (disch := omega) only [lI, lJ, gd_1, bd_1, bv_1, nm_1, ixN, inbN, eqN, leN, ltN, eqL, leL, ltL, beqN, beqL, nI_add, pk_mul, lN_add, lN_mul, nI_l, lN_i, pk_div, pk_lDiv, pk_sub, lN_sub, remN, remL, neg1, neg2, negL, negL2, M1e, M1f, M1g, M1h, M1i, M1j, M2e, M2f, L1g, L1h, L1i, L1j, les_eq, les_e, les_n, les_m, cond_true, cond_false, if_true, if_false, fX8_refuse, fX8_allow, fX8_allow_, Nat.not_lt_zero, Nat.reduceAdd, Nat.reduceLT, Nat.reduceLeDiff, Nat.reduceEqDiff, decide_false, decide_true, Bool.not_false, Bool.not_true, C.1, k, fX8_woken, e1, w0]
    · simp (disch := omega) only [lI, lJ, gd_1, bd_1, bv_1, nm_1, ixN, inbN, eqN, leN, ltN, eqL, leL, ltL, beqN, beqL, nI_add, pk_mul, lN_add, lN_mul, nI_l, lN_i, pk_div, pk_lDiv, pk_sub, lN_sub, remN, remL, neg1, neg2, negL, negL2, M1e, M1f, M1g, M1h, M1i, M1j, M2e, M2f, L1g, L1h, L1i, L1j, les_eq, les_e, les_n, les_m, cond_true, cond_false, if_true, if_false, fX9_no, hg, Nat.not_lt_zero, Nat.reduceAdd, Nat.reduceLT, Nat.reduceLeDiff, Nat.reduceEqDiff, decide_false, decide_true, Bool.not_false, Bool.not_true, fX9_woken, e2 g Mg, w0]
/-! left -/
def lfX (N : Nat → Nat) : Nat → Int32
  | 0 => nI 0
  | s + 1 => if N (4 * s + 0) = 0 then lfX N s else lfX N s ||| (nI 1 <<< (nI s &&& nI 31))
set_option maxRecDepth 100000 in
theorem mGo0 {g : HH} {N T : Nat → Nat} (Q : MNRep g N T) {to : Nat} (ht : to ≤ T 0) (h2 : T 0 < 2 ^ 63) : fX9_goOn 181 (lN to) g = some g := by
  have q0 := Q.2 0 (by omega)
  show fX9_goOn_L0 181 (lN to) _ g = some g
  simp (disch := omega) only [lI, gd_1, inbN, ixN, fX9_goOn_L0, Nat.reduceAdd, q0, leL, ht, if_true]
set_option maxRecDepth 100000 in
theorem cLeft {h : HH} {σ : ST} (c1 : gR h 0 10 = d) (hD : isD d) (D : DRep h d R) (v : VR R) (Q : NRep h 13 R σ.1 σ.2) (W : VN R σ.1 σ.2 1800) : ∀ m i f, i + m = R 4 → m < f → lq2 (fX8_left_L56 0) f (lfX σ.1 i) (nI i) h = some (lfX σ.1 (R 4), sI h 0 16 (nI 0)) := by
  have k := isKb_D hD
  have vS := v.S
  have vF := v.F
  have d4 := D.2.2.2.1.1.2
  intro m
  induction m with
  | zero =>
    intro i f e hf
    obtain ⟨f, rfl⟩ : ∃ q, f = q + 1 := ⟨f - 1, by omega⟩
    have : i = R 4 := by omega
    subst this
    simp (disch := omega) only [lI, gd_1, bd_1, lq2, fX8_left_L56, c1, k, d4, leN, Nat.le_refl, if_true, fX8_allow]
  | succ m ih =>
    intro i f e hf
    obtain ⟨f, rfl⟩ : ∃ q, f = q + 1 := ⟨f - 1, by omega⟩
    have n1 : ¬ R 4 ≤ i := by omega
    have q := Q.2.1 i (by omega)
    have w := W.2.1 i (by omega)
    have key := ih (i + 1) f (by omega) (by omega)
    have ee : lfX σ.1 (i + 1) = if σ.1 (4 * i + 0) = 0 then lfX σ.1 i else lfX σ.1 i ||| (nI 1 <<< (nI i &&& nI 31)) := rfl
    rw [ee] at key
    by_cases c : σ.1 (4 * i + 0) = 0
    · rw [if_pos c] at key
      have c' : σ.1 (4 * i + 0) ≤ 0 := by omega
      simp (disch := omega) only [lI, gd_1, bd_1, nm_1, inbN, ixN, nI_add, lq2, fX8_left_L56, c1, k, d4, leN, n1, if_false, q, c', if_true]
      exact key
    · rw [if_neg c] at key
      have c' : ¬ σ.1 (4 * i + 0) ≤ 0 := by omega
      simp (disch := omega) only [lI, gd_1, bd_1, nm_1, inbN, ixN, nI_add, lq2, fX8_left_L56, c1, k, d4, leN, n1, if_false, q, c']
      exact key
set_option maxRecDepth 100000 in
theorem mLeft {g g3 : HH} {σ : ST} (M : MRep g R) (v : VR R) (Q : MNRep g σ.1 σ.2) (W : VN R σ.1 σ.2 1800) (bb : fX9_bringBack 181 g = some g3) : ∀ m i f, i + m = R 4 → m < f → lq2 (fX9_left_L42 181) f (lfX σ.1 i) (nI i) g = some (lfX σ.1 (R 4), g3) := by
  have vS := v.S
  have vF := v.F
  intro m
  induction m with
  | zero =>
    intro i f e hf
    obtain ⟨f, rfl⟩ : ∃ q, f = q + 1 := ⟨f - 1, by omega⟩
    have : i = R 4 := by omega
    subst this
    simp (disch := omega) only [lI, gd_1, bv_1, inbN, ixN, lq2, fX9_left_L42, Nat.reduceAdd, M 4, leN, Nat.le_refl, if_true, bb]
  | succ m ih =>
    intro i f e hf
    obtain ⟨f, rfl⟩ : ∃ q, f = q + 1 := ⟨f - 1, by omega⟩
    have n1 : ¬ R 4 ≤ i := by omega
    have w := W.2.1 i (by omega)
    have key := ih (i + 1) f (by omega) (by omega)
    have ee : lfX σ.1 (i + 1) = if σ.1 (4 * i + 0) = 0 then lfX σ.1 i else lfX σ.1 i ||| (nI 1 <<< (nI i &&& nI 31)) := rfl
    rw [ee] at key
    by_cases c : σ.1 (4 * i + 0) = 0
    · rw [if_pos c] at key
      have c' : σ.1 (4 * i + 0) ≤ 0 := by omega
      simp (disch := omega) only [lI, gd_1, bd_1, nm_1, inbN, ixN, nI_add, lq2, fX9_left_L42, Nat.reduceAdd, M 4, leN, n1, if_false, mIts Q, c', if_true, or0]
      exact key
    · rw [if_neg c] at key
      have c' : ¬ σ.1 (4 * i + 0) ≤ 0 := by omega
      simp (disch := omega) only [lI, gd_1, bd_1, nm_1, inbN, ixN, nI_add, lq2, fX9_left_L42, Nat.reduceAdd, M 4, leN, n1, if_false, mIts Q, c']
      exact key
set_option maxRecDepth 100000 in
theorem oLeft (C : CA h d R N T) : OpW R N T h (fX8_left 0 h) (fun h1 => fX9_left 181 h1) := by
  have hk := isKb_D C.2.1
  obtain ⟨c1, c2, c3, D, v, Q, W, S⟩ := C
  have vS := v.S
  have vb := v.bt
  have v2 := v.2.1
  have hda : 13 + 6 < d := by rcases c2 with e | e <;> omega
  have hT := VN.t v W (by omega)
  have hM : R 2 * bt R ≤ 600 * bt R := Nat.mul_le_mul_right _ v2.2.2.1
  have hM2 : R 2 * bt R ≤ 600 * 20736 := Nat.mul_le_mul v2.2.2.1 vb.2
  have hB : max (T 0) (R 2 * bt R) ≤ 1800 * bt R := by have := W.1; omega
  have W18 := VN.mono W (B' := 1800) (by omega)
  have hm := mu_le v (N, T)
  have WW := (run_ok v (B := 1800) (by omega) hB 29 (N, T) 1200 (by omega) (by omega) W S (Nat.le_max_left _ _)).1
  refine opw (lfX (run R (max (T 0) (R 2 * bt R)) 29 (N, T)).1 (R 4)) ?_ (fun h1 g Mg hg => ?_)
  · obtain ⟨h1, e1, p1, K1⟩ := cCopy (h := h) (a := 6) (b := 13) (by omega)
    have D1 := D.N K1 hda
    have Q1 : NRep h1 13 R (N, T).1 (N, T).2 := p1.rep Q vS.2
    have g1 : gR h1 0 10 = d := (K1 0 10 (fun z => by omega)).2.2.trans c1
    have g2 : gL h1 6 6 = lN (T 0) := (K1 6 6 (fun z => by omega)).2.1.trans Q.1
    obtain ⟨h2, e2, Q2, K2⟩ := cRun D1 c2 hda v Q1 W18 (by omega) S (t := max (T 0) (R 2 * bt R)) (Nat.le_max_left _ _) hB
    have K12 := K1.trans K2
    have g3 : gR h2 0 10 = d := (K12 0 10 (fun z => by omega)).2.2.trans c1
    have fin := cLeft g3 c2 (D.N K12 hda) v Q2 WW (R 4) 0 FU (by omega) (by unfold FU; omega)
    refine ⟨h2, ?_, K12.mono (PN_PQ (by omega) (by omega))⟩
    have z1 : ¬ (1 : Nat) = 0 := by omega
    have e3 : fX0_morningTick d h1 = some (lN (R 2 * bt R), h1) := by
      simp (disch := omega) only [lI, lJ, gd_1, bd_1, bv_1, nm_1, ixN, inbN, eqN, leN, ltN, eqL, leL, ltL, beqN, beqL, nI_add, pk_mul, lN_add, lN_mul, nI_l, lN_i, pk_div, pk_lDiv, pk_sub, lN_sub, remN, remL, neg1, neg2, negL, negL2, M1e, M1f, M1g, M1h, M1i, M1j, M2e, M2f, L1g, L1h, L1i, L1j, les_eq, les_e, les_n, les_m, fX0_morningTick, D1.2.2.1.2.2.1, cBottom D1 v]
    have fin' : lq2 (fX8_left_L56 0) FU (nI 0) (nI 0) h2 = _ := fin
    simp (disch := omega) only [lI, gd_1, bd_1, bv_1, eqN, fX8_left, c3, z1, if_false, Nat.reduceAdd, e1, g1, g2, hk, e3, maxL, e2]
    exact fin'
  · obtain ⟨a1, M1, -, Qm, -, -⟩ := Mg
    obtain ⟨g1, e1, Q1, K1, bb⟩ := mSave Qm
    have M2 : MRep g1 R := M1.keep K1 (fun k => by unfold PM3; omega)
    have z1 : ¬ (1 : Nat) = 0 := by omega
    have Q1' : MNRep g1 (N, T).1 (N, T).2 := Q1
    have go : ∃ g2, fX9_goOn 181 (lN (R 2 * bt R)) g1 = some g2 ∧ MNRep g2 (run R (max (T 0) (R 2 * bt R)) 29 (N, T)).1 (run R (max (T 0) (R 2 * bt R)) 29 (N, T)).2 ∧ Keep PW g1 g2 := by
      rcases Nat.le_total (T 0) (R 2 * bt R) with c | c
      · rw [Nat.max_eq_right c]
        exact mGo M2 v Q1' (B := 1800) W (by omega) (by omega) S c (by omega)
      · refine ⟨g1, mGo0 Q1 c (by omega), ?_, Keep.rfl⟩
        rw [Nat.max_eq_left c]
        have hg := nxt_gt v (σ := (N, T)) W (by omega) S
        rw [run_gt hg]
        have : adv R (T 0) (N, T) = (N, T) := adv_same (σ := (N, T))
        rw [this]
        exact Q1
    obtain ⟨g2, e2, Q2, K2⟩ := go
    obtain ⟨g3, e3, Q3, K3⟩ := bb g2 K2
    refine ⟨g3, ?_, K3, Q3⟩
    have fin := mLeft (M2.W K2) v Q2 WW e3 (R 4) 0 FU (by omega) (by unfold FU; omega)
    have fin' : lq2 (fX9_left_L42 181) FU (nI 0) (nI 0) g2 = _ := fin
    simp (disch := omega) only [lI, gd_1, bd_1, bv_1, inbN, ixN, eqN, nI_l, lN_mul, fX9_left, hg, Nat.reduceAdd, a1, z1, if_false, e1, M2 2, mBottom M2 v, e2]
    exact fin'
end LOOK
