/-! WHAT HOLDS BETWEEN CALLS -/
def TPR (h : HH) : Prop := ∃ tz, tz ≤ 1000 ∧ gI h 0 13 = nI tz ∧ gI h 181 2 = nI tz ∧ ∀ k, k < tz → ∃ b, b < 256 ∧ gI h 182 k = nI b ∧ gI h 1 k &&& nI 255 = nI b
def REFS (h : HH) : Prop := (gR h 0 10 = 44 ∧ gR h 0 11 = 60) ∨ (gR h 0 10 = 60 ∧ gR h 0 11 = 44)
def ACP (h : HH) : Prop := (∀ i, i < 12 → ∃ j, j < 12 ∧ gR h 42 i = 76 + 7 * j) ∧ (∀ i i', i < 12 → i' < 12 → gR h 42 i = gR h 42 i' → i = i')
def IMP (h : HH) : Prop := ∀ i, i < 3 → gR h 43 i = 160 + 7 * i
def ROM (h : HH) : Prop := ∀ d, isD d → (gI h (d + 4) 0 = nI 5 ∧ gI h (d + 4) 1 = nI 6) ∧ (gI h (d + 6) 0 = nI 20 ∧ gI h (d + 6) 1 = nI 3) ∧ (gI h (d + 8) 0 = nI 8 ∧ gI h (d + 8) 1 = nI 4) ∧ (gI h (d + 10) 0 = nI 6 ∧ gI h (d + 10) 1 = nI 3) ∧ (gI h (d + 12) 0 = nI 6 ∧ gI h (d + 12) 1 = nI 3) ∧ (gI h (d + 14) 0 = nI 6 ∧ gI h (d + 14) 1 = nI 3)
/-- troubles, faults, places -/
def TRB (h : HH) : Prop := gI h 0 16 = gI h 181 11 ∧ gI h 0 17 = gI h 181 9 ∧ (gI h 0 16 = nI 4 → gI h 0 18 = gI h 181 10)
def GR (h : HH) : Prop := TPR h ∧ REFS h ∧ ACP h ∧ IMP h ∧ ROM h
def ARow (h : HH) (R : Nat → Nat) (a p q i : Nat) : Prop := ∃ N T, NRep h a R N T ∧ (∀ k, k < 20 → gI h p (20 * i + k) = nI (N k)) ∧ (∀ k, k < 31 → gL h q (31 * i + k) = lN (T k)) ∧ VN R N T 1200 ∧ SN R N T
def ACT (h : HH) (R : Nat → Nat) : Prop := ∃ u, u ≤ 12 ∧ gI h 0 14 = nI u ∧ gI h 181 25 = nI u ∧ ∀ i, i < u → ARow h R (gR h 42 i) 187 191 i
def IMG (h : HH) (R : Nat → Nat) : Prop := ∃ m, m ≤ 3 ∧ gI h 0 15 = nI m ∧ gI h 181 26 = nI m ∧ ∀ i, i < m → ARow h R (160 + 7 * i) 188 192 i
def GD (h : HH) (d : Nat) (R N T : Nat → Nat) : Prop := CA h d R N T ∧ MA h R N T ∧ ACT h R ∧ IMG h R ∧ PLR h R ∧ FTR h R
def GN (h : HH) : Prop := gI h 0 12 = nI 0 ∧ gI h 181 14 = nI 0 ∧ gI h 0 14 = nI 0 ∧ gI h 181 25 = nI 0 ∧ gI h 0 15 = nI 0 ∧ gI h 181 26 = nI 0
def GI (h : HH) (n : Nat) : Prop := GR h ∧ TRB h ∧ (∃ q, q ≤ n ∧ MtR h q) ∧ (GN h ∨ ∃ d R N T, GD h d R N T)
/-- class and model answer alike, and what holds holds on -/
def OpG {α : Type} (h : HH) (n : Nat) (x y : HH → Option (α × HH)) : Prop := ∃ a h1 h2, x h = some (a, h1) ∧ y h1 = some (a, h2) ∧ GI h2 (n + 1)
/-- cells that GR reads -/
def PGR (b k : Nat) : Prop := (b = 0 ∧ (k = 10 ∨ k = 11 ∨ k = 13)) ∨ b = 1 ∨ (b = 181 ∧ k = 2) ∨ b = 182 ∨ b = 42 ∨ b = 43 ∨ (48 ≤ b ∧ b ≤ 74 ∧ (k = 0 ∨ k = 1) ∧ b % 2 = 0)
set_option maxRecDepth 100000 in
theorem GR.keep {h h' : HH} (G : GR h) (K : Keep PGR h h') : GR h' := by
  obtain ⟨⟨tz, t1, t2, t3, t4⟩, g2, ⟨g3, g3'⟩, g4, g5⟩ := G
  have eR : ∀ k, gR h' 42 k = gR h 42 k := fun k => (K 42 k (by unfold PGR; omega)).2.2
  refine ⟨⟨tz, t1, (K 0 13 (by unfold PGR; omega)).1.trans t2, (K 181 2 (by unfold PGR; omega)).1.trans t3, fun k hk => ?_⟩, ?_, ⟨fun i hi => ?_, fun i i' hi hi' z => ?_⟩, fun i hi => ?_, fun d hd => ?_⟩
  · obtain ⟨b, b1, b2, b3⟩ := t4 k hk
    refine ⟨b, b1, (K 182 k (by unfold PGR; omega)).1.trans b2, ?_⟩
    rw [(K 1 k (by unfold PGR; omega)).1]; exact b3
  · unfold REFS
    rw [(K 0 10 (by unfold PGR; omega)).2.2, (K 0 11 (by unfold PGR; omega)).2.2]; exact g2
  · rw [eR]; exact g3 i hi
  · rw [eR, eR] at z; exact g3' i i' hi hi' z
  · rw [(K 43 i (by unfold PGR; omega)).2.2]; exact g4 i hi
  · have e : ∀ j k, j = 4 ∨ j = 6 ∨ j = 8 ∨ j = 10 ∨ j = 12 ∨ j = 14 → k = 0 ∨ k = 1 → gI h' (d + j) k = gI h (d + j) k := fun j k hj hk => (K (d + j) k (by rcases hd with e | e <;> (unfold PGR; omega))).1
    rw [e 4 0 (by omega) (by omega), e 4 1 (by omega) (by omega), e 6 0 (by omega) (by omega), e 6 1 (by omega) (by omega), e 8 0 (by omega) (by omega), e 8 1 (by omega) (by omega), e 10 0 (by omega) (by omega), e 10 1 (by omega) (by omega), e 12 0 (by omega) (by omega), e 12 1 (by omega) (by omega), e 14 0 (by omega) (by omega), e 14 1 (by omega) (by omega)]
    exact g5 d hd
set_option maxRecDepth 100000 in
theorem ARow.keep {h h' : HH} {R : Nat → Nat} {a p q i : Nat} (A : ARow h R a p q i) (h1 : ∀ b k, a ≤ b → b ≤ a + 6 → gI h' b k = gI h b k ∧ gL h' b k = gL h b k) (h2 : ∀ k, k < 20 → gI h' p (20 * i + k) = gI h p (20 * i + k)) (h3 : ∀ k, k < 31 → gL h' q (31 * i + k) = gL h q (31 * i + k)) : ARow h' R a p q i := by
  obtain ⟨N, T, ⟨q1, q2, q3⟩, a2, a3, a4, a5⟩ := A
  refine ⟨N, T, ⟨?_, fun s hs => ?_, fun s hs => ?_⟩, fun k hk => (h2 k hk).trans (a2 k hk), fun k hk => (h3 k hk).trans (a3 k hk), a4, a5⟩
  · rw [(h1 a 6 (by omega) (by omega)).2]; exact q1
  · rw [(h1 (a + 1) s (by omega) (by omega)).1, (h1 (a + 2) s (by omega) (by omega)).1, (h1 (a + 3) s (by omega) (by omega)).1, (h1 (a + 4) s (by omega) (by omega)).1, (h1 (a + 5) s (by omega) (by omega)).2]; exact q2 s hs
  · rw [(h1 (a + 6) s (by omega) (by omega)).2]; exact q3 s hs
/-- cells of acts, of images -/
def PAC (b k : Nat) : Prop := (b = 0 ∧ k = 14) ∨ (b = 181 ∧ k = 25) ∨ b = 42 ∨ (76 ≤ b ∧ b ≤ 159) ∨ b = 187 ∨ b = 191
def PIM (b k : Nat) : Prop := (b = 0 ∧ k = 15) ∨ (b = 181 ∧ k = 26) ∨ (160 ≤ b ∧ b ≤ 180) ∨ b = 188 ∨ b = 192
set_option maxRecDepth 100000 in
theorem ACT.keep {h h' : HH} {R : Nat → Nat} (A : ACT h R) (P : ACP h) (K : Keep PAC h h') : ACT h' R := by
  obtain ⟨u, u1, u2, u3, u4⟩ := A
  refine ⟨u, u1, (K 0 14 (by unfold PAC; omega)).1.trans u2, (K 181 25 (by unfold PAC; omega)).1.trans u3, fun i hi => ?_⟩
  obtain ⟨j, j1, j2⟩ := P.1 i (by omega)
  rw [(K 42 i (by unfold PAC; omega)).2.2]
  refine (u4 i hi).keep (fun b k h1 h2 => ?_) (fun k hk => (K 187 _ (by unfold PAC; omega)).1) (fun k hk => (K 191 _ (by unfold PAC; omega)).2.1)
  have := K b k (by unfold PAC; omega)
  exact ⟨this.1, this.2.1⟩
set_option maxRecDepth 100000 in
theorem IMG.keep {h h' : HH} {R : Nat → Nat} (A : IMG h R) (K : Keep PIM h h') : IMG h' R := by
  obtain ⟨u, u1, u2, u3, u4⟩ := A
  refine ⟨u, u1, (K 0 15 (by unfold PIM; omega)).1.trans u2, (K 181 26 (by unfold PIM; omega)).1.trans u3, fun i hi => ?_⟩
  refine (u4 i hi).keep (fun b k h1 h2 => ?_) (fun k hk => (K 188 _ (by unfold PIM; omega)).1) (fun k hk => (K 192 _ (by unfold PIM; omega)).2.1)
  have := K b k (by unfold PIM; omega)
  exact ⟨this.1, this.2.1⟩
set_option maxRecDepth 100000 in
theorem PlB.keep {h h' : HH} {R : Nat → Nat} {β : BT} (P : PlB h R β) (K : Keep (fun b _ => b = 28 ∨ b = 29) h h') : PlB h' R β := by
  cases β with
  | none => have p : gI h 28 3 = nI 0 := P
            exact (K 28 3 (Or.inl rfl)).1.trans p
  | some q =>
    obtain ⟨r, t, o, c⟩ := q
    obtain ⟨p1, p2, p3, p4, p5, p6, p7⟩ := id P
    exact ⟨(K 28 3 (Or.inl rfl)).1.trans p1, (K 28 4 (Or.inl rfl)).2.1.trans p2, (K 28 5 (Or.inl rfl)).2.1.trans p3, (K 28 6 (Or.inl rfl)).2.1.trans p4, fun i hi => (K 29 i (Or.inr rfl)).1.trans (p5 i hi), p6, p7⟩
set_option maxRecDepth 100000 in
theorem PLR.keep {h h' : HH} {R : Nat → Nat} (P : PLR h R) (K : Keep (fun b _ => b = 28 ∨ b = 29) h h') : PLR h' R := by
  rcases P with p | ⟨p, q⟩
  · exact Or.inl ((K 28 2 (Or.inl rfl)).1.trans p)
  · exact Or.inr ⟨(K 28 2 (Or.inl rfl)).1.trans p, q.keep K⟩
set_option maxRecDepth 100000 in
theorem FTV.keep {h h' : HH} {R : Nat → Nat} (P : FTV h R) (K : Keep (fun b _ => b = 39 ∨ b = 40) h h') : FTV h' R :=
  ⟨(K 39 1 (Or.inl rfl)).1.trans P.1, fun f h1 h2 => by rw [(K 40 f (Or.inr rfl)).1]; exact P.2 f h1 h2⟩
set_option maxRecDepth 100000 in
theorem FTR.keep {h h' : HH} {R : Nat → Nat} (P : FTR h R) (K : Keep (fun b _ => b = 39 ∨ b = 40) h h') : FTR h' R := by
  rcases P with p | ⟨p, q⟩
  · exact Or.inl ((K 39 0 (Or.inl rfl)).1.trans p)
  · exact Or.inr ⟨(K 39 0 (Or.inl rfl)).1.trans p, q.keep K⟩
set_option maxRecDepth 100000 in
theorem MtR.keep {h h' : HH} {q : Nat} (M : MtR h q) (K : Keep (fun b k => (b = 31 ∧ k = 7) ∨ b = 38) h h') : MtR h' q :=
  ⟨(K 31 7 (Or.inl ⟨rfl, rfl⟩)).1.trans M.1, fun x hx => by rw [(K 38 x (Or.inr rfl)).1]; exact M.2 x hx⟩
set_option maxRecDepth 100000 in
theorem CA.keep3 {h h' : HH} {d : Nat} {R N T : Nat → Nat} (a : CA h d R N T) (K : Keep (fun b k => (b = 0 ∧ (k = 10 ∨ k = 12)) ∨ (6 ≤ b ∧ b ≤ 12) ∨ (44 ≤ b ∧ b ≤ 75)) h h') : CA h' d R N T := by
  obtain ⟨a1, a2, a3, a4, a5, a6, a7⟩ := a
  refine ⟨(K 0 10 (by omega)).2.2.trans a1, a2, (K 0 12 (by omega)).1.trans a3, a4.keep K (fun b k h1 h2 => ?_), a5, a6.keep K (fun b k h1 h2 => by omega), a7⟩
  rcases a2 with rfl | rfl <;> omega
/-- what a question of the class leaves -/
def PZ (b k : Nat) : Prop := ¬ (b = 0 ∧ k = 16) ∧ ¬ (13 ≤ b ∧ b ≤ 41)
section OPG
variable {h : HH} {d n : Nat} {R N T : Nat → Nat}
set_option maxRecDepth 100000 in
theorem opZ {α : Type} {x y : HH → Option (α × HH)} (G : GR h) (B : TRB h) (D : GD h d R N T) (a : α) (t : Nat) (ht : t ≠ 4 ∧ t < 100) {h1 : HH} (e : x h = some (a, h1)) (e16 : gI h1 0 16 = nI t) (K : Keep PZ h h1) (P : PLR h1 R) (F : FTR h1 R) {q : Nat} (hq : q ≤ n + 1) (Q : MtR h1 q) (hm : ∀ g, MA g R N T → ∃ g', y g = some (a, g') ∧ gI g' 181 11 = nI t ∧ Keep PM2 g g' ∧ MA g' R N T) : OpG h n x y := by
  obtain ⟨C, M, A, I, -, -⟩ := D
  have M1 : MA h1 R N T := by
    obtain ⟨a1, a2, a3, a4, a5, a6⟩ := M
    exact ⟨(K 181 14 (by unfold PZ; omega)).1.trans a1, a2.keep K (fun k => by unfold PZ; omega), a3, a4.keep K (fun k => by unfold PZ; omega) (fun k => by unfold PZ; omega), a5, a6⟩
  obtain ⟨h2, e2, e11, K2, M2⟩ := hm h1 M1
  have KK : Keep (fun b k => PZ b k ∧ PM2 b k) h h2 := (K.mono (fun x k hp => hp.1)).trans (K2.mono (fun x k hp => hp.2))
  have g16 : gI h2 0 16 = nI t := (K2 0 16 (by unfold PM2 PM; omega)).1.trans e16
  refine ⟨a, h1, h2, e, e2, G.keep (KK.mono (fun x k hp => by unfold PGR at hp; unfold PZ PM2 PM; omega)), ⟨g16.trans e11.symm, ?_, fun z => ?_⟩, ⟨q, hq, Q.keep (K2.mono (fun x k hp => by unfold PM2 PM; omega))⟩, Or.inr ⟨d, R, N, T, ?_, M2, ?_, ?_, ?_, ?_⟩⟩
  · rw [(KK 0 17 (by unfold PZ PM2 PM; omega)).1, (KK 181 9 (by unfold PZ PM2 PM; omega)).1]; exact B.2.1
  · rw [g16, eqN (by omega) (by omega)] at z; exact absurd z ht.1
  · exact C.keep3 (KK.mono (fun x k hp => by unfold PZ PM2 PM; omega))
  · exact A.keep G.2.2.1 (KK.mono (fun x k hp => by unfold PAC at hp; unfold PZ PM2 PM; omega))
  · exact I.keep (KK.mono (fun x k hp => by unfold PIM at hp; unfold PZ PM2 PM; omega))
  · exact P.keep (K2.mono (fun x k hp => by unfold PM2 PM; omega))
  · exact F.keep (K2.mono (fun x k hp => by unfold PM2 PM; omega))
set_option maxRecDepth 100000 in
theorem OpW.G {α : Type} {x y : HH → Option (α × HH)} (G : GR h) (B : TRB h) (D : GD h d R N T) {q : Nat} (hq : q ≤ n) (Q : MtR h q) (o : OpW R N T h (x h) y) : OpG h n x y := by
  obtain ⟨a, t, ht, ⟨h1, e, e16, K⟩, hm⟩ := o
  refine opZ G B D a t ht e e16 (K.mono (fun x k hp => by unfold PZ at hp; unfold PQ; omega)) (D.2.2.2.2.1.keep (K.mono (fun x k hp => by unfold PQ; omega))) (D.2.2.2.2.2.keep (K.mono (fun x k hp => by unfold PQ; omega))) (show q ≤ n + 1 by omega) (Q.keep (K.mono (fun x k hp => by unfold PQ; omega))) hm
/-! a number below another -/
set_option maxRecDepth 100000 in
theorem cut (x : Int32) {m : Nat} (hm : m < 2 ^ 31) : (∃ k, k < m ∧ x = nI k ∧ ∀ g, fX9_within x (nI 0) (nI m - nI 1) g = some (true, g)) ∨ ((x < nI 0 ∨ (¬ x < nI 0 ∧ nI m ≤ x ∧ ¬ x < nI m)) ∧ ∀ g, fX9_within x (nI 0) (nI m - nI 1) g = some (false, g)) := by
  have h0 : (nI 0).toInt = 0 := by decide
  have hx := Int32.toInt_lt x
  by_cases c : x < nI 0
  · exact Or.inr ⟨Or.inl c, fun g => by simp only [fX9_within, c, if_true]⟩
  · have c' := c
    rw [Int32.lt_iff_toInt_lt, h0] at c
    by_cases c2 : x.toInt < (m : Int)
    · have e : x = nI x.toInt.toNat := Int32.toInt_inj.mp (by rw [nI_toInt (by omega)]; omega)
      left
      refine ⟨x.toInt.toNat, by omega, e, fun g => ?_⟩
      rw [pk_sub (by omega), e]
      exact wit3 (by omega) (by omega) (by omega)
    · right
      refine ⟨Or.inr ⟨c', ?_, ?_⟩, fun g => ?_⟩
      · rw [Int32.le_iff_toInt_le, nI_toInt hm]; omega
      · rw [Int32.lt_iff_toInt_lt, nI_toInt hm]; omega
      · have c3 : nI m - nI 1 < x := by
          rcases Nat.eq_zero_or_pos m with z | z
          · subst z
            have : nI 0 - nI 1 = M1 := by decide +kernel
            rw [this, Int32.lt_iff_toInt_lt, M1_toInt]; omega
          · rw [pk_sub z, Int32.lt_iff_toInt_lt, nI_toInt (by omega)]; omega
        simp only [fX9_within, c', c3, if_true, if_false]
/-! the model's part of a question that is refused -/
set_option maxRecDepth 100000 in
theorem mRef {α : Type} {y : HH → Option (α × HH)} {a : α} {t : Nat} (hy : ∀ h1 g, MA g R N T → fX9_good 181 h1 = some g → y h1 = some (a, sI g 181 11 (nI t))) : ∀ g, MA g R N T → ∃ g', y g = some (a, g') ∧ gI g' 181 11 = nI t ∧ Keep PM2 g g' ∧ MA g' R N T := by
  intro h1 M
  obtain ⟨g, hg, Mg, K, t0⟩ := mGood M
  have K2 : Keep PM h1 (sI g 181 11 (nI t)) := K.sI (by unfold PM; omega)
  exact ⟨_, hy h1 g Mg hg, gIs _ _ _ _, K2.mono (fun x k hp => hp.1), M.keep K2⟩
set_option maxRecDepth 100000 in
theorem mAns {α : Type} {y : HH → Option (α × HH)} {a : α} (hy : ∀ h1 g, MA g R N T → fX9_good 181 h1 = some g → ∃ g', y h1 = some (a, g') ∧ Keep PM g g' ∧ gI g' 181 11 = gI g 181 11) : ∀ g, MA g R N T → ∃ g', y g = some (a, g') ∧ gI g' 181 11 = nI 0 ∧ Keep PM2 g g' ∧ MA g' R N T := by
  intro h1 M
  obtain ⟨g, hg, Mg, K, t0⟩ := mGood M
  obtain ⟨g', e, K', e11⟩ := hy h1 g Mg hg
  exact ⟨g', e, e11.trans t0, (K.trans K').mono (fun x k hp => hp.1), Mg.keep K'⟩
set_option maxRecDepth 100000 in
theorem PL_PM : ∀ x k, PM x k → PL x k := fun x k hp => by unfold PM at hp; unfold PL; omega
set_option maxRecDepth 100000 in
theorem PT_PM : ∀ x k, PM x k → PT x k := fun x k hp => by unfold PM at hp; unfold PT; omega
set_option maxRecDepth 100000 in
theorem PMt_PM : ∀ x k, PM x k → PMt x k := fun x k hp => by unfold PM at hp; unfold PMt; omega
/-! tasks -/
set_option maxRecDepth 100000 in
theorem gTask (G : GR h) (B : TRB h) (D : GD h d R N T) {q : Nat} (hq : q ≤ n) (Q : MtR h q) (x : Int32) : OpG h n (fun h => fX8_task 0 x h) (fun h => fX9_task 181 x h) := by
  have C := D.1
  have k := isKb_D C.2.1
  have v := C.2.2.2.2.1
  have v7 := v.2.1
  have c3 := C.2.2.1
  have z1 : ¬ (1 : Nat) = 0 := by omega
  have d7 := C.2.2.2.1.2.2.2.1.2.2.2.1.2
  rcases cut x (m := R 7) (by omega) with ⟨j, hj, rfl, wt⟩ | ⟨hx, wf⟩
  · obtain ⟨h', e1, P1, r1, K1⟩ := cMake C.2.2.2.1 C.2.1 v D.2.2.2.2.1
    have K2 : Keep PZ h (sI h' 0 16 (nI 0)) := Keep.sI (K1.mono (fun x k hp => by unfold PZ at hp; unfold PP2; omega)) (by unfold PZ; omega)
    have FF : FTR (sI h' 0 16 (nI 0)) R := D.2.2.2.2.2.keep (Keep.sI (K1.mono (fun x k hp => by unfold PP2; omega)) (by omega))
    have QQ : MtR (sI h' 0 16 (nI 0)) q := Q.keep (Keep.sI (K1.mono (fun x k hp => by unfold PP2; omega)) (by omega))
    have PP0 : PlB (sI h' 0 16 (nI 0)) R (bw R) := P1.keep (Keep.sI Keep.rfl (by omega))
    have PPL : PLR (sI h' 0 16 (nI 0)) R := Or.inr ⟨by rw [gIa (by omega)]; exact r1, PP0⟩
    have mm : ∀ g, MA g R N T → ∃ g', fX9_seekTasks 181 g = some g' ∧ MlB g' R (bw R) ∧ Keep PL g g' := fun g Mg => by
      obtain ⟨g', e, P, -, K⟩ := mSeekT Mg.2.1 v
      exact ⟨g', e, P, K⟩
    have m7 : ∀ g, MA g R N T → gI g 184 7 = nI (R 7) := fun g Mg => Mg.2.1 7 (by omega)
    cases hb : bw R with
    | none =>
      rw [hb] at P1 mm
      have p3 : gI h' 28 3 = nI 0 := P1
      refine opZ G B D M2 0 (by omega) (h1 := sI h' 0 16 (nI 0)) ?_ (gIs _ _ _ _) K2 PPL FF (show q ≤ n + 1 by omega) QQ (mAns (fun h1 g Mg hg => ?_))
      · simp (disch := omega) only [lI, lJ, gd_1, bd_1, bv_1, nm_1, ixN, inbN, eqN, leN, ltN, eqL, leL, ltL, beqN, beqL, nI_add, pk_mul, lN_add, lN_mul, nI_l, lN_i, pk_div, pk_lDiv, pk_sub, lN_sub, remN, remL, neg1, neg2, negL, negL2, M1e, M1f, M1g, M1h, M1i, M1j, M2e, M2f, L1g, L1h, L1i, L1j, les_eq, les_e, les_n, les_m, cond_true, cond_false, if_true, if_false, fX8_refuse, fX8_allow, fX8_allow_, Nat.not_lt_zero, Nat.reduceAdd, Nat.reduceLT, Nat.reduceLeDiff, Nat.reduceEqDiff, decide_false, decide_true, Bool.not_false, Bool.not_true, C.1, k, fX8_task, c3, z1, d7, hj, e1, p3]
      · obtain ⟨g', e, P, K⟩ := mm g Mg
        have p29 : gL g' 181 29 = L1 := P
        have zz : (lN 0 ≤ L1) = False := by decide +kernel
        refine ⟨g', ?_, K.mono PL_PM, (K 181 11 (by unfold PL; omega)).1⟩
        simp (disch := omega) only [lI, lJ, gd_1, bd_1, bv_1, inbN, ixN, eqN, neg2, fX9_task, hg, Mg.1, z1, if_false, Nat.reduceAdd, m7 g Mg, wt, cond_true, e, p29, zz]
    | some qq =>
      obtain ⟨r, t, o, c⟩ := qq
      rw [hb] at P1 mm
      obtain ⟨p1, p2, p3, p4, p5, p6, p7⟩ := id P1
      refine opZ G B D (nI (c j)) 0 (by omega) (h1 := sI h' 0 16 (nI 0)) ?_ (gIs _ _ _ _) K2 PPL FF (show q ≤ n + 1 by omega) QQ (mAns (fun h1 g Mg hg => ?_))
      · simp (disch := omega) only [lI, lJ, gd_1, bd_1, bv_1, nm_1, ixN, inbN, eqN, leN, ltN, eqL, leL, ltL, beqN, beqL, nI_add, pk_mul, lN_add, lN_mul, nI_l, lN_i, pk_div, pk_lDiv, pk_sub, lN_sub, remN, remL, neg1, neg2, negL, negL2, M1e, M1f, M1g, M1h, M1i, M1j, M2e, M2f, L1g, L1h, L1i, L1j, les_eq, les_e, les_n, les_m, cond_true, cond_false, if_true, if_false, fX8_refuse, fX8_allow, fX8_allow_, Nat.not_lt_zero, Nat.reduceAdd, Nat.reduceLT, Nat.reduceLeDiff, Nat.reduceEqDiff, decide_false, decide_true, Bool.not_false, Bool.not_true, C.1, k, fX8_task, c3, z1, d7, hj, e1, p1, p5 j]
      · obtain ⟨g', e, P, K⟩ := mm g Mg
        obtain ⟨w1, w2, w3, w4, w5, w6⟩ := id P
        refine ⟨g', ?_, K.mono PL_PM, (K 181 11 (by unfold PL; omega)).1⟩
        simp (disch := omega) only [lI, lJ, gd_1, bd_1, bv_1, inbN, ixN, eqN, leL, fX9_task, hg, Mg.1, z1, if_false, Nat.reduceAdd, m7 g Mg, wt, cond_true, e, w1, Nat.zero_le, if_true, w4 j]
  · have cls : fX8_task 0 x h = some (M1, sI h 0 16 (nI 1)) := by
      rcases hx with z | ⟨z1', z2, z3⟩
      · simp (disch := omega) only [lI, lJ, gd_1, bd_1, bv_1, nm_1, ixN, inbN, eqN, leN, ltN, eqL, leL, ltL, beqN, beqL, nI_add, pk_mul, lN_add, lN_mul, nI_l, lN_i, pk_div, pk_lDiv, pk_sub, lN_sub, remN, remL, neg1, neg2, negL, negL2, M1e, M1f, M1g, M1h, M1i, M1j, M2e, M2f, L1g, L1h, L1i, L1j, les_eq, les_e, les_n, les_m, cond_true, cond_false, if_true, if_false, fX8_refuse, fX8_allow, fX8_allow_, Nat.not_lt_zero, Nat.reduceAdd, Nat.reduceLT, Nat.reduceLeDiff, Nat.reduceEqDiff, decide_false, decide_true, Bool.not_false, Bool.not_true, C.1, k, fX8_task, c3, z1, z]
      · simp (disch := omega) only [lI, lJ, gd_1, bd_1, bv_1, nm_1, ixN, inbN, eqN, leN, ltN, eqL, leL, ltL, beqN, beqL, nI_add, pk_mul, lN_add, lN_mul, nI_l, lN_i, pk_div, pk_lDiv, pk_sub, lN_sub, remN, remL, neg1, neg2, negL, negL2, M1e, M1f, M1g, M1h, M1i, M1j, M2e, M2f, L1g, L1h, L1i, L1j, les_eq, les_e, les_n, les_m, cond_true, cond_false, if_true, if_false, fX8_refuse, fX8_allow, fX8_allow_, Nat.not_lt_zero, Nat.reduceAdd, Nat.reduceLT, Nat.reduceLeDiff, Nat.reduceEqDiff, decide_false, decide_true, Bool.not_false, Bool.not_true, C.1, k, fX8_task, c3, z1, d7, z1', z3]
    refine OpW.G G B D hq Q ⟨M1, 1, by omega, ⟨_, cls, gIs _ _ _ _, Keep.sI Keep.rfl (by unfold PQ; omega)⟩, mRef (fun h1 g Mg hg => ?_)⟩
    have m7 := Mg.2.1 7 (by omega)
    simp (disch := omega) only [lI, gd_1, bd_1, bv_1, inbN, ixN, eqN, neg1, fX9_task, fX9_no, hg, Mg.1, z1, if_false, Nat.reduceAdd, m7, wf, cond_false]
set_option maxRecDepth 100000 in
theorem gBest (G : GR h) (B : TRB h) (D : GD h d R N T) {q : Nat} (hq : q ≤ n) (Q : MtR h q) (x : Int32) : OpG h n (fun h => fX8_best 0 x h) (fun h => fX9_best 181 x h) := by
  have C := D.1
  have k := isKb_D C.2.1
  have v := C.2.2.2.2.1
  have c3 := C.2.2.1
  have z1 : ¬ (1 : Nat) = 0 := by omega
  rcases rng x (n := 2) (by omega) with ⟨j, hj, rfl⟩ | hx | ⟨hx1, hx2, hx3, hx4⟩ | hx
  · obtain ⟨h', e1, P1, r1, K1⟩ := cMake C.2.2.2.1 C.2.1 v D.2.2.2.2.1
    have K2 : Keep PZ h (sI h' 0 16 (nI 0)) := Keep.sI (K1.mono (fun x k hp => by unfold PZ at hp; unfold PP2; omega)) (by unfold PZ; omega)
    have FF : FTR (sI h' 0 16 (nI 0)) R := D.2.2.2.2.2.keep (Keep.sI (K1.mono (fun x k hp => by unfold PP2; omega)) (by omega))
    have QQ : MtR (sI h' 0 16 (nI 0)) q := Q.keep (Keep.sI (K1.mono (fun x k hp => by unfold PP2; omega)) (by omega))
    have PP0 : PlB (sI h' 0 16 (nI 0)) R (bw R) := P1.keep (Keep.sI Keep.rfl (by omega))
    have PPL : PLR (sI h' 0 16 (nI 0)) R := Or.inr ⟨by rw [gIa (by omega)]; exact r1, PP0⟩
    have mm : ∀ g, MA g R N T → ∃ g', fX9_seekTasks 181 g = some g' ∧ MlB g' R (bw R) ∧ Keep PL g g' := fun g Mg => by
      obtain ⟨g', e, P, -, K⟩ := mSeekT Mg.2.1 v
      exact ⟨g', e, P, K⟩
    have wt : ∀ g, fX9_within (nI j) (nI 0) (nI 2) g = some (true, g) := fun g => wit3 (by omega) hj (by omega)
    cases hb : bw R with
    | none =>
      rw [hb] at P1 mm
      have p3 : gI h' 28 3 = nI 0 := P1
      refine opZ G B D M2.toInt64 0 (by omega) (h1 := sI h' 0 16 (nI 0)) ?_ (gIs _ _ _ _) K2 PPL FF (show q ≤ n + 1 by omega) QQ (mAns (fun h1 g Mg hg => ?_))
      · simp (disch := omega) only [lI, lJ, gd_1, bd_1, bv_1, nm_1, ixN, inbN, eqN, leN, ltN, eqL, leL, ltL, beqN, beqL, nI_add, pk_mul, lN_add, lN_mul, nI_l, lN_i, pk_div, pk_lDiv, pk_sub, lN_sub, remN, remL, neg1, neg2, negL, negL2, M1e, M1f, M1g, M1h, M1i, M1j, M2e, M2f, L1g, L1h, L1i, L1j, les_eq, les_e, les_n, les_m, cond_true, cond_false, if_true, if_false, fX8_refuse, fX8_allow, fX8_allow_, Nat.not_lt_zero, Nat.reduceAdd, Nat.reduceLT, Nat.reduceLeDiff, Nat.reduceEqDiff, decide_false, decide_true, Bool.not_false, Bool.not_true, C.1, k, fX8_best, c3, z1, hj, e1, p3]
      · obtain ⟨g', e, P, K⟩ := mm g Mg
        have p29 : gL g' 181 29 = L1 := P
        have zz : (lN 0 ≤ L1) = False := by decide +kernel
        refine ⟨g', ?_, K.mono PL_PM, (K 181 11 (by unfold PL; omega)).1⟩
        simp (disch := omega) only [lI, lJ, gd_1, bd_1, bv_1, inbN, ixN, eqN, negL2, fX9_best, hg, Mg.1, z1, if_false, wt, cond_true, e, p29, zz]
    | some qq =>
      obtain ⟨r, t, o, c⟩ := qq
      rw [hb] at P1 mm
      obtain ⟨p1, p2, p3, p4, p5, p6, p7⟩ := id P1
      rcases (show j = 0 ∨ j = 1 ∨ j = 2 by omega) with z | z | z
      · subst z
        refine opZ G B D (lN r) 0 (by omega) (h1 := sI h' 0 16 (nI 0)) ?_ (gIs _ _ _ _) K2 PPL FF (show q ≤ n + 1 by omega) QQ (mAns (fun h1 g Mg hg => ?_))
        · simp (disch := omega) only [lI, lJ, gd_1, bd_1, bv_1, nm_1, ixN, inbN, eqN, leN, ltN, eqL, leL, ltL, beqN, beqL, nI_add, pk_mul, lN_add, lN_mul, nI_l, lN_i, pk_div, pk_lDiv, pk_sub, lN_sub, remN, remL, neg1, neg2, negL, negL2, M1e, M1f, M1g, M1h, M1i, M1j, M2e, M2f, L1g, L1h, L1i, L1j, les_eq, les_e, les_n, les_m, cond_true, cond_false, if_true, if_false, fX8_refuse, fX8_allow, fX8_allow_, Nat.not_lt_zero, Nat.reduceAdd, Nat.reduceLT, Nat.reduceLeDiff, Nat.reduceEqDiff, decide_false, decide_true, Bool.not_false, Bool.not_true, C.1, k, fX8_best, c3, z1, hj, e1, p1, p2]
        · obtain ⟨g', e, P, K⟩ := mm g Mg
          obtain ⟨w1, w2, w3, w4, w5, w6⟩ := id P
          refine ⟨g', ?_, K.mono PL_PM, (K 181 11 (by unfold PL; omega)).1⟩
          simp (disch := omega) only [lI, lJ, gd_1, bd_1, bv_1, inbN, ixN, eqN, leL, fX9_best, hg, Mg.1, z1, if_false, wt, cond_true, e, w1, Nat.zero_le, if_true]
      · subst z
        refine opZ G B D (lN t) 0 (by omega) (h1 := sI h' 0 16 (nI 0)) ?_ (gIs _ _ _ _) K2 PPL FF (show q ≤ n + 1 by omega) QQ (mAns (fun h1 g Mg hg => ?_))
        · simp (disch := omega) only [lI, lJ, gd_1, bd_1, bv_1, nm_1, ixN, inbN, eqN, leN, ltN, eqL, leL, ltL, beqN, beqL, nI_add, pk_mul, lN_add, lN_mul, nI_l, lN_i, pk_div, pk_lDiv, pk_sub, lN_sub, remN, remL, neg1, neg2, negL, negL2, M1e, M1f, M1g, M1h, M1i, M1j, M2e, M2f, L1g, L1h, L1i, L1j, les_eq, les_e, les_n, les_m, cond_true, cond_false, if_true, if_false, fX8_refuse, fX8_allow, fX8_allow_, Nat.not_lt_zero, Nat.reduceAdd, Nat.reduceLT, Nat.reduceLeDiff, Nat.reduceEqDiff, decide_false, decide_true, Bool.not_false, Bool.not_true, C.1, k, fX8_best, c3, z1, hj, e1, p1, p3]
        · obtain ⟨g', e, P, K⟩ := mm g Mg
          obtain ⟨w1, w2, w3, w4, w5, w6⟩ := id P
          refine ⟨g', ?_, K.mono PL_PM, (K 181 11 (by unfold PL; omega)).1⟩
          simp (disch := omega) only [lI, lJ, gd_1, bd_1, bv_1, inbN, ixN, eqN, leL, fX9_best, hg, Mg.1, z1, if_false, wt, cond_true, e, w1, Nat.zero_le, if_true, w2]
      · subst z
        have z2 : ¬ (2 : Nat) = 0 := by omega
        have z3 : ¬ (2 : Nat) = 1 := by omega
        refine opZ G B D (lN o) 0 (by omega) (h1 := sI h' 0 16 (nI 0)) ?_ (gIs _ _ _ _) K2 PPL FF (show q ≤ n + 1 by omega) QQ (mAns (fun h1 g Mg hg => ?_))
        · simp (disch := omega) only [lI, lJ, gd_1, bd_1, bv_1, nm_1, ixN, inbN, eqN, leN, ltN, eqL, leL, ltL, beqN, beqL, nI_add, pk_mul, lN_add, lN_mul, nI_l, lN_i, pk_div, pk_lDiv, pk_sub, lN_sub, remN, remL, neg1, neg2, negL, negL2, M1e, M1f, M1g, M1h, M1i, M1j, M2e, M2f, L1g, L1h, L1i, L1j, les_eq, les_e, les_n, les_m, cond_true, cond_false, if_true, if_false, fX8_refuse, fX8_allow, fX8_allow_, Nat.not_lt_zero, Nat.reduceAdd, Nat.reduceLT, Nat.reduceLeDiff, Nat.reduceEqDiff, decide_false, decide_true, Bool.not_false, Bool.not_true, C.1, k, fX8_best, c3, z1, z2, z3, hj, e1, p1, p4]
        · obtain ⟨g', e, P, K⟩ := mm g Mg
          obtain ⟨w1, w2, w3, w4, w5, w6⟩ := id P
          refine ⟨g', ?_, K.mono PL_PM, (K 181 11 (by unfold PL; omega)).1⟩
          simp (disch := omega) only [lI, lJ, gd_1, bd_1, bv_1, inbN, ixN, eqN, leL, fX9_best, hg, Mg.1, z1, z2, z3, if_false, wt, cond_true, e, w1, Nat.zero_le, if_true, w3]
  · refine OpW.G G B D hq Q ⟨M1.toInt64, 1, by omega, ⟨_, by simp (disch := omega) only [lI, lJ, gd_1, bd_1, bv_1, nm_1, ixN, inbN, eqN, leN, ltN, eqL, leL, ltL, beqN, beqL, nI_add, pk_mul, lN_add, lN_mul, nI_l, lN_i, pk_div, pk_lDiv, pk_sub, lN_sub, remN, remL, neg1, neg2, negL, negL2, M1e, M1f, M1g, M1h, M1i, M1j, M2e, M2f, L1g, L1h, L1i, L1j, les_eq, les_e, les_n, les_m, cond_true, cond_false, if_true, if_false, fX8_refuse, fX8_allow, fX8_allow_, Nat.not_lt_zero, Nat.reduceAdd, Nat.reduceLT, Nat.reduceLeDiff, Nat.reduceEqDiff, decide_false, decide_true, Bool.not_false, Bool.not_true, C.1, k, fX8_best, c3, z1, hx], gIs _ _ _ _, Keep.sI Keep.rfl (by unfold PQ; omega)⟩, mRef (fun h1 g Mg hg => ?_)⟩
    simp (disch := omega) only [lI, gd_1, bd_1, bv_1, inbN, ixN, eqN, neg1, fX9_best, fX9_no, hg, Mg.1, z1, if_false, wit hx, cond_false]
  · refine OpW.G G B D hq Q ⟨M1.toInt64, 1, by omega, ⟨_, by simp (disch := omega) only [lI, lJ, gd_1, bd_1, bv_1, nm_1, ixN, inbN, eqN, leN, ltN, eqL, leL, ltL, beqN, beqL, nI_add, pk_mul, lN_add, lN_mul, nI_l, lN_i, pk_div, pk_lDiv, pk_sub, lN_sub, remN, remL, neg1, neg2, negL, negL2, M1e, M1f, M1g, M1h, M1i, M1j, M2e, M2f, L1g, L1h, L1i, L1j, les_eq, les_e, les_n, les_m, cond_true, cond_false, if_true, if_false, fX8_refuse, fX8_allow, fX8_allow_, Nat.not_lt_zero, Nat.reduceAdd, Nat.reduceLT, Nat.reduceLeDiff, Nat.reduceEqDiff, decide_false, decide_true, Bool.not_false, Bool.not_true, C.1, k, fX8_best, c3, z1, hx1, hx2], gIs _ _ _ _, Keep.sI Keep.rfl (by unfold PQ; omega)⟩, mRef (fun h1 g Mg hg => ?_)⟩
    simp (disch := omega) only [lI, gd_1, bd_1, bv_1, inbN, ixN, eqN, neg1, fX9_best, fX9_no, hg, Mg.1, z1, if_false, wit2 hx1 hx3, cond_false]
  · omega
set_option maxRecDepth 100000 in
theorem gSoon (G : GR h) (B : TRB h) (D : GD h d R N T) {q : Nat} (hq : q ≤ n) (Q : MtR h q) : OpG h n (fun h => fX8_soonest 0 h) (fun h => fX9_soonest 181 h) := by
  have C := D.1
  have k := isKb_D C.2.1
  have v := C.2.2.2.2.1
  have c3 := C.2.2.1
  have z1 : ¬ (1 : Nat) = 0 := by omega
  have cl := cLeast C.2.2.2.1 C.2.1 v
  refine OpW.G G B D hq Q ⟨lN (lst R), 0, by omega, ⟨_, by simp (disch := omega) only [lI, lJ, gd_1, bd_1, bv_1, nm_1, ixN, inbN, eqN, leN, ltN, eqL, leL, ltL, beqN, beqL, nI_add, pk_mul, lN_add, lN_mul, nI_l, lN_i, pk_div, pk_lDiv, pk_sub, lN_sub, remN, remL, neg1, neg2, negL, negL2, M1e, M1f, M1g, M1h, M1i, M1j, M2e, M2f, L1g, L1h, L1i, L1j, les_eq, les_e, les_n, les_m, cond_true, cond_false, if_true, if_false, fX8_refuse, fX8_allow, fX8_allow_, Nat.not_lt_zero, Nat.reduceAdd, Nat.reduceLT, Nat.reduceLeDiff, Nat.reduceEqDiff, decide_false, decide_true, Bool.not_false, Bool.not_true, C.1, k, fX8_soonest, c3, z1, cl], gIs _ _ _ _, Keep.sI Keep.rfl (by unfold PQ; omega)⟩, mAns (fun h1 g Mg hg => ?_)⟩
  obtain ⟨g', e, -, X, K⟩ := mSeekT Mg.2.1 v
  rw [soon_eq v] at X
  have x32 : gL g' 181 32 = lN (lst R) := X.1
  refine ⟨g', ?_, K.mono PL_PM, (K 181 11 (by unfold PL; omega)).1⟩
  simp (disch := omega) only [lI, gd_1, bd_1, bv_1, inbN, ixN, eqN, fX9_soonest, hg, Mg.1, z1, if_false, e, x32]
end OPG
