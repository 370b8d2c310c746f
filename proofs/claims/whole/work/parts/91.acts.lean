/-! ACTS and IMAGES -/
def CAct (h : HH) (R : Nat → Nat) (u : Nat) (NN TT : Nat → Nat → Nat) : Prop := gI h 0 14 = nI u ∧ ACP h ∧ ∀ i, i < u → NRep h (gR h 42 i) R (NN i) (TT i)
def MRw (g : HH) (p q i : Nat) (N T : Nat → Nat) : Prop := (∀ k, k < 20 → gI g p (20 * i + k) = nI (N k)) ∧ (∀ k, k < 31 → gL g q (31 * i + k) = lN (T k))
def MAct (g : HH) (u : Nat) (NN TT : Nat → Nat → Nat) : Prop := gI g 181 25 = nI u ∧ ∀ i, i < u → MRw g 187 191 i (NN i) (TT i)
def VAct (R : Nat → Nat) (u : Nat) (NN TT : Nat → Nat → Nat) : Prop := ∀ i, i < u → VN R (NN i) (TT i) 1200 ∧ SN R (NN i) (TT i)
def CIm (h : HH) (R : Nat → Nat) (m : Nat) (NN TT : Nat → Nat → Nat) : Prop := gI h 0 15 = nI m ∧ ∀ i, i < m → NRep h (160 + 7 * i) R (NN i) (TT i)
def MIm (g : HH) (m : Nat) (NN TT : Nat → Nat → Nat) : Prop := gI g 181 26 = nI m ∧ ∀ i, i < m → MRw g 188 192 i (NN i) (TT i)
def PA (b k : Nat) : Prop := ¬ (b = 0 ∧ 14 ≤ k ∧ k ≤ 16) ∧ b ≠ 42 ∧ ¬ (6 ≤ b ∧ b ≤ 12) ∧ ¬ (76 ≤ b ∧ b ≤ 180)
def PB (b k : Nat) : Prop := ¬ (b = 181 ∧ (k = 0 ∨ k = 11 ∨ k = 25 ∨ k = 26)) ∧ ¬ (186 ≤ b ∧ b ≤ 188) ∧ ¬ (190 ≤ b ∧ b ≤ 192)
set_option maxRecDepth 100000 in
theorem pickA {h : HH} {R : Nat → Nat} {A : Nat → Nat} {p q u : Nat} (H : ∀ i, i < u → ARow h R (A i) p q i) : ∃ NN TT : Nat → Nat → Nat, ∀ i, i < u → NRep h (A i) R (NN i) (TT i) ∧ MRw h p q i (NN i) (TT i) ∧ VN R (NN i) (TT i) 1200 ∧ SN R (NN i) (TT i) := by
  have : ∀ i, ∃ s : ST, i < u → NRep h (A i) R s.1 s.2 ∧ MRw h p q i s.1 s.2 ∧ VN R s.1 s.2 1200 ∧ SN R s.1 s.2 := fun i => by
    by_cases c : i < u
    · obtain ⟨N, T, a1, a2, a3, a4, a5⟩ := H i c
      exact ⟨(N, T), fun _ => ⟨a1, ⟨a2, a3⟩, a4, a5⟩⟩
    · exact ⟨(fun _ => 0, fun _ => 0), fun z => absurd z c⟩
  obtain ⟨f, hf⟩ := Classical.axiomOfChoice this
  exact ⟨fun i => (f i).1, fun i => (f i).2, hf⟩
set_option maxRecDepth 100000 in
theorem MRw.keep {g g' : HH} {p q i : Nat} {N T : Nat → Nat} (H : MRw g p q i N T) (h1 : ∀ k, k < 20 → gI g' p (20 * i + k) = gI g p (20 * i + k)) (h2 : ∀ k, k < 31 → gL g' q (31 * i + k) = gL g q (31 * i + k)) : MRw g' p q i N T := ⟨fun k hk => (h1 k hk).trans (H.1 k hk), fun k hk => (h2 k hk).trans (H.2 k hk)⟩
section ACTS
variable {h : HH} {d n : Nat} {R N T : Nat → Nat}
set_option maxRecDepth 100000 in
theorem opA {α : Type} {x y : HH → Option (α × HH)} (G : GR h) (B : TRB h) (C : CA h d R N T) (M : MA h R N T) (P : PLR h R) (F : FTR h R) {q : Nat} (hq : q ≤ n) (Q : MtR h q) {u m : Nat} {NN TT II JJ : Nat → Nat → Nat} (ma : MAct h u NN TT) (mi : MIm h m II JJ) {N' T' : Nat → Nat} {u' m' : Nat} {NN' TT' II' JJ' : Nat → Nat → Nat} (a : α) (t : Nat) (ht : t ≠ 4 ∧ t < 100) {h1 : HH} (e : x h = some (a, h1)) (e16 : gI h1 0 16 = nI t) (K : Keep PA h h1) (ca : CAct h1 R u' NN' TT') (ci : CIm h1 R m' II' JJ') (Q' : NRep h1 6 R N' T') (hm : ∀ g, MA g R N T → MAct g u NN TT → MIm g m II JJ → ∃ g', y g = some (a, g') ∧ gI g' 181 11 = nI t ∧ MNRep g' N' T' ∧ MAct g' u' NN' TT' ∧ MIm g' m' II' JJ' ∧ Keep PB g g') (hu : u' ≤ 12) (hm' : m' ≤ 3) (W' : VN R N' T' 1200) (S' : SN R N' T') (va : VAct R u' NN' TT') (vi : VAct R m' II' JJ') : OpG h n x y := by
  obtain ⟨c1, c2, c3, D, v, Qc, Wc, Sc⟩ := C
  obtain ⟨m1, m2, -, m4, m5, m6⟩ := M
  have M1 : MA h1 R N T := ⟨(K 181 14 (by unfold PA; omega)).1.trans m1, m2.keep K (fun k => by unfold PA; omega), v, m4.keep K (fun k => by unfold PA; omega) (fun k => by unfold PA; omega), m5, m6⟩
  have ma1 : MAct h1 u NN TT := ⟨(K 181 25 (by unfold PA; omega)).1.trans ma.1, fun i hi => (ma.2 i hi).keep (fun k _ => (K 187 _ (by unfold PA; omega)).1) (fun k _ => (K 191 _ (by unfold PA; omega)).2.1)⟩
  have mi1 : MIm h1 m II JJ := ⟨(K 181 26 (by unfold PA; omega)).1.trans mi.1, fun i hi => (mi.2 i hi).keep (fun k _ => (K 188 _ (by unfold PA; omega)).1) (fun k _ => (K 192 _ (by unfold PA; omega)).2.1)⟩
  obtain ⟨h2, e2, e11, Q2, ma2, mi2, K2⟩ := hm h1 M1 ma1 mi1
  have KK : Keep (fun b k => PA b k ∧ PB b k) h h2 := (K.mono (fun x k hp => hp.1)).trans (K2.mono (fun x k hp => hp.2))
  have g16 : gI h2 0 16 = nI t := (K2 0 16 (by unfold PB; omega)).1.trans e16
  obtain ⟨⟨tz, t1, t2, t3, t4⟩, g2, -, g4, g5⟩ := G
  have eR : ∀ k, gR h2 42 k = gR h1 42 k := fun k => (K2 42 k (by unfold PB; omega)).2.2
  have acp2 : ACP h2 := ⟨fun i hi => by rw [eR]; exact ca.2.1.1 i hi, fun i i' hi hi' z => by rw [eR, eR] at z; exact ca.2.1.2 i i' hi hi' z⟩
  refine ⟨a, h1, h2, e, e2, ⟨⟨tz, t1, (KK 0 13 (by unfold PA PB; omega)).1.trans t2, (KK 181 2 (by unfold PA PB; omega)).1.trans t3, fun k hk => ?_⟩, ?_, acp2, fun i hi => ?_, fun dd hd => ?_⟩, ⟨g16.trans e11.symm, ?_, fun z => ?_⟩, ⟨q, by omega, Q.keep (KK.mono (fun x k hp => by unfold PA PB; omega))⟩, Or.inr ⟨d, R, N', T', ⟨?_, c2, ?_, D.keep KK (fun b k h1 h2 => by rcases c2 with z | z <;> (unfold PA PB; omega)), v, ?_, W', S'⟩, ⟨?_, m2.keep KK (fun k => by unfold PA PB; omega), v, Q2, W', S'⟩, ?_, ?_, P.keep (KK.mono (fun x k hp => by unfold PA PB; omega)), F.keep (KK.mono (fun x k hp => by unfold PA PB; omega))⟩⟩
  · obtain ⟨b, b1, b2, b3⟩ := t4 k hk
    refine ⟨b, b1, (KK 182 k (by unfold PA PB; omega)).1.trans b2, ?_⟩
    rw [(KK 1 k (by unfold PA PB; omega)).1]; exact b3
  · unfold REFS
    rw [(KK 0 10 (by unfold PA PB; omega)).2.2, (KK 0 11 (by unfold PA PB; omega)).2.2]; exact g2
  · rw [(KK 43 i (by unfold PA PB; omega)).2.2]; exact g4 i hi
  · have e : ∀ j k, j = 4 ∨ j = 6 ∨ j = 8 ∨ j = 10 ∨ j = 12 ∨ j = 14 → gI h2 (dd + j) k = gI h (dd + j) k := fun j k hj => (KK (dd + j) k (by rcases hd with e | e <;> (unfold PA PB; omega))).1
    rw [e 4 0 (by omega), e 4 1 (by omega), e 6 0 (by omega), e 6 1 (by omega), e 8 0 (by omega), e 8 1 (by omega), e 10 0 (by omega), e 10 1 (by omega), e 12 0 (by omega), e 12 1 (by omega), e 14 0 (by omega), e 14 1 (by omega)]
    exact g5 dd hd
  · rw [(KK 0 17 (by unfold PA PB; omega)).1, (KK 181 9 (by unfold PA PB; omega)).1]; exact B.2.1
  · rw [g16, eqN (by omega) (by omega)] at z; exact absurd z ht.1
  · exact (KK 0 10 (by unfold PA PB; omega)).2.2.trans c1
  · exact (KK 0 12 (by unfold PA PB; omega)).1.trans c3
  · exact Q'.keep K2 (fun b k h1 h2 => by unfold PB; omega)
  · exact (KK 181 14 (by unfold PA PB; omega)).1.trans m1
  · refine ⟨u', hu, (K2 0 14 (by unfold PB; omega)).1.trans ca.1, ma2.1, fun i hi => ⟨NN' i, TT' i, ?_, (ma2.2 i hi).1, (ma2.2 i hi).2, (va i hi).1, (va i hi).2⟩⟩
    rw [eR]
    obtain ⟨j, j1, j2⟩ := ca.2.1.1 i (by omega)
    exact (ca.2.2 i hi).keep K2 (fun b k h1 h2 => by unfold PB; omega)
  · refine ⟨m', hm', (K2 0 15 (by unfold PB; omega)).1.trans ci.1, mi2.1, fun i hi => ⟨II' i, JJ' i, (ci.2 i hi).keep K2 (fun b k h1 h2 => by unfold PB; omega), (mi2.2 i hi).1, (mi2.2 i hi).2, (vi i hi).1, (vi i hi).2⟩⟩
/-- one more is kept -/
def psh (NN : Nat → Nat → Nat) (u : Nat) (N : Nat → Nat) (i : Nat) : Nat → Nat := if u < 12 then (if i = u then N else NN i) else (if i = 11 then N else NN (i + 1))
set_option maxRecDepth 100000 in
theorem kb2 : ∀ j, j < 12 → isKb 2 (76 + 7 * j) = true := by decide +kernel
set_option maxRecDepth 100000 in
theorem kb3 : ∀ j, j < 3 → isKb 2 (160 + 7 * j) = true := by decide +kernel
def PKA (b k : Nat) : Prop := ¬ (b = 0 ∧ k = 14) ∧ b ≠ 42 ∧ ¬ (76 ≤ b ∧ b ≤ 159)
set_option maxRecDepth 100000 in
theorem cKeepA (h5 : R 4 ≤ 5) {u : Nat} {NN TT : Nat → Nat → Nat} (C : CAct h R u NN TT) (hu : u ≤ 12) (Q : NRep h 6 R N T) : ∃ h', fX8_keepAct 0 h = some h' ∧ CAct h' R (min (u + 1) 12) (psh NN u N) (psh TT u T) ∧ Keep PKA h h' := by
  obtain ⟨c1, ⟨p1, p2⟩, c3⟩ := C
  by_cases c : u < 12
  · obtain ⟨j, j1, j2⟩ := p1 u c
    obtain ⟨h1, e1, q1, K1⟩ := cCopy (h := h) (a := 6) (b := 76 + 7 * j) (by omega)
    have K2 : Keep PKA h (sI h1 0 14 (nI (u + 1))) := Keep.sI (K1.mono (fun x k hp z => by unfold PKA at hp; omega)) (by unfold PKA; omega)
    have g14 : gI h1 0 14 = nI u := (K1 0 14 (fun z => by omega)).1.trans c1
    have eR : ∀ i, gR (sI h1 0 14 (nI (u + 1))) 42 i = gR h 42 i := fun i => by rw [gR_sI]; exact (K1 42 i (fun z => by omega)).2.2
    refine ⟨sI h1 0 14 (nI (u + 1)), ?_, ⟨?_, ⟨fun i hi => by rw [eR]; exact p1 i hi, fun i i' a b z => by rw [eR, eR] at z; exact p2 i i' a b z⟩, fun i hi => ?_⟩, K2⟩
    · simp (disch := omega) only [lI, gd_1, bv_1, inbN, ixN, nI_add, fX8_keepAct, c1, ltN, c, if_true, Nat.reduceAdd, j2, kb2 j j1, e1, g14]
    · rw [gIs, Nat.min_eq_left (by omega)]
    · rw [eR]
      show NRep _ _ R (if u < 12 then (if i = u then N else NN i) else _) (if u < 12 then (if i = u then T else TT i) else _)
      rw [if_pos c, if_pos c]
      have hi2 : i < u + 1 := by omega
      by_cases z : i = u
      · rw [if_pos z, if_pos z, z, j2]
        exact (q1.rep Q h5).keep (P := fun b k => ¬ (b = 0 ∧ k = 14)) (Keep.sI Keep.rfl (fun y => y ⟨rfl, rfl⟩)) (fun b k _ _ => by omega)
      · rw [if_neg z, if_neg z]
        obtain ⟨j', j1', j2'⟩ := p1 i (by omega)
        have hne : j' ≠ j := fun y => z (p2 i u (by omega) c (by rw [j2', j2, y]))
        have old := c3 i (by omega)
        rw [j2'] at old ⊢
        exact (old.keep K1 (fun b k h1 h2 y => by omega)).keep (P := fun b k => ¬ (b = 0 ∧ k = 14)) (Keep.sI Keep.rfl (fun y => y ⟨rfl, rfl⟩)) (fun b k _ _ => by omega)
  · have hu12 : u = 12 := by omega
    subst hu12
    obtain ⟨j, j1, j2⟩ := p1 0 (by omega)
    -- the row turns
    have rot : ∀ (KK : HH → Option HH) m x f (g : HH), x + m = 12 → 1 ≤ x → m < f → Keep (fun b _ => b ≠ 42) h g → (∀ i, i < 12 → gR g 42 i = if i + 1 < x then gR h 42 (i + 1) else gR h 42 i) → ∃ g', lq1 (fX8_keepAct_L18 KK 0 (gR h 42 0)) f (nI x) g = KK g' ∧ Keep (fun b _ => b ≠ 42) h g' ∧ (∀ i, i < 12 → gR g' 42 i = if i + 1 < 12 then gR h 42 (i + 1) else gR h 42 i) := by
      intro KK m
      induction m with
      | zero =>
        intro x f g e h1 hf K gr
        obtain ⟨f, rfl⟩ : ∃ q, f = q + 1 := ⟨f - 1, by omega⟩
        have n1 : 12 ≤ x := by omega
        have : x = 12 := by omega
        subst this
        refine ⟨g, ?_, K, gr⟩
        simp (disch := omega) only [lI, lq1, fX8_keepAct_L18, leN, n1, if_true]
      | succ m ih =>
        intro x f g e h1 hf K gr
        obtain ⟨f, rfl⟩ : ∃ q, f = q + 1 := ⟨f - 1, by omega⟩
        have n1 : ¬ 12 ≤ x := by omega
        have gx := gr x (by omega)
        rw [if_neg (by omega)] at gx
        obtain ⟨jx, jx1, jx2⟩ := p1 x (by omega)
        obtain ⟨g', e', r'⟩ := ih (x + 1) f (sR g 42 (x - 1) (gR h 42 x)) (by omega) (by omega) (by omega) (Keep.sR K (fun z => z rfl)) (fun i hi => by
          by_cases z : i = x - 1
          · rw [z, gRs, if_pos (by omega), show x - 1 + 1 = x by omega]
          · rw [gRk z, gr i hi]
            by_cases y : i + 1 < x
            · rw [if_pos y, if_pos (by omega)]
            · rw [if_neg y, if_neg (by omega)])
        refine ⟨g', ?_, r'⟩
        rw [jx2] at e' gx
        simp (disch := omega) only [lI, gd_1, inbN, ixN, pk_sub, nI_add, lq1, fX8_keepAct_L18, leN, n1, if_false, Nat.reduceAdd, gx, kb2 jx jx1]
        exact e'
    obtain ⟨g1, e1, K1, r1⟩ := rot (fun h' => gd (inb (nI 11) 12) (nm (sI (sR h' 42 (ix (nI 11)) (gR h 42 0)) 0 14 (nI 11)) (fun g6 => gd (inb (gI g6 0 14) 12) (gd (isKb 2 (gR g6 42 (ix (gI g6 0 14)))) (bv (fX2_copyFrom (gR g6 42 (ix (gI g6 0 14))) 6 g6) (fun h71 => some (sI h71 0 14 (gI h71 0 14 + nI 1)))))))) 11 1 FU h (by omega) (by omega) (by unfold FU; omega) Keep.rfl (fun i hi => by rw [if_neg (by omega)])
    have K2 : Keep (fun b k => b ≠ 42 ∧ ¬ (b = 0 ∧ k = 14)) h (sI (sR g1 42 11 (76 + 7 * j)) 0 14 (nI 11)) := Keep.sI (Keep.sR (K1.mono (fun x k hp => hp.1)) (fun z => z.1 rfl)) (fun z => z.2 ⟨rfl, rfl⟩)
    have Q2 : NRep (sI (sR g1 42 11 (76 + 7 * j)) 0 14 (nI 11)) 6 R N T := Q.keep K2 (fun b k h1 h2 => ⟨by omega, by omega⟩)
    obtain ⟨h3, e3, q3, K3⟩ := cCopy (h := sI (sR g1 42 11 (76 + 7 * j)) 0 14 (nI 11)) (a := 6) (b := 76 + 7 * j) (by omega)
    have g14 : gI h3 0 14 = nI 11 := (K3 0 14 (fun z => by omega)).1.trans (gIs _ _ _ _)
    have eR : ∀ i, i < 12 → gR (sI h3 0 14 (nI 12)) 42 i = if i + 1 < 12 then gR h 42 (i + 1) else gR h 42 0 := fun i hi => by
      rw [gR_sI, (K3 42 i (fun z => by omega)).2.2, gR_sI]
      by_cases z : i = 11
      · rw [z, gRs, if_neg (by omega), j2]
      · rw [gRk z, r1 i hi, if_pos (by omega), if_pos (by omega)]
    refine ⟨sI h3 0 14 (nI 12), ?_, ⟨?_, ⟨fun i hi => ?_, fun i i' a b z => ?_⟩, fun i hi => ?_⟩, ?_⟩
    · have nn : ¬ 12 < 12 := by omega
      rw [j2] at e1
      simp (disch := omega) only [lI, gd_1, nm_1, inbN, ixN, fX8_keepAct, c1, ltN, nn, if_false, Nat.reduceAdd, j2, kb2 j j1]
      refine e1.trans ?_
      simp (disch := omega) only [gd_1, nm_1, bv_1, inbN, ixN, gIs, gR_sI, gRs, kb2 j j1, e3, g14, nI_add]
    · rw [gIs]; rfl
    · rw [eR i hi]
      by_cases z : i + 1 < 12
      · rw [if_pos z]; exact p1 (i + 1) z
      · rw [if_neg z]; exact p1 0 (by omega)
    · rw [eR i a, eR i' b] at z
      by_cases y : i + 1 < 12
      · by_cases y' : i' + 1 < 12
        · rw [if_pos y, if_pos y'] at z
          have := p2 _ _ y y' z; omega
        · rw [if_pos y, if_neg y'] at z
          have := p2 _ _ y (by omega) z; omega
      · by_cases y' : i' + 1 < 12
        · rw [if_neg y, if_pos y'] at z
          have := p2 _ _ (by omega) y' z; omega
        · omega
    · have hi12 : i < 12 := by omega
      rw [eR i hi12]
      show NRep _ _ R (if 12 < 12 then _ else (if i = 11 then N else NN (i + 1))) (if 12 < 12 then _ else (if i = 11 then T else TT (i + 1)))
      rw [if_neg (show ¬ 12 < 12 by omega), if_neg (show ¬ 12 < 12 by omega)]
      have fin : Keep (fun b k => ¬ (b = 0 ∧ k = 14)) h3 (sI h3 0 14 (nI 12)) := Keep.sI Keep.rfl (fun y => y ⟨rfl, rfl⟩)
      by_cases z : i = 11
      · rw [if_neg (show ¬ i + 1 < 12 by omega), if_pos z, if_pos z, j2]
        exact (q3.rep Q2 h5).keep fin (fun b k _ _ => by omega)
      · rw [if_pos (show i + 1 < 12 by omega), if_neg z, if_neg z]
        obtain ⟨j', j1', j2'⟩ := p1 (i + 1) (by omega)
        have hne : j' ≠ j := fun y => by
          have := p2 (i + 1) 0 (by omega) (by omega) (by rw [j2', j2, y]); omega
        have old := c3 (i + 1) (by omega)
        rw [j2'] at old ⊢
        exact ((old.keep K2 (fun b k h1 h2 => ⟨by omega, by omega⟩)).keep K3 (fun b k h1 h2 y => by omega)).keep fin (fun b k _ _ => by omega)
    · refine Keep.sI ((K2.mono (fun x k hp => ⟨hp.2.1, hp.1⟩)).trans (K3.mono (fun x k hp z => ?_))) (by unfold PKA; omega)
      unfold PKA at hp; omega
def PKN (b k : Nat) : Prop := ¬ (b = 181 ∧ k = 25) ∧ b ≠ 187 ∧ b ≠ 191
set_option maxRecDepth 100000 in
theorem mNote {g : HH} {u : Nat} {NN TT : Nat → Nat → Nat} (C : MAct g u NN TT) (hu : u ≤ 12) (Q : MNRep g N T) : ∃ g', fX9_note 181 g = some g' ∧ MAct g' (min (u + 1) 12) (psh NN u N) (psh TT u T) ∧ Keep PKN g g' := by
  obtain ⟨l6, l7, l8, l9, l0, l1, l2, l3⟩ := ln186
  have b79 : ∀ w (k : HH), w < 12 → gI k 181 25 = nI w → MNRep k N T → ∃ g', fX9_note_b79 181 k = some g' ∧ gI g' 181 25 = nI (w + 1) ∧ MRw g' 187 191 w N T ∧ Keep (fun b x => ¬ (b = 181 ∧ x = 25) ∧ ¬ (b = 187 ∧ 20 * w ≤ x ∧ x < 20 * w + 20) ∧ ¬ (b = 191 ∧ 31 * w ≤ x ∧ x < 31 * w + 31)) k g' := by
    intro w k hw k25 Qk
    obtain ⟨a1, e1, v1, K1⟩ := mCopy (g := k) (a := 186) (b := 187) (i := 0) (j := 20 * w) (n := 20) (by omega) (by omega) (by omega) (by omega) (by omega) (by omega)
    obtain ⟨a2, e2, v2, K2⟩ := mCopyL (g := a1) (a := 190) (b := 191) (i := 0) (j := 31 * w) (by omega) (by omega) (by omega) (by omega) (by omega)
    have p25 : gI a1 181 25 = nI w := (K1 181 25 (fun z => by omega)).1.trans k25
    have p25' : gI a2 181 25 = nI w := (K2 181 25 (fun z => by omega)).1.trans p25
    refine ⟨sI a2 181 25 (nI (w + 1)), ?_, gIs _ _ _ _, ⟨fun i hi => ?_, fun i hi => ?_⟩, Keep.sI ((K1.mono (fun x i hp z => hp.2.1 z)).trans (K2.mono (fun x i hp z => hp.2.2 z))) (fun z => z.1 ⟨rfl, rfl⟩)⟩
    · simp (disch := omega) only [lI, bv_1, pk_mul, nI_add, fX9_note_b79, k25, Nat.reduceAdd, e1, p25, e2, p25']
    · rw [gIa (by omega), (K2 187 _ (fun z => by omega)).1, v1 i hi, Nat.zero_add]; exact Qk.1 i hi
    · rw [gL_sI, v2 i hi, Nat.zero_add, (K1 190 _ (fun z => by omega)).2.1]; exact Qk.2 i hi
  by_cases c : u < 12
  · obtain ⟨g', e', p25, R', K'⟩ := b79 u g c C.1 Q
    have nu : ¬ u = 12 := by omega
    refine ⟨g', ?_, ⟨by rw [p25, Nat.min_eq_left (by omega)], fun i hi => ?_⟩, K'.mono (fun x k hp => ⟨hp.1, fun z => hp.2.1 z.1, fun z => hp.2.2 z.1⟩)⟩
    · simp (disch := omega) only [lI, fX9_note, C.1, eqN, nu, if_false]
      exact e'
    · show MRw g' 187 191 i (if u < 12 then (if i = u then N else NN i) else _) (if u < 12 then (if i = u then T else TT i) else _)
      rw [if_pos c, if_pos c]
      by_cases z : i = u
      · rw [if_pos z, if_pos z, z]; exact R'
      · rw [if_neg z, if_neg z]
        exact (C.2 i (by omega)).keep (fun k hk => (K' 187 _ ⟨by omega, by omega, by omega⟩).1) (fun k hk => (K' 191 _ ⟨by omega, by omega, by omega⟩).2.1)
  · have hu12 : u = 12 := by omega
    subst hu12
    have sh2 : ∀ (KK : HH → Option HH) m x f (k : HH), x + m = 341 → m < f → ∀ k0 : HH, Keep (fun b _ => b ≠ 191) k0 k → (∀ i, gL k 191 i = if i < x then gL k0 191 (i + 31) else gL k0 191 i) → ∃ g', lq1 (fX9_note_L41 KK 181) f (nI x) k = KK g' ∧ Keep (fun b _ => b ≠ 191) k0 g' ∧ (∀ i, gL g' 191 i = if i < 341 then gL k0 191 (i + 31) else gL k0 191 i) := by
      intro KK m
      induction m with
      | zero =>
        intro x f k e hf k0 K hz
        obtain ⟨f, rfl⟩ : ∃ q, f = q + 1 := ⟨f - 1, by omega⟩
        have n1 : 341 ≤ x := by omega
        have : x = 341 := by omega
        subst this
        refine ⟨k, ?_, K, hz⟩
        simp (disch := omega) only [lI, lq1, fX9_note_L41, leN, n1, if_true]
      | succ m ih =>
        intro x f k e hf k0 K hz
        obtain ⟨f, rfl⟩ : ∃ q, f = q + 1 := ⟨f - 1, by omega⟩
        have n1 : ¬ 341 ≤ x := by omega
        have hx := hz (x + 31)
        rw [if_neg (by omega)] at hx
        obtain ⟨g', e', r'⟩ := ih (x + 1) f (sL k 191 x (gL k0 191 (x + 31))) (by omega) (by omega) k0 (Keep.sL K (fun z => z rfl)) (fun i => by
          by_cases z : i = x
          · rw [z, gLs, if_pos (by omega)]
          · rw [gLk z, hz i]
            by_cases y : i < x
            · rw [if_pos y, if_pos (by omega)]
            · rw [if_neg y, if_neg (by omega)])
        refine ⟨g', ?_, r'⟩
        rw [← e']
        simp (disch := omega) only [lI, gd_1, inbN, ixN, nI_add, lq1, fX9_note_L41, leN, n1, if_false, Nat.reduceAdd, hx]
    have sh1' : ∀ (KK : HH → Option HH) m x f (k : HH), x + m = 220 → m < f → Keep (fun b _ => b ≠ 187) g k → (∀ i, gI k 187 i = if i < x then gI g 187 (i + 20) else gI g 187 i) → ∃ g', lq1 (fX9_note_L11 KK 181) f (nI x) k = KK g' ∧ Keep (fun b _ => b ≠ 187) g g' ∧ (∀ i, gI g' 187 i = if i < 220 then gI g 187 (i + 20) else gI g 187 i) := by
      intro KK m
      induction m with
      | zero =>
        intro x f k e hf K hz
        obtain ⟨f, rfl⟩ : ∃ q, f = q + 1 := ⟨f - 1, by omega⟩
        have n1 : 220 ≤ x := by omega
        have : x = 220 := by omega
        subst this
        refine ⟨k, ?_, K, hz⟩
        simp (disch := omega) only [lI, lq1, fX9_note_L11, leN, n1, if_true]
      | succ m ih =>
        intro x f k e hf K hz
        obtain ⟨f, rfl⟩ : ∃ q, f = q + 1 := ⟨f - 1, by omega⟩
        have n1 : ¬ 220 ≤ x := by omega
        have hx := hz (x + 20)
        rw [if_neg (by omega)] at hx
        obtain ⟨g', e', r'⟩ := ih (x + 1) f (sI k 187 x (gI g 187 (x + 20))) (by omega) (by omega) (Keep.sI K (fun z => z rfl)) (fun i => by
          by_cases z : i = x
          · rw [z, gIs, if_pos (by omega)]
          · rw [gIk z, hz i]
            by_cases y : i < x
            · rw [if_pos y, if_pos (by omega)]
            · rw [if_neg y, if_neg (by omega)])
        refine ⟨g', ?_, r'⟩
        rw [← e']
        simp (disch := omega) only [lI, gd_1, inbN, ixN, nI_add, lq1, fX9_note_L11, leN, n1, if_false, Nat.reduceAdd, hx]
    obtain ⟨k1, e1, K1, r1⟩ := sh1' (fun h => lq1 (fX9_note_L41 (fun h => fX9_note_b79 181 (sI h 181 25 (gI h 181 25 - nI 1))) 181) FU (nI 0) h) 220 0 FU g (by omega) (by unfold FU; omega) Keep.rfl (fun i => by rw [if_neg (by omega)])
    obtain ⟨k2, e2, K2, r2⟩ := sh2 (fun h => fX9_note_b79 181 (sI h 181 25 (gI h 181 25 - nI 1))) 341 0 FU k1 (by omega) (by unfold FU; omega) k1 Keep.rfl (fun i => by rw [if_neg (by omega)])
    have p25 : gI k2 181 25 = nI 12 := ((K2 181 25 (by omega)).1.trans (K1 181 25 (by omega)).1).trans C.1
    have Q2 : MNRep (sI k2 181 25 (nI 11)) N T := ⟨fun i hi => by rw [gIa (by omega), (K2 186 i (by omega)).1, (K1 186 i (by omega)).1]; exact Q.1 i hi, fun i hi => by rw [gL_sI, (K2 190 i (by omega)).2.1, (K1 190 i (by omega)).2.1]; exact Q.2 i hi⟩
    obtain ⟨g', e', p', R', K'⟩ := b79 11 (sI k2 181 25 (nI 11)) (by omega) (gIs _ _ _ _) Q2
    refine ⟨g', ?_, ⟨p', fun i hi => ?_⟩, ?_⟩
    · have e11 : nI 12 - nI 1 = nI 11 := pk_sub (by omega)
      simp (disch := omega) only [lI, fX9_note, C.1, if_true]
      refine e1.trans (e2.trans ?_)
      rw [p25, e11]
      exact e'
    · have hi12 : i < 12 := by omega
      show MRw g' 187 191 i (if 12 < 12 then _ else (if i = 11 then N else NN (i + 1))) (if 12 < 12 then _ else (if i = 11 then T else TT (i + 1)))
      rw [if_neg (show ¬ 12 < 12 by omega), if_neg (show ¬ 12 < 12 by omega)]
      by_cases z : i = 11
      · rw [if_pos z, if_pos z, z]; exact R'
      · rw [if_neg z, if_neg z]
        have old := C.2 (i + 1) (by omega)
        refine ⟨fun k hk => ?_, fun k hk => ?_⟩
        · rw [(K' 187 _ ⟨by omega, by omega, by omega⟩).1, gIa (by omega), (K2 187 _ (by omega)).1, r1, if_pos (by omega), show 20 * i + k + 20 = 20 * (i + 1) + k by omega]
          exact old.1 k hk
        · rw [(K' 191 _ ⟨by omega, by omega, by omega⟩).2.1, gL_sI, r2, if_pos (by omega), show 31 * i + k + 31 = 31 * (i + 1) + k by omega, (K1 191 _ (by omega)).2.1]
          exact old.2 k hk
    · refine (((K1.mono (fun x k hp => hp.2.1)).trans (K2.mono (fun x k hp => hp.2.2)))).trans ((Keep.sI Keep.rfl (fun z => z.1 ⟨rfl, rfl⟩) : Keep PKN k2 (sI k2 181 25 (nI 11))).trans (K'.mono (fun x k hp => ⟨hp.1, fun z => hp.2.1 z.1, fun z => hp.2.2 z.1⟩)))
set_option maxRecDepth 100000 in
theorem VAct.pus {u : Nat} {NN TT : Nat → Nat → Nat} (V : VAct R u NN TT) (hu : u ≤ 12) (W : VN R N T 1200) (S : SN R N T) : VAct R (min (u + 1) 12) (psh NN u N) (psh TT u T) := by
  intro i hi
  unfold psh
  by_cases c : u < 12
  · rw [if_pos c, if_pos c]
    by_cases z : i = u
    · rw [if_pos z, if_pos z]; exact ⟨W, S⟩
    · rw [if_neg z, if_neg z]; exact V i (by omega)
  · rw [if_neg c, if_neg c]
    by_cases z : i = 11
    · rw [if_pos z, if_pos z]; exact ⟨W, S⟩
    · rw [if_neg z, if_neg z]; exact V (i + 1) (by omega)
end ACTS
