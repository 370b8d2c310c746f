/-! a night begins -/
def s0 : ST := (fun _ => 0, fun _ => 0)
section BEG
variable {h g : HH} {d : Nat} {R : Nat → Nat}
set_option maxRecDepth 100000 in
theorem VN0 (R : Nat → Nat) (B : Nat) : VN R s0.1 s0.2 B := by
  refine ⟨Nat.zero_le _, fun s hs => ⟨Nat.zero_le _, Nat.zero_le _, ⟨fun _ => rfl, fun _ => rfl⟩, Nat.zero_le _, Nat.le_refl _⟩, fun s hs => ⟨rfl, fun f _ _ => rfl⟩⟩
set_option maxRecDepth 100000 in
theorem knS0 {hd fl st : Nat} : ∀ m, knS R hd fl st m s0 = s0 := by
  intro m
  induction m with
  | zero => rfl
  | succ m ih =>
    show kn1 R hd fl st m (knS R hd fl st m s0) = s0
    rw [ih]
    unfold kn1
    rw [if_neg (fun z => by have z1 : 0 = hd + 1 := z.1; omega)]
set_option maxRecDepth 100000 in
theorem kN0 : ∀ m, kN R m s0 = s0 := by
  intro m
  induction m with
  | zero => rfl
  | succ m ih =>
    show (if ktk R m = (kN R m s0).2 0 then knS R (R (100 + 4 * m)) (R (100 + 4 * m + 1)) (R (100 + 4 * m + 3)) (R 4) (kN R m s0) else kN R m s0) = s0
    rw [ih, knS0]
    split <;> rfl
set_option maxRecDepth 100000 in
theorem stA0 (v : VR R) : VN R (stA R (R 4) s0).1 (stA R (R 4) s0).2 1200 ∧ SN R (stA R (R 4) s0).1 (stA R (R 4) s0).2 := by
  obtain ⟨a1, a2, a3, a4, a5⟩ := stA_ok v (R 4) s0 (Nat.le_refl _) (VN0 R 1200)
  refine ⟨a1, fun s hs t ht => ?_⟩
  have := a5 s hs t ht
  rw [a3 0 (Or.inl rfl)]
  exact this
set_option maxRecDepth 100000 in
theorem cBegN (D : DRep h d R) (hD : isD d) (v : VR R) : ∃ h', fX2_begin 6 d h = some h' ∧ NRep h' 6 R (stA R (R 4) s0).1 (stA R (R 4) s0).2 ∧ Keep (PN 6) h h' := by
  have hd : 44 ≤ d := by unfold isD at hD; omega
  have loop : ∀ q i f (g : HH), i + q = 5 → q < f → Keep (PN 6) h g → gL g 6 6 = lN 0 → (∀ s, s < i → gI g 7 s = nI 0 ∧ gI g 8 s = les M2 0 ∧ gI g 9 s = nI 0 ∧ gI g 10 s = nI 0 ∧ gL g 11 s = lN 0 ∧ gL g 12 s = lN 0) → ∃ h', lq1 (fX2_begin_L7 6 d) f (nI i) g = some h' ∧ NRep h' 6 R (stA R (R 4) s0).1 (stA R (R 4) s0).2 ∧ Keep (PN 6) h h' := by
    intro q
    induction q with
    | zero =>
      intro i f g h1 h2 K g6 gs
      obtain ⟨f, rfl⟩ : ∃ q, f = q + 1 := ⟨f - 1, by omega⟩
      have c : 5 ≤ i := by omega
      have Dg : DRep g d R := D.keep K (fun b k h1 h2 => by unfold PN; omega)
      have Q : NRep g 6 R s0.1 s0.2 := by
        have vS := v.S
        refine ⟨g6, fun s hs => ?_, fun s hs => ⟨0, ?_, ?_⟩⟩
        · obtain ⟨a1, a2, a3, a4, a5, a6⟩ := gs s (by omega)
          exact ⟨a1, a2, a3, a4, a5⟩
        · exact (gs s (by omega)).2.2.2.2.2
        · show 0 + (0 - 0) * _ = 0 * _ + 0 * _ + 0 * _ + 0 * _ + 0 * _
          simp only [Nat.sub_self, Nat.zero_mul, Nat.add_zero]
      obtain ⟨h', e1, Q1, K1⟩ := cSteps Dg hD (by omega) v Q (VN0 R 1200) (by omega)
      refine ⟨h', ?_, Q1, K.trans K1⟩
      simp (disch := omega) only [lI, lq1, fX2_begin_L7, leN, c, if_true, e1, bv_1]
    | succ q ih =>
      intro i f g h1 h2 K g6 gs
      obtain ⟨f, rfl⟩ : ∃ q, f = q + 1 := ⟨f - 1, by omega⟩
      have c : ¬ 5 ≤ i := by omega
      obtain ⟨g2, eg2⟩ : ∃ g2, g2 = sL (sL (sI (sI (sI (sI g 7 i (nI 0)) 8 i (les M2 0)) 9 i (nI 0)) 10 i (nI 0)) 11 i (lN 0)) 12 i (lN 0) := ⟨_, rfl⟩
      have K2 : Keep (PN 6) h g2 := by
        rw [eg2]
        exact Keep.sL (Keep.sL (Keep.sI (Keep.sI (Keep.sI (Keep.sI K (fun z => z (by omega))) (fun z => z (by omega))) (fun z => z (by omega))) (fun z => z (by omega))) (fun z => z (by omega))) (fun z => z (by omega))
      obtain ⟨h', e1, Q1, K1⟩ := ih (i + 1) f g2 (by omega) (by omega) K2 (by rw [eg2, gLa (by omega), gLa (by omega), gL_sI, gL_sI, gL_sI, gL_sI]; exact g6) (fun s hs => by
        rw [eg2]
        by_cases z : s = i
        · subst z
          refine ⟨?_, ?_, ?_, ?_, ?_, ?_⟩
          · rw [gI_sL, gI_sL, gIa (by omega), gIa (by omega), gIa (by omega), gIs]
          · rw [gI_sL, gI_sL, gIa (by omega), gIa (by omega), gIs]
          · rw [gI_sL, gI_sL, gIa (by omega), gIs]
          · rw [gI_sL, gI_sL, gIs]
          · rw [gLa (by omega), gLs]
          · rw [gLs]
        · obtain ⟨a1, a2, a3, a4, a5, a6⟩ := gs s (by omega)
          refine ⟨?_, ?_, ?_, ?_, ?_, ?_⟩
          · rw [gI_sL, gI_sL, gIk z, gIk z, gIk z, gIk z]; exact a1
          · rw [gI_sL, gI_sL, gIk z, gIk z, gIk z, gIk z]; exact a2
          · rw [gI_sL, gI_sL, gIk z, gIk z, gIk z, gIk z]; exact a3
          · rw [gI_sL, gI_sL, gIk z, gIk z, gIk z, gIk z]; exact a4
          · rw [gLk z, gLk z, gL_sI, gL_sI, gL_sI, gL_sI]; exact a5
          · rw [gLk z, gLk z, gL_sI, gL_sI, gL_sI, gL_sI]; exact a6)
      refine ⟨h', ?_, Q1, K1⟩
      rw [← e1, eg2]
      have m2 : (-2 : Int32) = les M2 0 := by decide +kernel
      have ue : lq1 (fX2_begin_L7 6 d) (f + 1) (nI i) g = fX2_begin_L7 6 d (lq1 (fX2_begin_L7 6 d) f) (nI i) g := rfl
      rw [ue]
      generalize lq1 (fX2_begin_L7 6 d) f = sf
      unfold fX2_begin_L7
      rw [m2, if_neg (show ¬ (5 : Int32) ≤ nI i by show ¬ nI 5 ≤ nI i; rw [leN (by omega) (by omega)]; exact c)]
      simp (disch := omega) only [inbN, ixN, gd_1, nm_1, Nat.reduceAdd]
      show sf (nI i + nI 1) _ = _
      rw [nI_add]
      rfl
  exact loop 5 0 FU (sL h 6 6 (lN 0)) (by omega) (by unfold FU; omega) (Keep.sL Keep.rfl (fun z => z (by omega))) (gLs _ _ _ _) (fun s hs => by omega)
set_option maxRecDepth 100000 in
theorem m202 {K : HH → Option (Int32 × HH)} : ∀ q i f g, i + q = 20 → q < f → ∃ g', lq1 (fX9_dream_L202 K 181) f (nI i) g = K g' ∧ (∀ k, i ≤ k → k < 20 → gI g' 186 k = nI 0) ∧ Keep (fun b k => b ≠ 186 ∨ k < i) g g' := by
  intro q
  induction q with
  | zero =>
    intro i f g h1 h2
    obtain ⟨f, rfl⟩ : ∃ q, f = q + 1 := ⟨f - 1, by omega⟩
    refine ⟨g, ?_, fun k a b => by omega, Keep.rfl⟩
    have c : 20 ≤ i := by omega
    simp (disch := omega) only [lI, lq1, fX9_dream_L202, leN, c, if_true]
  | succ q ih =>
    intro i f g h1 h2
    obtain ⟨f, rfl⟩ : ∃ q, f = q + 1 := ⟨f - 1, by omega⟩
    obtain ⟨g', e1, e2, e3⟩ := ih (i + 1) f (sI g 186 i (nI 0)) (by omega) (by omega)
    refine ⟨g', ?_, fun k a b => ?_, Keep.trans (Keep.sI Keep.rfl (by omega)) (e3.mono (fun b k hp => by omega))⟩
    · rw [← e1]
      have c : ¬ 20 ≤ i := by omega
      simp (disch := omega) only [lI, lq1, fX9_dream_L202, leN, c, if_false, inbN, ixN, gd_1, nI_add, Nat.reduceAdd]
    · by_cases z : k = i
      · subst z
        rw [(e3 186 k (by omega)).1, gIs]
      · exact e2 k (by omega) b
set_option maxRecDepth 100000 in
theorem m223 {K : HH → Option (Int32 × HH)} : ∀ q i f g, i + q = 31 → q < f → ∃ g', lq1 (fX9_dream_L223 K 181) f (nI i) g = K g' ∧ (∀ k, i ≤ k → k < 31 → gL g' 190 k = lN 0) ∧ Keep (fun b k => b ≠ 190 ∨ k < i) g g' := by
  intro q
  induction q with
  | zero =>
    intro i f g h1 h2
    obtain ⟨f, rfl⟩ : ∃ q, f = q + 1 := ⟨f - 1, by omega⟩
    refine ⟨g, ?_, fun k a b => by omega, Keep.rfl⟩
    have c : 31 ≤ i := by omega
    simp (disch := omega) only [lI, lq1, fX9_dream_L223, leN, c, if_true]
  | succ q ih =>
    intro i f g h1 h2
    obtain ⟨f, rfl⟩ : ∃ q, f = q + 1 := ⟨f - 1, by omega⟩
    obtain ⟨g', e1, e2, e3⟩ := ih (i + 1) f (sL g 190 i (lN 0)) (by omega) (by omega)
    refine ⟨g', ?_, fun k a b => ?_, Keep.trans (Keep.sL Keep.rfl (by omega)) (e3.mono (fun b k hp => by omega))⟩
    · rw [← e1]
      have c : ¬ 31 ≤ i := by omega
      have ue : lq1 (fX9_dream_L223 K 181) (f + 1) (nI i) g = fX9_dream_L223 K 181 (lq1 (fX9_dream_L223 K 181) f) (nI i) g := rfl
      rw [ue]
      generalize lq1 (fX9_dream_L223 K 181) f = sf
      unfold fX9_dream_L223
      rw [if_neg (show ¬ (31 : Int32) ≤ nI i by show ¬ nI 31 ≤ nI i; rw [leN (by omega) (by omega)]; exact c), inbN (show i < 31 by omega) (by omega), gd_1, ixN (by omega)]
      show sf (nI i + nI 1) _ = _
      rw [nI_add]
      rfl
    · by_cases z : k = i
      · subst z
        rw [(e3 190 k (by omega)).2.1, gLs]
      · exact e2 k (by omega) b
def PFi (b k : Nat) : Prop := ¬ (b = 181 ∧ (k = 14 ∨ k = 25 ∨ k = 26)) ∧ b ≠ 184 ∧ b ≠ 186 ∧ b ≠ 190
set_option maxRecDepth 100000 in
theorem mFin (v : VR R) (RR : FR g R) : ∃ g', dFin g = some (nI (R 4), g') ∧ MRep g' R ∧ MNRep g' (stA R (R 4) s0).1 (stA R (R 4) s0).2 ∧ gI g' 181 14 = nI 1 ∧ gI g' 181 25 = nI 0 ∧ gI g' 181 26 = nI 0 ∧ Keep PFi g g' := by
  have l5 : ln 185 = 316 := ln185
  have l4 : ln 184 = 316 := by decide +kernel
  obtain ⟨g1, e1, c1, K1⟩ := mCopy (g := g) (a := 185) (b := 184) (i := 0) (j := 0) (n := 316) (by omega) (by omega) (by omega) (by omega) (by omega) (by omega)
  obtain ⟨g2, e2, c2, K2⟩ := m202 (K := dF1) 20 0 FU g1 (by omega) (by unfold FU; omega)
  obtain ⟨g3, e3, c3, K3⟩ := m223 (K := dF2) 31 0 FU g2 (by omega) (by unfold FU; omega)
  obtain ⟨g4, eg4⟩ : ∃ g4, g4 = sI (sI (sI g3 181 14 (nI 1)) 181 25 (nI 0)) 181 26 (nI 0) := ⟨_, rfl⟩
  have KK : Keep PFi g g4 := by
    rw [eg4]
    refine Keep.sI (Keep.sI (Keep.sI (Keep.trans (Keep.trans (K1.mono (fun b k hp => by unfold PFi at hp; unfold PC; omega)) (K2.mono (fun b k hp => Or.inl hp.2.2.1))) (K3.mono (fun b k hp => Or.inl hp.2.2.2))) (fun z => z.1 (by omega))) (fun z => z.1 (by omega))) (fun z => z.1 (by omega))
  have K34 : Keep (fun b _ => b ≠ 181) g3 g4 := by
    rw [eg4]
    exact Keep.sI (Keep.sI (Keep.sI Keep.rfl (by omega)) (by omega)) (by omega)
  have M : MRep g4 R := fun k hk => by
    rw [(K34 184 k (by omega)).1, (K3 184 k (by omega)).1, (K2 184 k (by omega)).1]
    have := c1 k hk
    rw [Nat.zero_add] at this
    rw [this]
    exact RR k hk
  have Q : MNRep g4 s0.1 s0.2 := by
    refine ⟨fun k hk => ?_, fun k hk => ?_⟩
    · rw [(K34 186 k (by omega)).1, (K3 186 k (by omega)).1]
      exact c2 k (by omega) hk
    · rw [(K34 190 k (by omega)).2.1]
      exact c3 k (by omega) hk
  obtain ⟨g5, e5, Q5, K5⟩ := mTold M v Q (VN0 R 1200) (by omega)
  rw [kN0] at Q5
  have M5 : MRep g5 R := M.keep K5 (fun k => by unfold PW; omega)
  obtain ⟨g6, e6, Q6, K6⟩ := mSteps M5 v Q5 (VN0 R 1200) (by omega)
  have M6 : MRep g6 R := M5.keep K6 (fun k => by unfold PW; omega)
  have K56 := K5.trans K6
  refine ⟨g6, ?_, M6, Q6, ?_, ?_, ?_, KK.trans (K56.mono (fun b k hp => by unfold PFi at hp; unfold PW; omega))⟩
  · show bv (fX9_copy 185 (nI 0) 184 (nI 0) (nI 316) g) (fun h197 => lq1 (fX9_dream_L202 dF1 181) FU (nI 0) h197) = _
    rw [e1, bv_1, e2]
    show lq1 (fX9_dream_L223 dF2 181) FU (nI 0) g2 = _
    rw [e3]
    show bv (fX9_knocksNow 181 (sI (sI (sI g3 181 14 (nI 1)) 181 25 (nI 0)) 181 26 (nI 0))) (fun h258 => bv (fX9_stepsNow 181 h258) (fun h262 => gd (inb (nI 4) 316) (some ((gI h262 184 (ix (nI 4))), h262)))) = _
    rw [← eg4, e5, bv_1, e6, bv_1, inbN (by omega) (by omega), gd_1, ixN (by omega), M6 4 (by omega)]
  · rw [(K56 181 14 (by unfold PW; omega)).1, eg4, gIk (by omega), gIk (by omega), gIs]
  · rw [(K56 181 25 (by unfold PW; omega)).1, eg4, gIk (by omega), gIs]
  · rw [(K56 181 26 (by unfold PW; omega)).1, eg4, gIs]
end BEG
