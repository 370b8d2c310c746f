/-- outside of the outlook -/
def PO (b k : Nat) : Prop := ¬ (20 ≤ b ∧ b ≤ 27)
/-- so many whole minutes on -/
def ps (R N T : Nat → Nat) (n : Nat) : ST := run R (T 0 + n * bt R) 29 (N, T)
set_option maxRecDepth 100000 in
theorem rkm_le2 {R : Nat → Nat} {t u : Nat} (h : t ≤ u) (m : Nat) : rkm R u m ≤ rkm R t m := rkm_mono h m
section OUT
variable {h : HH} {d : Nat} {R N T : Nat → Nat} {B : Nat}
set_option maxRecDepth 100000 in
theorem mu_adv {σ : ST} {t : Nat} (h : σ.2 0 ≤ t) : mu R (adv R t σ) ≤ mu R σ := by
  have h1 := rkm_mono (R := R) h (R 6)
  have h2 : ∀ m, rsm R (adv R t σ) m = rsm R σ m := by
    intro m
    induction m with
    | zero => rfl
    | succ m ih => show rsm R (adv R t σ) m + _ = rsm R σ m + _; rw [ih]; rfl
  unfold mu
  rw [h2, adv_0]
  omega
set_option maxRecDepth 100000 in
theorem mu_run (v : VR R) (hB : B ≤ 2000) {tick : Nat} (h2 : tick ≤ B * bt R) : ∀ n (σ : ST) B', B' ≤ 2000 → VN R σ.1 σ.2 B' → SN R σ.1 σ.2 → σ.2 0 ≤ tick → mu R (run R tick n σ) ≤ mu R σ := by
  intro n
  induction n with
  | zero => intro σ B' _ _ _ ht; exact mu_adv ht
  | succ n ih =>
    intro σ B' hB' W S ht
    have hg := nxt_gt v W hB' S
    by_cases c : nxt R σ ≤ tick
    · have hN := bt2 v hB h2
      have hm := mu_ev v W hg (Nat.le_trans c h2) (by omega) rfl
      obtain ⟨e1, e2, e3, e4⟩ := ev_ok v W (Nat.le_of_lt hg) (Nat.le_trans c h2)
      rw [run_le c]
      have := ih (ev R (nxt R σ) σ) B hB e1 e2 (by omega)
      omega
    · rw [run_gt (by omega)]; exact mu_adv ht
set_option maxRecDepth 100000 in
theorem ps_ok (v : VR R) (W : VN R N T 1200) (S : SN R N T) {n : Nat} (hn : n ≤ 600) : VN R (ps R N T n).1 (ps R N T n).2 1800 ∧ SN R (ps R N T n).1 (ps R N T n).2 ∧ (ps R N T n).2 0 = T 0 + n * bt R := by
  have hm := mu_le v (N, T)
  have := run_ok v (B := 1800) (by omega) (tB v W hn) 29 (N, T) 1200 (by omega) (by omega) W S (Nat.le_add_right _ _)
  exact ⟨this.1, this.2.1, this.2.2.1⟩
set_option maxRecDepth 100000 in
theorem ps_0 (v : VR R) (W : VN R N T 1200) (S : SN R N T) : ps R N T 0 = (N, T) := by
  unfold ps
  have hg := nxt_gt v (σ := (N, T)) W (by omega) S
  rw [Nat.zero_mul, Nat.add_zero, run_gt hg]
  exact adv_same (σ := (N, T))
set_option maxRecDepth 100000 in
theorem ps_run (v : VR R) (W : VN R N T 1200) (S : SN R N T) {f n : Nat} (hf : f ≤ n) (hn : n ≤ 600) : run R (T 0 + n * bt R) 29 (ps R N T f) = ps R N T n := by
  have hm := mu_le v (N, T)
  have h1 : f * bt R ≤ n * bt R := Nat.mul_le_mul_right _ hf
  exact run_run v (B := 1800) (by omega) (by omega) (tB v W hn) 29 (N, T) 1200 (by omega) (by omega) W S (Nat.le_add_right _ _)
set_option maxRecDepth 100000 in
theorem ps_alike (v : VR R) (W : VN R N T 1200) (S : SN R N T) {f n : Nat} (hf : f ≤ n) (hn : n ≤ 600) (h : T 0 + n * bt R < nxt R (ps R N T f)) : (ps R N T n).1 = (ps R N T f).1 := by
  rw [← ps_run v W S hf hn, run_gt h]; rfl
set_option maxRecDepth 100000 in
theorem ps_mu (v : VR R) (W : VN R N T 1200) (S : SN R N T) {f n : Nat} (hf : f ≤ n) (hn : n ≤ 600) (h : nxt R (ps R N T f) ≤ T 0 + n * bt R) : mu R (ps R N T n) < mu R (ps R N T f) := by
  obtain ⟨W1, S1, t1⟩ := ps_ok v W S (show f ≤ 600 by omega)
  have hg := nxt_gt v W1 (by omega) S1
  have hB := tB v W hn
  have hN := bt2 v (B := 1800) (by omega) hB
  have hm := mu_ev v W1 hg (Nat.le_trans h hB) (by omega) rfl
  obtain ⟨e1, e2, e3, e4⟩ := ev_ok v W1 (Nat.le_of_lt hg) (Nat.le_trans h hB)
  rw [← ps_run v W S hf hn, run_le h]
  have := mu_run v (B := 1800) (by omega) hB 28 _ 1800 (by omega) e1 e2 (by omega)
  omega
/-! the outlook's cells -/
def OI (h : HH) (d : Nat) (R N T : Nat → Nat) (t f l : Nat) : Prop := NRep h 21 R (ps R N T f).1 (ps R N T f).2 ∧ gL h 20 1 = lN (T 0) ∧ gI h 20 2 = nI t ∧ gI h 20 3 = nI f ∧ gI h 20 4 = nI l ∧ f ≤ l ∧ l ≤ t ∧ (∀ n, f ≤ n → n ≤ l → (ps R N T n).1 = (ps R N T f).1) ∧ (l < t → mu R (ps R N T (l + 1)) < mu R (ps R N T f))
def la (R : Nat → Nat) (T0 t : Nat) (σ : ST) : Nat := if nxt R σ = NV then t else min t ((nxt R σ - T0 - 1) / bt R)
set_option maxRecDepth 100000 in
theorem cLast (D : DRep h d R) (hD : isD d) (v : VR R) (W : VN R N T 1200) (S : SN R N T) {t f : Nat} (hf : f ≤ t) (ht : t ≤ 600) (Q : NRep h 21 R (ps R N T f).1 (ps R N T f).2) (g1 : gL h 20 1 = lN (T 0)) (g2 : gI h 20 2 = nI t) : fX3_lastAlike 20 d h = some (nI (la R (T 0) t (ps R N T f)), h) ∧ f ≤ la R (T 0) t (ps R N T f) ∧ la R (T 0) t (ps R N T f) ≤ t ∧ (∀ n, f ≤ n → n ≤ la R (T 0) t (ps R N T f) → (ps R N T n).1 = (ps R N T f).1) ∧ (la R (T 0) t (ps R N T f) < t → mu R (ps R N T (la R (T 0) t (ps R N T f) + 1)) < mu R (ps R N T f)) := by
  have vb := v.bt
  obtain ⟨W1, S1, t1⟩ := ps_ok v W S (show f ≤ 600 by omega)
  have hg := nxt_gt v W1 (by omega) S1
  have hT := VN.t v W (by omega)
  have hx : nxt R (ps R N T f) < 2 ^ 63 := NVb (Nat.le_trans (mnf_le _ _ _) (mnf_le _ _ _))
  have cn := cNext D hD v Q W1 (by omega)
  have hla : la R (T 0) t (ps R N T f) = if nxt R (ps R N T f) = NV then t else min t ((nxt R (ps R N T f) - T 0 - 1) / bt R) := rfl
  have hbt : T 0 + t * bt R < NV := bt2 v (B := 1800) (by omega) (tB v W ht)
  by_cases c : nxt R (ps R N T f) = NV
  · rw [if_pos c] at hla
    rw [hla]
    refine ⟨?_, hf, Nat.le_refl _, fun n h1 h2 => ?_, fun z => absurd z (Nat.lt_irrefl _)⟩
    · have c' : nxt R (ps R N T f) = 1152921504606846976 := c
      simp (disch := omega) only [lJ, bd_1, fX3_lastAlike, Nat.reduceAdd, cn, eqL, eq_true c', if_true, g2]
    · refine ps_alike v W S h1 (by omega) ?_
      have : n * bt R ≤ t * bt R := Nat.mul_le_mul_right _ h2
      omega
  · rw [if_neg c] at hla
    have key : ∀ n, n ≤ (nxt R (ps R N T f) - T 0 - 1) / bt R ↔ T 0 + n * bt R < nxt R (ps R N T f) := by
      intro n
      rw [Nat.le_div_iff_mul_le (by omega)]
      have : (ps R N T f).2 0 = T 0 + f * bt R := t1
      omega
    have kf := (key f).mpr (by omega)
    rw [hla]
    refine ⟨?_, by omega, by omega, fun n h1 h2 => ?_, fun z => ?_⟩
    · have c' : ¬ nxt R (ps R N T f) = 1152921504606846976 := c
      have hq : (nxt R (ps R N T f) - T 0 - 1) / bt R < 2 ^ 63 := Nat.lt_of_le_of_lt (Nat.div_le_self _ _) (by omega)
      simp (disch := omega) only [lJ, lI, bd_1, fX3_lastAlike, Nat.reduceAdd, cn, eqL, c', if_false, g2, g1, cBottom D v, nI_l, lN_sub, cQuo, minL, lN_i]
    · exact ps_alike v W S h1 (by omega) ((key n).mp (by omega))
    · refine ps_mu v W S (by omega) (by omega) ?_
      have := mt (key (min t ((nxt R (ps R N T f) - T 0 - 1) / bt R) + 1)).mpr (by omega)
      omega
set_option maxRecDepth 100000 in
theorem kpO1 {h h' : HH} (K : Keep PO h h') {k : Nat} {v : Int32} : Keep PO h (sI h' 20 k v) := Keep.sI K (fun z => z ⟨by omega, by omega⟩)
def Keep.O1 {h h' : HH} (K : Keep PO h h') {k : Nat} {v : Int32} := kpO1 K (k := k) (v := v) 
set_option maxRecDepth 100000 in
theorem kpO2 {h h' : HH} (K : Keep PO h h') {k : Nat} {v : Int64} : Keep PO h (sL h' 20 k v) := Keep.sL K (fun z => z ⟨by omega, by omega⟩)
def Keep.O2 {h h' : HH} (K : Keep PO h h') {k : Nat} {v : Int64} := kpO2 K (k := k) (v := v) 
set_option maxRecDepth 100000 in
theorem PN_PO : ∀ x k, PO x k → PN 21 x k := fun x k hp z => hp ⟨by omega, by omega⟩
set_option maxRecDepth 100000 in
theorem PO_PQ : ∀ x k, PQ x k → PO x k := fun x k hp z => hp.2 ⟨by omega, by omega⟩
set_option maxRecDepth 100000 in
theorem DRep.O {h h' : HH} (D : DRep h d R) (hD : isD d) (K : Keep PO h h') : DRep h' d R := D.keep K (fun b k h1 h2 z => by rcases hD with e | e <;> omega)
set_option maxRecDepth 100000 in
theorem NRep.O {h h' : HH} {N' T' : Nat → Nat} (Q : NRep h 21 R N' T') (e1 : ∀ b k, 21 ≤ b → gI h' b k = gI h b k) (e2 : ∀ b k, 21 ≤ b → gL h' b k = gL h b k) : NRep h' 21 R N' T' := by
  obtain ⟨q1, q2, q3⟩ := Q
  refine ⟨?_, fun s hs => ?_, fun s hs => ?_⟩
  · rw [e2 _ _ (by omega)]; exact q1
  · rw [e1 _ _ (by omega), e1 _ _ (by omega), e1 _ _ (by omega), e1 _ _ (by omega), e2 _ _ (by omega)]; exact q2 s hs
  · rw [e2 _ _ (by omega)]; exact q3 s hs
set_option maxRecDepth 100000 in
theorem cBegin (C : CA h d R N T) {t : Nat} (ht : t ≤ 600) : ∃ h' l, fX3_begin 20 d 6 (nI t) h = some h' ∧ OI h' d R N T t 0 l ∧ Keep PO h h' := by
  obtain ⟨c1, c2, c3, D, v, Q, W, S⟩ := C
  have vS := v.S
  obtain ⟨h1, e1, p1, K1⟩ := cCopy (h := h) (a := 6) (b := 21) (by omega)
  have Q1 : NRep h1 21 R N T := p1.rep Q vS.2
  have K2 : Keep PO h (sI (sI (sL h1 20 1 (lN (T 0))) 20 2 (nI t)) 20 3 (nI 0)) := (((K1.mono PN_PO).O2).O1).O1
  have g2 : gL h1 6 6 = lN (T 0) := (K1 6 6 (fun z => by omega)).2.1.trans Q.1
  have Q2 : NRep (sI (sI (sL h1 20 1 (lN (T 0))) 20 2 (nI t)) 20 3 (nI 0)) 21 R (ps R N T 0).1 (ps R N T 0).2 := by
    rw [ps_0 v W S]
    exact Q1.O (fun b k hb => by simp (disch := omega) only [gIa, gI_sL]) (fun b k hb => by simp (disch := omega) only [gLa, gL_sI])
  have G1 : gL (sI (sI (sL h1 20 1 (lN (T 0))) 20 2 (nI t)) 20 3 (nI 0)) 20 1 = lN (T 0) := by simp only [gL_sI, gLs]
  have G2 : gI (sI (sI (sL h1 20 1 (lN (T 0))) 20 2 (nI t)) 20 3 (nI 0)) 20 2 = nI t := by simp (disch := omega) only [gIk, gIs]
  have G3 : gI (sI (sI (sL h1 20 1 (lN (T 0))) 20 2 (nI t)) 20 3 (nI 0)) 20 3 = nI 0 := gIs _ _ _ _
  obtain ⟨e2, l1, l2, l3, l4⟩ := cLast (D.O c2 K2) c2 v W S (Nat.zero_le t) ht Q2 G1 G2
  generalize hl : la R (T 0) t (ps R N T 0) = l at e2 l1 l2 l3 l4
  refine ⟨sI (sI (sI (sL h1 20 1 (lN (T 0))) 20 2 (nI t)) 20 3 (nI 0)) 20 4 (nI l), l, ?_, ⟨?_, ?_, ?_, ?_, ?_, l1, l2, l3, l4⟩, K2.O1⟩
  · simp (disch := omega) only [lI, bd_1, bv_1, nm_1, fX3_begin, Nat.reduceAdd, e1, g2, e2]
  · exact Q2.O (fun b k hb => by simp (disch := omega) only [gIa]) (fun b k hb => by simp only [gL_sI])
  · rw [gL_sI]; exact G1
  · rw [gIk (by omega)]; exact G2
  · rw [gIk (by omega)]; exact G3
  · exact gIs _ _ _ _
set_option maxRecDepth 100000 in
theorem cGoOn (D : DRep h d R) (hD : isD d) (v : VR R) (W : VN R N T 1200) (S : SN R N T) {t f l : Nat} (ht : t ≤ 600) (I : OI h d R N T t f l) : ∃ h', fX3_goOn 20 d h = some h' ∧ Keep PO h h' ∧ ((l = t ∧ gI h' 20 3 = nI (t + 1)) ∨ (l < t ∧ ∃ l', OI h' d R N T t (l + 1) l')) := by
  obtain ⟨Q, g1, g2, g3, g4, i1, i2, i3, i4⟩ := I
  have vb := v.bt
  by_cases c : l = t
  · refine ⟨sI h 20 3 (nI (l + 1)), ?_, Keep.rfl.O1, Or.inl ⟨c, by rw [gIs, c]⟩⟩
    have h1 : t < l + 1 := by omega
    simp (disch := omega) only [lI, nI_add, fX3_goOn, g4, gIs, gIk, g2, ltN, h1, if_true]
  · have h1 : ¬ t < l + 1 := by omega
    have K1 : Keep PO h (sI h 20 3 (nI (l + 1))) := Keep.rfl.O1
    have Q1 : NRep (sI h 20 3 (nI (l + 1))) 21 R (ps R N T f).1 (ps R N T f).2 := Q.O (fun b k hb => by simp (disch := omega) only [gIa]) (fun b k hb => by simp only [gL_sI])
    obtain ⟨W1, S1, t1⟩ := ps_ok v W S (show f ≤ 600 by omega)
    have hfl : f * bt R ≤ (l + 1) * bt R := Nat.mul_le_mul_right _ (by omega)
    have hda : 21 + 6 < d := by rcases hD with e | e <;> omega
    have D1 := D.O hD K1
    obtain ⟨h2, e2, Q2, K2⟩ := cRun D1 hD hda v Q1 W1 (by omega) S1 (t := T 0 + (l + 1) * bt R) (by omega) (tB v W (show l + 1 ≤ 600 by omega))
    rw [ps_run v W S (show f ≤ l + 1 by omega) (by omega)] at Q2
    have K3 := K1.trans (K2.mono PN_PO)
    have G1 : gL h2 20 1 = lN (T 0) := (K2 20 1 (fun z => by omega)).2.1.trans (by rw [gL_sI]; exact g1)
    have G2 : gI h2 20 2 = nI t := (K2 20 2 (fun z => by omega)).1.trans (by rw [gIk (by omega)]; exact g2)
    have G3 : gI h2 20 3 = nI (l + 1) := (K2 20 3 (fun z => by omega)).1.trans (gIs _ _ _ _)
    obtain ⟨e3, l1, l2, l3, l4⟩ := cLast (D.O hD K3) hD v W S (show l + 1 ≤ t by omega) ht Q2 G1 G2
    generalize hl : la R (T 0) t (ps R N T (l + 1)) = l' at e3 l1 l2 l3 l4
    refine ⟨sI h2 20 4 (nI l'), ?_, K3.O1, Or.inr ⟨by omega, l', ?_, ?_, ?_, ?_, ?_, l1, l2, l3, l4⟩⟩
    · simp (disch := omega) only [lI, bd_1, bv_1, nI_add, fX3_goOn, g4, gIs, gIk, gL_sI, g1, g2, ltN, h1, if_false, cBottom D1 v, nI_l, lN_mul, lN_add, Nat.reduceAdd, e2, e3]
    · exact Q2.O (fun b k hb => by simp (disch := omega) only [gIa]) (fun b k hb => by simp only [gL_sI])
    · rw [gL_sI]; exact G1
    · rw [gIk (by omega)]; exact G2
    · rw [gIk (by omega)]; exact G3
    · exact gIs _ _ _ _
/-! the first minute of which something holds -/
def fst (P : Nat → Bool) : Nat → Option Nat
  | 0 => none
  | n + 1 => match fst P n with
    | some j => some j
    | none => if P n then some n else none
set_option maxRecDepth 100000 in
theorem fst_none {P : Nat → Bool} : ∀ {n}, (∀ m, m < n → P m = false) → fst P n = none := by
  intro n
  induction n with
  | zero => intro _; rfl
  | succ n ih =>
    intro h
    show (match fst P n with | some j => some j | none => if P n then some n else none) = none
    rw [ih (fun m hm => h m (by omega)), h n (by omega)]; rfl
set_option maxRecDepth 100000 in
theorem fst_some {P : Nat → Bool} {k : Nat} (h1 : ∀ m, m < k → P m = false) (h2 : P k = true) : ∀ {n}, k < n → fst P n = some k := by
  intro n
  induction n with
  | zero => intro z; exact absurd z (Nat.not_lt_zero k)
  | succ n ih =>
    intro h
    show (match fst P n with | some j => some j | none => if P n then some n else none) = some k
    by_cases e : k = n
    · subst e; rw [fst_none h1, h2]; rfl
    · rw [ih (by omega)]
def fo : Option Nat → Int32
  | none => M2
  | some n => nI n
set_option maxRecDepth 100000 in
theorem cFm (hD : isD d) (v : VR R) (W : VN R N T 1200) (S : SN R N T) {t s q : Nat} (ht : t ≤ 600) (hs : s < R 4) (hq : q < R 4) : ∀ j i fu f l (h : HH), i + j = 29 → j < fu → DRep h d R → OI h d R N T t f l → mu R (ps R N T f) + i ≤ 28 → (∀ m, m < f → met (ps R N T m).1 s q = false) → ∃ h', lq1 (fX3_firstMeeting_L11 20 d (nI s) (nI q) (nI t)) fu (nI i) h = some (fo (fst (fun n => met (ps R N T n).1 s q) (t + 1)), h') ∧ Keep PO h h' := by
  have vS := v.S
  intro j
  induction j with
  | zero => intro i fu f l h e _ _ _ hm; omega
  | succ j ih =>
    intro i fu f l h e hfu D I hm hp
    obtain ⟨fu, rfl⟩ : ∃ q, fu = q + 2 := ⟨fu - 2, by omega⟩
    obtain ⟨Q, g1, g2, g3, g4, i1, i2, i3, i4⟩ := id I
    obtain ⟨W1, S1, t1⟩ := ps_ok v W S (show f ≤ 600 by omega)
    have n1 : ¬ 29 ≤ i := by omega
    have n2 : ¬ t < f := by omega
    have cm := cMet v Q W1 (show s < 5 by omega) (show q < 5 by omega)
    cases hm2 : met (ps R N T f).1 s q with
    | true =>
      rw [hm2] at cm
      refine ⟨h, ?_, Keep.rfl⟩
      rw [fst_some (P := fun n => met (ps R N T n).1 s q) hp hm2 (show f < t + 1 by omega)]
      simp (disch := omega) only [lI, bd_1, lq1, fX3_firstMeeting_L11, leN, n1, if_false, g3, ltN, n2, Nat.reduceAdd, cm, cond_true, fo]
    | false =>
      rw [hm2] at cm
      obtain ⟨h2, e2, K2, c⟩ := cGoOn D hD v W S ht I
      have hp' : ∀ m, m < l + 1 → met (ps R N T m).1 s q = false := fun m hm3 => by
        by_cases z : m < f
        · exact hp m z
        · rw [i3 m (by omega) (by omega)]; exact hm2
      rcases c with ⟨c1, c2⟩ | ⟨c1, l', c2⟩
      · refine ⟨h2, ?_, K2⟩
        rw [fst_none (P := fun n => met (ps R N T n).1 s q) (fun m hm3 => hp' m (by omega))]
        have n3 : t < t + 1 := by omega
        by_cases n4 : 29 ≤ i + 1
        · simp (disch := omega) only [lI, bd_1, bv_1, nI_add, lq1, fX3_firstMeeting_L11, leN, n1, if_false, g3, ltN, n2, Nat.reduceAdd, cm, cond_false, e2, n4, if_true, neg2, fo]
        · simp (disch := omega) only [lI, bd_1, bv_1, nI_add, lq1, fX3_firstMeeting_L11, leN, n1, if_false, g3, ltN, n2, Nat.reduceAdd, cm, cond_false, e2, n4, if_true, c2, n3, neg2, fo]
      · have := i4 c1
        obtain ⟨h3, e3, K3⟩ := ih (i + 1) (fu + 1) (l + 1) l' h2 (by omega) (by omega) (D.O hD K2) c2 (by omega) hp'
        refine ⟨h3, ?_, K2.trans K3⟩
        rw [← e3]
        show fX3_firstMeeting_L11 20 d (nI s) (nI q) (nI t) (lq1 (fX3_firstMeeting_L11 20 d (nI s) (nI q) (nI t)) (fu + 1)) (nI i) h = _
        simp (disch := omega) only [lI, bd_1, bv_1, nI_add, fX3_firstMeeting_L11, leN, n1, if_false, g3, ltN, n2, Nat.reduceAdd, cm, cond_false, e2]
set_option maxRecDepth 100000 in
theorem cFa (hD : isD d) (v : VR R) (W : VN R N T 1200) (S : SN R N T) {t s : Nat} (ht : t ≤ 600) (hs : s < R 4) : ∀ j i fu f l (h : HH), i + j = 29 → j < fu → DRep h d R → OI h d R N T t f l → mu R (ps R N T f) + i ≤ 28 → (∀ m, m < f → decide ((ps R N T m).1 (4 * s + 0) = 0) = false) → ∃ h', lq1 (fX3_firstAwake_L11 20 d (nI s) (nI t)) fu (nI i) h = some (fo (fst (fun n => decide ((ps R N T n).1 (4 * s + 0) = 0)) (t + 1)), h') ∧ Keep PO h h' := by
  have vS := v.S
  have vF := v.F
  intro j
  induction j with
  | zero => intro i fu f l h e _ _ _ hm; omega
  | succ j ih =>
    intro i fu f l h e hfu D I hm hp
    obtain ⟨fu, rfl⟩ : ∃ q, fu = q + 2 := ⟨fu - 2, by omega⟩
    obtain ⟨Q, g1, g2, g3, g4, i1, i2, i3, i4⟩ := id I
    obtain ⟨W1, S1, t1⟩ := ps_ok v W S (show f ≤ 600 by omega)
    have n1 : ¬ 29 ≤ i := by omega
    have n2 : ¬ t < f := by omega
    have q := (Q.2.1 s (by omega)).1
    have q' : gI h 22 s = nI ((ps R N T f).1 (4 * s + 0)) := q
    have w := (W1.2.1 s (by omega)).1
    by_cases hm2 : (ps R N T f).1 (4 * s + 0) = 0
    · refine ⟨h, ?_, Keep.rfl⟩
      rw [fst_some (P := fun n => decide ((ps R N T n).1 (4 * s + 0) = 0)) hp (decide_eq_true hm2) (show f < t + 1 by omega)]
      simp (disch := omega) only [lI, gd_1, bd_1, inbN, ixN, eqN, lq1, fX3_firstAwake_L11, leN, n1, if_false, g3, ltN, n2, Nat.reduceAdd, q', eq_true hm2, if_true, fo]
    · obtain ⟨h2, e2, K2, c⟩ := cGoOn D hD v W S ht I
      have hp' : ∀ m, m < l + 1 → decide ((ps R N T m).1 (4 * s + 0) = 0) = false := fun m hm3 => by
        by_cases z : m < f
        · exact hp m z
        · rw [i3 m (by omega) (by omega)]; exact decide_eq_false hm2
      rcases c with ⟨c1, c2⟩ | ⟨c1, l', c2⟩
      · refine ⟨h2, ?_, K2⟩
        rw [fst_none (P := fun n => decide ((ps R N T n).1 (4 * s + 0) = 0)) (fun m hm3 => hp' m (by omega))]
        have n3 : t < t + 1 := by omega
        by_cases n4 : 29 ≤ i + 1
        · simp (disch := omega) only [lI, gd_1, bd_1, bv_1, inbN, ixN, eqN, nI_add, lq1, fX3_firstAwake_L11, leN, n1, if_false, g3, ltN, n2, Nat.reduceAdd, q', hm2, e2, n4, if_true, neg2, fo]
        · simp (disch := omega) only [lI, gd_1, bd_1, bv_1, inbN, ixN, eqN, nI_add, lq1, fX3_firstAwake_L11, leN, n1, if_false, g3, ltN, n2, Nat.reduceAdd, q', hm2, e2, n4, if_true, c2, n3, neg2, fo]
      · have := i4 c1
        obtain ⟨h3, e3, K3⟩ := ih (i + 1) (fu + 1) (l + 1) l' h2 (by omega) (by omega) (D.O hD K2) c2 (by omega) hp'
        refine ⟨h3, ?_, K2.trans K3⟩
        rw [← e3]
        show fX3_firstAwake_L11 20 d (nI s) (nI t) (lq1 (fX3_firstAwake_L11 20 d (nI s) (nI t)) (fu + 1)) (nI i) h = _
        simp (disch := omega) only [lI, gd_1, bd_1, bv_1, inbN, ixN, eqN, nI_add, fX3_firstAwake_L11, leN, n1, if_false, g3, ltN, n2, Nat.reduceAdd, q', hm2, e2]
/-! the model goes minute by minute -/
set_option maxRecDepth 100000 in
theorem mMin {g : HH} (M : MRep g R) (v : VR R) (W : VN R N T 1200) (S : SN R N T) {n : Nat} (hn : n + 1 ≤ 600) (Q : MNRep g (ps R N T n).1 (ps R N T n).2) : ∃ g', fX9_goOn 181 (lN (T 0 + n * bt R + bt R)) g = some g' ∧ MNRep g' (ps R N T (n + 1)).1 (ps R N T (n + 1)).2 ∧ Keep PW g g' := by
  obtain ⟨W1, S1, t1⟩ := ps_ok v W S (show n ≤ 600 by omega)
  have e : T 0 + n * bt R + bt R = T 0 + (n + 1) * bt R := by rw [Nat.add_mul, Nat.one_mul, Nat.add_assoc]
  obtain ⟨g', e1, Q1, K1⟩ := mGo M v Q (B := 1800) W1 (by omega) (by omega) S1 (to := T 0 + n * bt R + bt R) (by omega) (by rw [e]; exact tB v W hn)
  rw [e, ps_run v W S (show n ≤ n + 1 by omega) hn] at Q1
  exact ⟨g', e1, Q1, K1⟩
set_option maxRecDepth 100000 in
theorem mFm {g : HH} (M : MRep g R) (v : VR R) (W : VN R N T 1200) (S : SN R N T) {t s q : Nat} (ht : t ≤ 600) (hs : s < R 4) (hq : q < R 4) (kk : Int32 → HH → Option (Int32 × HH)) : ∀ m n fu (h : HH), n + m = t → m < fu → Keep PW g h → MNRep h (ps R N T n).1 (ps R N T n).2 → (∀ j, j < n → met (ps R N T j).1 s q = false) → ∃ n' g', lq1 (fX9_meetsIn_L55 kk 181 (nI s) (nI q) (nI t)) fu (nI n) h = kk (nI n') g' ∧ n' ≤ t ∧ MNRep g' (ps R N T n').1 (ps R N T n').2 ∧ Keep PW g g' ∧ (∀ j, j < n' → met (ps R N T j).1 s q = false) ∧ (n' = t ∨ met (ps R N T n').1 s q = true) := by
  have vS := v.S
  have vb := v.bt
  intro m
  induction m with
  | zero =>
    intro n fu h e hfu K Q hp
    obtain ⟨fu, rfl⟩ : ∃ q, fu = q + 1 := ⟨fu - 1, by omega⟩
    have n1 : t ≤ n := by omega
    refine ⟨n, h, ?_, by omega, Q, K, hp, Or.inl (by omega)⟩
    simp (disch := omega) only [lq1, fX9_meetsIn_L55, leN, n1, if_true]
  | succ m ih =>
    intro n fu h e hfu K Q hp
    obtain ⟨fu, rfl⟩ : ∃ q, fu = q + 1 := ⟨fu - 1, by omega⟩
    have n1 : ¬ t ≤ n := by omega
    obtain ⟨W1, S1, t1⟩ := ps_ok v W S (show n ≤ 600 by omega)
    have cm := mMet v Q W1 (show s < 5 by omega) (show q < 5 by omega)
    cases hm2 : met (ps R N T n).1 s q with
    | true =>
      rw [hm2] at cm
      refine ⟨n, h, ?_, by omega, Q, K, hp, Or.inr hm2⟩
      simp (disch := omega) only [bd_1, lq1, fX9_meetsIn_L55, leN, n1, if_false, cm, cond_true]
    | false =>
      rw [hm2] at cm
      obtain ⟨h2, e2, Q2, K2⟩ := mMin (M.W K) v W S (show n + 1 ≤ 600 by omega) Q
      obtain ⟨n', g', e3, a1, a2, a3, a4, a5⟩ := ih (n + 1) fu h2 (by omega) (by omega) (K.trans K2) Q2 (fun j hj => by
        by_cases z : j < n
        · exact hp j z
        · have : j = n := by omega
          rw [this]; exact hm2)
      refine ⟨n', g', ?_, a1, a2, a3, a4, a5⟩
      have q0 := Q.2 0 (by omega)
      rw [t1] at q0
      rw [← e3]
      simp (disch := omega) only [lI, gd_1, bd_1, bv_1, inbN, ixN, nI_add, nI_l, lN_add, lq1, fX9_meetsIn_L55, leN, n1, if_false, cm, cond_false, Nat.reduceAdd, q0, mBottom (M.W K) v, e2]
set_option maxRecDepth 100000 in
theorem fo_end {P : Nat → Bool} {n t : Nat} (hn : n ≤ t) (h1 : ∀ j, j < n → P j = false) (h2 : n = t ∨ P n = true) : fo (fst P (t + 1)) = bif P n then nI n else M2 := by
  cases hp : P n with
  | true => rw [fst_some h1 hp (by omega)]; rfl
  | false =>
    have : n = t := by rcases h2 with z | z
                       · exact z
                       · rw [hp] at z; cases z
    subst this
    rw [fst_none (fun m hm => by
      by_cases z : m < n
      · exact h1 m z
      · have : m = n := by omega
        rw [this]; exact hp)]
    rfl
set_option maxRecDepth 100000 in
theorem prC (C : CA h d R N T) (x y : Int32) : (∃ s q, s < R 4 ∧ q < R 4 ∧ s ≠ q ∧ x = nI s ∧ y = nI q ∧ fX8_isPair 0 x y h = some (true, h) ∧ ∀ h1, MA h1 R N T → fX9_isSleeper 181 x h1 = some (true, h1) ∧ fX9_isSleeper 181 y h1 = some (true, h1)) ∨ (fX8_isPair 0 x y h = some (false, h) ∧ ∀ h1, MA h1 R N T → (fX9_isSleeper 181 x h1 = some (false, h1) ∨ (fX9_isSleeper 181 x h1 = some (true, h1) ∧ fX9_isSleeper 181 y h1 = some (false, h1)) ∨ (fX9_isSleeper 181 x h1 = some (true, h1) ∧ fX9_isSleeper 181 y h1 = some (true, h1) ∧ x = y))) := by
  have vS := C.2.2.2.2.1.S
  rcases slC C x with ⟨s, hs, rfl, e1, e2⟩ | ⟨e1, e2⟩
  · rcases slC C y with ⟨q, hq, rfl, e3, e4⟩ | ⟨e3, e4⟩
    · by_cases c : s = q
      · refine Or.inr ⟨?_, fun h1 M => Or.inr (Or.inr ⟨e2 h1 M, e4 h1 M, by rw [c]⟩)⟩
        simp (disch := omega) only [lI, lJ, gd_1, bd_1, bv_1, nm_1, ixN, inbN, eqN, leN, ltN, eqL, leL, ltL, beqN, beqL, nI_add, pk_mul, lN_add, lN_mul, nI_l, lN_i, pk_div, pk_lDiv, pk_sub, lN_sub, remN, remL, neg1, neg2, negL, negL2, M1e, M1f, M1g, M1h, M1i, M1j, M2e, M2f, L1g, L1h, L1i, L1j, les_eq, les_e, les_n, les_m, fX8_isPair, e1, e3, cond_true, eq_true c, if_true]
      · refine Or.inl ⟨s, q, hs, hq, c, rfl, rfl, ?_, fun h1 M => ⟨e2 h1 M, e4 h1 M⟩⟩
        simp (disch := omega) only [lI, lJ, gd_1, bd_1, bv_1, nm_1, ixN, inbN, eqN, leN, ltN, eqL, leL, ltL, beqN, beqL, nI_add, pk_mul, lN_add, lN_mul, nI_l, lN_i, pk_div, pk_lDiv, pk_sub, lN_sub, remN, remL, neg1, neg2, negL, negL2, M1e, M1f, M1g, M1h, M1i, M1j, M2e, M2f, L1g, L1h, L1i, L1j, les_eq, les_e, les_n, les_m, fX8_isPair, e1, e3, cond_true, c, if_false]
    · refine Or.inr ⟨?_, fun h1 M => Or.inr (Or.inl ⟨e2 h1 M, e4 h1 M⟩)⟩
      simp (disch := omega) only [lI, lJ, gd_1, bd_1, bv_1, nm_1, ixN, inbN, eqN, leN, ltN, eqL, leL, ltL, beqN, beqL, nI_add, pk_mul, lN_add, lN_mul, nI_l, lN_i, pk_div, pk_lDiv, pk_sub, lN_sub, remN, remL, neg1, neg2, negL, negL2, M1e, M1f, M1g, M1h, M1i, M1j, M2e, M2f, L1g, L1h, L1i, L1j, les_eq, les_e, les_n, les_m, fX8_isPair, e1, e3, cond_true, cond_false]
  · refine Or.inr ⟨?_, fun h1 M => Or.inl (e2 h1 M)⟩
    simp (disch := omega) only [lI, lJ, gd_1, bd_1, bv_1, nm_1, ixN, inbN, eqN, leN, ltN, eqL, leL, ltL, beqN, beqL, nI_add, pk_mul, lN_add, lN_mul, nI_l, lN_i, pk_div, pk_lDiv, pk_sub, lN_sub, remN, remL, neg1, neg2, negL, negL2, M1e, M1f, M1g, M1h, M1i, M1j, M2e, M2f, L1g, L1h, L1i, L1j, les_eq, les_e, les_n, les_m, fX8_isPair, e1, cond_false]
set_option maxRecDepth 100000 in
theorem oMeetsIn (C : CA h d R N T) (x y z : Int32) : OpW R N T h (fX8_meetsIn 0 x y z h) (fun h1 => fX9_meetsIn 181 x y z h1) := by
  have k := isKb_D C.2.1
  rcases prC C x y with ⟨s, q, hs, hq, hsq, rfl, rfl, e1, e2⟩ | ⟨e1, e2⟩
  · have v := C.2.2.2.2.1
    have vS := v.S
    rcases spC z with ⟨t, ht, rfl, e3, e4⟩ | ⟨e3, e4⟩
    · have W := C.2.2.2.2.2.2.1
      have S := C.2.2.2.2.2.2.2
      refine opw (fo (fst (fun n => met (ps R N T n).1 s q) (t + 1))) ?_ (fun h1 g Mg hg => ?_)
      · obtain ⟨h2, l, e5, I, K2⟩ := cBegin C ht
        have hm := mu_le v (ps R N T 0)
        obtain ⟨h3, e6, K3⟩ := cFm C.2.1 v W S ht hs hq 29 0 FU 0 l h2 (by omega) (by unfold FU; omega) (C.2.2.2.1.O C.2.1 K2) I (by omega) (fun m hm => absurd hm (Nat.not_lt_zero m))
        refine ⟨h3, ?_, (K2.trans K3).mono PO_PQ⟩
        simp (disch := omega) only [lI, lJ, gd_1, bd_1, bv_1, nm_1, ixN, inbN, eqN, leN, ltN, eqL, leL, ltL, beqN, beqL, nI_add, pk_mul, lN_add, lN_mul, nI_l, lN_i, pk_div, pk_lDiv, pk_sub, lN_sub, remN, remL, neg1, neg2, negL, negL2, M1e, M1f, M1g, M1h, M1i, M1j, M2e, M2f, L1g, L1h, L1i, L1j, les_eq, les_e, les_n, les_m, cond_true, cond_false, if_true, if_false, fX8_refuse, fX8_allow, fX8_allow_, Nat.not_lt_zero, Nat.reduceAdd, Nat.reduceLT, Nat.reduceLeDiff, Nat.reduceEqDiff, decide_false, decide_true, Bool.not_false, Bool.not_true, C.1, k, fX8_meetsIn, e1, e3, fX3_firstMeeting, e5, e6]
      · have Mg' := Mg
        obtain ⟨a1, M1, -, Qm, -, -⟩ := Mg
        obtain ⟨g1, e5, Q1, K1, bb⟩ := mSave Qm
        have Mx : MRep g1 R := M1.keep K1 (fun k => by unfold PM3; omega)
        obtain ⟨n', g2, e6, b1, b2, b3, b4, b5⟩ := mFm Mx v W S ht hs hq (fun x4 h => bd (fX9_doMeet 181 (nI s) (nI q) h) (fun r95 h95 => bv (fX9_bringBack 181 h95) (fun h101 => bif r95 then some (x4, h101) else some (M2, h101)))) t 0 FU g1 (by omega) (by unfold FU; omega) Keep.rfl (by rw [ps_0 v W S]; exact Q1) (fun m hm => absurd hm (Nat.not_lt_zero m))
        obtain ⟨g3, e7, Q3, K3⟩ := bb g2 b3
        obtain ⟨W1, S1, t1⟩ := ps_ok v W S (show n' ≤ 600 by omega)
        have cm := mMet v b2 W1 (show s < 5 by omega) (show q < 5 by omega)
        have nsq : ¬ s = q := hsq
        refine ⟨g3, ?_, K3, Q3⟩
        rw [fo_end (P := fun n => met (ps R N T n).1 s q) b1 b4 b5]
        simp (disch := omega) only [lI, lJ, gd_1, bd_1, bv_1, nm_1, ixN, inbN, eqN, leN, ltN, eqL, leL, ltL, beqN, beqL, nI_add, pk_mul, lN_add, lN_mul, nI_l, lN_i, pk_div, pk_lDiv, pk_sub, lN_sub, remN, remL, neg1, neg2, negL, negL2, M1e, M1f, M1g, M1h, M1i, M1j, M2e, M2f, L1g, L1h, L1i, L1j, les_eq, les_e, les_n, les_m, cond_true, cond_false, if_true, if_false, fX9_no, hg, Nat.not_lt_zero, Nat.reduceAdd, Nat.reduceLT, Nat.reduceLeDiff, Nat.reduceEqDiff, decide_false, decide_true, Bool.not_false, Bool.not_true, fX9_meetsIn, (e2 g Mg').1, (e2 g Mg').2, nsq, e4, e5, e6, cm, e7]
        cases met (ps R N T n').1 s q <;> rfl
    · refine OpQ.W (opr 2 (by omega) M1 ?_ (fun h1 g Mg hg => ?_))
      · simp (disch := omega) only [lI, lJ, gd_1, bd_1, bv_1, nm_1, ixN, inbN, eqN, leN, ltN, eqL, leL, ltL, beqN, beqL, nI_add, pk_mul, lN_add, lN_mul, nI_l, lN_i, pk_div, pk_lDiv, pk_sub, lN_sub, remN, remL, neg1, neg2, negL, negL2, M1e, M1f, M1g, M1h, M1i, M1j, M2e, M2f, L1g, L1h, L1i, L1j, les_eq, les_e, les_n, les_m, cond_true, cond_false, if_true, if_false, fX8_refuse, fX8_allow, fX8_allow_, Nat.not_lt_zero, Nat.reduceAdd, Nat.reduceLT, Nat.reduceLeDiff, Nat.reduceEqDiff, decide_false, decide_true, Bool.not_false, Bool.not_true, C.1, k, fX8_meetsIn, e1, e3]
      · have nsq : ¬ s = q := hsq
        simp (disch := omega) only [lI, lJ, gd_1, bd_1, bv_1, nm_1, ixN, inbN, eqN, leN, ltN, eqL, leL, ltL, beqN, beqL, nI_add, pk_mul, lN_add, lN_mul, nI_l, lN_i, pk_div, pk_lDiv, pk_sub, lN_sub, remN, remL, neg1, neg2, negL, negL2, M1e, M1f, M1g, M1h, M1i, M1j, M2e, M2f, L1g, L1h, L1i, L1j, les_eq, les_e, les_n, les_m, cond_true, cond_false, if_true, if_false, fX9_no, hg, Nat.not_lt_zero, Nat.reduceAdd, Nat.reduceLT, Nat.reduceLeDiff, Nat.reduceEqDiff, decide_false, decide_true, Bool.not_false, Bool.not_true, fX9_meetsIn, (e2 g Mg).1, (e2 g Mg).2, nsq, e4]
  · refine OpQ.W (opr 1 (by omega) M1 ?_ (fun h1 g Mg hg => ?_))
    · simp (disch := omega) only [lI, lJ, gd_1, bd_1, bv_1, nm_1, ixN, inbN, eqN, leN, ltN, eqL, leL, ltL, beqN, beqL, nI_add, pk_mul, lN_add, lN_mul, nI_l, lN_i, pk_div, pk_lDiv, pk_sub, lN_sub, remN, remL, neg1, neg2, negL, negL2, M1e, M1f, M1g, M1h, M1i, M1j, M2e, M2f, L1g, L1h, L1i, L1j, les_eq, les_e, les_n, les_m, cond_true, cond_false, if_true, if_false, fX8_refuse, fX8_allow, fX8_allow_, Nat.not_lt_zero, Nat.reduceAdd, Nat.reduceLT, Nat.reduceLeDiff, Nat.reduceEqDiff, decide_false, decide_true, Bool.not_false, Bool.not_true, C.1, k, fX8_meetsIn, e1]
    · rcases e2 g Mg with e | ⟨e, e'⟩ | ⟨e, e', rfl⟩
      · simp (disch := omega) only [lI, lJ, gd_1, bd_1, bv_1, nm_1, ixN, inbN, eqN, leN, ltN, eqL, leL, ltL, beqN, beqL, nI_add, pk_mul, lN_add, lN_mul, nI_l, lN_i, pk_div, pk_lDiv, pk_sub, lN_sub, remN, remL, neg1, neg2, negL, negL2, M1e, M1f, M1g, M1h, M1i, M1j, M2e, M2f, L1g, L1h, L1i, L1j, les_eq, les_e, les_n, les_m, cond_true, cond_false, if_true, if_false, fX9_no, hg, Nat.not_lt_zero, Nat.reduceAdd, Nat.reduceLT, Nat.reduceLeDiff, Nat.reduceEqDiff, decide_false, decide_true, Bool.not_false, Bool.not_true, fX9_meetsIn, e]
      · simp (disch := omega) only [lI, lJ, gd_1, bd_1, bv_1, nm_1, ixN, inbN, eqN, leN, ltN, eqL, leL, ltL, beqN, beqL, nI_add, pk_mul, lN_add, lN_mul, nI_l, lN_i, pk_div, pk_lDiv, pk_sub, lN_sub, remN, remL, neg1, neg2, negL, negL2, M1e, M1f, M1g, M1h, M1i, M1j, M2e, M2f, L1g, L1h, L1i, L1j, les_eq, les_e, les_n, les_m, cond_true, cond_false, if_true, if_false, fX9_no, hg, Nat.not_lt_zero, Nat.reduceAdd, Nat.reduceLT, Nat.reduceLeDiff, Nat.reduceEqDiff, decide_false, decide_true, Bool.not_false, Bool.not_true, fX9_meetsIn, e, e']
      · simp (disch := omega) only [lI, lJ, gd_1, bd_1, bv_1, nm_1, ixN, inbN, eqN, leN, ltN, eqL, leL, ltL, beqN, beqL, nI_add, pk_mul, lN_add, lN_mul, nI_l, lN_i, pk_div, pk_lDiv, pk_sub, lN_sub, remN, remL, neg1, neg2, negL, negL2, M1e, M1f, M1g, M1h, M1i, M1j, M2e, M2f, L1g, L1h, L1i, L1j, les_eq, les_e, les_n, les_m, cond_true, cond_false, if_true, if_false, fX9_no, hg, Nat.not_lt_zero, Nat.reduceAdd, Nat.reduceLT, Nat.reduceLeDiff, Nat.reduceEqDiff, decide_false, decide_true, Bool.not_false, Bool.not_true, fX9_meetsIn, e, e']
set_option maxRecDepth 100000 in
theorem mFa {g : HH} (M : MRep g R) (v : VR R) (W : VN R N T 1200) (S : SN R N T) {t s : Nat} (ht : t ≤ 600) (hs : s < R 4) (kk : Int32 → HH → Option (Int32 × HH)) : ∀ m n fu (h : HH), n + m = t → m < fu → Keep PW g h → MNRep h (ps R N T n).1 (ps R N T n).2 → (∀ j, j < n → decide ((ps R N T j).1 (4 * s + 0) = 0) = false) → ∃ n' g', lq1 (fX9_awakeIn_L28 kk 181 (nI s) (nI t)) fu (nI n) h = kk (nI n') g' ∧ n' ≤ t ∧ MNRep g' (ps R N T n').1 (ps R N T n').2 ∧ Keep PW g g' ∧ (∀ j, j < n' → decide ((ps R N T j).1 (4 * s + 0) = 0) = false) ∧ (n' = t ∨ decide ((ps R N T n').1 (4 * s + 0) = 0) = true) := by
  have vS := v.S
  have vF := v.F
  have vb := v.bt
  intro m
  induction m with
  | zero =>
    intro n fu h e hfu K Q hp
    obtain ⟨fu, rfl⟩ : ∃ q, fu = q + 1 := ⟨fu - 1, by omega⟩
    have n1 : t ≤ n := by omega
    refine ⟨n, h, ?_, by omega, Q, K, hp, Or.inl (by omega)⟩
    simp (disch := omega) only [lq1, fX9_awakeIn_L28, leN, n1, if_true]
  | succ m ih =>
    intro n fu h e hfu K Q hp
    obtain ⟨fu, rfl⟩ : ∃ q, fu = q + 1 := ⟨fu - 1, by omega⟩
    have n1 : ¬ t ≤ n := by omega
    obtain ⟨W1, S1, t1⟩ := ps_ok v W S (show n ≤ 600 by omega)
    have w := (W1.2.1 s (by omega)).1
    by_cases hm2 : (ps R N T n).1 (4 * s + 0) = 0
    · have n2 : (ps R N T n).1 (4 * s + 0) ≤ 0 := by omega
      refine ⟨n, h, ?_, by omega, Q, K, hp, Or.inr (decide_eq_true hm2)⟩
      simp (disch := omega) only [lI, bd_1, lq1, fX9_awakeIn_L28, leN, n1, if_false, mIts Q, n2, if_true]
    · have n2 : ¬ (ps R N T n).1 (4 * s + 0) ≤ 0 := by omega
      obtain ⟨h2, e2, Q2, K2⟩ := mMin (M.W K) v W S (show n + 1 ≤ 600 by omega) Q
      obtain ⟨n', g', e3, a1, a2, a3, a4, a5⟩ := ih (n + 1) fu h2 (by omega) (by omega) (K.trans K2) Q2 (fun j hj => by
        by_cases z : j < n
        · exact hp j z
        · have : j = n := by omega
          rw [this]; exact decide_eq_false hm2)
      refine ⟨n', g', ?_, a1, a2, a3, a4, a5⟩
      have q0 := Q.2 0 (by omega)
      rw [t1] at q0
      rw [← e3]
      simp (disch := omega) only [lI, gd_1, bd_1, bv_1, inbN, ixN, nI_add, nI_l, lN_add, lq1, fX9_awakeIn_L28, leN, n1, if_false, mIts Q, n2, Nat.reduceAdd, q0, mBottom (M.W K) v, e2]
set_option maxRecDepth 100000 in
theorem oAwakeIn (C : CA h d R N T) (x y : Int32) : OpW R N T h (fX8_awakeIn 0 x y h) (fun h1 => fX9_awakeIn 181 x y h1) := by
  have k := isKb_D C.2.1
  have v := C.2.2.2.2.1
  have vS := v.S
  have vF := v.F
  rcases whC C x y with ⟨s, t, hs, ht, rfl, rfl, e1, e2⟩ | ⟨w, hw, e1, e2⟩
  · have W := C.2.2.2.2.2.2.1
    have S := C.2.2.2.2.2.2.2
    refine opw (fo (fst (fun n => decide ((ps R N T n).1 (4 * s + 0) = 0)) (t + 1))) ?_ (fun h1 g Mg hg => ?_)
    · obtain ⟨h2, l, e5, I, K2⟩ := cBegin C ht
      have hm := mu_le v (ps R N T 0)
      obtain ⟨h3, e6, K3⟩ := cFa C.2.1 v W S ht hs 29 0 FU 0 l h2 (by omega) (by unfold FU; omega) (C.2.2.2.1.O C.2.1 K2) I (by omega) (fun m hm => absurd hm (Nat.not_lt_zero m))
      refine ⟨h3, ?_, (K2.trans K3).mono PO_PQ⟩
      simp (disch := omega) only [lI, lJ, gd_1, bd_1, bv_1, nm_1, ixN, inbN, eqN, leN, ltN, eqL, leL, ltL, beqN, beqL, nI_add, pk_mul, lN_add, lN_mul, nI_l, lN_i, pk_div, pk_lDiv, pk_sub, lN_sub, remN, remL, neg1, neg2, negL, negL2, M1e, M1f, M1g, M1h, M1i, M1j, M2e, M2f, L1g, L1h, L1i, L1j, les_eq, les_e, les_n, les_m, cond_true, cond_false, if_true, if_false, fX8_refuse, fX8_allow, fX8_allow_, Nat.not_lt_zero, Nat.reduceAdd, Nat.reduceLT, Nat.reduceLeDiff, Nat.reduceEqDiff, decide_false, decide_true, Bool.not_false, Bool.not_true, C.1, k, fX8_awakeIn, e1, fX3_firstAwake, e5, e6]
    · have Mg' := Mg
      obtain ⟨a1, M1, -, Qm, -, -⟩ := Mg
      obtain ⟨g1, e5, Q1, K1, bb⟩ := mSave Qm
      have M2' : MRep g1 R := M1.keep K1 (fun k => by unfold PM3; omega)
      obtain ⟨n', g2, e6, b1, b2, b3, b4, b5⟩ := mFa M2' v W S ht hs (fun x4 h => bd (fX9_its 181 (nI s) (nI 0) h) (fun r68 h68 => if r68 = nI 0 then bv (fX9_bringBack 181 h68) (fun h82 => some (x4, h82)) else bv (fX9_bringBack 181 h68) (fun h82 => some (M2, h82)))) t 0 FU g1 (by omega) (by unfold FU; omega) Keep.rfl (by rw [ps_0 v W S]; exact Q1) (fun m hm => absurd hm (Nat.not_lt_zero m))
      obtain ⟨g3, e7, Q3, K3⟩ := bb g2 b3
      obtain ⟨W1, S1, t1⟩ := ps_ok v W S (show n' ≤ 600 by omega)
      have w := (W1.2.1 s (by omega)).1
      refine ⟨g3, ?_, K3, Q3⟩
      rw [fo_end (P := fun n => decide ((ps R N T n).1 (4 * s + 0) = 0)) b1 b4 b5]
      by_cases c : (ps R N T n').1 (4 * s + 0) = 0
      · simp (disch := omega) only [lI, lJ, gd_1, bd_1, bv_1, nm_1, ixN, inbN, eqN, leN, ltN, eqL, leL, ltL, beqN, beqL, nI_add, pk_mul, lN_add, lN_mul, nI_l, lN_i, pk_div, pk_lDiv, pk_sub, lN_sub, remN, remL, neg1, neg2, negL, negL2, M1e, M1f, M1g, M1h, M1i, M1j, M2e, M2f, L1g, L1h, L1i, L1j, les_eq, les_e, les_n, les_m, cond_true, cond_false, if_true, if_false, fX9_no, hg, Nat.not_lt_zero, Nat.reduceAdd, Nat.reduceLT, Nat.reduceLeDiff, Nat.reduceEqDiff, decide_false, decide_true, Bool.not_false, Bool.not_true, fX9_awakeIn, e2 g Mg', e5, e6, mIts b2, eq_true c, e7]
      · simp (disch := omega) only [lI, lJ, gd_1, bd_1, bv_1, nm_1, ixN, inbN, eqN, leN, ltN, eqL, leL, ltL, beqN, beqL, nI_add, pk_mul, lN_add, lN_mul, nI_l, lN_i, pk_div, pk_lDiv, pk_sub, lN_sub, remN, remL, neg1, neg2, negL, negL2, M1e, M1f, M1g, M1h, M1i, M1j, M2e, M2f, L1g, L1h, L1i, L1j, les_eq, les_e, les_n, les_m, cond_true, cond_false, if_true, if_false, fX9_no, hg, Nat.not_lt_zero, Nat.reduceAdd, Nat.reduceLT, Nat.reduceLeDiff, Nat.reduceEqDiff, decide_false, decide_true, Bool.not_false, Bool.not_true, fX9_awakeIn, e2 g Mg', e5, e6, mIts b2, c, e7]
  · have w0 : ¬ w = 0 := by omega
    refine OpQ.W (opr w (by omega) M1 ?_ (fun h1 g Mg hg => ?_))
    · simp (disch := omega) only [lI, lJ, gd_1, bd_1, bv_1, nm_1, ixN, inbN, eqN, leN, ltN, eqL, leL, ltL, beqN, beqL, nI_add, pk_mul, lN_add, lN_mul, nI_l, lN_i, pk_div, pk_lDiv, pk_sub, lN_sub, remN, remL, neg1, neg2, negL, negL2, M1e, M1f, M1g, M1h, M1i, M1j, M2e, M2f, L1g, L1h, L1i, L1j, les_eq, les_e, les_n, les_m, cond_true, cond_false, if_true, if_false, fX8_refuse, fX8_allow, fX8_allow_, Nat.not_lt_zero, Nat.reduceAdd, Nat.reduceLT, Nat.reduceLeDiff, Nat.reduceEqDiff, decide_false, decide_true, Bool.not_false, Bool.not_true, C.1, k, fX8_awakeIn, e1, w0]
    · simp (disch := omega) only [lI, lJ, gd_1, bd_1, bv_1, nm_1, ixN, inbN, eqN, leN, ltN, eqL, leL, ltL, beqN, beqL, nI_add, pk_mul, lN_add, lN_mul, nI_l, lN_i, pk_div, pk_lDiv, pk_sub, lN_sub, remN, remL, neg1, neg2, negL, negL2, M1e, M1f, M1g, M1h, M1i, M1j, M2e, M2f, L1g, L1h, L1i, L1j, les_eq, les_e, les_n, les_m, cond_true, cond_false, if_true, if_false, fX9_no, hg, Nat.not_lt_zero, Nat.reduceAdd, Nat.reduceLT, Nat.reduceLeDiff, Nat.reduceEqDiff, decide_false, decide_true, Bool.not_false, Bool.not_true, fX9_awakeIn, e2 g Mg, w0]
end OUT
