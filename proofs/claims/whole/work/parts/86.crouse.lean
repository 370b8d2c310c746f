/-! TOGETHER, the class -/
def PR6 (b k : Nat) : Prop := ¬ (31 ≤ b ∧ b ≤ 38)
def PT4 (b k : Nat) : Prop := b ≠ 34
section CRS
variable {h : HH} {d : Nat} {R N T : Nat → Nat}
set_option maxRecDepth 100000 in
theorem kpR1 {h h' : HH} (K : Keep PR6 h h') {b k : Nat} {v : Int32} (h1 : 31 ≤ b) (h2 : b ≤ 38) : Keep PR6 h (sI h' b k v) := Keep.sI K (fun z => z ⟨h1, h2⟩)
set_option maxRecDepth 100000 in
theorem DRep.R6 {h h' : HH} (D : DRep h d R) (hD : isD d) (K : Keep PR6 h h') : DRep h' d R := D.keep K (fun b k h1 h2 z => by rcases hD with e | e <;> omega)
set_option maxRecDepth 100000 in
theorem cRatioX (D : DRep h d R) (v : VR R) {fl : Nat} (h1 : R 0 < fl) (h4 : fl ≤ 4) : fX0_ratio d (nI 0) (nI fl) h = some (nI 1, h) := by
  have vF := v.F
  simp (disch := omega) only [lI, ltN, fX0_ratio, D.2.2.1.1, Nat.not_lt_zero, if_false, h1, if_true]
set_option maxRecDepth 100000 in
theorem cBrT (D : DRep h d R) (hD : isD d) (v : VR R) {s fl st : Nat} (hs : s < R 4) (h1 : 1 ≤ fl) (h4 : fl ≤ 4) (hst : st ≤ 9) : ∃ x, fX0_floorBehind d (nI s) (nI fl) (nI 0) (nI st) h = some (x, h) ∧ (fl ≤ R 0 → x = nI (br R s fl 0 st)) := by
  by_cases c : fl ≤ R 0
  · exact ⟨_, cBr D hD v hs (show 0 < fl by omega) c (by omega), fun _ => rfl⟩
  · have vF := v.F
    have vS := v.2.2.1 s hs
    have d0 := (D.2.2.2.2.1 s hs).1 0 (by omega)
    have d1 := (D.2.2.2.2.1 s hs).1 1 (by omega)
    have hk : 0 < fl := by omega
    have rx := cRatioX D v (fl := fl) (by omega) h4
    have n9 : ¬ fl < R 0 := by omega
    have b60 : ∀ x5 x6, ∃ x, fX0_floorBehind_b60 d (nI fl) (nI 0) (nI st) x5 x6 h = some (x, h) := by
      intro x5 x6
      simp only [fX0_floorBehind_b60, rx, bd_1]
      split
      · split
        · exact ⟨_, rfl⟩
        · exact ⟨_, rfl⟩
      · exact ⟨_, rfl⟩
    have b38 : ∀ x5 s0 s1, ∃ x, fX0_floorBehind_b38 d (nI fl) (nI 0) (nI st) x5 s0 s1 h = some (x, h) := by
      intro x5 s0 s1
      simp only [fX0_floorBehind_b38, fX0_floorBehind_b59, nm_1]
      split
      · split
        · exact b60 _ _
        · exact ⟨_, rfl⟩
      · exact b60 _ _
    have al : ∃ x, fX0_floorBehind d (nI s) (nI fl) (nI 0) (nI st) h = some (x, h) := by
      simp (disch := omega) only [lI, bd_1, ltN, fX0_floorBehind, hk, if_true, cSl D hD v hs, d0, d1]
      split
      · exact b38 _ _ _
      · exact b38 _ _ _
    obtain ⟨x, hx⟩ := al
    exact ⟨x, hx, fun z => absurd z c⟩
/-! the table -/
def TBL (h : HH) (R : Nat → Nat) (b m fl st : Nat) : Prop := ∀ m' fl' st', m' < sz b → 1 ≤ fl' → fl' ≤ R 0 → 1 ≤ st' → st' ≤ 9 → (m' < m ∨ (m' = m ∧ (fl' < fl ∨ (fl' = fl ∧ st' < st)))) → gI h 34 ((m' * 4 + fl' - 1) * 10 + st') = nI (br R (mem b m') fl' 0 st')
set_option maxRecDepth 100000 in
theorem cTryK (D : DRep h d R) (hD : isD d) (v : VR R) {b : Nat} (hb : b < 2 ^ R 4) (g8 : gI h 31 8 = nI (sz b)) (gm : ∀ m, m < sz b → gI h 33 m = nI (mem b m)) : ∃ h', fX6_tryKnocks 31 d h = some h' ∧ TBL h' R b (sz b) 1 1 ∧ Keep PT4 h h' := by
  have vF := v.F
  have vS := v.S
  have hb32 : b < 32 := Nat.lt_of_lt_of_le hb (Nat.le_trans (Nat.pow_le_pow_right (by omega) vS.2) (by decide))
  obtain ⟨r5, r52, r53⟩ := rk_5 b hb32
  have DD : ∀ g, Keep PT4 h g → DRep g d R := fun g K => D.keep K (fun b k h1 h2 => by rcases hD with e | e <;> (unfold PT4; omega))
  have l3 : ∀ (kk : HH → Option HH) m fl n st f (g : HH), m < sz b → 1 ≤ fl → fl ≤ 4 → st + n = 10 → 1 ≤ st → n < f → Keep PT4 h g → TBL g R b m fl st → ∃ h', lq1 (fX6_tryKnocks_L20 kk 31 d (nI m) (nI fl)) f (nI st) g = kk h' ∧ TBL h' R b m (fl + 1) 1 ∧ Keep PT4 h h' := by
    intro kk m fl n
    induction n with
    | zero =>
      intro st f g hm h1 h4 e hst hf K Tb
      obtain ⟨f, rfl⟩ : ∃ q, f = q + 1 := ⟨f - 1, by omega⟩
      have n1 : 9 < st := by omega
      refine ⟨g, ?_, fun m' fl' st' a1 a2 a3 a4 a5 a6 => Tb m' fl' st' a1 a2 a3 a4 a5 (by omega), K⟩
      simp (disch := omega) only [lI, lq1, fX6_tryKnocks_L20, ltN, n1, if_true]
    | succ n ih =>
      intro st f g hm h1 h4 e hst hf K Tb
      obtain ⟨f, rfl⟩ : ∃ q, f = q + 1 := ⟨f - 1, by omega⟩
      have n1 : ¬ 9 < st := by omega
      obtain ⟨m1, m2, m3⟩ := mem_ok b hb32 m (by omega) hm
      obtain ⟨x, e1, e2⟩ := cBrT (DD g K) hD v (s := mem b m) (fl := fl) (st := st) (bb_lt hb m2) h1 h4 (by omega)
      have gm' : gI g 33 m = nI (mem b m) := (K 33 m (by unfold PT4; omega)).1.trans (gm m hm)
      obtain ⟨g3, e3, r3⟩ := ih (st + 1) f (sI g 34 ((m * 4 + fl - 1) * 10 + st) x) hm h1 h4 (by omega) (by omega) (by omega) (Keep.sI K (fun z => z rfl)) (fun m' fl' st' a1 a2 a3 a4 a5 a6 => by
        by_cases z : m' = m ∧ fl' = fl ∧ st' = st
        · obtain ⟨rfl, rfl, rfl⟩ := z
          rw [gIs]; exact e2 a3
        · rw [gIk (by omega)]
          exact Tb m' fl' st' a1 a2 a3 a4 a5 (by omega))
      refine ⟨g3, ?_, r3⟩
      simp (disch := omega) only [lI, gd_1, bd_1, inbN, ixN, pk_mul, nI_add, pk_sub, lq1, fX6_tryKnocks_L20, fX6_place, ltN, n1, if_false, Nat.reduceAdd, gm', e1]
      exact e3
  have l2 : ∀ (kk : HH → Option HH) m n fl f (g : HH), m < sz b → fl + n = 5 → 1 ≤ fl → n < f → Keep PT4 h g → TBL g R b m fl 1 → ∃ h', lq1 (fX6_tryKnocks_L12 kk 31 d (nI m)) f (nI fl) g = kk h' ∧ TBL h' R b (m + 1) 1 1 ∧ Keep PT4 h h' := by
    intro kk m n
    induction n with
    | zero =>
      intro fl f g hm e h1 hf K Tb
      obtain ⟨f, rfl⟩ : ∃ q, f = q + 1 := ⟨f - 1, by omega⟩
      have n1 : 4 < fl := by omega
      refine ⟨g, ?_, fun m' fl' st' a1 a2 a3 a4 a5 a6 => Tb m' fl' st' a1 a2 a3 a4 a5 (by omega), K⟩
      simp (disch := omega) only [lI, lq1, fX6_tryKnocks_L12, ltN, n1, if_true]
    | succ n ih =>
      intro fl f g hm e h1 hf K Tb
      obtain ⟨f, rfl⟩ : ∃ q, f = q + 1 := ⟨f - 1, by omega⟩
      have n1 : ¬ 4 < fl := by omega
      obtain ⟨g2, e2, T2, K2⟩ := l3 (fun h => lq1 (fX6_tryKnocks_L12 kk 31 d (nI m)) f (nI fl + nI 1) h) m fl 9 1 FU g hm h1 (by omega) (by omega) (by omega) (by unfold FU; omega) K Tb
      obtain ⟨g3, e3, r3⟩ := ih (fl + 1) f g2 hm (by omega) (by omega) (by omega) K2 T2
      refine ⟨g3, ?_, r3⟩
      rw [← e3, ← nI_add]
      simp (disch := omega) only [lI, lq1, fX6_tryKnocks_L12, ltN, n1, if_false]
      exact e2
  have l1 : ∀ n m f (g : HH), m + n = sz b → n < f → Keep PT4 h g → TBL g R b m 1 1 → ∃ h', lq1 (fX6_tryKnocks_L2 31 d) f (nI m) g = some h' ∧ TBL h' R b (sz b) 1 1 ∧ Keep PT4 h h' := by
    intro n
    induction n with
    | zero =>
      intro m f g e hf K Tb
      obtain ⟨f, rfl⟩ : ∃ q, f = q + 1 := ⟨f - 1, by omega⟩
      have n1 : sz b ≤ m := by omega
      have g8' : gI g 31 8 = nI (sz b) := (K 31 8 (by unfold PT4; omega)).1.trans g8
      have : m = sz b := by omega
      refine ⟨g, ?_, by rw [← this]; exact Tb, K⟩
      simp (disch := omega) only [lq1, fX6_tryKnocks_L2, g8', leN, n1, if_true]
    | succ n ih =>
      intro m f g e hf K Tb
      obtain ⟨f, rfl⟩ : ∃ q, f = q + 1 := ⟨f - 1, by omega⟩
      have n1 : ¬ sz b ≤ m := by omega
      have g8' : gI g 31 8 = nI (sz b) := (K 31 8 (by unfold PT4; omega)).1.trans g8
      obtain ⟨g2, e2, T2, K2⟩ := l2 (fun h => lq1 (fX6_tryKnocks_L2 31 d) f (nI m + nI 1) h) m 4 1 FU g (by omega) (by omega) (by omega) (by unfold FU; omega) K Tb
      obtain ⟨g3, e3, r3⟩ := ih (m + 1) f g2 (by omega) (by omega) K2 T2
      refine ⟨g3, ?_, r3⟩
      rw [← e3, ← nI_add]
      simp (disch := omega) only [lI, lq1, fX6_tryKnocks_L2, g8', leN, n1, if_false]
      exact e2
  exact l1 (sz b) 0 FU h (by omega) (by unfold FU; omega) Keep.rfl (fun m' fl' st' a1 a2 a3 a4 a5 a6 => by omega)
/-! behind a knock -/
set_option maxRecDepth 100000 in
theorem cf_all {P : Nat → Bool} : ∀ n, cf P n = n ↔ ∀ j, j < n → P j = true := by
  intro n
  induction n with
  | zero => exact ⟨fun _ j hj => by omega, fun _ => rfl⟩
  | succ n ih =>
    have hl := cf_le P n
    show cf P n + (if P n then 1 else 0) = n + 1 ↔ _
    constructor
    · intro h j hj
      cases hp : P n with
      | false => rw [hp] at h; simp at h; omega
      | true =>
        rw [hp, if_pos rfl] at h
        by_cases e : j = n
        · subst e; exact hp
        · exact ih.mp (by omega) j (by omega)
    · intro h
      rw [h n (by omega), if_pos rfl, ih.mpr (fun j hj => h j (by omega))]
set_option maxRecDepth 100000 in
theorem kc_zero {R : Nat → Nat} {b c st : Nat} (hb : b < 32) (h5 : R 4 ≤ 5) (hB : b < 2 ^ R 4) (w : wfc R b c) : (cf (fun j => decide (ndg R b c st (mem b j) = 0)) (sz b) = sz b ↔ kc R b c st = 0) ∧ (cf (fun j => decide (ndg R b c st (mem b j) = 0)) (sz b) ≤ 0 ↔ slp R b (kc R b c st) = true) := by
  obtain ⟨r5, r52, r53⟩ := rk_5 b hb
  constructor
  · rw [cf_all]
    constructor
    · intro h
      refine dig_ext (show 0 < 5 by omega) (R 4) _ _ (kc_lt R b c st) (Nat.pow_pos (by omega)) (fun s hs => ?_)
      rw [Nat.zero_div, Nat.zero_mod]
      show dg (kc R b c st) s = 0
      rw [kc_dg hs]
      by_cases z : bb b s
      · obtain ⟨m1, m2⟩ := rk_mem b hb s (by omega) z
        have := of_decide_eq_true (h (rk b s) m2)
        rw [m1] at this; exact this
      · have a := ndg_le R b c st s
        have := (w.2 s hs).2 z
        omega
    · intro h j hj
      obtain ⟨m1, m2, m3⟩ := mem_ok b hb j (by omega) hj
      refine decide_eq_true ?_
      rw [← kc_dg (bb_lt hB m2), h]
      show 0 / _ % 5 = 0
      rw [Nat.zero_div]
  · constructor
    · intro h
      refine decide_eq_true (fun s hs z => ?_)
      rw [kc_dg hs]
      obtain ⟨m1, m2⟩ := rk_mem b hb s (by omega) z
      rcases Nat.eq_zero_or_pos (ndg R b c st s) with y | y
      · have := (cf_pos (P := fun j => decide (ndg R b c st (mem b j) = 0)) (sz b)).mpr ⟨rk b s, m2, decide_eq_true (by rw [m1]; exact y)⟩
        omega
      · exact y
    · intro h
      rcases Nat.lt_or_ge 0 (cf (fun j => decide (ndg R b c st (mem b j) = 0)) (sz b)) with y | y
      · obtain ⟨j, j1, j2⟩ := (cf_pos _).mp y
        have j3 := of_decide_eq_true j2
        obtain ⟨m1, m2, m3⟩ := mem_ok b hb j (by omega) j1
        have := of_decide_eq_true h (mem b j) (bb_lt hB m2) m2
        rw [kc_dg (bb_lt hB m2)] at this
        omega
      · exact y
set_option maxRecDepth 100000 in
theorem cBk (v : VR R) {b c st : Nat} (hB : b < 2 ^ R 4) (w : wfc R b c) (g8 : gI h 31 8 = nI (sz b)) (Tb : TBL h R b (sz b) 1 1) (h1 : 1 ≤ st) (h9 : st ≤ 9) : fX6_behindKnock 31 (nI (cc b c)) (nI st) h = some (if kc R b c st = 0 then M1 else if slp R b (kc R b c st) then nI (cc b (kc R b c st)) else M2, h) := by
  have vF := v.F
  have vS := v.S
  have hb : b < 32 := Nat.lt_of_lt_of_le hB (Nat.le_trans (Nat.pow_le_pow_right (by omega) vS.2) (by decide))
  obtain ⟨r5, r52, r53⟩ := rk_5 b hb
  have hcc := cc_lt (c := c) hb
  obtain ⟨kz, ks⟩ := kc_zero (st := st) hb vS.2 hB w
  have ecc : sg 4 (fun j => ndg R b c st (mem b j) - 1) (sz b) = cc b (kc R b c st) := sg_congr (sz b) (fun j hj => by
    obtain ⟨m1, m2, m3⟩ := mem_ok b hb j (by omega) hj
    show ndg R b c st (mem b j) - 1 = dg (kc R b c st) (mem b j) - 1
    rw [kc_dg (bb_lt hB m2)])
  have main : ∀ n m f, m + n = sz b → n < f → lq3 (fX6_behindKnock_L8 (fun x3 x4 h => if x4 = gI h 31 8 then some (M1, h) else if x4 ≤ nI 0 then some (x3, h) else some (M2, h)) 31 (nI (cc b c)) (nI st)) f (nI (sg 4 (fun j => ndg R b c st (mem b j) - 1) m)) (nI (cf (fun j => decide (ndg R b c st (mem b j) = 0)) m)) (nI m) h = some (if kc R b c st = 0 then M1 else if slp R b (kc R b c st) then nI (cc b (kc R b c st)) else M2, h) := by
    intro n
    induction n with
    | zero =>
      intro m f e hf
      obtain ⟨f, rfl⟩ : ∃ q, f = q + 1 := ⟨f - 1, by omega⟩
      have n1 : sz b ≤ m := by omega
      have : m = sz b := by omega
      subst this
      rw [ecc]
      have hcl := cf_le (fun j => decide (ndg R b c st (mem b j) = 0)) (sz b)
      simp (disch := omega) only [lq3, fX6_behindKnock_L8, g8, leN, n1, if_true, eqN]
      by_cases c1 : kc R b c st = 0
      · rw [if_pos c1, if_pos (kz.mpr c1)]
      · rw [if_neg c1, if_neg (fun z => c1 (kz.mp z))]
        by_cases c2 : slp R b (kc R b c st) = true
        · rw [if_pos c2, if_pos (ks.mpr c2)]
        · rw [if_neg c2, if_neg (fun z => c2 (ks.mp z))]
    | succ n ih =>
      intro m f e hf
      obtain ⟨f, rfl⟩ : ∃ q, f = q + 1 := ⟨f - 1, by omega⟩
      have n1 : ¬ sz b ≤ m := by omega
      have hm : m < sz b := by omega
      obtain ⟨m1, m2, m3⟩ := mem_ok b hb m (by omega) hm
      have hs := bb_lt hB m2
      have wd := (w.2 (mem b m) hs).1 m2
      have dig := cc_dig (c := c) hm
      have e1 : cc b c / 4 ^ m % 4 + 1 = dg c (mem b m) := by omega
      have tb := Tb m (dg c (mem b m)) st hm wd.1 wd.2 h1 h9 (Or.inl hm)
      have en : ndg R b c st (mem b m) = br R (mem b m) (dg c (mem b m)) 0 st := if_pos ⟨m2, by omega⟩
      rw [← en] at tb
      have hnl := ndg_lt R b c st (mem b m)
      have hd5 := dg_lt c (mem b m)
      have key := ih (m + 1) f (by omega) (by omega)
      have es : sg 4 (fun j => ndg R b c st (mem b j) - 1) (m + 1) = sg 4 (fun j => ndg R b c st (mem b j) - 1) m + 4 ^ m * (ndg R b c st (mem b m) - 1) := rfl
      have ec : cf (fun j => decide (ndg R b c st (mem b j) = 0)) (m + 1) = cf (fun j => decide (ndg R b c st (mem b j) = 0)) m + (if decide (ndg R b c st (mem b m) = 0) then 1 else 0) := rfl
      rw [es, ec] at key
      have hsl : sg 4 (fun j => ndg R b c st (mem b j) - 1) m < 4 ^ m := sg_lt m (fun i _ => by have := ndg_lt R b c st (mem b i); show ndg R b c st (mem b i) - 1 < 4; omega)
      generalize sg 4 (fun j => ndg R b c st (mem b j) - 1) m = X at key hsl ⊢
      generalize cf (fun j => decide (ndg R b c st (mem b j) = 0)) m = Y at key ⊢
      by_cases c1 : ndg R b c st (mem b m) = 0
      · rw [c1, decide_eq_true rfl, if_pos rfl, Nat.zero_sub, Nat.mul_zero, Nat.add_zero] at key
        rw [c1] at tb
        simp (disch := omega) only [lI, gd_1, bd_1, nm_1, inbN, ixN, pk_mul, nI_add, ex4, e1, pk_sub, lq3, fX6_behindKnock_L8, fX6_place, g8, leN, n1, if_false, Nat.reduceAdd, tb, if_true]
        exact key
      · rw [decide_eq_false c1, if_neg (fun z => by cases z), Nat.add_zero] at key
        simp (disch := omega) only [lI, gd_1, bd_1, nm_1, inbN, ixN, pk_mul, nI_add, ex4, e1, pk_sub, lq3, fX6_behindKnock_L8, fX6_place, g8, leN, n1, if_false, Nat.reduceAdd, tb, eqN, c1, or4 hsl]
        exact key
  exact main (sz b) 0 FU (by omega) (by unfold FU; omega)
/-! the class's cells of the search -/
def CBr (h : HH) (R : Nat → Nat) (b q : Nat) (A : BS) : Prop := gI h 31 7 = nI q ∧ gI h 31 8 = nI (sz b) ∧ gI h 31 9 = nI A.1 ∧ (∀ i, i < A.1 → gI h 35 i = nI (cc b (A.2.1 i)) ∧ (1 ≤ i → gI h 36 i = nI (A.2.2.1 i) ∧ gI h 37 i = nI (A.2.2.2.1 i))) ∧ (∀ x, x < 1024 → ∃ m, m ≤ q ∧ gI h 38 x = nI m ∧ (m = q ↔ ∃ i, i < A.1 ∧ cc b (A.2.1 i) = x)) ∧ TBL h R b (sz b) 1 1
set_option maxRecDepth 100000 in
theorem cEnq1 {b q x : Nat} {A : BS} (C : CBr h R b q A) (hq : q < 2 ^ 30) (hL : A.1 ≤ 1024) (hx : x < 1024) (hin : ∃ i, i < A.1 ∧ cc b (A.2.1 i) = x) (y z : Int32) : fX6_enqueue 31 (nI x) y z h = some h := by
  obtain ⟨c1, c2, c3, c4, c5, c6⟩ := C
  obtain ⟨m, m1, m2, m3⟩ := c5 x hx
  have := m3.mpr hin
  subst this
  have n0 : ¬ 1024 ≤ x := by omega
  by_cases n1 : 1024 ≤ A.1
  · simp (disch := omega) only [lI, gd_1, inbN, ixN, fX6_enqueue, ltN, Nat.not_lt_zero, if_false, leN, n0, c3, n1, if_true]
  · simp (disch := omega) only [lI, gd_1, inbN, ixN, fX6_enqueue, ltN, Nat.not_lt_zero, if_false, leN, n0, c3, n1, Nat.reduceAdd, m2, c1, if_true]
set_option maxRecDepth 100000 in
theorem cEnq2 {b q at' st c : Nat} {A : BS} (C : CBr h R b q A) (hb : b < 32) (hq : q < 2 ^ 30) (hL : A.1 < 1024) (hni : ∀ i, i < A.1 → cc b (A.2.1 i) ≠ cc b c) {y : Int32} (hy : 1 ≤ A.1 → y = nI at') : ∃ h', fX6_enqueue 31 (nI (cc b c)) y (nI st) h = some h' ∧ CBr h' R b q (adB at' st c A) ∧ Keep PR6 h h' := by
  obtain ⟨c1, c2, c3, c4, c5, c6⟩ := C
  have hx := cc_lt (c := c) hb
  obtain ⟨m, m1, m2, m3⟩ := c5 (cc b c) hx
  have nm : ¬ m = q := fun z => by
    obtain ⟨i, i1, i2⟩ := m3.mp z
    exact hni i i1 i2
  have n0 : ¬ 1024 ≤ cc b c := by omega
  have n1 : ¬ 1024 ≤ A.1 := by omega
  refine ⟨sI (sI (sI (sI (sI h 38 (cc b c) (nI q)) 35 A.1 (nI (cc b c))) 36 A.1 y) 37 A.1 (nI st)) 31 9 (nI (A.1 + 1)), ?_, ⟨?_, ?_, ?_, fun i hi => ?_, fun x hx2 => ?_, fun m' fl' st' a1 a2 a3 a4 a5 a6 => ?_⟩, kpR1 (kpR1 (kpR1 (kpR1 (kpR1 Keep.rfl (by omega) (by omega)) (by omega) (by omega)) (by omega) (by omega)) (by omega) (by omega)) (by omega) (by omega)⟩
  · simp (disch := omega) only [lI, gd_1, nm_1, inbN, ixN, fX6_enqueue, ltN, Nat.not_lt_zero, if_false, leN, n0, c3, n1, Nat.reduceAdd, m2, c1, eqN, nm, gIa, nI_add]
  · simp (disch := omega) only [gIa, gIk]; exact c1
  · simp (disch := omega) only [gIa, gIk]; exact c2
  · simp (disch := omega) only [gIs]; rfl
  · show gI _ 35 i = nI (cc b (up A.2.1 A.1 c i)) ∧ (1 ≤ i → gI _ 36 i = nI (up A.2.2.1 A.1 at' i) ∧ gI _ 37 i = nI (up A.2.2.2.1 A.1 st i))
    have hi2 : i < A.1 + 1 := hi
    by_cases e : i = A.1
    · rw [e, up_s, up_s, up_s]
      refine ⟨?_, fun z => ⟨?_, ?_⟩⟩
      · simp (disch := omega) only [gIa, gIs]
      · simp (disch := omega) only [gIa, gIs]; exact hy z
      · simp (disch := omega) only [gIa, gIs]
    · rw [up_o e, up_o e, up_o e]
      simp (disch := omega) only [gIa, gIk]
      exact c4 i (by omega)
  · simp (disch := omega) only [gIa]
    by_cases e : x = cc b c
    · rw [e, gIs]
      refine ⟨q, Nat.le_refl _, rfl, fun _ => ⟨A.1, ?_, ?_⟩, fun _ => rfl⟩
      · show A.1 < A.1 + 1; omega
      · show cc b (up A.2.1 A.1 c A.1) = _; rw [up_s]
    · rw [gIk e]
      obtain ⟨m', p1, p2, p3⟩ := c5 x hx2
      refine ⟨m', p1, p2, p3.trans ⟨fun ⟨i, i1, i2⟩ => ⟨i, ?_, ?_⟩, fun ⟨i, i1, i2⟩ => ?_⟩⟩
      · show i < A.1 + 1; omega
      · show cc b (up A.2.1 A.1 c i) = _; rw [up_o (by omega)]; exact i2
      · have i1' : i < A.1 + 1 := i1
        have i2' : cc b (up A.2.1 A.1 c i) = x := i2
        by_cases z : i = A.1
        · rw [z, up_s] at i2'; exact absurd i2'.symm e
        · rw [up_o z] at i2'; exact ⟨i, by omega, i2'⟩
  · simp (disch := omega) only [gIa]
    exact c6 m' fl' st' a1 a2 a3 a4 a5 a6
/-! the row of knocks -/
def an (P : Nat → Nat) (i : Nat) : Nat → Nat
  | 0 => i
  | j + 1 => P (an P i j)
set_option maxRecDepth 100000 in
theorem an_ok {R : Nat → Nat} {b : Nat} {A : BS} (W : WB R b A) {at' : Nat} (ha : at' < A.1) : ∀ j, j ≤ A.2.2.2.2 at' → an A.2.2.1 at' j < A.1 ∧ A.2.2.2.2 (an A.2.2.1 at' j) + j = A.2.2.2.2 at' ∧ (j < A.2.2.2.2 at' → 1 ≤ an A.2.2.1 at' j) := by
  obtain ⟨w1, w2, w3, w4, w5⟩ := W
  have pos : ∀ i, 0 < A.2.2.2.2 i → 1 ≤ i := fun i h => by
    rcases Nat.eq_zero_or_pos i with z | z
    · rw [z, w3] at h; omega
    · exact z
  intro j
  induction j with
  | zero => intro _; exact ⟨ha, rfl, fun z => pos _ z⟩
  | succ j ih =>
    intro hj
    obtain ⟨a1, a2, a3⟩ := ih (by omega)
    have a4 := a3 (by omega)
    have w := (w2 _ a1).2.2 a4
    show A.2.2.1 (an A.2.2.1 at' j) < A.1 ∧ A.2.2.2.2 (A.2.2.1 (an A.2.2.1 at' j)) + (j + 1) = A.2.2.2.2 at' ∧ (j + 1 < A.2.2.2.2 at' → 1 ≤ A.2.2.1 (an A.2.2.1 at' j))
    exact ⟨by omega, by omega, fun z => pos _ (by omega)⟩
def RwR (h : HH) (A : BS) (at' st : Nat) : Prop := gI h 32 (A.2.2.2.2 at') = nI st ∧ ∀ j, j < A.2.2.2.2 at' → gI h 32 (A.2.2.2.2 at' - 1 - j) = nI (A.2.2.2.1 (an A.2.2.1 at' j))
set_option maxRecDepth 100000 in
theorem adM1 (k : Nat) : nI (k + 1) + M1 = nI k := by
  have e : nI 1 + M1 = 0 := by decide +kernel
  rw [← nI_add, Int32.add_assoc, e, Int32.add_zero]
set_option maxRecDepth 100000 in
theorem neg1' : -nI 1 = M1 := neg1
set_option maxRecDepth 100000 in
theorem M1lt : (M1 < nI 0) = True := by decide +kernel
set_option maxRecDepth 100000 in
theorem cTr {b q at' st : Nat} {A : BS} (C : CBr h R b q A) (W : WB R b A) (hb : 1 ≤ b) (hB : b < 2 ^ R 4) (h5 : R 4 ≤ 5) (ha : at' < A.1) (hst : st < 2 ^ 31) : ∃ h', fX6_trace 31 (nI at') (nI st) h = some (nI (A.2.2.2.2 at' + 1), h') ∧ RwR h' A at' st ∧ Keep (fun b _ => b ≠ 32) h h' := by
  obtain ⟨c1, c2, c3, c4, c5, c6⟩ := C
  have hL := W.L
  have hb32 : b < 32 := Nat.lt_of_lt_of_le hB (Nat.le_trans (Nat.pow_le_pow_right (by omega) h5) (by decide))
  have hD19 : A.2.2.2.2 at' ≤ 19 := by
    have w := W.2.1 at' ha
    obtain ⟨r5, r52, r53⟩ := rk_5 b hb32
    obtain ⟨m1, m2, m3⟩ := mem_ok b hb32 0 (by omega) (r53 hb)
    have := tfl_pos w.1 (bb_lt hB m2) m2
    omega
  have ok := an_ok W ha
  -- filling the row
  have fill : ∀ n j f (g : HH), j + n = A.2.2.2.2 at' → n < f → (∀ k x, k ≠ 32 → gI g k x = gI h k x) → ∀ x5, (x5 = M1 ∧ j = A.2.2.2.2 at') ∨ (x5 = nI (A.2.2.2.2 at' - 1 - j) ∧ j < A.2.2.2.2 at') → Keep (fun b _ => b ≠ 32) h g → gI g 32 (A.2.2.2.2 at') = nI st → (∀ i, i < j → gI g 32 (A.2.2.2.2 at' - 1 - i) = nI (A.2.2.2.1 (an A.2.2.1 at' i))) → ∃ h', lq2 (fX6_trace_L51 31 (nI (A.2.2.2.2 at' + 1))) f (nI (an A.2.2.1 at' j)) x5 g = some (nI (A.2.2.2.2 at' + 1), h') ∧ RwR h' A at' st ∧ Keep (fun b _ => b ≠ 32) h h' := by
    intro n
    induction n with
    | zero =>
      intro j f g e hf _ x5 hx5 K g1 g2
      obtain ⟨f, rfl⟩ : ∃ q, f = q + 1 := ⟨f - 1, by omega⟩
      have : x5 = M1 := by rcases hx5 with z | z
                           · exact z.1
                           · omega
      subst this
      refine ⟨g, ?_, ⟨g1, fun i hi => g2 i (by omega)⟩, K⟩
      simp only [lI, lq2, fX6_trace_L51, M1lt, if_true]
    | succ n ih =>
      intro j f g e hf kk x5 hx5 K g1 g2
      obtain ⟨f, rfl⟩ : ∃ q, f = q + 1 := ⟨f - 1, by omega⟩
      have : x5 = nI (A.2.2.2.2 at' - 1 - j) := by rcases hx5 with z | z
                                                   · omega
                                                   · exact z.1
      subst this
      obtain ⟨a1, a2, a3⟩ := ok j (by omega)
      have a4 := a3 (by omega)
      have cx := (c4 _ a1).2 a4
      have p36 : gI g 36 (an A.2.2.1 at' j) = nI (A.2.2.1 (an A.2.2.1 at' j)) := (kk 36 _ (by omega)).trans cx.1
      have p37 : gI g 37 (an A.2.2.1 at' j) = nI (A.2.2.2.1 (an A.2.2.1 at' j)) := (kk 37 _ (by omega)).trans cx.2
      have n0 : ¬ an A.2.2.1 at' j ≤ 0 := by omega
      obtain ⟨h', e', r'⟩ := ih (j + 1) f (sI g 32 (A.2.2.2.2 at' - 1 - j) (nI (A.2.2.2.1 (an A.2.2.1 at' j)))) (by omega) (by omega) (fun k x hk => by rw [gIa hk]; exact kk k x hk) (nI (A.2.2.2.2 at' - 1 - j) + M1) (by
        rcases Nat.eq_zero_or_pos (A.2.2.2.2 at' - 1 - j) with z | z
        · left
          exact ⟨by rw [z]; decide +kernel, by omega⟩
        · right
          refine ⟨?_, by omega⟩
          rw [show A.2.2.2.2 at' - 1 - j = (A.2.2.2.2 at' - 1 - (j + 1)) + 1 by omega, adM1]) (Keep.sI K (fun z => z rfl)) (by rw [gIk (by omega)]; exact g1) (fun i hi => by
        by_cases z : i = j
        · rw [z, gIs]
        · rw [gIk (by omega)]; exact g2 i (by omega))
      refine ⟨h', ?_, r'⟩
      rw [← e']
      simp (disch := omega) only [lI, gd_1, nm_1, inbN, ixN, neg1', lq2, fX6_trace_L51, ltN, Nat.not_lt_zero, if_false, leN, n0, Nat.reduceAdd, p37, gIa, p36]
      rfl
  have count : ∀ (KK : Int32 → HH → Option (Int32 × HH)) n j f, j + n = A.2.2.2.2 at' → n < f → lq2 (fX6_trace_L5 KK 31 (nI at') (nI st)) f (nI (1 + j)) (nI (an A.2.2.1 at' j)) h = KK (nI (A.2.2.2.2 at' + 1)) h := by
    intro KK n
    induction n with
    | zero =>
      intro j f e hf
      obtain ⟨f, rfl⟩ : ∃ q, f = q + 1 := ⟨f - 1, by omega⟩
      obtain ⟨a1, a2, a3⟩ := ok j (by omega)
      have z0 : an A.2.2.1 at' j ≤ 0 := by
        rcases Nat.eq_zero_or_pos (an A.2.2.1 at' j) with z | z
        · omega
        · have := ((W.2.1 _ a1).2.2 z).2.1; omega
      rw [show A.2.2.2.2 at' + 1 = 1 + j by omega]
      simp (disch := omega) only [lI, lq2, fX6_trace_L5, leN, z0, if_true]
    | succ n ih =>
      intro j f e hf
      obtain ⟨f, rfl⟩ : ∃ q, f = q + 1 := ⟨f - 1, by omega⟩
      obtain ⟨a1, a2, a3⟩ := ok j (by omega)
      have a4 := a3 (by omega)
      have cx := (c4 _ a1).2 a4
      have n0 : ¬ an A.2.2.1 at' j ≤ 0 := by omega
      have n20 : ¬ 20 ≤ 1 + j := by omega
      have key := ih (j + 1) f (by omega) (by omega)
      have key' : lq2 (fX6_trace_L5 KK 31 (nI at') (nI st)) f (nI (1 + j + 1)) (nI (A.2.2.1 (an A.2.2.1 at' j))) h = KK (nI (A.2.2.2.2 at' + 1)) h := key
      simp (disch := omega) only [lI, gd_1, nm_1, inbN, ixN, nI_add, lq2, fX6_trace_L5, leN, n0, n20, if_false, Nat.reduceAdd, cx.1]
      exact key'
  obtain ⟨h', e', r'⟩ := fill (A.2.2.2.2 at') 0 FU (sI h 32 (A.2.2.2.2 at') (nI st)) (by omega) (by unfold FU; omega) (fun k x hk => gIa hk) (nI (A.2.2.2.2 at' + 1) - nI 2) (by
    rcases Nat.eq_zero_or_pos (A.2.2.2.2 at') with z | z
    · left; exact ⟨by rw [z]; decide +kernel, z.symm⟩
    · right
      refine ⟨?_, z⟩
      rw [pk_sub (by omega)]
      congr 1 <;> omega) (Keep.sI Keep.rfl (fun z => z rfl)) (gIs _ _ _ _) (fun i hi => by omega)
  refine ⟨h', ?_, r'⟩
  have c0 := count (fun x3 h => gd (inb (x3 - nI 1) 20) (nm (x3 - nI 2) (fun y2 => lq2 (fX6_trace_L51 31 x3) FU (nI at') y2 (sI h 32 (ix (x3 - nI 1)) (nI st))))) (A.2.2.2.2 at') 0 FU (by omega) (by unfold FU; omega)
  have e1 : nI (A.2.2.2.2 at' + 1) - nI 1 = nI (A.2.2.2.2 at') := by rw [pk_sub (by omega)]; rfl
  simp only [lI, fX6_trace, Nat.reduceAdd]
  refine c0.trans ?_
  simp (disch := omega) only [e1, gd_1, nm_1, inbN, ixN]
  exact e'
end CRS
