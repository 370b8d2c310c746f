/-- how many are where one is, himself too -/
def cmp (N : Nat → Nat) (s : Nat) : Nat → Nat
  | 0 => 0
  | q + 1 => cmp N s q + (if met N s q then 1 else 0)
def oth (N : Nat → Nat) (s : Nat) : Nat → Nat
  | 0 => 0
  | q + 1 => oth N s q + (if q ≠ s ∧ met N s q = true then 1 else 0)
def alo (N : Nat → Nat) (s : Nat) : Nat → Bool
  | 0 => decide (0 < N (4 * s + 0))
  | q + 1 => alo N s q && (decide (q = s) || !met N s q)
set_option maxRecDepth 100000 in
theorem cmp_le (N : Nat → Nat) (s : Nat) : ∀ m, cmp N s m ≤ m
  | 0 => Nat.le_refl _
  | m + 1 => by
    have := cmp_le N s m
    show cmp N s m + _ ≤ m + 1
    split <;> omega
set_option maxRecDepth 100000 in
theorem met_0 {N : Nat → Nat} {s q : Nat} (h : N (4 * s + 0) = 0) : met N s q = false := decide_eq_false (fun z => by omega)
set_option maxRecDepth 100000 in
theorem met_s {N : Nat → Nat} {s : Nat} (h : 0 < N (4 * s + 0)) : met N s s = true := decide_eq_true ⟨h, rfl, rfl⟩
set_option maxRecDepth 100000 in
theorem cmp_0 {N : Nat → Nat} {s : Nat} (h : N (4 * s + 0) = 0) : ∀ m, cmp N s m = 0
  | 0 => rfl
  | m + 1 => by
    show cmp N s m + (if met N s m then 1 else 0) = 0
    rw [cmp_0 h m, met_0 h]; rfl
set_option maxRecDepth 100000 in
theorem cmp_oth {N : Nat → Nat} {s : Nat} (h : 0 < N (4 * s + 0)) : ∀ m, cmp N s m = oth N s m + (if s < m then 1 else 0)
  | 0 => rfl
  | m + 1 => by
    have ih := cmp_oth h m
    show cmp N s m + (if met N s m then 1 else 0) = oth N s m + (if m ≠ s ∧ met N s m = true then 1 else 0) + (if s < m + 1 then 1 else 0)
    rw [ih]
    by_cases e : m = s
    · subst e
      have h1 := met_s h
      simp [h1]
    · have e2 : (if s < m then 1 else 0) = (if s < m + 1 then 1 else 0) := by
        by_cases c : s < m
        · rw [if_pos c, if_pos (by omega)]
        · rw [if_neg c, if_neg (by omega)]
      rw [e2]
      cases met N s m with
      | true => simp [e]; omega
      | false => simp
set_option maxRecDepth 100000 in
theorem alo_0 {N : Nat → Nat} {s : Nat} (h : N (4 * s + 0) = 0) : ∀ m, alo N s m = false
  | 0 => decide_eq_false (by omega)
  | m + 1 => by
    show (alo N s m && _) = false
    rw [alo_0 h m]; rfl
set_option maxRecDepth 100000 in
theorem alo_oth {N : Nat → Nat} {s : Nat} (h : 0 < N (4 * s + 0)) : ∀ m, alo N s m = decide (oth N s m = 0)
  | 0 => (decide_eq_true h).trans (decide_eq_true rfl).symm
  | m + 1 => by
    show (alo N s m && (decide (m = s) || !met N s m)) = decide (oth N s m + (if m ≠ s ∧ met N s m = true then 1 else 0) = 0)
    rw [alo_oth h m]
    by_cases e : m = s
    · rw [if_neg (fun z => z.1 e), decide_eq_true e, Bool.true_or, Bool.and_true]; rfl
    · cases hm : met N s m with
      | true => rw [if_pos ⟨e, rfl⟩, decide_eq_false e, decide_eq_false (show ¬ oth N s m + 1 = 0 by omega)]; simp
      | false => rw [if_neg (fun z => by cases z.2), decide_eq_false e]; simp
set_option maxRecDepth 100000 in
theorem alo_cmp {N : Nat → Nat} {s m : Nat} (hs : s < m) : alo N s m = decide (cmp N s m = 1) := by
  rcases Nat.eq_zero_or_pos (N (4 * s + 0)) with z | z
  · rw [alo_0 z, cmp_0 z]; rfl
  · rw [alo_oth z, cmp_oth z, if_pos hs]
    by_cases c : oth N s m = 0
    · rw [decide_eq_true c, decide_eq_true (by omega)]
    · rw [decide_eq_false c, decide_eq_false (by omega)]
/-- of minutes 1 .. n those of which something holds -/
def clm (P : Nat → Bool) : Nat → Nat
  | 0 => 0
  | n + 1 => clm P n + (if P (n + 1) then 1 else 0)
set_option maxRecDepth 100000 in
theorem clm_le (P : Nat → Bool) : ∀ n, clm P n ≤ n
  | 0 => Nat.le_refl _
  | n + 1 => by
    have := clm_le P n
    show clm P n + _ ≤ n + 1
    split <;> omega
set_option maxRecDepth 100000 in
theorem clm_c {P : Nat → Bool} {a : Nat} {p : Bool} : ∀ k, (∀ n, a < n → n ≤ a + k → P n = p) → clm P (a + k) = clm P a + (if p then k else 0)
  | 0, _ => by cases p <;> rfl
  | k + 1, h => by
    have ih := clm_c (P := P) (a := a) (p := p) k (fun n h1 h2 => h n h1 (by omega))
    show clm P (a + k) + (if P (a + k + 1) then 1 else 0) = _
    rw [ih, h (a + k + 1) (by omega) (by omega)]
    cases p
    · rfl
    · show clm P a + k + 1 = clm P a + (k + 1); omega
def cmx (F : Nat → Nat) : Nat → Nat
  | 0 => 0
  | n + 1 => max (cmx F n) (F n)
set_option maxRecDepth 100000 in
theorem cmx_c {F : Nat → Nat} {a x : Nat} : ∀ k, 1 ≤ k → (∀ n, a ≤ n → n < a + k → F n = x) → cmx F (a + k) = max (cmx F a) x
  | 0, h, _ => by omega
  | 1, _, h => by show max (cmx F a) (F a) = _; rw [h a (by omega) (by omega)]
  | k + 2, _, h => by
    have ih := cmx_c (F := F) (a := a) (x := x) (k + 1) (by omega) (fun n h1 h2 => h n h1 (by omega))
    show max (cmx F (a + (k + 1))) (F (a + (k + 1))) = _
    rw [ih, h _ (by omega) (by omega)]; omega
set_option maxRecDepth 100000 in
theorem cmx_le {F : Nat → Nat} {b : Nat} (h : ∀ n, F n ≤ b) : ∀ n, cmx F n ≤ b
  | 0 => Nat.zero_le _
  | n + 1 => by
    have := cmx_le h n
    have := h n
    show max (cmx F n) (F n) ≤ b
    omega
def mxc (N : Nat → Nat) (S : Nat) : Nat → Nat
  | 0 => 0
  | s + 1 => max (mxc N S s) (cmp N s S)
set_option maxRecDepth 100000 in
theorem mxc_le (N : Nat → Nat) (S : Nat) : ∀ n, mxc N S n ≤ S
  | 0 => Nat.zero_le _
  | n + 1 => by
    have := mxc_le N S n
    have := cmp_le N n S
    show max (mxc N S n) (cmp N n S) ≤ S
    omega
set_option maxRecDepth 100000 in
theorem nI_sa {l m : Nat} (h : m ≤ l + 1) : nI l - nI m + nI 1 = nI (l + 1 - m) := by
  have e : nI l - nI m + nI 1 = nI l + nI 1 - nI m := by
    rw [Int32.sub_eq_add_neg, Int32.sub_eq_add_neg, Int32.add_assoc, Int32.add_comm (-nI m), ← Int32.add_assoc]
  rw [e, nI_add, pk_sub h]
section CRO
variable {h : HH} {d a : Nat} {R N T : Nat → Nat} {B : Nat}
set_option maxRecDepth 100000 in
theorem cComp (D : DRep h d R) (v : VR R) {σ : ST} (Q : NRep h a R σ.1 σ.2) (W : VN R σ.1 σ.2 B) {s : Nat} (hs : s < 5) : fX2_companyOf a d (nI s) h = some (nI (cmp σ.1 s (R 4)), h) := by
  have vS := v.S
  have main : ∀ m i f, i + m = R 4 → m < f → lq2 (fX2_companyOf_L5 a d (nI s)) f (nI (cmp σ.1 s i)) (nI i) h = some (nI (cmp σ.1 s (R 4)), h) := by
    intro m
    induction m with
    | zero =>
      intro i f e hf
      obtain ⟨f, rfl⟩ : ∃ q, f = q + 1 := ⟨f - 1, by omega⟩
      have : i = R 4 := by omega
      subst this
      simp (disch := omega) only [lq2, fX2_companyOf_L5, D.2.2.2.1.1.2, leN, Nat.le_refl, if_true]
    | succ m ih =>
      intro i f e hf
      obtain ⟨f, rfl⟩ : ∃ q, f = q + 1 := ⟨f - 1, by omega⟩
      have n1 : ¬ R 4 ≤ i := by omega
      have key := ih (i + 1) f (by omega) (by omega)
      rw [show cmp σ.1 s (i + 1) = cmp σ.1 s i + (if met σ.1 s i then 1 else 0) from rfl] at key
      have cm := cMet v Q W hs (show i < 5 by omega)
      cases hm : met σ.1 s i with
      | true =>
        rw [hm] at cm key
        simp (disch := omega) only [lI, bd_1, nI_add, lq2, fX2_companyOf_L5, D.2.2.2.1.1.2, leN, n1, if_false, cm, cond_true]
        exact key
      | false =>
        rw [hm] at cm key
        simp (disch := omega) only [lI, bd_1, nI_add, lq2, fX2_companyOf_L5, D.2.2.2.1.1.2, leN, n1, if_false, cm, cond_false]
        exact key
  exact main (R 4) 0 FU (by omega) (by unfold FU; omega)
set_option maxRecDepth 100000 in
theorem cLo (hD : isD d) (v : VR R) (W : VN R N T 1200) (S : SN R N T) {t s : Nat} (ht : t ≤ 600) (hs : s < R 4) : ∀ j i fu f l (h : HH), i + j = 29 → j < fu → DRep h d R → OI h d R N T t f l → mu R (ps R N T f) + i ≤ 28 → ∃ h', lq2 (fX3_countLonely_L14 20 d (nI s) (nI t)) fu (nI (clm (fun n => decide (cmp (ps R N T n).1 s (R 4) = 1)) (f - 1))) (nI i) h = some (nI (clm (fun n => decide (cmp (ps R N T n).1 s (R 4) = 1)) t), h') ∧ Keep PO h h' := by
  have vS := v.S
  intro j
  induction j with
  | zero => intro i fu f l h e _ _ _ hm; omega
  | succ j ih =>
    intro i fu f l h e hfu D I hm
    obtain ⟨fu, rfl⟩ : ∃ q, fu = q + 2 := ⟨fu - 2, by omega⟩
    obtain ⟨Q, g1, g2, g3, g4, i1, i2, i3, i4⟩ := id I
    obtain ⟨W1, S1, t1⟩ := ps_ok v W S (show f ≤ 600 by omega)
    have n1 : ¬ 29 ≤ i := by omega
    have n2 : ¬ t < f := by omega
    have cc := cComp D v Q W1 (show s < 5 by omega)
    have hcl := cmp_le (ps R N T f).1 s (R 4)
    obtain ⟨h2, e2, K2, c⟩ := cGoOn D hD v W S ht I
    have key : clm (fun n => decide (cmp (ps R N T n).1 s (R 4) = 1)) l = clm (fun n => decide (cmp (ps R N T n).1 s (R 4) = 1)) (f - 1) + (if decide (cmp (ps R N T f).1 s (R 4) = 1) then l - (f - 1) else 0) := by
      have := clm_c (P := fun n => decide (cmp (ps R N T n).1 s (R 4) = 1)) (a := f - 1) (p := decide (cmp (ps R N T f).1 s (R 4) = 1)) (l - (f - 1)) (fun n h1 h2 => by
        show decide (cmp (ps R N T n).1 s (R 4) = 1) = _
        rw [i3 n (by omega) (by omega)])
      rw [show f - 1 + (l - (f - 1)) = l by omega] at this
      exact this
    generalize hX : clm (fun n => decide (cmp (ps R N T n).1 s (R 4) = 1)) (f - 1) = X at key ⊢
    have step : ∀ g : HH → Option (Int32 × HH), (∀ k, k = h2 → g k = lq2 (fX3_countLonely_L14 20 d (nI s) (nI t)) (fu + 1) (nI (clm (fun n => decide (cmp (ps R N T n).1 s (R 4) = 1)) l)) (nI (i + 1)) k) → lq2 (fX3_countLonely_L14 20 d (nI s) (nI t)) (fu + 2) (nI X) (nI i) h = g h2 := by
      intro g hg
      rw [hg h2 rfl, key]
      show fX3_countLonely_L14 20 d (nI s) (nI t) (lq2 (fX3_countLonely_L14 20 d (nI s) (nI t)) (fu + 1)) (nI X) (nI i) h = _
      by_cases c1 : cmp (ps R N T f).1 s (R 4) = 1
      · rw [if_pos (decide_eq_true c1)]
        have e9 : l + 1 - max f 1 = l - (f - 1) := by omega
        simp (disch := omega) only [lI, bd_1, bv_1, nm_1, eqN, fX3_countLonely_L14, leN, n1, if_false, g3, g4, ltN, n2, Nat.reduceAdd, cc, eq_true c1, if_true, maxN, nI_sa, nI_add, e9, e2]
      · rw [if_neg (by rw [decide_eq_false c1]; exact fun z => by cases z)]
        simp (disch := omega) only [lI, bd_1, bv_1, nm_1, eqN, fX3_countLonely_L14, leN, n1, if_false, g3, ltN, n2, Nat.reduceAdd, cc, c1, nI_add, Nat.add_zero, e2]
    have st := step (fun k => lq2 (fX3_countLonely_L14 20 d (nI s) (nI t)) (fu + 1) (nI (clm (fun n => decide (cmp (ps R N T n).1 s (R 4) = 1)) l)) (nI (i + 1)) k) (fun k _ => rfl)
    rw [st]
    rcases c with ⟨c1, c2⟩ | ⟨c1, l', c2⟩
    · refine ⟨h2, ?_, K2⟩
      subst c1
      have n3 : l < l + 1 := by omega
      by_cases n4 : 29 ≤ i + 1
      · simp (disch := omega) only [lI, lq2, fX3_countLonely_L14, leN, n4, if_true]
      · simp (disch := omega) only [lI, lq2, fX3_countLonely_L14, leN, n4, if_false, c2, ltN, n3, if_true]
    · have := i4 c1
      obtain ⟨h3, e3, K3⟩ := ih (i + 1) (fu + 1) (l + 1) l' h2 (by omega) (by omega) (D.O hD K2) c2 (by omega)
      exact ⟨h3, e3, K2.trans K3⟩
set_option maxRecDepth 100000 in
theorem mLo {g : HH} (M : MRep g R) (v : VR R) (W : VN R N T 1200) (S : SN R N T) {t s : Nat} (ht : t ≤ 600) (hs : s < R 4) (bb : ∀ g2, Keep PW g g2 → ∃ g3, fX9_bringBack 181 g2 = some g3 ∧ MNRep g3 N T ∧ Keep PM3 g g3) : ∀ m n fu (h : HH), n + m = t → m < fu → Keep PW g h → MNRep h (ps R N T n).1 (ps R N T n).2 → ∃ g', lq2 (fX9_lonely_L31 181 (nI s) (nI t)) fu (nI (clm (fun n => decide (cmp (ps R N T n).1 s (R 4) = 1)) n)) (nI n) h = some (nI (clm (fun n => decide (cmp (ps R N T n).1 s (R 4) = 1)) t), g') ∧ MNRep g' N T ∧ Keep PM3 g g' := by
  have vS := v.S
  have vF := v.F
  have vb := v.bt
  intro m
  induction m with
  | zero =>
    intro n fu h e hfu K Q
    obtain ⟨fu, rfl⟩ : ∃ q, fu = q + 1 := ⟨fu - 1, by omega⟩
    have : n = t := by omega
    subst this
    obtain ⟨g3, e3, Q3, K3⟩ := bb h K
    refine ⟨g3, ?_, Q3, K3⟩
    simp (disch := omega) only [bv_1, lq2, fX9_lonely_L31, leN, Nat.le_refl, if_true, e3]
  | succ m ih =>
    intro n fu h e hfu K Q
    obtain ⟨fu, rfl⟩ : ∃ q, fu = q + 1 := ⟨fu - 1, by omega⟩
    have n1 : ¬ t ≤ n := by omega
    obtain ⟨W0, S0, t0⟩ := ps_ok v W S (show n ≤ 600 by omega)
    obtain ⟨W1, S1, t1⟩ := ps_ok v W S (show n + 1 ≤ 600 by omega)
    obtain ⟨h2, e2, Q2, K2⟩ := mMin (M.W K) v W S (show n + 1 ≤ 600 by omega) Q
    have M2 := M.W (K.trans K2)
    obtain ⟨g', e3, Q3, K3⟩ := ih (n + 1) fu h2 (by omega) (by omega) (K.trans K2) Q2
    refine ⟨g', ?_, Q3, K3⟩
    have q0 := Q.2 0 (by omega)
    rw [t0] at q0
    rw [← e3]
    have inner : ∀ (KK : Bool → HH → Option (Int32 × HH)) mm i ff, i + mm = R 4 → mm < ff → lq2 (fX9_lonely_L72 KK 181 (nI s) (nI t) (nI (clm (fun n => decide (cmp (ps R N T n).1 s (R 4) = 1)) n)) (nI n)) ff (alo (ps R N T (n + 1)).1 s i) (nI i) h2 = KK (alo (ps R N T (n + 1)).1 s (R 4)) h2 := by
      intro KK mm
      induction mm with
      | zero =>
        intro i ff e hff
        obtain ⟨ff, rfl⟩ : ∃ q, ff = q + 1 := ⟨ff - 1, by omega⟩
        have : i = R 4 := by omega
        subst this
        simp (disch := omega) only [lI, gd_1, inbN, ixN, lq2, fX9_lonely_L72, Nat.reduceAdd, M2 4, leN, Nat.le_refl, if_true]
      | succ mm ihm =>
        intro i ff e hff
        obtain ⟨ff, rfl⟩ : ∃ q, ff = q + 1 := ⟨ff - 1, by omega⟩
        have n2 : ¬ R 4 ≤ i := by omega
        have key := ihm (i + 1) ff (by omega) (by omega)
        rw [show alo (ps R N T (n + 1)).1 s (i + 1) = (alo (ps R N T (n + 1)).1 s i && (decide (i = s) || !met (ps R N T (n + 1)).1 s i)) from rfl] at key
        have cm := mMet v Q2 W1 (show s < 5 by omega) (show i < 5 by omega)
        cases ha : alo (ps R N T (n + 1)).1 s i with
        | false =>
          rw [ha, Bool.false_and] at key
          simp (disch := omega) only [lI, gd_1, inbN, ixN, nI_add, lq2, fX9_lonely_L72, Nat.reduceAdd, M2 4, leN, n2, if_false, cond_false]
          exact key
        | true =>
          rw [ha, Bool.true_and] at key
          by_cases c : i = s
          · rw [decide_eq_true c, Bool.true_or] at key
            simp (disch := omega) only [lI, gd_1, inbN, ixN, nI_add, lq2, fX9_lonely_L72, Nat.reduceAdd, M2 4, leN, n2, if_false, cond_true, eqN, eq_true c, if_true]
            exact key
          · rw [decide_eq_false c, Bool.false_or] at key
            cases hm : met (ps R N T (n + 1)).1 s i with
            | true =>
              rw [hm] at cm key
              simp (disch := omega) only [lI, gd_1, bd_1, inbN, ixN, nI_add, lq2, fX9_lonely_L72, Nat.reduceAdd, M2 4, leN, n2, if_false, cond_true, eqN, c, cm]
              exact key
            | false =>
              rw [hm] at cm key
              simp (disch := omega) only [lI, gd_1, bd_1, inbN, ixN, nI_add, lq2, fX9_lonely_L72, Nat.reduceAdd, M2 4, leN, n2, if_false, cond_true, cond_false, eqN, c, cm]
              exact key
    have i0 := fun KK => inner KK (R 4) 0 FU (by omega) (by unfold FU; omega)
    rw [show alo (ps R N T (n + 1)).1 s 0 = decide (0 < (ps R N T (n + 1)).1 (4 * s + 0)) from rfl, alo_cmp hs] at i0
    have i1 : ∀ KK : Bool → HH → Option (Int32 × HH), lq2 (fX9_lonely_L72 KK 181 (nI s) (nI t) (nI (clm (fun n => decide (cmp (ps R N T n).1 s (R 4) = 1)) n)) (nI n)) FU (decide (0 < (ps R N T (n + 1)).1 (4 * s + 0))) (nI 0) h2 = KK (decide (cmp (ps R N T (n + 1)).1 s (R 4) = 1)) h2 := i0
    have w := (W1.2.1 s (by omega)).1
    rw [show clm (fun n => decide (cmp (ps R N T n).1 s (R 4) = 1)) (n + 1) = clm (fun n => decide (cmp (ps R N T n).1 s (R 4) = 1)) n + (if decide (cmp (ps R N T (n + 1)).1 s (R 4) = 1) then 1 else 0) from rfl]
    by_cases c : (ps R N T (n + 1)).1 (4 * s + 0) ≤ 0
    · rw [decide_eq_false (by omega)] at i1
      simp (disch := omega) only [lI, gd_1, bd_1, bv_1, inbN, ixN, nI_add, nI_l, lN_add, lq2, fX9_lonely_L31, leN, n1, if_false, Nat.reduceAdd, q0, mBottom (M.W K) v, e2, mIts Q2, c, if_true, i1]
      cases decide (cmp (ps R N T (n + 1)).1 s (R 4) = 1) <;> simp only [cond_true, cond_false, nm_1, if_true, Bool.false_eq_true, if_false, nI_add]
    · rw [decide_eq_true (by omega)] at i1
      simp (disch := omega) only [lI, gd_1, bd_1, bv_1, inbN, ixN, nI_add, nI_l, lN_add, lq2, fX9_lonely_L31, leN, n1, if_false, Nat.reduceAdd, q0, mBottom (M.W K) v, e2, mIts Q2, c, i1]
      cases decide (cmp (ps R N T (n + 1)).1 s (R 4) = 1) <;> simp only [cond_true, cond_false, nm_1, if_true, Bool.false_eq_true, if_false, nI_add]
set_option maxRecDepth 100000 in
theorem oLonely (C : CA h d R N T) (x y : Int32) : OpW R N T h (fX8_lonely 0 x y h) (fun h1 => fX9_lonely 181 x y h1) := by
  have k := isKb_D C.2.1
  have v := C.2.2.2.2.1
  have vS := v.S
  rcases whC C x y with ⟨s, t, hs, ht, rfl, rfl, e1, e2⟩ | ⟨w, hw, e1, e2⟩
  · have W := C.2.2.2.2.2.2.1
    have S := C.2.2.2.2.2.2.2
    refine opw (nI (clm (fun n => decide (cmp (ps R N T n).1 s (R 4) = 1)) t)) ?_ (fun h1 g Mg hg => ?_)
    · obtain ⟨h2, l, e5, I, K2⟩ := cBegin C ht
      have hm := mu_le v (ps R N T 0)
      obtain ⟨h3, e6, K3⟩ := cLo C.2.1 v W S ht hs 29 0 FU 0 l h2 (by omega) (by unfold FU; omega) (C.2.2.2.1.O C.2.1 K2) I (by omega)
      refine ⟨h3, ?_, (K2.trans K3).mono PO_PQ⟩
      have e6' : lq2 (fX3_countLonely_L14 20 d (nI s) (nI t)) FU (nI 0) (nI 0) h2 = _ := e6
      simp (disch := omega) only [lI, lJ, gd_1, bd_1, bv_1, nm_1, ixN, inbN, eqN, leN, ltN, eqL, leL, ltL, beqN, beqL, nI_add, pk_mul, lN_add, lN_mul, nI_l, lN_i, pk_div, pk_lDiv, pk_sub, lN_sub, remN, remL, neg1, neg2, negL, negL2, M1e, M1f, M1g, M1h, M1i, M1j, M2e, M2f, L1g, L1h, L1i, L1j, les_eq, les_e, les_n, les_m, cond_true, cond_false, if_true, if_false, fX8_refuse, fX8_allow, fX8_allow_, Nat.not_lt_zero, Nat.reduceAdd, Nat.reduceLT, Nat.reduceLeDiff, Nat.reduceEqDiff, decide_false, decide_true, Bool.not_false, Bool.not_true, C.1, k, fX8_lonely, e1, fX3_countLonely, e5, e6']
    · have Mg' := Mg
      obtain ⟨a1, M1, -, Qm, -, -⟩ := Mg
      obtain ⟨g1, e5, Q1, K1, bb⟩ := mSave Qm
      have M2' : MRep g1 R := M1.keep K1 (fun k => by unfold PM3; omega)
      obtain ⟨g3, e6, Q3, K3⟩ := mLo M2' v W S ht hs (fun g2 K => by
        obtain ⟨g3, e3, Q3, K3⟩ := bb g2 K
        exact ⟨g3, e3, Q3, (fun x k hp => by
          have z1 := K1 x k hp
          have z3 := K3 x k hp
          exact ⟨z3.1.trans z1.1.symm, z3.2.1.trans z1.2.1.symm, z3.2.2.trans z1.2.2.symm⟩)⟩) t 0 FU g1 (by omega) (by unfold FU; omega) Keep.rfl (by rw [ps_0 v W S]; exact Q1)
      have e6' : lq2 (fX9_lonely_L31 181 (nI s) (nI t)) FU (nI 0) (nI 0) g1 = _ := e6
      refine ⟨g3, ?_, K1.trans K3, Q3⟩
      simp (disch := omega) only [lI, lJ, gd_1, bd_1, bv_1, nm_1, ixN, inbN, eqN, leN, ltN, eqL, leL, ltL, beqN, beqL, nI_add, pk_mul, lN_add, lN_mul, nI_l, lN_i, pk_div, pk_lDiv, pk_sub, lN_sub, remN, remL, neg1, neg2, negL, negL2, M1e, M1f, M1g, M1h, M1i, M1j, M2e, M2f, L1g, L1h, L1i, L1j, les_eq, les_e, les_n, les_m, cond_true, cond_false, if_true, if_false, fX9_no, hg, Nat.not_lt_zero, Nat.reduceAdd, Nat.reduceLT, Nat.reduceLeDiff, Nat.reduceEqDiff, decide_false, decide_true, Bool.not_false, Bool.not_true, fX9_lonely, e2 g Mg', e5, e6']
  · have w0 : ¬ w = 0 := by omega
    refine OpQ.W (opr w (by omega) M1 ?_ (fun h1 g Mg hg => ?_))
    · simp (disch := omega) only [lI, lJ, gd_1, bd_1, bv_1, nm_1, ixN, inbN, eqN, leN, ltN, eqL, leL, ltL, beqN, beqL, nI_add, pk_mul, lN_add, lN_mul, nI_l, lN_i, pk_div, pk_lDiv, pk_sub, lN_sub, remN, remL, neg1, neg2, negL, negL2, M1e, M1f, M1g, M1h, M1i, M1j, M2e, M2f, L1g, L1h, L1i, L1j, les_eq, les_e, les_n, les_m, cond_true, cond_false, if_true, if_false, fX8_refuse, fX8_allow, fX8_allow_, Nat.not_lt_zero, Nat.reduceAdd, Nat.reduceLT, Nat.reduceLeDiff, Nat.reduceEqDiff, decide_false, decide_true, Bool.not_false, Bool.not_true, C.1, k, fX8_lonely, e1, w0]
    · simp (disch := omega) only [lI, lJ, gd_1, bd_1, bv_1, nm_1, ixN, inbN, eqN, leN, ltN, eqL, leL, ltL, beqN, beqL, nI_add, pk_mul, lN_add, lN_mul, nI_l, lN_i, pk_div, pk_lDiv, pk_sub, lN_sub, remN, remL, neg1, neg2, negL, negL2, M1e, M1f, M1g, M1h, M1i, M1j, M2e, M2f, L1g, L1h, L1i, L1j, les_eq, les_e, les_n, les_m, cond_true, cond_false, if_true, if_false, fX9_no, hg, Nat.not_lt_zero, Nat.reduceAdd, Nat.reduceLT, Nat.reduceLeDiff, Nat.reduceEqDiff, decide_false, decide_true, Bool.not_false, Bool.not_true, fX9_lonely, e2 g Mg, w0]
/-! crowd -/
set_option maxRecDepth 100000 in
theorem cCr (hD : isD d) (v : VR R) (W : VN R N T 1200) (S : SN R N T) {t : Nat} (ht : t ≤ 600) : ∀ j i fu f l (h : HH), i + j = 29 → j < fu → DRep h d R → OI h d R N T t f l → mu R (ps R N T f) + i ≤ 28 → ∃ h', lq2 (fX3_mostTogether_L13 20 d (nI t)) fu (nI (cmx (fun n => mxc (ps R N T n).1 (R 4) (R 4)) f)) (nI i) h = some (nI (cmx (fun n => mxc (ps R N T n).1 (R 4) (R 4)) (t + 1)), h') ∧ Keep PO h h' := by
  have vS := v.S
  intro j
  induction j with
  | zero => intro i fu f l h e _ _ _ hm; omega
  | succ j ih =>
    intro i fu f l h e hfu D I hm
    obtain ⟨fu, rfl⟩ : ∃ q, fu = q + 2 := ⟨fu - 2, by omega⟩
    obtain ⟨Q, g1, g2, g3, g4, i1, i2, i3, i4⟩ := id I
    obtain ⟨W1, S1, t1⟩ := ps_ok v W S (show f ≤ 600 by omega)
    have n1 : ¬ 29 ≤ i := by omega
    have n2 : ¬ t < f := by omega
    obtain ⟨h2, e2, K2, c⟩ := cGoOn D hD v W S ht I
    have key : cmx (fun n => mxc (ps R N T n).1 (R 4) (R 4)) (l + 1) = max (cmx (fun n => mxc (ps R N T n).1 (R 4) (R 4)) f) (mxc (ps R N T f).1 (R 4) (R 4)) := by
      have := cmx_c (F := fun n => mxc (ps R N T n).1 (R 4) (R 4)) (a := f) (x := mxc (ps R N T f).1 (R 4) (R 4)) (l + 1 - f) (by omega) (fun n h1 h2 => by
        show mxc (ps R N T n).1 (R 4) (R 4) = _
        rw [i3 n (by omega) (by omega)])
      rw [show f + (l + 1 - f) = l + 1 by omega] at this
      exact this
    have hX := cmx_le (F := fun n => mxc (ps R N T n).1 (R 4) (R 4)) (fun n => mxc_le (ps R N T n).1 (R 4) (R 4)) f
    generalize hX : cmx (fun n => mxc (ps R N T n).1 (R 4) (R 4)) f = X at key hX ⊢
    have inner : ∀ (KK : Int32 → HH → Option (Int32 × HH)) mm q ff, q + mm = R 4 → mm < ff → lq2 (fX3_mostTogether_L31 KK 20 d (nI t) (nI i)) ff (nI (max X (mxc (ps R N T f).1 (R 4) q))) (nI q) h = KK (nI (max X (mxc (ps R N T f).1 (R 4) (R 4)))) h := by
      intro KK mm
      induction mm with
      | zero =>
        intro q ff e hff
        obtain ⟨ff, rfl⟩ : ∃ q, ff = q + 1 := ⟨ff - 1, by omega⟩
        have : q = R 4 := by omega
        subst this
        simp (disch := omega) only [lq2, fX3_mostTogether_L31, D.2.2.2.1.1.2, leN, Nat.le_refl, if_true]
      | succ mm ihm =>
        intro q ff e hff
        obtain ⟨ff, rfl⟩ : ∃ q, ff = q + 1 := ⟨ff - 1, by omega⟩
        have n3 : ¬ R 4 ≤ q := by omega
        have key := ihm (q + 1) ff (by omega) (by omega)
        have hc := cmp_le (ps R N T f).1 q (R 4)
        have hc2 := mxc_le (ps R N T f).1 (R 4) q
        have e9 : max X (mxc (ps R N T f).1 (R 4) (q + 1)) = max (max X (mxc (ps R N T f).1 (R 4) q)) (cmp (ps R N T f).1 q (R 4)) := by
          show max X (max (mxc (ps R N T f).1 (R 4) q) (cmp (ps R N T f).1 q (R 4))) = _
          omega
        rw [e9] at key
        simp (disch := omega) only [lI, bd_1, nm_1, nI_add, lq2, fX3_mostTogether_L31, D.2.2.2.1.1.2, leN, n3, if_false, Nat.reduceAdd, cComp D v Q W1 (show q < 5 by omega), maxN]
        exact key
    have i0 := fun KK => inner KK (R 4) 0 FU (by omega) (by unfold FU; omega)
    have i1' : ∀ KK : Int32 → HH → Option (Int32 × HH), lq2 (fX3_mostTogether_L31 KK 20 d (nI t) (nI i)) FU (nI X) (nI 0) h = KK (nI (cmx (fun n => mxc (ps R N T n).1 (R 4) (R 4)) (l + 1))) h := fun KK => by
      rw [key]
      have z := i0 KK
      rw [show max X (mxc (ps R N T f).1 (R 4) 0) = X from Nat.max_eq_left (Nat.zero_le _)] at z
      exact z
    have st : lq2 (fX3_mostTogether_L13 20 d (nI t)) (fu + 2) (nI X) (nI i) h = lq2 (fX3_mostTogether_L13 20 d (nI t)) (fu + 1) (nI (cmx (fun n => mxc (ps R N T n).1 (R 4) (R 4)) (l + 1))) (nI (i + 1)) h2 := by
      show fX3_mostTogether_L13 20 d (nI t) (lq2 (fX3_mostTogether_L13 20 d (nI t)) (fu + 1)) (nI X) (nI i) h = _
      simp (disch := omega) only [lI, bv_1, fX3_mostTogether_L13, leN, n1, if_false, g3, ltN, n2, i1', e2, nI_add]
    rw [st]
    rcases c with ⟨c1, c2⟩ | ⟨c1, l', c2⟩
    · refine ⟨h2, ?_, K2⟩
      subst c1
      have n3 : l < l + 1 := by omega
      by_cases n4 : 29 ≤ i + 1
      · simp (disch := omega) only [lI, lq2, fX3_mostTogether_L13, leN, n4, if_true]
      · simp (disch := omega) only [lI, lq2, fX3_mostTogether_L13, leN, n4, if_false, c2, ltN, n3, if_true]
    · have := i4 c1
      obtain ⟨h3, e3, K3⟩ := ih (i + 1) (fu + 1) (l + 1) l' h2 (by omega) (by omega) (D.O hD K2) c2 (by omega)
      exact ⟨h3, e3, K2.trans K3⟩
set_option maxRecDepth 100000 in
theorem mCn {g : HH} (M : MRep g R) (v : VR R) {σ : ST} (Q : MNRep g σ.1 σ.2) (W : VN R σ.1 σ.2 B) : fX9_crowdNow 181 g = some (nI (mxc σ.1 (R 4) (R 4)), g) := by
  have vS := v.S
  have vF := v.F
  have outer : ∀ m s f, s + m = R 4 → m < f → lq2 (fX9_crowdNow_L4 181) f (nI (mxc σ.1 (R 4) s)) (nI s) g = some (nI (mxc σ.1 (R 4) (R 4)), g) := by
    intro m
    induction m with
    | zero =>
      intro s f e hf
      obtain ⟨f, rfl⟩ : ∃ q, f = q + 1 := ⟨f - 1, by omega⟩
      have : s = R 4 := by omega
      subst this
      simp (disch := omega) only [lI, gd_1, inbN, ixN, lq2, fX9_crowdNow_L4, Nat.reduceAdd, M 4, leN, Nat.le_refl, if_true]
    | succ m ih =>
      intro s f e hf
      obtain ⟨f, rfl⟩ : ∃ q, f = q + 1 := ⟨f - 1, by omega⟩
      have n1 : ¬ R 4 ≤ s := by omega
      have w := (W.2.1 s (by omega)).1
      have key := ih (s + 1) f (by omega) (by omega)
      rw [show mxc σ.1 (R 4) (s + 1) = max (mxc σ.1 (R 4) s) (cmp σ.1 s (R 4)) from rfl] at key
      have hc := cmp_le σ.1 s (R 4)
      have hc2 := mxc_le σ.1 (R 4) s
      have inner : ∀ (KK : Int32 → HH → Option (Int32 × HH)) z mm q ff, q + mm = R 4 → mm < ff → lq2 (fX9_crowdNow_L32 KK 181 (nI (mxc σ.1 (R 4) s)) (nI s)) ff (nI (z + oth σ.1 s q)) (nI q) g = KK (nI (z + oth σ.1 s (R 4))) g := by
        intro KK z mm
        induction mm with
        | zero =>
          intro q ff e hff
          obtain ⟨ff, rfl⟩ : ∃ q, ff = q + 1 := ⟨ff - 1, by omega⟩
          have : q = R 4 := by omega
          subst this
          simp (disch := omega) only [lI, gd_1, inbN, ixN, lq2, fX9_crowdNow_L32, Nat.reduceAdd, M 4, leN, Nat.le_refl, if_true]
        | succ mm ihm =>
          intro q ff e hff
          obtain ⟨ff, rfl⟩ : ∃ q, ff = q + 1 := ⟨ff - 1, by omega⟩
          have n3 : ¬ R 4 ≤ q := by omega
          have key := ihm (q + 1) ff (by omega) (by omega)
          rw [show oth σ.1 s (q + 1) = oth σ.1 s q + (if q ≠ s ∧ met σ.1 s q = true then 1 else 0) from rfl] at key
          have cm := mMet v Q W (show s < 5 by omega) (show q < 5 by omega)
          by_cases c : q = s
          · rw [if_neg (fun z => z.1 c)] at key
            simp (disch := omega) only [lI, gd_1, inbN, ixN, nm_1, nI_add, Nat.add_zero, lq2, fX9_crowdNow_L32, Nat.reduceAdd, M 4, leN, n3, if_false, eqN, eq_true c, if_true]
            exact key
          · cases hm : met σ.1 s q with
            | true =>
              rw [if_pos ⟨c, hm⟩] at key
              rw [hm] at cm
              simp (disch := omega) only [lI, gd_1, bd_1, inbN, ixN, nm_1, nI_add, lq2, fX9_crowdNow_L32, Nat.reduceAdd, M 4, leN, n3, if_false, eqN, c, cm, cond_true, Nat.add_assoc]
              exact key
            | false =>
              rw [if_neg (fun z => by rw [hm] at z; cases z.2)] at key
              rw [hm] at cm
              simp (disch := omega) only [lI, gd_1, bd_1, inbN, ixN, nm_1, nI_add, Nat.add_zero, lq2, fX9_crowdNow_L32, Nat.reduceAdd, M 4, leN, n3, if_false, eqN, c, cm, cond_false]
              exact key
      have i0 : ∀ (KK : Int32 → HH → Option (Int32 × HH)) z, lq2 (fX9_crowdNow_L32 KK 181 (nI (mxc σ.1 (R 4) s)) (nI s)) FU (nI z) (nI 0) g = KK (nI (z + oth σ.1 s (R 4))) g := fun KK z => inner KK z (R 4) 0 FU (by omega) (by unfold FU; omega)
      by_cases c : σ.1 (4 * s + 0) ≤ 0
      · have z0 : ∀ m, oth σ.1 s m = 0 := by
          intro m
          induction m with
          | zero => rfl
          | succ m ihm =>
            show oth σ.1 s m + (if m ≠ s ∧ met σ.1 s m = true then 1 else 0) = 0
            rw [ihm, met_0 (by omega)]; simp
        have c0 : cmp σ.1 s (R 4) = 0 := cmp_0 (by omega) (R 4)
        rw [c0, Nat.max_eq_left (Nat.zero_le _)] at key
        have n5 : 0 ≤ mxc σ.1 (R 4) s := Nat.zero_le _
        have i2 : ∀ (KK : Int32 → HH → Option (Int32 × HH)), lq2 (fX9_crowdNow_L32 KK 181 (nI (mxc σ.1 (R 4) s)) (nI s)) FU (nI 0) (nI 0) g = KK (nI 0) g := fun KK => by rw [i0 KK 0, z0 (R 4)]
        simp (disch := omega) only [lI, gd_1, bd_1, inbN, ixN, nI_add, lq2, fX9_crowdNow_L4, Nat.reduceAdd, M 4, leN, n1, if_false, mIts Q, c, if_true, i2, n5]
        exact key
      · have e1 := cmp_oth (N := σ.1) (s := s) (by omega) (R 4)
        rw [if_pos (show s < R 4 by omega), Nat.add_comm] at e1
        rw [e1] at key
        by_cases c2 : 1 + oth σ.1 s (R 4) ≤ mxc σ.1 (R 4) s
        · rw [Nat.max_eq_left c2] at key
          simp (disch := omega) only [lI, gd_1, bd_1, inbN, ixN, nI_add, lq2, fX9_crowdNow_L4, Nat.reduceAdd, M 4, leN, n1, if_false, mIts Q, c, i0, c2, if_true]
          exact key
        · rw [Nat.max_eq_right (by omega)] at key
          simp (disch := omega) only [lI, gd_1, bd_1, inbN, ixN, nI_add, lq2, fX9_crowdNow_L4, Nat.reduceAdd, M 4, leN, n1, if_false, mIts Q, c, i0, c2]
          exact key
  exact outer (R 4) 0 FU (by omega) (by unfold FU; omega)
set_option maxRecDepth 100000 in
theorem mCr {g : HH} (M : MRep g R) (v : VR R) (W : VN R N T 1200) (S : SN R N T) {t : Nat} (ht : t ≤ 600) (bb : ∀ g2, Keep PW g g2 → ∃ g3, fX9_bringBack 181 g2 = some g3 ∧ MNRep g3 N T ∧ Keep PM3 g g3) : ∀ m n fu (h : HH), n + m = t → m < fu → Keep PW g h → MNRep h (ps R N T n).1 (ps R N T n).2 → ∃ g', lq2 (fX9_crowd_L45 181 (nI t)) fu (nI (cmx (fun n => mxc (ps R N T n).1 (R 4) (R 4)) (n + 1))) (nI n) h = some (nI (cmx (fun n => mxc (ps R N T n).1 (R 4) (R 4)) (t + 1)), g') ∧ MNRep g' N T ∧ Keep PM3 g g' := by
  have vS := v.S
  have vb := v.bt
  intro m
  induction m with
  | zero =>
    intro n fu h e hfu K Q
    obtain ⟨fu, rfl⟩ : ∃ q, fu = q + 1 := ⟨fu - 1, by omega⟩
    have : n = t := by omega
    subst this
    obtain ⟨g3, e3, Q3, K3⟩ := bb h K
    refine ⟨g3, ?_, Q3, K3⟩
    simp (disch := omega) only [bv_1, lq2, fX9_crowd_L45, leN, Nat.le_refl, if_true, e3]
  | succ m ih =>
    intro n fu h e hfu K Q
    obtain ⟨fu, rfl⟩ : ∃ q, fu = q + 1 := ⟨fu - 1, by omega⟩
    have n1 : ¬ t ≤ n := by omega
    obtain ⟨W0, S0, t0⟩ := ps_ok v W S (show n ≤ 600 by omega)
    obtain ⟨W1, S1, t1⟩ := ps_ok v W S (show n + 1 ≤ 600 by omega)
    obtain ⟨h2, e2, Q2, K2⟩ := mMin (M.W K) v W S (show n + 1 ≤ 600 by omega) Q
    have M2 := M.W (K.trans K2)
    obtain ⟨g', e3, Q3, K3⟩ := ih (n + 1) fu h2 (by omega) (by omega) (K.trans K2) Q2
    refine ⟨g', ?_, Q3, K3⟩
    have q0 := Q.2 0 (by omega)
    rw [t0] at q0
    rw [← e3]
    rw [show cmx (fun n => mxc (ps R N T n).1 (R 4) (R 4)) (n + 1 + 1) = max (cmx (fun n => mxc (ps R N T n).1 (R 4) (R 4)) (n + 1)) (mxc (ps R N T (n + 1)).1 (R 4) (R 4)) from rfl]
    have hX := cmx_le (F := fun n => mxc (ps R N T n).1 (R 4) (R 4)) (fun n => mxc_le (ps R N T n).1 (R 4) (R 4)) (n + 1)
    have hY := mxc_le (ps R N T (n + 1)).1 (R 4) (R 4)
    generalize cmx (fun n => mxc (ps R N T n).1 (R 4) (R 4)) (n + 1) = X at hX ⊢
    have cn := mCn M2 v Q2 W1
    generalize mxc (ps R N T (n + 1)).1 (R 4) (R 4) = Y at hY cn ⊢
    by_cases c : Y ≤ X
    · rw [Nat.max_eq_left c]
      simp (disch := omega) only [lI, gd_1, bd_1, bv_1, inbN, ixN, nI_add, nI_l, lN_add, lq2, fX9_crowd_L45, leN, n1, if_false, Nat.reduceAdd, q0, mBottom (M.W K) v, e2, cn, c, if_true]
    · rw [Nat.max_eq_right (by omega)]
      simp (disch := omega) only [lI, gd_1, bd_1, bv_1, inbN, ixN, nI_add, nI_l, lN_add, lq2, fX9_crowd_L45, leN, n1, if_false, Nat.reduceAdd, q0, mBottom (M.W K) v, e2, cn, c]
set_option maxRecDepth 100000 in
theorem oCrowd (C : CA h d R N T) (x : Int32) : OpW R N T h (fX8_crowd 0 x h) (fun h1 => fX9_crowd 181 x h1) := by
  have k := isKb_D C.2.1
  have v := C.2.2.2.2.1
  have vS := v.S
  have W := C.2.2.2.2.2.2.1
  have S := C.2.2.2.2.2.2.2
  have c3 := C.2.2.1
  have z1 : ¬ (1 : Nat) = 0 := by omega
  rcases spC x with ⟨t, ht, rfl, e1, e2⟩ | ⟨e1, e2⟩
  · refine opw (nI (cmx (fun n => mxc (ps R N T n).1 (R 4) (R 4)) (t + 1))) ?_ (fun h1 g Mg hg => ?_)
    · obtain ⟨h2, l, e5, I, K2⟩ := cBegin C ht
      have hm := mu_le v (ps R N T 0)
      obtain ⟨h3, e6, K3⟩ := cCr C.2.1 v W S ht 29 0 FU 0 l h2 (by omega) (by unfold FU; omega) (C.2.2.2.1.O C.2.1 K2) I (by omega)
      refine ⟨h3, ?_, (K2.trans K3).mono PO_PQ⟩
      have e6' : lq2 (fX3_mostTogether_L13 20 d (nI t)) FU (nI 0) (nI 0) h2 = _ := e6
      simp (disch := omega) only [lI, lJ, gd_1, bd_1, bv_1, nm_1, ixN, inbN, eqN, leN, ltN, eqL, leL, ltL, beqN, beqL, nI_add, pk_mul, lN_add, lN_mul, nI_l, lN_i, pk_div, pk_lDiv, pk_sub, lN_sub, remN, remL, neg1, neg2, negL, negL2, M1e, M1f, M1g, M1h, M1i, M1j, M2e, M2f, L1g, L1h, L1i, L1j, les_eq, les_e, les_n, les_m, cond_true, cond_false, if_true, if_false, fX8_refuse, fX8_allow, fX8_allow_, Nat.not_lt_zero, Nat.reduceAdd, Nat.reduceLT, Nat.reduceLeDiff, Nat.reduceEqDiff, decide_false, decide_true, Bool.not_false, Bool.not_true, C.1, k, fX8_crowd, c3, z1, e1, fX3_mostTogether, e5, e6']
    · have Mg' := Mg
      obtain ⟨a1, M1, -, Qm, -, -⟩ := Mg
      obtain ⟨g1, e5, Q1, K1, bb⟩ := mSave Qm
      have M2' : MRep g1 R := M1.keep K1 (fun k => by unfold PM3; omega)
      have Q1' : MNRep g1 (N, T).1 (N, T).2 := Q1
      have cn := mCn M2' v Q1' W
      obtain ⟨g3, e6, Q3, K3⟩ := mCr M2' v W S ht (fun g2 K => by
        obtain ⟨g3, e3, Q3, K3⟩ := bb g2 K
        exact ⟨g3, e3, Q3, (fun x k hp => by
          have z1 := K1 x k hp
          have z3 := K3 x k hp
          exact ⟨z3.1.trans z1.1.symm, z3.2.1.trans z1.2.1.symm, z3.2.2.trans z1.2.2.symm⟩)⟩) t 0 FU g1 (by omega) (by unfold FU; omega) Keep.rfl (by rw [ps_0 v W S]; exact Q1)
      have e9 : cmx (fun n => mxc (ps R N T n).1 (R 4) (R 4)) (0 + 1) = mxc N (R 4) (R 4) := by
        show max 0 (mxc (ps R N T 0).1 (R 4) (R 4)) = _
        rw [ps_0 v W S]; exact Nat.max_eq_right (Nat.zero_le _)
      rw [e9] at e6
      refine ⟨g3, ?_, K1.trans K3, Q3⟩
      simp (disch := omega) only [lI, lJ, gd_1, bd_1, bv_1, nm_1, ixN, inbN, eqN, leN, ltN, eqL, leL, ltL, beqN, beqL, nI_add, pk_mul, lN_add, lN_mul, nI_l, lN_i, pk_div, pk_lDiv, pk_sub, lN_sub, remN, remL, neg1, neg2, negL, negL2, M1e, M1f, M1g, M1h, M1i, M1j, M2e, M2f, L1g, L1h, L1i, L1j, les_eq, les_e, les_n, les_m, cond_true, cond_false, if_true, if_false, fX9_no, hg, Nat.not_lt_zero, Nat.reduceAdd, Nat.reduceLT, Nat.reduceLeDiff, Nat.reduceEqDiff, decide_false, decide_true, Bool.not_false, Bool.not_true, fX9_crowd, a1, z1, e2, e5, cn]
      exact e6
  · refine OpQ.W (opr 2 (by omega) M1 ?_ (fun h1 g Mg hg => ?_))
    · simp (disch := omega) only [lI, lJ, gd_1, bd_1, bv_1, nm_1, ixN, inbN, eqN, leN, ltN, eqL, leL, ltL, beqN, beqL, nI_add, pk_mul, lN_add, lN_mul, nI_l, lN_i, pk_div, pk_lDiv, pk_sub, lN_sub, remN, remL, neg1, neg2, negL, negL2, M1e, M1f, M1g, M1h, M1i, M1j, M2e, M2f, L1g, L1h, L1i, L1j, les_eq, les_e, les_n, les_m, cond_true, cond_false, if_true, if_false, fX8_refuse, fX8_allow, fX8_allow_, Nat.not_lt_zero, Nat.reduceAdd, Nat.reduceLT, Nat.reduceLeDiff, Nat.reduceEqDiff, decide_false, decide_true, Bool.not_false, Bool.not_true, C.1, k, fX8_crowd, c3, z1, e1]
    · simp (disch := omega) only [lI, lJ, gd_1, bd_1, bv_1, nm_1, ixN, inbN, eqN, leN, ltN, eqL, leL, ltL, beqN, beqL, nI_add, pk_mul, lN_add, lN_mul, nI_l, lN_i, pk_div, pk_lDiv, pk_sub, lN_sub, remN, remL, neg1, neg2, negL, negL2, M1e, M1f, M1g, M1h, M1i, M1j, M2e, M2f, L1g, L1h, L1i, L1j, les_eq, les_e, les_n, les_m, cond_true, cond_false, if_true, if_false, fX9_no, hg, Nat.not_lt_zero, Nat.reduceAdd, Nat.reduceLT, Nat.reduceLeDiff, Nat.reduceEqDiff, decide_false, decide_true, Bool.not_false, Bool.not_true, fX9_crowd, Mg.1, z1, e2]
end CRO
