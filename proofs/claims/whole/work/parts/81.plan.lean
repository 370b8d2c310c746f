/-! TASKS -/
abbrev BT : Type := Option (Nat × Nat × Nat × (Nat → Nat))
def wg (R : Nat → Nat) (rk tm ow : Nat) (fl : Nat → Nat) (β : BT) : BT := if tm ≤ R 2 * bt R then (match β with
    | none => some (rk, tm, ow, fl)
    | some (r, t, o, c) => if rk < r ∨ (rk = r ∧ ow < o) then some (rk, tm, ow, fl) else some (r, t, o, c)) else β
def skl {α : Type} (st : Nat → α → α) : Nat → Nat → α → α
  | _, 0, β => β
  | a, n + 1, β => skl st (a + 1) n (st a β)
set_option maxRecDepth 100000 in
theorem skl_id {α : Type} {st : Nat → α → α} {β : α} : ∀ n a, (∀ j, a ≤ j → j < a + n → st j β = β) → skl st a n β = β := by
  intro n
  induction n with
  | zero => intro a _; rfl
  | succ n ih =>
    intro a h
    show skl st (a + 1) n (st a β) = β
    rw [h a (by omega) (by omega)]
    exact ih (a + 1) (fun j h1 h2 => h j (by omega) (by omega))
def sk (R : Nat → Nat) : Nat → Nat → Nat → Nat → Nat → Nat → (Nat → Nat) → BT → BT
  | 0, _, lo, rk, tm, ow, fl, β => wg R rk (tm + fs R 0 lo) (ow + R 1 * lo) fl β
  | m + 1, k, lo, rk, tm, ow, fl, β => skl (fun j β => sk R m (k + 1) (max lo j) (rk + R (132 + 3 * k + 2) * j) (tm + R (132 + 3 * k + 1) * mn R j) (ow + R (132 + 3 * k + 1)) (up fl k j) β) (R (132 + 3 * k)) (R 0 + 1 - R (132 + 3 * k)) β
set_option maxRecDepth 100000 in
theorem sk_late {R : Nat → Nat} : ∀ m k lo rk tm ow fl β, R 2 * bt R < tm → sk R m k lo rk tm ow fl β = β := by
  intro m
  induction m with
  | zero =>
    intro k lo rk tm ow fl β h
    show wg R rk (tm + fs R 0 lo) (ow + R 1 * lo) fl β = β
    exact if_neg (by omega)
  | succ m ih =>
    intro k lo rk tm ow fl β h
    exact skl_id _ _ (fun j _ _ => ih (k + 1) (max lo j) _ _ _ _ β (by omega))
set_option maxRecDepth 100000 in
theorem sk_risk {R : Nat → Nat} : ∀ m k lo rk tm ow fl r t o c, r < rk → sk R m k lo rk tm ow fl (some (r, t, o, c)) = some (r, t, o, c) := by
  intro m
  induction m with
  | zero =>
    intro k lo rk tm ow fl r t o c h
    show wg R rk (tm + fs R 0 lo) (ow + R 1 * lo) fl (some (r, t, o, c)) = _
    unfold wg
    split
    · exact if_neg (by omega)
    · rfl
  | succ m ih =>
    intro k lo rk tm ow fl r t o c h
    exact skl_id _ _ (fun j _ _ => ih (k + 1) (max lo j) _ _ _ _ r t o c (by omega))
def PlB (h : HH) (R : Nat → Nat) : BT → Prop
  | none => gI h 28 3 = nI 0
  | some (r, t, o, c) => gI h 28 3 = nI 1 ∧ gL h 28 4 = lN r ∧ gL h 28 5 = lN t ∧ gL h 28 6 = lN o ∧ (∀ i, i < R 7 → gI h 29 i = nI (c i)) ∧ r < 2 ^ 40 ∧ o < 2 ^ 40
def PP (b k : Nat) : Prop := ¬ (b = 28 ∧ 3 ≤ k ∧ k ≤ 6) ∧ b ≠ 29 ∧ b ≠ 30
def aMin (R : Nat → Nat) : Nat → Nat
  | 0 => 0
  | k + 1 => aMin R k + R (132 + 3 * k + 1)
section PLAN
variable {h : HH} {d : Nat} {R N T : Nat → Nat}
set_option maxRecDepth 100000 in
theorem aMin_le (v : VR R) : ∀ k, k ≤ R 7 → aMin R k ≤ 999 * k
  | 0, _ => Nat.le_refl _
  | k + 1, hk => by
    have := aMin_le v k (by omega)
    have vk := v.2.2.2.2.2.1 k (by omega)
    show aMin R k + R (132 + 3 * k + 1) ≤ _
    omega
set_option maxRecDepth 100000 in
theorem DRep.P {h h' : HH} (D : DRep h d R) (hD : isD d) (K : Keep PP h h') : DRep h' d R := D.keep K (fun b k h1 h2 => by rcases hD with e | e <;> (unfold PP; omega))
set_option maxRecDepth 100000 in
theorem cMorn (D : DRep h d R) (v : VR R) : fX0_morningTick d h = some (lN (R 2 * bt R), h) := by
  have v2 := v.2.1
  have vb := v.bt
  simp (disch := omega) only [lI, lJ, gd_1, bd_1, bv_1, nm_1, ixN, inbN, eqN, leN, ltN, eqL, leL, ltL, beqN, beqL, nI_add, pk_mul, lN_add, lN_mul, nI_l, lN_i, pk_div, pk_lDiv, pk_sub, lN_sub, remN, remL, neg1, neg2, negL, negL2, M1e, M1f, M1g, M1h, M1i, M1j, M2e, M2f, L1g, L1h, L1i, L1j, les_eq, les_e, les_n, les_m, fX0_morningTick, D.2.2.1.2.2.1, cBottom D v]
set_option maxRecDepth 100000 in
theorem morn_le (v : VR R) : R 2 * bt R ≤ 12441600 := Nat.le_trans (Nat.mul_le_mul v.2.1.2.2.1 v.bt.2) (by decide)
set_option maxRecDepth 100000 in
theorem cWgL : ∀ m i f (g : HH), i + m = 6 → m < f → (∀ j, j < i → gI g 29 j = gI g 30 j) → ∃ h', lq1 (fX4_weigh_L98 28) f (nI i) g = some h' ∧ (∀ j, j < 6 → gI h' 29 j = gI g 30 j) ∧ Keep (fun b _ => b ≠ 29) g h' := by
  intro m
  induction m with
  | zero =>
    intro i f g e hf hj
    obtain ⟨f, rfl⟩ : ∃ q, f = q + 1 := ⟨f - 1, by omega⟩
    have : i = 6 := by omega
    subst this
    refine ⟨g, ?_, hj, Keep.rfl⟩
    simp (disch := omega) only [lI, lq1, fX4_weigh_L98, leN, Nat.le_refl, if_true]
  | succ m ih =>
    intro i f g e hf hj
    obtain ⟨f, rfl⟩ : ∃ q, f = q + 1 := ⟨f - 1, by omega⟩
    have n1 : ¬ 6 ≤ i := by omega
    have K1 : Keep (fun b _ => b ≠ 29) g (sI g 29 i (gI g 30 i)) := Keep.sI Keep.rfl (fun z => z rfl)
    obtain ⟨h', e1, e2, K2⟩ := ih (i + 1) f (sI g 29 i (gI g 30 i)) (by omega) (by omega) (fun j hj2 => by
      rw [gIa (b := 30) (by omega)]
      by_cases c : j = i
      · subst c; rw [gIs]
      · rw [gIk c]; exact hj j (by omega))
    refine ⟨h', ?_, fun j hj2 => ?_, K1.trans K2⟩
    · simp (disch := omega) only [lI, gd_1, ixN, inbN, nI_add, lq1, fX4_weigh_L98, leN, n1, if_false, Nat.reduceAdd]
      exact e1
    · rw [e2 j hj2, gIa (by omega)]
/-! the way that is tried is taken -/
set_option maxRecDepth 100000 in
theorem cTaken (v : VR R) {rk tm ow : Nat} {fl : Nat → Nat} (hfl : ∀ i, i < R 7 → gI h 30 i = nI (fl i)) (hr : rk < 2 ^ 40) (ho : ow < 2 ^ 40) : ∃ h', lq1 (fX4_weigh_L98 28) FU (nI 0) (sL (sL (sL (sI h 28 3 (nI 1)) 28 4 (lN rk)) 28 5 (lN tm)) 28 6 (lN ow)) = some h' ∧ PlB h' R (some (rk, tm, ow, fl)) ∧ Keep PP h h' ∧ (∀ i, gI h' 30 i = gI h 30 i) := by
  have v7 := v.2.1
  obtain ⟨h', e1, e2, K2⟩ := cWgL 6 0 FU (sL (sL (sL (sI h 28 3 (nI 1)) 28 4 (lN rk)) 28 5 (lN tm)) 28 6 (lN ow)) (by omega) (by unfold FU; omega) (fun j hj => absurd hj (Nat.not_lt_zero j))
  have K1 : Keep PP h (sL (sL (sL (sI h 28 3 (nI 1)) 28 4 (lN rk)) 28 5 (lN tm)) 28 6 (lN ow)) := Keep.sL (Keep.sL (Keep.sL (Keep.sI Keep.rfl (fun z => z.1 ⟨rfl, by omega, by omega⟩)) (fun z => z.1 ⟨rfl, by omega, by omega⟩)) (fun z => z.1 ⟨rfl, by omega, by omega⟩)) (fun z => z.1 ⟨rfl, by omega, by omega⟩)
  refine ⟨h', e1, ⟨?_, ?_, ?_, ?_, fun i hi => ?_, hr, ho⟩, K1.trans (K2.mono (fun x k hp => hp.2.1)), fun i => ?_⟩
  · rw [(K2 28 3 (by omega)).1]; simp (disch := omega) only [gI_sL, gIs]
  · rw [(K2 28 4 (by omega)).2.1]; simp (disch := omega) only [gLk, gLs]
  · rw [(K2 28 5 (by omega)).2.1]; simp (disch := omega) only [gLk, gLs]
  · rw [(K2 28 6 (by omega)).2.1]; simp (disch := omega) only [gLs]
  · rw [e2 i (by omega)]; simp (disch := omega) only [gI_sL, gIa]; exact hfl i hi
  · rw [(K2 30 i (by omega)).1]; simp (disch := omega) only [gI_sL, gIa]
set_option maxRecDepth 100000 in
theorem cWeigh (D : DRep h d R) (v : VR R) {lo rk tm : Nat} {fl : Nat → Nat} {β : BT} (g7 : gL h 28 7 = lN (aMin R (R 7))) (hfl : ∀ i, i < R 7 → gI h 30 i = nI (fl i)) (P : PlB h R β) (hlo : lo ≤ 4) (hr : rk < 2 ^ 40) (ht : tm < 2 ^ 62) : ∃ h', fX4_weigh 28 d (nI lo) (lN rk) (lN tm) h = some h' ∧ PlB h' R (wg R rk tm (aMin R (R 7) + R 1 * lo) fl β) ∧ Keep PP h h' ∧ (∀ i, gI h' 30 i = gI h 30 i) := by
  have v1 := v.2.1
  have ha := aMin_le v (R 7) (Nat.le_refl _)
  have hb : R 1 * lo ≤ 60 * 4 := Nat.mul_le_mul v1.1 hlo
  have hm := morn_le v
  have ho : aMin R (R 7) + R 1 * lo < 2 ^ 40 := by omega
  have d10 := D.2.2.1.2.1
  have cm := cMorn D v
  have e9 : R 1 * lo + aMin R (R 7) = aMin R (R 7) + R 1 * lo := Nat.add_comm _ _
  by_cases c : tm ≤ R 2 * bt R
  · have c' : ¬ R 2 * bt R < tm := by omega
    obtain ⟨h', e1, P1, K1, k1⟩ := cTaken v hfl (tm := tm) hr ho
    have e1' : lq1 (fX4_weigh_L98 28) FU (nI 0) (sL (sL (sL (sI h 28 3 (nI 1)) 28 4 (lN rk)) 28 5 (lN tm)) 28 6 (lN (aMin R (R 7) + R 1 * lo))) = some h' := e1
    cases β with
    | none =>
      have P0 : gI h 28 3 = nI 0 := P
      refine ⟨h', ?_, by unfold wg; rw [if_pos c]; exact P1, K1, k1⟩
      simp (disch := omega) only [lI, bd_1, nm_1, nI_l, lN_mul, lN_add, fX4_weigh, d10, g7, e9, P0, if_true, cm, ltL, c', if_false, e1']
    | some q =>
      obtain ⟨r, t, o, cc⟩ := q
      obtain ⟨p1, p2, p3, p4, p5, p6, p7⟩ := id P
      have z1 : ¬ (1 : Nat) = 0 := by omega
      by_cases c1 : rk < r
      · refine ⟨h', ?_, by unfold wg; rw [if_pos c]; show PlB h' R (if rk < r ∨ (rk = r ∧ aMin R (R 7) + R 1 * lo < o) then _ else _); rw [if_pos (Or.inl c1)]; exact P1, K1, k1⟩
        simp (disch := omega) only [lI, bd_1, nm_1, nI_l, lN_mul, lN_add, fX4_weigh, d10, g7, e9, p1, eqN, z1, if_false, p2, ltL, c1, if_true, cm, c', e1']
      · by_cases c2 : rk = r
        · by_cases c3 : o ≤ aMin R (R 7) + R 1 * lo
          · refine ⟨h, ?_, by unfold wg; rw [if_pos c]; show PlB h R (if rk < r ∨ (rk = r ∧ aMin R (R 7) + R 1 * lo < o) then _ else _); rw [if_neg (by omega)]; exact P, Keep.rfl, fun _ => rfl⟩
            simp (disch := omega) only [lI, bd_1, nm_1, nI_l, lN_mul, lN_add, fX4_weigh, d10, g7, e9, p1, eqN, z1, if_false, p2, ltL, c1, eqL, eq_true c2, if_true, p4, leL, c3, cm, c']
          · refine ⟨h', ?_, by unfold wg; rw [if_pos c]; show PlB h' R (if rk < r ∨ (rk = r ∧ aMin R (R 7) + R 1 * lo < o) then _ else _); rw [if_pos (by omega)]; exact P1, K1, k1⟩
            simp (disch := omega) only [lI, bd_1, nm_1, nI_l, lN_mul, lN_add, fX4_weigh, d10, g7, e9, p1, eqN, z1, if_false, p2, ltL, c1, eqL, eq_true c2, if_true, p4, leL, c3, cm, c', e1']
        · refine ⟨h, ?_, by unfold wg; rw [if_pos c]; show PlB h R (if rk < r ∨ (rk = r ∧ aMin R (R 7) + R 1 * lo < o) then _ else _); rw [if_neg (by omega)]; exact P, Keep.rfl, fun _ => rfl⟩
          simp (disch := omega) only [lI, bd_1, nm_1, nI_l, lN_mul, lN_add, fX4_weigh, d10, g7, e9, p1, eqN, z1, if_false, p2, ltL, c1, eqL, c2, cm, c']
  · have c' : R 2 * bt R < tm := by omega
    refine ⟨h, ?_, by unfold wg; rw [if_neg c]; exact P, Keep.rfl, fun _ => rfl⟩
    cases β with
    | none =>
      have P0 : gI h 28 3 = nI 0 := P
      simp (disch := omega) only [lI, bd_1, nm_1, nI_l, lN_mul, lN_add, fX4_weigh, d10, g7, P0, if_true, cm, ltL, c']
    | some q =>
      obtain ⟨r, t, o, cc⟩ := q
      obtain ⟨p1, p2, p3, p4, p5, p6, p7⟩ := id P
      have z1 : ¬ (1 : Nat) = 0 := by omega
      by_cases c1 : rk < r
      · simp (disch := omega) only [lI, bd_1, nm_1, nI_l, lN_mul, lN_add, fX4_weigh, d10, g7, p1, eqN, z1, if_false, p2, ltL, c1, if_true, cm, c']
      · by_cases c2 : rk = r
        · by_cases c3 : o ≤ aMin R (R 7) + R 1 * lo
          · simp (disch := omega) only [lI, bd_1, nm_1, nI_l, lN_mul, lN_add, fX4_weigh, d10, g7, e9, p1, eqN, z1, if_false, p2, ltL, c1, eqL, eq_true c2, if_true, p4, leL, c3, cm, c']
          · simp (disch := omega) only [lI, bd_1, nm_1, nI_l, lN_mul, lN_add, fX4_weigh, d10, g7, e9, p1, eqN, z1, if_false, p2, ltL, c1, eqL, eq_true c2, if_true, p4, leL, c3, cm, c']
        · simp (disch := omega) only [lI, bd_1, nm_1, nI_l, lN_mul, lN_add, fX4_weigh, d10, g7, p1, eqN, z1, if_false, p2, ltL, c1, eqL, c2, cm, c', if_true]
set_option maxRecDepth 100000 in
theorem fs0_le (v : VR R) {lo : Nat} (hlo : lo ≤ R 0) : fs R 0 lo ≤ 4976640 := by
  have := fs_le v 0 lo hlo
  have := v.F
  omega
set_option maxRecDepth 100000 in
theorem cChoose (hD : isD d) (v : VR R) : ∀ m k fu lo rk tm fl β (h : HH), k + m = R 7 → m < fu → DRep h d R → gL h 28 7 = lN (aMin R (R 7)) → (∀ i, i < k → gI h 30 i = nI (fl i)) → PlB h R β → lo ≤ R 0 → rk ≤ 396 * k → tm ≤ 20715264 * k → ∃ h', lq6 fX4_choose_0 fu 28 d (nI k) (nI lo) (lN rk) (lN tm) h = some h' ∧ PlB h' R (sk R m k lo rk tm (aMin R k) fl β) ∧ Keep PP h h' ∧ (∀ i, i < k → gI h' 30 i = nI (fl i)) := by
  have v7 := v.2.1
  have vF := v.F
  have hmo := morn_le v
  intro m
  induction m with
  | zero =>
    intro k fu lo rk tm fl β h e hfu D g7 hfl P hlo hrk htm
    obtain ⟨fu, rfl⟩ : ∃ q, fu = q + 1 := ⟨fu - 1, by omega⟩
    have : k = R 7 := by omega
    subst this
    have cm := cMorn D v
    have hf := fs0_le v hlo
    show ∃ h', fX4_choose_0 (lq6 fX4_choose_0 fu) 28 d (nI (R 7)) (nI lo) (lN rk) (lN tm) h = some h' ∧ _
    by_cases c : R 2 * bt R < tm
    · refine ⟨h, ?_, by rw [sk_late 0 _ _ _ _ _ _ _ c]; exact P, Keep.rfl, hfl⟩
      simp (disch := omega) only [bd_1, fX4_choose_0, cm, ltL, c, if_true]
    · obtain ⟨h', e1, P1, K1, k1⟩ := cWeigh D v (lo := lo) (rk := rk) (tm := tm + fs R 0 lo) g7 hfl P (by omega) (by omega) (by omega)
      have fin : fX4_choose_b28 (lq6 fX4_choose_0 fu) 28 d (nI (R 7)) (nI lo) (lN rk) (lN tm) h = some h' := by
        simp (disch := omega) only [lI, bd_1, bv_1, lN_add, fX4_choose_b28, D.2.2.2.1.2.2.2.1.2, leN, Nat.le_refl, if_true, cFall D v (Nat.zero_le (R 0)) hlo, e1]
      cases β with
      | none =>
        have P0 : gI h 28 3 = nI 0 := P
        refine ⟨h', ?_, P1, K1, fun i hi => by rw [k1]; exact hfl i hi⟩
        simp (disch := omega) only [lI, bd_1, fX4_choose_0, cm, ltL, c, if_false, P0, if_true]
        exact fin
      | some q =>
        obtain ⟨r, t, o, cc⟩ := q
        obtain ⟨p1, p2, p3, p4, p5, p6, p7⟩ := id P
        have z1 : ¬ (1 : Nat) = 0 := by omega
        by_cases c1 : rk ≤ r
        · refine ⟨h', ?_, P1, K1, fun i hi => by rw [k1]; exact hfl i hi⟩
          simp (disch := omega) only [lI, bd_1, fX4_choose_0, cm, ltL, c, if_false, p1, eqN, z1, p2, leL, c1, if_true]
          exact fin
        · refine ⟨h, ?_, by rw [sk_risk 0 _ _ _ _ _ _ _ _ _ _ (by omega)]; exact P, Keep.rfl, hfl⟩
          simp (disch := omega) only [lI, bd_1, fX4_choose_0, cm, ltL, c, if_false, p1, eqN, z1, p2, leL, c1]
  | succ m ih =>
    intro k fu lo rk tm fl β h e hfu D g7 hfl P hlo hrk htm
    obtain ⟨fu, rfl⟩ : ∃ q, fu = q + 1 := ⟨fu - 1, by omega⟩
    have cm := cMorn D v
    have hk7 : k < R 7 := by omega
    have vk := v.2.2.2.2.2.1 k hk7
    have dk := D.2.2.2.2.2.2.2.2.1 k hk7
    show ∃ h', fX4_choose_0 (lq6 fX4_choose_0 fu) 28 d (nI k) (nI lo) (lN rk) (lN tm) h = some h' ∧ _
    by_cases c : R 2 * bt R < tm
    · refine ⟨h, ?_, by rw [sk_late (m + 1) _ _ _ _ _ _ _ c]; exact P, Keep.rfl, hfl⟩
      simp (disch := omega) only [bd_1, fX4_choose_0, cm, ltL, c, if_true]
    · have loop : ∀ n j ff β (g : HH), j + n = R 0 + 1 → n < ff → Keep PP h g → PlB g R β → (∀ i, i < k → gI g 30 i = nI (fl i)) → ∃ h', lq1 (fX4_choose_L96 (lq6 fX4_choose_0 fu) 28 d (nI k) (nI lo) (lN rk) (lN tm) (nI (R (132 + 3 * k + 1))) (nI (R (132 + 3 * k + 2)))) ff (nI j) g = some h' ∧ PlB h' R (skl (fun j β => sk R m (k + 1) (max lo j) (rk + R (132 + 3 * k + 2) * j) (tm + R (132 + 3 * k + 1) * mn R j) (aMin R k + R (132 + 3 * k + 1)) (up fl k j) β) j n β) ∧ Keep PP h h' ∧ (∀ i, i < k → gI h' 30 i = nI (fl i)) := by
        intro n
        induction n with
        | zero =>
          intro j ff β g ej hff K Pg hg
          obtain ⟨ff, rfl⟩ : ∃ q, ff = q + 1 := ⟨ff - 1, by omega⟩
          have n1 : R 0 < j := by omega
          refine ⟨g, ?_, Pg, K, hg⟩
          simp (disch := omega) only [lq1, fX4_choose_L96, (D.P hD K).2.2.1.1, ltN, n1, if_true]
        | succ n ihn =>
          intro j ff β g ej hff K Pg hg
          obtain ⟨ff, rfl⟩ : ∃ q, ff = q + 1 := ⟨ff - 1, by omega⟩
          have n1 : ¬ R 0 < j := by omega
          have K1 : Keep PP h (sI g 30 k (nI j)) := Keep.sI K (fun z => z.2.2 rfl)
          have D1 := D.P hD K1
          have hm := v.mn (f := j) (by omega)
          have b1 : R (132 + 3 * k + 2) * j ≤ 99 * 4 := Nat.mul_le_mul vk.2.2.2 (by omega)
          have b2 : R (132 + 3 * k + 1) * mn R j ≤ 999 * 20736 := Nat.mul_le_mul vk.2.2.1 hm.2
          obtain ⟨h2, e2, P2, K2, k2⟩ := ih (k + 1) fu (max lo j) (rk + R (132 + 3 * k + 2) * j) (tm + R (132 + 3 * k + 1) * mn R j) (up fl k j) β (sI g 30 k (nI j)) (by omega) (by omega) D1 (by rw [gL_sI]; exact (K 28 7 (by unfold PP; omega)).2.1.trans g7) (fun i hi => by
            by_cases c2 : i = k
            · subst c2; rw [gIs, up_s]
            · rw [gIk c2, up_o c2]; exact hg i (by omega)) (by
            cases β with
            | none => have p0 : gI g 28 3 = nI 0 := Pg
                      show gI (sI g 30 k (nI j)) 28 3 = nI 0
                      rw [gIa (by omega)]; exact p0
            | some q =>
              obtain ⟨r, t, o, cc⟩ := q
              obtain ⟨p1, p2, p3, p4, p5, p6, p7⟩ := id Pg
              exact ⟨by rw [gIa (by omega)]; exact p1, by rw [gL_sI]; exact p2, by rw [gL_sI]; exact p3, by rw [gL_sI]; exact p4, fun i hi => by rw [gIa (by omega)]; exact p5 i hi, p6, p7⟩) (by omega) (by omega) (by omega)
          obtain ⟨h3, e3, P3, K3, k3⟩ := ihn (j + 1) ff _ h2 (by omega) (by omega) (K1.trans K2) P2 (fun i hi => by
            have := k2 i (by omega)
            rw [up_o (by omega)] at this; exact this)
          refine ⟨h3, ?_, P3, K3, k3⟩
          simp (disch := omega) only [lI, gd_1, bd_1, bv_1, nm_1, ixN, inbN, nI_add, nI_l, lN_mul, lN_add, lq1, fX4_choose_L96, (D.P hD K).2.2.1.1, ltN, n1, if_false, Nat.reduceAdd, cMinute D1 v (f := j) (by omega), maxN, e2]
          exact e3
      obtain ⟨h', e1, P1, K1, k1⟩ := loop (R 0 + 1 - R (132 + 3 * k)) (R (132 + 3 * k)) FU β h (by omega) (by unfold FU; omega) Keep.rfl P hfl
      have n2 : ¬ R 7 ≤ k := by omega
      have n3 : k < 6 := by omega
      have fin : fX4_choose_b28 (lq6 fX4_choose_0 fu) 28 d (nI k) (nI lo) (lN rk) (lN tm) h = some h' := by
        simp (disch := omega) only [lI, bd_1, bv_1, fX4_choose_b28, D.2.2.2.1.2.2.2.1.2, leN, n2, if_false, ltN, n3, if_true, cTa D hD v hk7, dk, e1]
      cases β with
      | none =>
        have P0 : gI h 28 3 = nI 0 := P
        refine ⟨h', ?_, P1, K1, k1⟩
        simp (disch := omega) only [lI, bd_1, fX4_choose_0, cm, ltL, c, if_false, P0, if_true]
        exact fin
      | some q =>
        obtain ⟨r, t, o, cc⟩ := q
        obtain ⟨p1, p2, p3, p4, p5, p6, p7⟩ := id P
        have z1 : ¬ (1 : Nat) = 0 := by omega
        by_cases c1 : rk ≤ r
        · refine ⟨h', ?_, P1, K1, k1⟩
          simp (disch := omega) only [lI, bd_1, fX4_choose_0, cm, ltL, c, if_false, p1, eqN, z1, p2, leL, c1, if_true]
          exact fin
        · refine ⟨h, ?_, by rw [sk_risk (m + 1) _ _ _ _ _ _ _ _ _ _ (by omega)]; exact P, Keep.rfl, hfl⟩
          simp (disch := omega) only [lI, bd_1, fX4_choose_0, cm, ltL, c, if_false, p1, eqN, z1, p2, leL, c1]
/-- the best way -/
def bw (R : Nat → Nat) : BT := sk R (R 7) 0 0 0 0 0 (fun _ => 0) none
def PLR (h : HH) (R : Nat → Nat) : Prop := gI h 28 2 = nI 0 ∨ (gI h 28 2 = nI 1 ∧ PlB h R (bw R))
def PP2 (b k : Nat) : Prop := b ≠ 28 ∧ b ≠ 29 ∧ b ≠ 30
set_option maxRecDepth 100000 in
theorem cAllMin (D : DRep h d R) (hD : isD d) (v : VR R) : fX4_allMinutes d h = some (lN (aMin R (R 7)), h) := by
  have v7 := v.2.1
  have main : ∀ m i f, i + m = R 7 → m < f → lq2 (fX4_allMinutes_L4 d) f (lN (aMin R i)) (nI i) h = some (lN (aMin R (R 7)), h) := by
    intro m
    induction m with
    | zero =>
      intro i f e hf
      obtain ⟨f, rfl⟩ : ∃ q, f = q + 1 := ⟨f - 1, by omega⟩
      have : i = R 7 := by omega
      subst this
      simp (disch := omega) only [lq2, fX4_allMinutes_L4, D.2.2.2.1.2.2.2.1.2, leN, Nat.le_refl, if_true]
    | succ m ih =>
      intro i f e hf
      obtain ⟨f, rfl⟩ : ∃ q, f = q + 1 := ⟨f - 1, by omega⟩
      have n1 : ¬ R 7 ≤ i := by omega
      have hi : i < R 7 := by omega
      have vk := v.2.2.2.2.2.1 i hi
      have dk := D.2.2.2.2.2.2.2.2.1 i hi
      simp (disch := omega) only [lI, bd_1, nm_1, nI_add, nI_l, lN_add, lq2, fX4_allMinutes_L4, D.2.2.2.1.2.2.2.1.2, leN, n1, if_false, cTa D hD v hi, dk]
      exact ih (i + 1) f (by omega) (by omega)
  exact main (R 7) 0 FU (by omega) (by unfold FU; omega)
set_option maxRecDepth 100000 in
theorem cMake (D : DRep h d R) (hD : isD d) (v : VR R) (P : PLR h R) : ∃ h', fX4_make 28 d h = some h' ∧ PlB h' R (bw R) ∧ gI h' 28 2 = nI 1 ∧ Keep PP2 h h' := by
  have v7 := v.2.1
  rcases P with p | ⟨p, q⟩
  · have K1 : Keep PP2 h (sI (sI h 28 2 (nI 1)) 28 3 (nI 0)) := Keep.sI (Keep.sI Keep.rfl (fun z => z.1 rfl)) (fun z => z.1 rfl)
    have DD : ∀ g, Keep PP2 h g → DRep g d R := fun g K => D.keep K (fun b k h1 h2 => by rcases hD with e | e <;> (unfold PP2; omega))
    have am := cAllMin (DD _ K1) hD v
    have K2 : Keep PP2 h (sL (sI (sI h 28 2 (nI 1)) 28 3 (nI 0)) 28 7 (lN (aMin R (R 7)))) := Keep.sL K1 (fun z => z.1 rfl)
    obtain ⟨h', e1, P1, K3, -⟩ := cChoose hD v (R 7) 0 8 0 0 0 (fun _ => 0) none (sL (sI (sI h 28 2 (nI 1)) 28 3 (nI 0)) 28 7 (lN (aMin R (R 7)))) (by omega) (by omega) (DD _ K2) (gLs _ _ _ _) (fun i hi => absurd hi (Nat.not_lt_zero i)) (by show gI _ 28 3 = nI 0; rw [gI_sL, gIs]) (Nat.zero_le _) (Nat.zero_le _) (Nat.zero_le _)
    refine ⟨h', ?_, P1, ?_, K2.trans (K3.mono (fun x k hp => ⟨fun z => hp.1 z.1, hp.2.1, hp.2.2⟩))⟩
    · simp (disch := omega) only [lI, lJ, bd_1, bv_1, nm_1, eqN, fX4_make, p, if_true, am, fX4_choose, e1]
    · rw [(K3 28 2 (by unfold PP; omega)).1, gI_sL, gIk (by omega), gIs]
  · have z1 : ¬ (1 : Nat) = 0 := by omega
    refine ⟨h, ?_, q, p, Keep.rfl⟩
    simp (disch := omega) only [lI, eqN, fX4_make, p, z1, if_false]
end PLAN
