/-! TOGETHER: the model -/
def PMt (b k : Nat) : Prop := ¬ (b = 181 ∧ 36 ≤ k ∧ k ≤ 38) ∧ b ≠ 196 ∧ b ≠ 197 ∧ b ≠ 198
section MRS
variable {g : HH} {R N T : Nat → Nat}
set_option maxRecDepth 100000 in
theorem MRep.U {g g' : HH} (M : MRep g R) (K : Keep PMt g g') : MRep g' R := M.keep K (fun k => by unfold PMt; omega)
set_option maxRecDepth 100000 in
theorem p5_le (v : VR R) : 5 ^ R 4 ≤ 3125 := Nat.le_trans (Nat.pow_le_pow_right (by omega) v.S.2) (by decide)
set_option maxRecDepth 100000 in
theorem p5_s {s : Nat} (h : s ≤ 5) : 5 ^ s ≤ 3125 := Nat.le_trans (Nat.pow_le_pow_right (by omega) h) (by decide)
set_option maxRecDepth 100000 in
theorem mHasB {b s : Nat} (hb : b < 32) (hs : s < 5) : fX9_hasBit (nI b) (nI s) g = some (decide (bb b s), g) := by
  by_cases c : bb b s
  · rw [decide_eq_true c]
    simp (disch := omega) only [lI, fX9_hasBit, bitE, eq_true c, if_true]
  · rw [decide_eq_false c]
    simp (disch := omega) only [lI, fX9_hasBit, bitE, c, if_false]
set_option maxRecDepth 100000 in
theorem sg5_le {f : Nat → Nat} (h : ∀ i, f i < 5) {s : Nat} (hs : s ≤ 5) : sg 5 f s < 3125 := Nat.lt_of_lt_of_le (sg_lt s (fun i _ => h i)) (p5_s hs)
set_option maxRecDepth 100000 in
theorem mBeh (M : MRep g R) (v : VR R) {b c st : Nat} (hb : b < 32) (w : wfc R b c) (hst : st ≤ 9) : fX9_behind 181 (nI b) (nI c) (nI st) g = some (nI (kc R b c st), g) := by
  have vS := v.S
  have vF := v.F
  have hc := p5_le v
  have hw := w.1
  have main : ∀ n s f, s + n = R 4 → n < f → lq4 (fX9_behind_L12 181 (nI b) (nI st)) f (nI (c / 5 ^ s)) (nI (sg 5 (ndg R b c st) s)) (nI (5 ^ s)) (nI s) g = some (nI (kc R b c st), g) := by
    intro n
    induction n with
    | zero =>
      intro s f e hf
      obtain ⟨f, rfl⟩ : ∃ q, f = q + 1 := ⟨f - 1, by omega⟩
      have : s = R 4 := by omega
      subst this
      simp (disch := omega) only [lI, gd_1, inbN, ixN, lq4, fX9_behind_L12, Nat.reduceAdd, M 4, leN, Nat.le_refl, if_true]
      rfl
    | succ n ih =>
      intro s f e hf
      obtain ⟨f, rfl⟩ : ∃ q, f = q + 1 := ⟨f - 1, by omega⟩
      have n1 : ¬ R 4 ≤ s := by omega
      have hs : s < R 4 := by omega
      have hdl : c / 5 ^ s ≤ c := Nat.div_le_self _ _
      have key := ih (s + 1) f (by omega) (by omega)
      rw [show sg 5 (ndg R b c st) (s + 1) = sg 5 (ndg R b c st) s + 5 ^ s * ndg R b c st s from rfl, Nat.pow_succ, ← Nat.div_div_eq_div_mul] at key
      have hmod : c / 5 ^ s % 5 < 5 := Nat.mod_lt _ (by omega)
      have dd : dg c s = c / 5 ^ s % 5 := rfl
      have mh := mHasB (g := g) hb (show s < 5 by omega)
      by_cases c1 : bb b s
      · rw [decide_eq_true c1] at mh
        have wd := (w.2 s hs).1 c1
        have en : ndg R b c st s = br R s (dg c s) 0 st := if_pos ⟨c1, by omega⟩
        have mb := mBr v M hs (show 0 < dg c s by omega) wd.2 (show st ≤ 99 by omega)
        rw [en] at key
        rw [dd] at mb key wd
        have n2 : ¬ c / 5 ^ s % 5 ≤ 0 := by omega
        generalize sg 5 (ndg R b c st) s = X at key ⊢
        generalize br R s (c / 5 ^ s % 5) 0 st = Y at mb key
        generalize c / 5 ^ s = Z at *
        simp (disch := omega) only [lI, gd_1, bd_1, nm_1, inbN, ixN, pk_div, pk_mul, remN, nI_add, lq4, fX9_behind_L12, Nat.reduceAdd, M 4, leN, n1, if_false, mh, cond_true, n2, mb]
        exact key
      · rw [decide_eq_false c1] at mh
        have wd := (w.2 s hs).2 c1
        have en : ndg R b c st s = dg c s := if_neg (fun z => c1 z.1)
        rw [en] at key
        rw [dd] at key wd
        generalize sg 5 (ndg R b c st) s = X at key ⊢
        generalize c / 5 ^ s = Z at *
        simp (disch := omega) only [lI, gd_1, bd_1, nm_1, inbN, ixN, pk_div, pk_mul, remN, nI_add, lq4, fX9_behind_L12, Nat.reduceAdd, M 4, leN, n1, if_false, mh, cond_false]
        exact key
  have := main (R 4) 0 FU (by omega) (by unfold FU; omega)
  rw [Nat.pow_zero, Nat.div_one] at this
  simp only [lI, fX9_behind]
  exact this
def slk (b c : Nat) : Nat → Bool
  | 0 => true
  | s + 1 => slk b c s && (!decide (bb b s) || decide (0 < dg c s))
set_option maxRecDepth 100000 in
theorem slk_iff {b c : Nat} : ∀ n, slk b c n = true ↔ ∀ s, s < n → bb b s → 0 < dg c s := by
  intro n
  induction n with
  | zero => exact ⟨fun _ s hs => by omega, fun _ => rfl⟩
  | succ n ih =>
    show (slk b c n && (!decide (bb b n) || decide (0 < dg c n))) = true ↔ _
    rw [Bool.and_eq_true, ih]
    constructor
    · rintro ⟨a1, a2⟩ s hs hb
      by_cases e : s = n
      · subst e
        rw [decide_eq_true hb] at a2
        exact of_decide_eq_true (by simpa using a2)
      · exact a1 s (by omega) hb
    · intro a
      refine ⟨fun s hs => a s (by omega), ?_⟩
      by_cases c1 : bb b n
      · rw [decide_eq_true (a n (by omega) c1), Bool.or_true]
      · rw [decide_eq_false c1]; rfl
set_option maxRecDepth 100000 in
theorem slk_slp {b c : Nat} : slk b c (R 4) = slp R b c := by
  cases h : slp R b c with
  | true => exact (slk_iff (R 4)).mpr (of_decide_eq_true h)
  | false =>
    cases h2 : slk b c (R 4) with
    | true => rw [show slp R b c = true from decide_eq_true ((slk_iff (R 4)).mp h2)] at h; cases h
    | false => rfl
set_option maxRecDepth 100000 in
theorem mSlp (M : MRep g R) (v : VR R) {b c : Nat} (hb : b < 32) (hc : c < 3125) : fX9_doSleep 181 (nI b) (nI c) g = some (slp R b c, g) := by
  have vS := v.S
  rw [← slk_slp]
  have main : ∀ n s f, s + n = R 4 → n < f → lq3 (fX9_doSleep_L8 181 (nI b)) f (slk b c s) (nI (c / 5 ^ s)) (nI s) g = some (slk b c (R 4), g) := by
    intro n
    induction n with
    | zero =>
      intro s f e hf
      obtain ⟨f, rfl⟩ : ∃ q, f = q + 1 := ⟨f - 1, by omega⟩
      have : s = R 4 := by omega
      subst this
      simp (disch := omega) only [lI, gd_1, inbN, ixN, lq3, fX9_doSleep_L8, Nat.reduceAdd, M 4, leN, Nat.le_refl, if_true]
    | succ n ih =>
      intro s f e hf
      obtain ⟨f, rfl⟩ : ∃ q, f = q + 1 := ⟨f - 1, by omega⟩
      have n1 : ¬ R 4 ≤ s := by omega
      have hdl : c / 5 ^ s ≤ c := Nat.div_le_self _ _
      have key := ih (s + 1) f (by omega) (by omega)
      have hmod : c / 5 ^ s % 5 < 5 := Nat.mod_lt _ (by omega)
      rw [show slk b c (s + 1) = (slk b c s && (!decide (bb b s) || decide (0 < dg c s))) from rfl, Nat.pow_succ, ← Nat.div_div_eq_div_mul] at key
      have dd : dg c s = c / 5 ^ s % 5 := rfl
      have mh := mHasB (g := g) hb (show s < 5 by omega)
      cases ha : slk b c s with
      | false =>
        rw [ha, Bool.false_and] at key
        simp (disch := omega) only [lI, gd_1, bd_1, nm_1, inbN, ixN, pk_div, nI_add, lq3, fX9_doSleep_L8, Nat.reduceAdd, M 4, leN, n1, if_false, cond_false]
        exact key
      | true =>
        rw [ha, Bool.true_and] at key
        by_cases c1 : bb b s
        · rw [decide_eq_true c1] at mh key
          by_cases c2 : c / 5 ^ s % 5 ≤ 0
          · rw [dd, decide_eq_false (show ¬ 0 < c / 5 ^ s % 5 by omega)] at key
            simp (disch := omega) only [lI, gd_1, bd_1, nm_1, inbN, ixN, pk_div, pk_mul, remN, nI_add, lq3, fX9_doSleep_L8, Nat.reduceAdd, M 4, leN, n1, if_false, cond_true, mh, c2, if_true]
            exact key
          · rw [dd, decide_eq_true (show 0 < c / 5 ^ s % 5 by omega)] at key
            simp (disch := omega) only [lI, gd_1, bd_1, nm_1, inbN, ixN, pk_div, pk_mul, remN, nI_add, lq3, fX9_doSleep_L8, Nat.reduceAdd, M 4, leN, n1, if_false, cond_true, mh, c2]
            exact key
        · rw [decide_eq_false c1] at mh key
          simp (disch := omega) only [lI, gd_1, bd_1, nm_1, inbN, ixN, pk_div, nI_add, lq3, fX9_doSleep_L8, Nat.reduceAdd, M 4, leN, n1, if_false, cond_true, mh, cond_false]
          exact key
  have := main (R 4) 0 FU (by omega) (by unfold FU; omega)
  rw [Nat.pow_zero, Nat.div_one] at this
  simp only [lI, fX9_doSleep]
  exact this
set_option maxRecDepth 100000 in
theorem mCode (M : MRep g R) (v : VR R) (Q : MNRep g N T) {b : Nat} (hb : b < 32) : fX9_codeNow 181 (nI b) g = some (nI (nw R N b), g) := by
  have vS := v.S
  have main : ∀ n s f, s + n = R 4 → n < f → lq3 (fX9_codeNow_L7 181 (nI b)) f (nI (sg 5 (fun s => if bb b s then N (4 * s + 0) else 0) s)) (nI (5 ^ s)) (nI s) g = some (nI (nw R N b), g) := by
    intro n
    induction n with
    | zero =>
      intro s f e hf
      obtain ⟨f, rfl⟩ : ∃ q, f = q + 1 := ⟨f - 1, by omega⟩
      have : s = R 4 := by omega
      subst this
      simp (disch := omega) only [lI, gd_1, inbN, ixN, lq3, fX9_codeNow_L7, Nat.reduceAdd, M 4, leN, Nat.le_refl, if_true]
      rfl
    | succ n ih =>
      intro s f e hf
      obtain ⟨f, rfl⟩ : ∃ q, f = q + 1 := ⟨f - 1, by omega⟩
      have n1 : ¬ R 4 ≤ s := by omega
      have key := ih (s + 1) f (by omega) (by omega)
      rw [show sg 5 (fun s => if bb b s then N (4 * s + 0) else 0) (s + 1) = sg 5 (fun s => if bb b s then N (4 * s + 0) else 0) s + 5 ^ s * (if bb b s then N (4 * s + 0) else 0) from rfl, Nat.pow_succ] at key
      have mh := mHasB (g := g) hb (show s < 5 by omega)
      by_cases c1 : bb b s
      · rw [decide_eq_true c1] at mh
        rw [if_pos c1] at key
        simp (disch := omega) only [lI, gd_1, bd_1, nm_1, inbN, ixN, pk_mul, nI_add, lq3, fX9_codeNow_L7, Nat.reduceAdd, M 4, leN, n1, if_false, mh, cond_true, mIts Q]
        exact key
      · rw [decide_eq_false c1] at mh
        rw [if_neg c1] at key
        simp (disch := omega) only [lI, gd_1, bd_1, nm_1, inbN, ixN, pk_mul, nI_add, lq3, fX9_codeNow_L7, Nat.reduceAdd, M 4, leN, n1, if_false, mh, cond_false]
        exact key
  have := main (R 4) 0 FU (by omega) (by unfold FU; omega)
  simp only [lI, fX9_codeNow]
  exact this
/-! the model's cells of the search -/
def MBs (g : HH) (R : Nat → Nat) (A : BS) : Prop := gI g 181 36 = nI A.1 ∧ (∀ i, i < A.1 → gI g 197 i = nI (A.2.1 i) ∧ gI g 198 (A.2.1 i) = nI (A.2.2.2.2 i) ∧ (1 ≤ i → gI g 196 (A.2.1 i) = nI (10 * A.2.1 (A.2.2.1 i) + A.2.2.2.1 i))) ∧ (∀ x, x < 3125 → (∀ i, i < A.1 → A.2.1 i ≠ x) → gI g 198 x = M1)
set_option maxRecDepth 100000 in
theorem MBs.ad {at' st c : Nat} {A : BS} (C : MBs g R A) (ha : at' < A.1) (hc : c < 3125) (hn : ∀ i, i < A.1 → A.2.1 i ≠ c) (hp : ∀ i, i < A.1 → 1 ≤ i → A.2.2.1 i < A.1) : MBs (sI (sI (sI (sI g 198 c (nI (A.2.2.2.2 at' + 1))) 196 c (nI (10 * A.2.1 at' + st))) 197 A.1 (nI c)) 181 36 (nI (A.1 + 1))) R (adB at' st c A) := by
  obtain ⟨c1, c2, c3⟩ := C
  refine ⟨by rw [gIs]; rfl, fun i hi => ?_, fun x hx hi => ?_⟩
  · show gI _ 197 i = nI (up A.2.1 A.1 c i) ∧ gI _ 198 (up A.2.1 A.1 c i) = nI (up A.2.2.2.2 A.1 (A.2.2.2.2 at' + 1) i) ∧ (1 ≤ i → gI _ 196 (up A.2.1 A.1 c i) = nI (10 * up A.2.1 A.1 c (up A.2.2.1 A.1 at' i) + up A.2.2.2.1 A.1 st i))
    have hi2 : i < A.1 + 1 := hi
    by_cases e : i = A.1
    · rw [e, up_s, up_s, up_s, up_s, up_o (j := at') (by omega)]
      refine ⟨?_, ?_, fun _ => ?_⟩
      · simp (disch := omega) only [gIa, gIs]
      · simp (disch := omega) only [gIa, gIs]
      · simp (disch := omega) only [gIa, gIs]
    · have hi3 : i < A.1 := by omega
      obtain ⟨p1, p2, p3⟩ := c2 i hi3
      have hne := hn i hi3
      rw [up_o e, up_o e, up_o e, up_o e]
      refine ⟨?_, ?_, fun z => ?_⟩
      · simp (disch := omega) only [gIa, gIk]; exact p1
      · simp (disch := first | omega | exact hne) only [gIa, gIk]; exact p2
      · rw [up_o (by have := hp i hi3 z; omega)]
        simp (disch := first | omega | exact hne) only [gIa, gIk]; exact p3 z
  · have h1 : x ≠ c := fun z => hi A.1 (by show A.1 < A.1 + 1; omega) (by show up A.2.1 A.1 c A.1 = x; rw [up_s, z])
    have h2 : ∀ i, i < A.1 → A.2.1 i ≠ x := fun i hi2 z => hi i (by show i < A.1 + 1; omega) (by show up A.2.1 A.1 c i = x; rw [up_o (by omega)]; exact z)
    simp (disch := first | omega | exact h1) only [gIa, gIk]
    exact c3 x hx h2
set_option maxRecDepth 100000 in
theorem mBi (v : VR R) {b : Nat} (hB : b < 2 ^ R 4) (k1 : Int32 → HH → Option (Int32 × HH)) (k2 : HH → Option (Int32 × HH)) {at' : Nat} : ∀ n st f A (h : HH), st + n = 10 → 1 ≤ st → n < f → MRep h R → MBs h R A → WB R b A → at' < A.1 → (∀ s A', bi R b at' n st A = (some s, A') → ∃ h', lq1 (fX9_togetherOf_L68 k1 k2 181 (nI b) (nI at') (nI (A.2.1 at'))) f (nI st) h = k1 (nI s) h' ∧ MBs h' R A' ∧ WB R b A' ∧ at' < A'.1 ∧ A'.2.1 at' = A.2.1 at' ∧ 1 ≤ s ∧ s ≤ 9 ∧ Keep PMt h h') ∧ (∀ A', bi R b at' n st A = (none, A') → ∃ h', lq1 (fX9_togetherOf_L68 k1 k2 181 (nI b) (nI at') (nI (A.2.1 at'))) f (nI st) h = k2 h' ∧ MBs h' R A' ∧ WB R b A' ∧ A.1 ≤ A'.1 ∧ Keep PMt h h') := by
  have hb := b32 v hB
  have hp5 := p5_le v
  intro n
  induction n with
  | zero =>
    intro st f A h e h1 hf M C W ha
    obtain ⟨f, rfl⟩ : ∃ q, f = q + 1 := ⟨f - 1, by omega⟩
    have n1 : 10 ≤ st := by omega
    refine ⟨fun s A' z => (by cases z), fun A' z => ?_⟩
    cases z
    refine ⟨h, ?_, C, W, Nat.le_refl _, Keep.rfl⟩
    simp (disch := omega) only [lI, lq1, fX9_togetherOf_L68, leN, n1, if_true]
  | succ n ih =>
    intro st f A h e h1 hf M C W ha
    obtain ⟨f, rfl⟩ : ∃ q, f = q + 1 := ⟨f - 1, by omega⟩
    have n1 : ¬ 10 ≤ st := by omega
    have hL := W.L
    have wa := (W.2.1 at' ha).1
    have hcl := kc_lt R b (A.2.1 at') st
    have hwl := wa.1
    have mb := mBeh M v hb wa (show st ≤ 9 by omega)
    have ms := mSlp M v hb (c := kc R b (A.2.1 at') st) (by omega)
    have eb : bi R b at' (n + 1) st A = if kc R b (A.2.1 at') st = 0 then (some st, A) else if (inq A.2.1 (kc R b (A.2.1 at') st) A.1 || !slp R b (kc R b (A.2.1 at') st)) = true then bi R b at' n (st + 1) A else bi R b at' n (st + 1) (adB at' st (kc R b (A.2.1 at') st) A) := rfl
    by_cases c0 : kc R b (A.2.1 at') st = 0
    · rw [if_pos c0] at eb
      refine ⟨fun s A' z => ?_, fun A' z => (by rw [eb] at z; cases z)⟩
      rw [eb] at z
      cases z
      refine ⟨h, ?_, C, W, ha, rfl, h1, by omega, Keep.rfl⟩
      simp (disch := omega) only [lI, bd_1, lq1, fX9_togetherOf_L68, leN, n1, if_false, mb, eqN, eq_true c0, if_true]
    · rw [if_neg c0] at eb
      by_cases c2 : inq A.2.1 (kc R b (A.2.1 at') st) A.1 = true
      · rw [if_pos (by rw [c2]; rfl)] at eb
        obtain ⟨i, i1, i2⟩ := (inq_iff A.1).mp c2
        have f1 := (C.2.1 i i1).2.1
        rw [i2] at f1
        have hd := (W.2.1 i i1).2.1
        obtain ⟨r1, r2⟩ := ih (st + 1) f A h (by omega) (by omega) (by omega) M C W ha
        have step : lq1 (fX9_togetherOf_L68 k1 k2 181 (nI b) (nI at') (nI (A.2.1 at'))) (f + 1) (nI st) h = lq1 (fX9_togetherOf_L68 k1 k2 181 (nI b) (nI at') (nI (A.2.1 at'))) f (nI (st + 1)) h := by
          show fX9_togetherOf_L68 k1 k2 181 (nI b) (nI at') (nI (A.2.1 at')) (lq1 (fX9_togetherOf_L68 k1 k2 181 (nI b) (nI at') (nI (A.2.1 at'))) f) (nI st) h = _
          simp (disch := omega) only [lI, gd_1, bd_1, inbN, ixN, nI_add, fX9_togetherOf_L68, leN, n1, if_false, mb, eqN, c0, Nat.reduceAdd, f1, Nat.zero_le, if_true]
        rw [eb, step]
        exact ⟨r1, r2⟩
      · have c2' : inq A.2.1 (kc R b (A.2.1 at') st) A.1 = false := by
          cases hh : inq A.2.1 (kc R b (A.2.1 at') st) A.1 with
          | true => exact absurd hh c2
          | false => rfl
        have hni : ∀ i, i < A.1 → A.2.1 i ≠ kc R b (A.2.1 at') st := fun i hi z => c2 ((inq_iff A.1).mpr ⟨i, hi, z⟩)
        have f1 := C.2.2 (kc R b (A.2.1 at') st) (by omega) hni
        have m0 : (nI 0 ≤ M1) = False := by decide +kernel
        by_cases c1 : slp R b (kc R b (A.2.1 at') st) = true
        · rw [if_neg (by rw [c2', c1]; exact fun z => by cases z)] at eb
          rw [c1] at ms
          obtain ⟨W2, hL2, -⟩ := W.ad v hb ha h1 (show st ≤ 9 by omega) c2' c1
          have C2 := C.ad (st := st) ha (show kc R b (A.2.1 at') st < 3125 by omega) hni (fun i hi z => by have := ((W.2.1 i hi).2.2 z).1; omega)
          have K2 : Keep PMt h (sI (sI (sI (sI h 198 (kc R b (A.2.1 at') st) (nI (A.2.2.2.2 at' + 1))) 196 (kc R b (A.2.1 at') st) (nI (10 * A.2.1 at' + st))) 197 A.1 (nI (kc R b (A.2.1 at') st))) 181 36 (nI (A.1 + 1))) := Keep.sI (Keep.sI (Keep.sI (Keep.sI Keep.rfl (fun z => z.2.2.2 rfl)) (fun z => z.2.1 rfl)) (fun z => z.2.2.1 rfl)) (fun z => z.1 ⟨rfl, by omega, by omega⟩)
          have ha2 : at' < (adB at' st (kc R b (A.2.1 at') st) A).1 := by show at' < A.1 + 1; omega
          obtain ⟨r1, r2⟩ := ih (st + 1) f (adB at' st (kc R b (A.2.1 at') st) A) _ (by omega) (by omega) (by omega) (M.U K2) C2 W2 ha2
          have eq2 : (adB at' st (kc R b (A.2.1 at') st) A).2.1 at' = A.2.1 at' := up_o (by omega)
          rw [eq2] at r1 r2
          have fa := (C.2.1 at' ha).2.1
          have g36 := C.1
          have step : lq1 (fX9_togetherOf_L68 k1 k2 181 (nI b) (nI at') (nI (A.2.1 at'))) (f + 1) (nI st) h = lq1 (fX9_togetherOf_L68 k1 k2 181 (nI b) (nI at') (nI (A.2.1 at'))) f (nI (st + 1)) (sI (sI (sI (sI h 198 (kc R b (A.2.1 at') st) (nI (A.2.2.2.2 at' + 1))) 196 (kc R b (A.2.1 at') st) (nI (10 * A.2.1 at' + st))) 197 A.1 (nI (kc R b (A.2.1 at') st))) 181 36 (nI (A.1 + 1))) := by
            show fX9_togetherOf_L68 k1 k2 181 (nI b) (nI at') (nI (A.2.1 at')) (lq1 (fX9_togetherOf_L68 k1 k2 181 (nI b) (nI at') (nI (A.2.1 at'))) f) (nI st) h = _
            simp (disch := omega) only [lI, gd_1, bd_1, nm_1, inbN, ixN, pk_mul, nI_add, fX9_togetherOf_L68, leN, n1, if_false, mb, eqN, c0, Nat.reduceAdd, f1, m0, ms, cond_true, fa, gIa, g36]
          rw [eb, step]
          refine ⟨fun s A' z => ?_, fun A' z => ?_⟩
          · obtain ⟨h', x1, x2, x3, x4, x5, x6, x7, x8⟩ := r1 s A' z
            exact ⟨h', x1, x2, x3, x4, x5, x6, x7, K2.trans x8⟩
          · obtain ⟨h', x1, x2, x3, x4, x5⟩ := r2 A' z
            have x4' : A.1 + 1 ≤ A'.1 := x4
            exact ⟨h', x1, x2, x3, by omega, K2.trans x5⟩
        · have c1' : slp R b (kc R b (A.2.1 at') st) = false := by
            cases hh : slp R b (kc R b (A.2.1 at') st) with
            | true => exact absurd hh c1
            | false => rfl
          rw [if_pos (by rw [c1']; simp)] at eb
          rw [c1'] at ms
          obtain ⟨r1, r2⟩ := ih (st + 1) f A h (by omega) (by omega) (by omega) M C W ha
          have step : lq1 (fX9_togetherOf_L68 k1 k2 181 (nI b) (nI at') (nI (A.2.1 at'))) (f + 1) (nI st) h = lq1 (fX9_togetherOf_L68 k1 k2 181 (nI b) (nI at') (nI (A.2.1 at'))) f (nI (st + 1)) h := by
            show fX9_togetherOf_L68 k1 k2 181 (nI b) (nI at') (nI (A.2.1 at')) (lq1 (fX9_togetherOf_L68 k1 k2 181 (nI b) (nI at') (nI (A.2.1 at'))) f) (nI st) h = _
            simp (disch := omega) only [lI, gd_1, bd_1, inbN, ixN, nI_add, fX9_togetherOf_L68, leN, n1, if_false, mb, eqN, c0, Nat.reduceAdd, f1, m0, ms, cond_false]
          rw [eb, step]
          exact ⟨r1, r2⟩
set_option maxRecDepth 100000 in
theorem mBo (v : VR R) {b : Nat} (hB : b < 2 ^ R 4) (k1 : Int32 → Int32 → HH → Option (Int32 × HH)) : ∀ n at' f A (h : HH), at' + n = 1024 → n + 1 < f → MRep h R → MBs h R A → WB R b A → at' ≤ A.1 → (∀ i s A', bo R b n at' A = (some (i, s), A') → ∃ h', lq1 (fX9_togetherOf_L49 k1 181 (nI b)) f (nI at') h = k1 (nI (A'.2.1 i)) (nI s) h' ∧ MBs h' R A' ∧ WB R b A' ∧ i < A'.1 ∧ 1 ≤ s ∧ s ≤ 9 ∧ Keep PMt h h') ∧ (∀ A', bo R b n at' A = (none, A') → ∃ h', lq1 (fX9_togetherOf_L49 k1 181 (nI b)) f (nI at') h = some (M2, h') ∧ Keep PMt h h') := by
  have hp5 := p5_le v
  intro n
  induction n with
  | zero =>
    intro at' f A h e hf M C W ha
    obtain ⟨f, rfl⟩ : ∃ q, f = q + 1 := ⟨f - 1, by omega⟩
    have hL := W.L
    have n1 : A.1 ≤ at' := by omega
    refine ⟨fun i s A' z => (by rw [bo_end n1] at z; cases z), fun A' z => ⟨h, ?_, Keep.rfl⟩⟩
    simp (disch := omega) only [lI, neg2, lq1, fX9_togetherOf_L49, C.1, leN, n1, if_true]
  | succ n ih =>
    intro at' f A h e hf M C W ha
    obtain ⟨f, rfl⟩ : ∃ q, f = q + 1 := ⟨f - 1, by omega⟩
    have hL := W.L
    by_cases n1 : A.1 ≤ at'
    · refine ⟨fun i s A' z => (by rw [bo_end n1] at z; cases z), fun A' z => ⟨h, ?_, Keep.rfl⟩⟩
      simp (disch := omega) only [lI, neg2, lq1, fX9_togetherOf_L49, C.1, leN, n1, if_true]
    · have c197 := (C.2.1 at' (by omega)).1
      obtain ⟨r1, r2⟩ := mBi v hB (fun x5 h => k1 (nI (A.2.1 at')) x5 h) (fun h => lq1 (fX9_togetherOf_L49 k1 181 (nI b)) f (nI at' + nI 1) h) (at' := at') 9 1 FU A h (by omega) (by omega) (by unfold FU; omega) M C W (by omega)
      have step : lq1 (fX9_togetherOf_L49 k1 181 (nI b)) (f + 1) (nI at') h = lq1 (fX9_togetherOf_L68 (fun x5 h => k1 (nI (A.2.1 at')) x5 h) (fun h => lq1 (fX9_togetherOf_L49 k1 181 (nI b)) f (nI at' + nI 1) h) 181 (nI b) (nI at') (nI (A.2.1 at'))) FU (nI 1) h := by
        show fX9_togetherOf_L49 k1 181 (nI b) (lq1 (fX9_togetherOf_L49 k1 181 (nI b)) f) (nI at') h = _
        simp (disch := omega) only [lI, gd_1, nm_1, inbN, ixN, fX9_togetherOf_L49, C.1, leN, n1, if_false, Nat.reduceAdd, c197]
      rw [step]
      cases hbi : bi R b at' 9 1 A with
      | mk o A1 =>
        cases o with
        | some s =>
          obtain ⟨h', x1, x2, x3, x4, x5, x6, x7, x8⟩ := r1 s A1 hbi
          rw [bo_some n1 hbi]
          refine ⟨fun i s' A' z => ?_, fun A' z => (by cases z)⟩
          cases z
          rw [x5]
          exact ⟨h', x1, x2, x3, x4, x6, x7, x8⟩
        | none =>
          obtain ⟨h2, x1, x2, x3, x4, x5⟩ := r2 A1 hbi
          rw [bo_none n1 hbi]
          obtain ⟨y1, y2⟩ := ih (at' + 1) f A1 h2 (by omega) (by omega) (M.U x5) x2 x3 (by omega)
          have x1' : lq1 (fX9_togetherOf_L68 (fun x5 h => k1 (nI (A.2.1 at')) x5 h) (fun h => lq1 (fX9_togetherOf_L49 k1 181 (nI b)) f (nI at' + nI 1) h) 181 (nI b) (nI at') (nI (A.2.1 at'))) FU (nI 1) h = lq1 (fX9_togetherOf_L49 k1 181 (nI b)) f (nI (at' + 1)) h2 := by rw [← nI_add]; exact x1
          rw [x1']
          refine ⟨fun i s A' z => ?_, fun A' z => ?_⟩
          · obtain ⟨h', w1, w2, w3, w4, w5, w6, w7⟩ := y1 i s A' z
            exact ⟨h', w1, w2, w3, w4, w5, w6, x5.trans w7⟩
          · obtain ⟨h', w1, w2⟩ := y2 A' z
            exact ⟨h', w1, x5.trans w2⟩
set_option maxRecDepth 100000 in
theorem mTog (M : MRep g R) (v : VR R) (Q : MNRep g N T) {b : Nat} (hB : b < 2 ^ R 4) (hm : ∀ s, s < R 4 → bb b s → 1 ≤ N (4 * s + 0) ∧ N (4 * s + 0) ≤ R 0) : (∀ i s A', srch R N b = (some (i, s), A') → ∃ g', fX9_togetherOf 181 (nI b) g = some (nI (A'.2.2.2.2 i + 1), g') ∧ MBs g' R A' ∧ WB R b A' ∧ i < A'.1 ∧ 1 ≤ s ∧ s ≤ 9 ∧ gI g' 181 37 = nI (A'.2.1 i) ∧ gI g' 181 38 = nI s ∧ Keep PMt g g') ∧ (∀ A', srch R N b = (none, A') → ∃ g', fX9_togetherOf 181 (nI b) g = some (M2, g') ∧ Keep PMt g g') := by
  have hb := b32 v hB
  have hp5 := p5_le v
  obtain ⟨nwf, nwd⟩ := nw_wf v hm
  have hnl := nwf.1
  have main : ∀ m x f (h : HH), x + m = 3125 → m < f → Keep PMt g h → (∀ y, y < x → gI h 198 y = M1) → ∃ h0, lq1 (fX9_togetherOf_L2 (fun h => bd (fX9_codeNow 181 (nI b) h) (fun r24 h24 => gd (inb (nI 0) 3125) (gd (inb r24 3125) (nm (sI (sI h24 197 (ix (nI 0)) r24) 198 (ix r24) (nI 0)) (fun g1 => lq1 (fX9_togetherOf_L49 (fun x4 x5 h => nm (sI (sI h 181 37 x4) 181 38 x5) (fun g5 => gd (inb x4 3125) (some (gI g5 198 (ix x4) + nI 1, g5)))) 181 (nI b)) FU (nI 0) (sI g1 181 36 (nI 1))))))) 181 (nI b)) f (nI x) h = lq1 (fX9_togetherOf_L49 (fun x4 x5 h => nm (sI (sI h 181 37 x4) 181 38 x5) (fun g5 => gd (inb x4 3125) (some (gI g5 198 (ix x4) + nI 1, g5)))) 181 (nI b)) FU (nI 0) h0 ∧ MBs h0 R (A0 (nw R N b)) ∧ Keep PMt g h0 := by
    intro m
    induction m with
    | zero =>
      intro x f h e hf K hz
      obtain ⟨f, rfl⟩ : ∃ q, f = q + 1 := ⟨f - 1, by omega⟩
      have n1 : 3125 ≤ x := by omega
      have Mh := M.U K
      have Qh : MNRep h N T := Q.keep K (fun k => by unfold PMt; omega) (fun k => by unfold PMt; omega)
      refine ⟨sI (sI (sI h 197 0 (nI (nw R N b))) 198 (nw R N b) (nI 0)) 181 36 (nI 1), ?_, ⟨gIs _ _ _ _, fun i hi => ?_, fun y hy hn => ?_⟩, Keep.sI (Keep.sI (Keep.sI K (fun z => z.2.2.1 rfl)) (fun z => z.2.2.2 rfl)) (fun z => z.1 ⟨rfl, by omega, by omega⟩)⟩
      · simp (disch := omega) only [lI, gd_1, bd_1, nm_1, inbN, ixN, lq1, fX9_togetherOf_L2, leN, n1, if_true, mCode Mh v Qh hb]
      · have : i = 0 := by have : i < 1 := hi
                           omega
        subst this
        refine ⟨?_, ?_, fun z => by omega⟩
        · simp (disch := omega) only [gIa, gIs]; rfl
        · show gI _ 198 (nw R N b) = nI 0
          simp (disch := omega) only [gIa, gIs]
      · have : y ≠ nw R N b := fun z => hn 0 (by show 0 < 1; omega) z.symm
        rw [gIa (by omega), gIk this, gIa (by omega)]
        exact hz y (by omega)
    | succ m ih =>
      intro x f h e hf K hz
      obtain ⟨f, rfl⟩ : ∃ q, f = q + 1 := ⟨f - 1, by omega⟩
      have n1 : ¬ 3125 ≤ x := by omega
      obtain ⟨h0, e0, r0⟩ := ih (x + 1) f (sI h 198 x M1) (by omega) (by omega) (Keep.sI K (fun z => z.2.2.2 rfl)) (fun y hy => by
        by_cases z : y = x
        · rw [z, gIs]
        · rw [gIk z]; exact hz y (by omega))
      refine ⟨h0, ?_, r0⟩
      rw [← e0]
      simp (disch := omega) only [lI, gd_1, inbN, ixN, nI_add, neg1, lq1, fX9_togetherOf_L2, leN, n1, if_false, Nat.reduceAdd]
  obtain ⟨h0, e0, C0, K0⟩ := main 3125 0 FU g (by omega) (by unfold FU; omega) Keep.rfl (fun y hy => by omega)
  obtain ⟨r1, r2⟩ := mBo v hB (fun x4 x5 h => nm (sI (sI h 181 37 x4) 181 38 x5) (fun g5 => gd (inb x4 3125) (some (gI g5 198 (ix x4) + nI 1, g5)))) 1024 0 FU (A0 (nw R N b)) h0 (by omega) (by unfold FU; omega) (M.U K0) C0 (WB0 v hB nwf) (by show 0 ≤ 1; omega)
  have step : fX9_togetherOf 181 (nI b) g = lq1 (fX9_togetherOf_L49 (fun x4 x5 h => nm (sI (sI h 181 37 x4) 181 38 x5) (fun g5 => gd (inb x4 3125) (some (gI g5 198 (ix x4) + nI 1, g5)))) 181 (nI b)) FU (nI 0) h0 := by
    simp only [lI, fX9_togetherOf, Nat.reduceAdd]
    exact e0
  rw [step]
  refine ⟨fun i s A' z => ?_, fun A' z => ?_⟩
  · obtain ⟨h', w1, w2, w3, w4, w5, w6, w7⟩ := r1 i s A' z
    have hcl := (w3.2.1 i w4).1.1
    have f1 := (w2.2.1 i w4).2.1
    refine ⟨sI (sI h' 181 37 (nI (A'.2.1 i))) 181 38 (nI s), ?_, ⟨?_, fun j hj => ?_, fun x hx hn => ?_⟩, w3, w4, w5, w6, ?_, gIs _ _ _ _, Keep.sI (Keep.sI (K0.trans w7) (fun z => z.1 ⟨rfl, by omega, by omega⟩)) (fun z => z.1 ⟨rfl, by omega, by omega⟩)⟩
    · rw [w1]
      simp (disch := omega) only [gd_1, nm_1, inbN, ixN, gIa, f1, nI_add]
    · rw [gIk (by omega), gIk (by omega)]; exact w2.1
    · simp (disch := omega) only [gIa]; exact w2.2.1 j hj
    · simp (disch := omega) only [gIa]; exact w2.2.2 x hx hn
    · rw [gIk (by omega), gIs]
  · obtain ⟨h', w1, w2⟩ := r2 A' z
    exact ⟨h', w1, K0.trans w2⟩
end MRS
