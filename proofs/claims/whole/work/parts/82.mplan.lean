/-! TASKS, the model; the soonest -/
def mo : Option Nat → Nat → Option Nat
  | none, y => some y
  | some x, y => some (if y < x then y else x)
def ss (R : Nat → Nat) : Nat → Nat → Nat → Nat → Option Nat → Option Nat
  | 0, _, lo, tm, x => mo x (tm + fs R 0 lo)
  | m + 1, k, lo, tm, x => skl (fun j x => ss R m (k + 1) (max lo j) (tm + R (132 + 3 * k + 1) * mn R j) x) (R (132 + 3 * k)) (R 0 + 1 - R (132 + 3 * k)) x
def MlB (g : HH) (R : Nat → Nat) : BT → Prop
  | none => gL g 181 29 = L1
  | some (r, t, o, c) => gL g 181 29 = lN r ∧ gL g 181 30 = lN t ∧ gL g 181 31 = lN o ∧ (∀ i, i < R 7 → gI g 195 i = nI (c i)) ∧ r < 2 ^ 40 ∧ o < 2 ^ 40
def MlS (g : HH) (x : Option Nat) : Prop := gL g 181 32 = dm x ∧ ∀ y, x = some y → y < 2 ^ 62
def PL (b k : Nat) : Prop := ¬ (b = 181 ∧ 29 ≤ k ∧ k ≤ 32) ∧ b ≠ 194 ∧ b ≠ 195
set_option maxRecDepth 100000 in
theorem ln194 : ln 194 = 6 ∧ ln 195 = 6 := by decide +kernel
set_option maxRecDepth 100000 in
theorem L1n : (L1 < lN 0) = True := L1z
section MPL
variable {g : HH} {R : Nat → Nat}
set_option maxRecDepth 100000 in
theorem MRep.L {g g' : HH} (M : MRep g R) (K : Keep PL g g') : MRep g' R := M.keep K (fun k => by unfold PL; omega)
set_option maxRecDepth 100000 in
theorem mTaken (M : MRep g R) (v : VR R) {rk tm ow : Nat} {fl : Nat → Nat} {x : Option Nat} (X : MlS g x) (hfl : ∀ i, i < R 7 → gI g 194 i = nI (fl i)) (hr : rk < 2 ^ 40) (ho : ow < 2 ^ 40) : ∃ g', fX9_copy 194 (nI 0) 195 (nI 0) (nI (R 7)) (sL (sL (sL g 181 29 (lN rk)) 181 30 (lN tm)) 181 31 (lN ow)) = some g' ∧ MlB g' R (some (rk, tm, ow, fl)) ∧ MlS g' x ∧ Keep PL g g' ∧ (∀ i, gI g' 194 i = gI g 194 i) := by
  have v7 := v.2.1
  obtain ⟨l4, l5⟩ := ln194
  obtain ⟨g', e1, e2, K2⟩ := mCopy (g := sL (sL (sL g 181 29 (lN rk)) 181 30 (lN tm)) 181 31 (lN ow)) (a := 194) (b := 195) (i := 0) (j := 0) (n := R 7) (by omega) (by omega) (by omega) (by omega) (by omega) (by omega)
  have K1 : Keep PL g (sL (sL (sL g 181 29 (lN rk)) 181 30 (lN tm)) 181 31 (lN ow)) := Keep.sL (Keep.sL (Keep.sL Keep.rfl (fun z => z.1 ⟨rfl, by omega, by omega⟩)) (fun z => z.1 ⟨rfl, by omega, by omega⟩)) (fun z => z.1 ⟨rfl, by omega, by omega⟩)
  refine ⟨g', e1, ⟨?_, ?_, ?_, fun i hi => ?_, hr, ho⟩, ⟨?_, X.2⟩, K1.trans (K2.mono (fun x k hp z => hp.2.2 z.1)), fun i => ?_⟩
  · rw [(K2 181 29 (fun z => by omega)).2.1]; simp (disch := omega) only [gLk, gLs]
  · rw [(K2 181 30 (fun z => by omega)).2.1]; simp (disch := omega) only [gLk, gLs]
  · rw [(K2 181 31 (fun z => by omega)).2.1]; simp (disch := omega) only [gLs]
  · have := e2 i hi
    rw [Nat.zero_add] at this
    rw [this]; simp only [gI_sL]; exact hfl i hi
  · rw [(K2 181 32 (fun z => by omega)).2.1]; simp (disch := omega) only [gLk]; exact X.1
  · rw [(K2 194 i (fun z => by omega)).1]; simp only [gI_sL]
set_option maxRecDepth 100000 in
theorem mEnd27 (M : MRep g R) (v : VR R) {rk tm ow y : Nat} {fl : Nat → Nat} {β : BT} (hfl : ∀ i, i < R 7 → gI g 194 i = nI (fl i)) (P : MlB g R β) (hr : rk < 2 ^ 40) (ho : ow < 2 ^ 40) (ht : tm < 2 ^ 62) (hy : y < 2 ^ 62) : ∃ g', fX9_endTasks_b27 181 (lN rk) (lN tm) (lN ow) (lN y) g = some g' ∧ MlB g' R (wg R rk tm ow fl β) ∧ MlS g' (some y) ∧ Keep PL g g' ∧ (∀ i, gI g' 194 i = gI g 194 i) := by
  have v7 := v.2.1
  have vb := v.bt
  have hm := morn_le v
  have K1 : Keep PL g (sL g 181 32 (lN y)) := Keep.sL Keep.rfl (fun z => z.1 ⟨rfl, by omega, by omega⟩)
  have M1 := M.L K1
  have X1 : MlS (sL g 181 32 (lN y)) (some y) := ⟨gLs _ _ _ _, fun z hz => by cases hz; exact hy⟩
  have P1 : MlB (sL g 181 32 (lN y)) R β := by
    cases β with
    | none => show gL _ 181 29 = L1; rw [gLk (by omega)]; exact P
    | some q =>
      obtain ⟨r, t, o, c⟩ := q
      obtain ⟨p1, p2, p3, p4, p5, p6⟩ := id P
      exact ⟨by rw [gLk (by omega)]; exact p1, by rw [gLk (by omega)]; exact p2, by rw [gLk (by omega)]; exact p3, fun i hi => by rw [gI_sL]; exact p4 i hi, p5, p6⟩
  obtain ⟨g', e1, T1, X2, K2, k2⟩ := mTaken M1 v (rk := rk) (tm := tm) (ow := ow) (fl := fl) X1 (fun i hi => by rw [gI_sL]; exact hfl i hi) hr ho
  have K12 := K1.trans K2
  have k12 : ∀ i, gI g' 194 i = gI g 194 i := fun i => by rw [k2 i, gI_sL]
  have k11 : ∀ i, gI (sL g 181 32 (lN y)) 194 i = gI g 194 i := fun i => by rw [gI_sL]
  have m2 := M1 2 (by omega)
  have m7 := M1 7 (by omega)
  have e1' : fX9_copy 194 (nI 0) 195 (nI 0) (nI (R 7)) (sL (sL (sL (sL g 181 32 (lN y)) 181 29 (lN rk)) 181 30 (lN tm)) 181 31 (lN ow)) = some g' := e1
  have m2' : gI g 184 2 = nI (R 2) := M 2 (by omega)
  have m7' : gI g 184 7 = nI (R 7) := M 7 (by omega)
  unfold wg
  by_cases c : tm ≤ R 2 * bt R
  · rw [if_pos c]
    cases β with
    | none =>
      have P0 : gL (sL g 181 32 (lN y)) 181 29 = L1 := P1
      refine ⟨g', ?_, T1, X2, K12, k12⟩
      simp (disch := omega) only [lI, lJ, gd_1, bd_1, bv_1, nm_1, inbN, ixN, nI_l, lN_mul, fX9_endTasks_b27, Nat.reduceAdd, mBottom M1 v, gI_sL, m2', leL, c, if_true, P0, L1n, m7', e1']
    | some q =>
      obtain ⟨r, t, o, cc⟩ := q
      obtain ⟨p1, p2, p3, p4, p5, p6⟩ := id P1
      have z0 : ¬ r < 0 := by omega
      show ∃ g', _ ∧ MlB g' R (if rk < r ∨ (rk = r ∧ ow < o) then some (rk, tm, ow, fl) else some (r, t, o, cc)) ∧ _
      by_cases c1 : r < rk
      · rw [if_neg (by omega)]
        refine ⟨_, ?_, P1, X1, K1, k11⟩
        simp (disch := omega) only [lI, lJ, gd_1, bd_1, bv_1, nm_1, inbN, ixN, nI_l, lN_mul, fX9_endTasks_b27, Nat.reduceAdd, mBottom M1 v, gI_sL, m2', leL, c, if_true, p1, ltL, z0, if_false, c1]
      · by_cases c2 : rk = r
        · by_cases c3 : ow < o
          · rw [if_pos (by omega)]
            refine ⟨g', ?_, T1, X2, K12, k12⟩
            simp (disch := omega) only [lI, lJ, gd_1, bd_1, bv_1, nm_1, inbN, ixN, nI_l, lN_mul, fX9_endTasks_b27, Nat.reduceAdd, mBottom M1 v, gI_sL, m2', leL, c, if_true, p1, ltL, z0, if_false, c1, eqL, eq_true c2, p3, c3, m7', e1']
          · rw [if_neg (by omega)]
            refine ⟨_, ?_, P1, X1, K1, k11⟩
            simp (disch := omega) only [lI, lJ, gd_1, bd_1, bv_1, nm_1, inbN, ixN, nI_l, lN_mul, fX9_endTasks_b27, Nat.reduceAdd, mBottom M1 v, gI_sL, m2', leL, c, if_true, p1, ltL, z0, if_false, c1, eqL, eq_true c2, p3, c3]
        · rw [if_pos (by omega)]
          refine ⟨g', ?_, T1, X2, K12, k12⟩
          simp (disch := omega) only [lI, lJ, gd_1, bd_1, bv_1, nm_1, inbN, ixN, nI_l, lN_mul, fX9_endTasks_b27, Nat.reduceAdd, mBottom M1 v, gI_sL, m2', leL, c, if_true, p1, ltL, z0, if_false, c1, eqL, c2, m7', e1']
  · rw [if_neg c]
    refine ⟨_, ?_, P1, X1, K1, k11⟩
    simp (disch := omega) only [lI, lJ, gd_1, bd_1, bv_1, nm_1, inbN, ixN, nI_l, lN_mul, fX9_endTasks_b27, Nat.reduceAdd, mBottom M1 v, gI_sL, m2', leL, c, if_false]
set_option maxRecDepth 100000 in
theorem mEnd (M : MRep g R) (v : VR R) {rk tm ow : Nat} {fl : Nat → Nat} {β : BT} {x : Option Nat} (hfl : ∀ i, i < R 7 → gI g 194 i = nI (fl i)) (P : MlB g R β) (X : MlS g x) (hr : rk < 2 ^ 40) (ho : ow < 2 ^ 40) (ht : tm < 2 ^ 62) : ∃ g', fX9_endTasks 181 (lN rk) (lN tm) (lN ow) g = some g' ∧ MlB g' R (wg R rk tm ow fl β) ∧ MlS g' (mo x tm) ∧ Keep PL g g' ∧ (∀ i, gI g' 194 i = gI g 194 i) := by
  cases x with
  | none =>
    obtain ⟨g', e1, r1⟩ := mEnd27 M v (y := tm) hfl P hr ho ht ht
    refine ⟨g', ?_, r1⟩
    have X0 : gL g 181 32 = L1 := X.1
    simp (disch := omega) only [lJ, fX9_endTasks, fX9_endTasks_b19, X0, L1n, if_true, e1]
  | some y =>
    have hy := X.2 y rfl
    have X0 : gL g 181 32 = lN y := X.1
    have z0 : ¬ y < 0 := by omega
    show ∃ g', _ ∧ _ ∧ MlS g' (some (if tm < y then tm else y)) ∧ _
    by_cases c : y ≤ tm
    · rw [if_neg (by omega)]
      obtain ⟨g', e1, r1⟩ := mEnd27 M v (y := y) hfl P hr ho ht hy
      refine ⟨g', ?_, r1⟩
      simp (disch := omega) only [lJ, fX9_endTasks, X0, ltL, z0, if_false, leL, c, if_true, e1]
    · rw [if_pos (by omega)]
      obtain ⟨g', e1, r1⟩ := mEnd27 M v (y := tm) hfl P hr ho ht ht
      refine ⟨g', ?_, r1⟩
      simp (disch := omega) only [lJ, fX9_endTasks, fX9_endTasks_b19, X0, ltL, z0, if_false, leL, c, e1]
set_option maxRecDepth 100000 in
theorem mSeek (v : VR R) : ∀ m k fu lo rk tm ow fl β x (g : HH), k + m = R 7 → m < fu → MRep g R → (∀ i, i < k → gI g 194 i = nI (fl i)) → MlB g R β → MlS g x → lo ≤ R 0 → rk ≤ 396 * k → tm ≤ 20715264 * k → ow ≤ 999 * k → ∃ g', lq6 fX9_seekFrom_0 fu 181 (nI k) (nI lo) (lN rk) (lN tm) (lN ow) g = some g' ∧ MlB g' R (sk R m k lo rk tm ow fl β) ∧ MlS g' (ss R m k lo tm x) ∧ Keep PL g g' ∧ (∀ i, i < k → gI g' 194 i = nI (fl i)) := by
  have v7 := v.2.1
  have vF := v.F
  intro m
  induction m with
  | zero =>
    intro k fu lo rk tm ow fl β x g e hfu M hfl P X hlo hrk htm how
    obtain ⟨fu, rfl⟩ : ∃ q, fu = q + 1 := ⟨fu - 1, by omega⟩
    have : k = R 7 := by omega
    subst this
    have hf := fs0_le v hlo
    have hb : R 1 * lo ≤ 60 * 4 := Nat.mul_le_mul v7.1 (by omega)
    obtain ⟨g', e1, P1, X1, K1, k1⟩ := mEnd M v (rk := rk) (tm := tm + fs R 0 lo) (ow := ow + R 1 * lo) hfl P X (by omega) (by omega) (by omega)
    refine ⟨g', ?_, P1, X1, K1, fun i hi => by rw [k1]; exact hfl i hi⟩
    show fX9_seekFrom_0 (lq6 fX9_seekFrom_0 fu) 181 (nI (R 7)) (nI lo) (lN rk) (lN tm) (lN ow) g = some g'
    simp (disch := omega) only [lI, gd_1, bd_1, bv_1, inbN, ixN, nI_l, lN_mul, lN_add, fX9_seekFrom_0, Nat.reduceAdd, M 7, if_true, mDown v M (Nat.zero_le (R 0)) hlo, M 1, e1]
  | succ m ih =>
    intro k fu lo rk tm ow fl β x g e hfu M hfl P X hlo hrk htm how
    obtain ⟨fu, rfl⟩ : ∃ q, fu = q + 1 := ⟨fu - 1, by omega⟩
    have hk7 : k < R 7 := by omega
    have vk := v.2.2.2.2.2.1 k hk7
    have nk : ¬ k = R 7 := by omega
    have loop : ∀ n j ff β x (h : HH), j + n = R 0 + 1 → n < ff → Keep PL g h → MlB h R β → MlS h x → (∀ i, i < k → gI h 194 i = nI (fl i)) → ∃ h', lq1 (fX9_seekFrom_L57 (lq6 fX9_seekFrom_0 fu) 181 (nI k) (nI lo) (lN rk) (lN tm) (lN ow) (nI (132 + 3 * k))) ff (nI j) h = some h' ∧ MlB h' R (skl (fun j β => sk R m (k + 1) (max lo j) (rk + R (132 + 3 * k + 2) * j) (tm + R (132 + 3 * k + 1) * mn R j) (ow + R (132 + 3 * k + 1)) (up fl k j) β) j n β) ∧ MlS h' (skl (fun j x => ss R m (k + 1) (max lo j) (tm + R (132 + 3 * k + 1) * mn R j) x) j n x) ∧ Keep PL g h' ∧ (∀ i, i < k → gI h' 194 i = nI (fl i)) := by
      intro n
      induction n with
      | zero =>
        intro j ff β x h ej hff K Ph Xh hg
        obtain ⟨ff, rfl⟩ : ∃ q, ff = q + 1 := ⟨ff - 1, by omega⟩
        have n1 : R 0 < j := by omega
        refine ⟨h, ?_, Ph, Xh, K, hg⟩
        simp (disch := omega) only [lI, gd_1, inbN, ixN, lq1, fX9_seekFrom_L57, Nat.reduceAdd, (M.L K) 0, ltN, n1, if_true]
      | succ n ihn =>
        intro j ff β x h ej hff K Ph Xh hg
        obtain ⟨ff, rfl⟩ : ∃ q, ff = q + 1 := ⟨ff - 1, by omega⟩
        have n1 : ¬ R 0 < j := by omega
        have K1 : Keep PL g (sI h 194 k (nI j)) := Keep.sI K (fun z => z.2.1 rfl)
        have M1 := M.L K1
        have hm := v.mn (f := j) (by omega)
        have b1 : R (132 + 3 * k + 2) * j ≤ 99 * 4 := Nat.mul_le_mul vk.2.2.2 (by omega)
        have b2 : R (132 + 3 * k + 1) * mn R j ≤ 999 * 20736 := Nat.mul_le_mul vk.2.2.1 hm.2
        obtain ⟨h2, e2, P2, X2, K2, k2⟩ := ih (k + 1) fu (max lo j) (rk + R (132 + 3 * k + 2) * j) (tm + R (132 + 3 * k + 1) * mn R j) (ow + R (132 + 3 * k + 1)) (up fl k j) β x (sI h 194 k (nI j)) (by omega) (by omega) M1 (fun i hi => by
          by_cases c2 : i = k
          · subst c2; rw [gIs, up_s]
          · rw [gIk c2, up_o c2]; exact hg i (by omega)) (by
          cases β with
          | none => show gL _ 181 29 = L1; rw [gL_sI]; exact Ph
          | some q =>
            obtain ⟨r, t, o, cc⟩ := q
            obtain ⟨p1, p2, p3, p4, p5, p6⟩ := id Ph
            exact ⟨by rw [gL_sI]; exact p1, by rw [gL_sI]; exact p2, by rw [gL_sI]; exact p3, fun i hi => by rw [gIa (by omega)]; exact p4 i hi, p5, p6⟩) ⟨by rw [gL_sI]; exact Xh.1, Xh.2⟩ (by omega) (by omega) (by omega) (by omega)
        obtain ⟨h3, e3, P3, X3, K3, k3⟩ := ihn (j + 1) ff _ _ h2 (by omega) (by omega) (K1.trans K2) P2 X2 (fun i hi => by
          have := k2 i (by omega)
          rw [up_o (by omega)] at this; exact this)
        refine ⟨h3, ?_, P3, X3, K3, k3⟩
        have m1 := M1 (132 + 3 * k + 1) (by omega)
        have m2 := M1 (132 + 3 * k + 2) (by omega)
        by_cases c : j ≤ lo
        · rw [Nat.max_eq_left c] at e2
          simp (disch := omega) only [lI, gd_1, bd_1, bv_1, inbN, ixN, nI_add, nI_l, lN_mul, lN_add, lq1, fX9_seekFrom_L57, fX9_seekFrom_b92, Nat.reduceAdd, (M.L K) 0, ltN, n1, if_false, leN, c, if_true, mMinute M1 v (f := j) (by omega), m1, m2, e2]
          exact e3
        · rw [Nat.max_eq_right (by omega)] at e2
          simp (disch := omega) only [lI, gd_1, bd_1, bv_1, inbN, ixN, nI_add, nI_l, lN_mul, lN_add, lq1, fX9_seekFrom_L57, fX9_seekFrom_b92, Nat.reduceAdd, (M.L K) 0, ltN, n1, if_false, leN, c, mMinute M1 v (f := j) (by omega), m1, m2, e2]
          exact e3
    obtain ⟨g', e1, P1, X1, K1, k1⟩ := loop (R 0 + 1 - R (132 + 3 * k)) (R (132 + 3 * k)) FU β x g (by omega) (by unfold FU; omega) Keep.rfl P X hfl
    refine ⟨g', ?_, P1, X1, K1, k1⟩
    show fX9_seekFrom_0 (lq6 fX9_seekFrom_0 fu) 181 (nI k) (nI lo) (lN rk) (lN tm) (lN ow) g = some g'
    simp (disch := omega) only [lI, gd_1, nm_1, inbN, ixN, nI_add, pk_mul, eqN, fX9_seekFrom_0, Nat.reduceAdd, M 7, nk, if_false, M (132 + 3 * k), e1]
set_option maxRecDepth 100000 in
theorem mSeekT (M : MRep g R) (v : VR R) : ∃ g', fX9_seekTasks 181 g = some g' ∧ MlB g' R (bw R) ∧ MlS g' (ss R (R 7) 0 0 0 none) ∧ Keep PL g g' := by
  have v7 := v.2.1
  have K1 : Keep PL g (sL (sL g 181 29 L1) 181 32 L1) := Keep.sL (Keep.sL Keep.rfl (fun z => z.1 ⟨rfl, by omega, by omega⟩)) (fun z => z.1 ⟨rfl, by omega, by omega⟩)
  obtain ⟨g', e1, P1, X1, K2, -⟩ := mSeek v (R 7) 0 8 0 0 0 0 (fun _ => 0) none none (sL (sL g 181 29 L1) 181 32 L1) (by omega) (by omega) (M.L K1) (fun i hi => absurd hi (Nat.not_lt_zero i)) (by show gL _ 181 29 = L1; rw [gLk (by omega), gLs]) ⟨gLs _ _ _ _, fun y hy => by cases hy⟩ (Nat.zero_le _) (Nat.zero_le _) (Nat.zero_le _) (Nat.zero_le _)
  refine ⟨g', ?_, P1, X1, K1.trans K2⟩
  simp (disch := omega) only [lI, lJ, bv_1, nm_1, negL, fX9_seekTasks, fX9_seekFrom, e1]
end MPL
/-! the soonest: all on one floor -/
section SOON
variable {R : Nat → Nat}
set_option maxRecDepth 100000 in
theorem mn_anti (v : VR R) {i j : Nat} (h : i ≤ j) (hj : j ≤ R 0) : mn R j ≤ mn R i := by
  obtain ⟨e1, -⟩ := rt_mul v h hj
  obtain ⟨e2, -⟩ := rt_mul v hj (Nat.le_refl _)
  obtain ⟨e3, -⟩ := rt_mul v (Nat.le_trans h hj) (Nat.le_refl _)
  have hq := v.qk (f := i) (by omega)
  have hr := v.rt h hj
  have : qk R i * (rt R i j * mn R j) = qk R i * mn R i := by
    show qk R i * (rt R i j * rt R j (R 0)) = qk R i * rt R i (R 0)
    rw [← Nat.mul_assoc, ← e1, ← e2, ← e3]
  have e4 := Nat.eq_of_mul_eq_mul_left (show 0 < qk R i by omega) this
  rw [← e4]
  exact Nat.le_mul_of_pos_left _ (by omega)
set_option maxRecDepth 100000 in
theorem fs_mono (R : Nat → Nat) (f : Nat) {a b : Nat} (h : a ≤ b) : fs R f a ≤ fs R f b := by
  induction b with
  | zero => have : a = 0 := by omega
            subst this; exact Nat.le_refl _
  | succ b ih =>
    rcases Nat.lt_or_ge a (b + 1) with z | z
    · exact Nat.le_trans (ih (by omega)) (Nat.le_add_right _ _)
    · have : a = b + 1 := by omega
      subst this; exact Nat.le_refl _
def LeO (x : Option Nat) (b : Nat) : Prop := ∃ z, x = some z ∧ z ≤ b
def GeO (x : Option Nat) (b : Nat) : Prop := ∀ z, x = some z → b ≤ z
set_option maxRecDepth 100000 in
theorem mo_le {x : Option Nat} {b y : Nat} (h : LeO x b) : LeO (mo x y) b := by
  obtain ⟨z, rfl, hz⟩ := h
  refine ⟨_, rfl, ?_⟩
  split <;> omega
set_option maxRecDepth 100000 in
theorem mo_hit {x : Option Nat} {b y : Nat} (h : y ≤ b) : LeO (mo x y) b := by
  cases x with
  | none => exact ⟨y, rfl, h⟩
  | some z => refine ⟨_, rfl, ?_⟩; split <;> omega
set_option maxRecDepth 100000 in
theorem mo_ge {x : Option Nat} {b y : Nat} (h : GeO x b) (hy : b ≤ y) : GeO (mo x y) b := by
  intro z hz
  cases x with
  | none => cases hz; exact hy
  | some w =>
    have := h w rfl
    cases hz
    split <;> omega
set_option maxRecDepth 100000 in
theorem skl_pres {α : Type} {P : α → Prop} {st : Nat → α → α} : ∀ n a x, (∀ i x, a ≤ i → i < a + n → P x → P (st i x)) → P x → P (skl st a n x) := by
  intro n
  induction n with
  | zero => intro a x _ h; exact h
  | succ n ih => intro a x h hx; exact ih (a + 1) _ (fun i x h1 h2 => h i x (by omega) (by omega)) (h a x (by omega) (by omega) hx)
set_option maxRecDepth 100000 in
theorem skl_hit {α : Type} {P : α → Prop} {st : Nat → α → α} {j : Nat} : ∀ n a x, (∀ i x, P x → P (st i x)) → (∀ x, P (st j x)) → a ≤ j → j < a + n → P (skl st a n x) := by
  intro n
  induction n with
  | zero => intro a x _ _ h1 h2; omega
  | succ n ih =>
    intro a x h hj h1 h2
    by_cases e : a = j
    · subst e; exact skl_pres n (a + 1) _ (fun i x _ _ => h i x) (hj x)
    · exact ih (a + 1) _ h hj (by omega) (by omega)
set_option maxRecDepth 100000 in
theorem ss_mono {b : Nat} : ∀ m k lo tm x, LeO x b → LeO (ss R m k lo tm x) b := by
  intro m
  induction m with
  | zero => intro k lo tm x h; exact mo_le h
  | succ m ih => intro k lo tm x h; exact skl_pres _ _ _ (fun i x _ _ hx => ih _ _ _ x hx) h
set_option maxRecDepth 100000 in
theorem ss_hit (v : VR R) {j : Nat} (hj : j ≤ R 0) (hi : ∀ i, i < R 7 → R (132 + 3 * i) ≤ j) : ∀ m k lo tm x, k + m = R 7 → lo ≤ j → tm ≤ aMin R k * mn R j → LeO (ss R m k lo tm x) (fs R 0 j + aMin R (R 7) * mn R j) := by
  intro m
  induction m with
  | zero =>
    intro k lo tm x e h1 h2
    have : k = R 7 := by omega
    subst this
    have := fs_mono R 0 h1
    exact mo_hit (by omega)
  | succ m ih =>
    intro k lo tm x e h1 h2
    have hk := hi k (by omega)
    refine skl_hit (j := j) _ _ _ (fun i x hx => ss_mono m _ _ _ x hx) (fun x => ih (k + 1) (max lo j) _ x (by omega) (by omega) ?_) hk (by omega)
    show tm + R (132 + 3 * k + 1) * mn R j ≤ (aMin R k + R (132 + 3 * k + 1)) * mn R j
    rw [Nat.add_mul]; omega
set_option maxRecDepth 100000 in
theorem ss_ge (v : VR R) {b : Nat} (hb : ∀ j, j ≤ R 0 → (∀ i, i < R 7 → R (132 + 3 * i) ≤ j) → b ≤ fs R 0 j + aMin R (R 7) * mn R j) : ∀ m k lo tm x, k + m = R 7 → lo ≤ R 0 → (∀ i, i < k → R (132 + 3 * i) ≤ lo) → aMin R k * mn R lo ≤ tm → GeO x b → GeO (ss R m k lo tm x) b := by
  intro m
  induction m with
  | zero =>
    intro k lo tm x e h1 h2 h3 hx
    have : k = R 7 := by omega
    subst this
    have := hb lo h1 h2
    exact mo_ge hx (by omega)
  | succ m ih =>
    intro k lo tm x e h1 h2 h3 hx
    refine skl_pres _ _ _ (fun i x hi1 hi2 hx => ih (k + 1) (max lo i) _ x (by omega) (by omega) (fun q hq => ?_) ?_ hx) hx
    · by_cases z : q = k
      · subst z; omega
      · have := h2 q (by omega); omega
    · show (aMin R k + R (132 + 3 * k + 1)) * mn R (max lo i) ≤ tm + R (132 + 3 * k + 1) * mn R i
      have a1 := mn_anti v (i := lo) (j := max lo i) (by omega) (by omega)
      have a2 := mn_anti v (i := i) (j := max lo i) (by omega) (by omega)
      have b1 : aMin R k * mn R (max lo i) ≤ aMin R k * mn R lo := Nat.mul_le_mul_left _ a1
      have b2 : R (132 + 3 * k + 1) * mn R (max lo i) ≤ R (132 + 3 * k + 1) * mn R i := Nat.mul_le_mul_left _ a2
      rw [Nat.add_mul]; omega
/-- the highest floor that all can be done on -/
def hx (R : Nat → Nat) : Nat → Nat
  | 0 => 0
  | k + 1 => max (hx R k) (R (132 + 3 * k))
set_option maxRecDepth 100000 in
theorem hx_at {i : Nat} : ∀ {k}, i < k → R (132 + 3 * i) ≤ hx R k := by
  intro k
  induction k with
  | zero => intro h; omega
  | succ k ih =>
    intro h
    show _ ≤ max (hx R k) (R (132 + 3 * k))
    by_cases e : i = k
    · subst e; omega
    · have := ih (by omega); omega
set_option maxRecDepth 100000 in
theorem hx_le {j : Nat} : ∀ {k}, (∀ i, i < k → R (132 + 3 * i) ≤ j) → hx R k ≤ j := by
  intro k
  induction k with
  | zero => intro _; exact Nat.zero_le _
  | succ k ih =>
    intro h
    have := ih (fun i hi => h i (by omega))
    have := h k (by omega)
    show max (hx R k) (R (132 + 3 * k)) ≤ j
    omega
def vl (R : Nat → Nat) (j : Nat) : Nat := fs R 0 j + aMin R (R 7) * mn R j
def lst (R : Nat → Nat) : Nat := skl (fun j x => min x (vl R j)) (hx R (R 7)) (R 0 + 1 - hx R (R 7)) NV
set_option maxRecDepth 100000 in
theorem vl_le (v : VR R) {j : Nat} (hj : j ≤ R 0) : vl R j ≤ 200000000 := by
  have h1 := fs0_le v hj
  have h2 := aMin_le v (R 7) (Nat.le_refl _)
  have v7 := v.2.1
  have h3 : aMin R (R 7) * mn R j ≤ 5994 * 20736 := Nat.mul_le_mul (by omega) (v.mn hj).2
  unfold vl; omega
set_option maxRecDepth 100000 in
theorem lst_le {j : Nat} (h1 : hx R (R 7) ≤ j) (h2 : j ≤ R 0) : lst R ≤ vl R j := by
  refine skl_hit (P := fun x => x ≤ vl R j) (j := j) _ _ _ (fun i x hx => ?_) (fun x => ?_) h1 (by omega)
  · exact Nat.le_trans (Nat.min_le_left _ _) hx
  · exact Nat.min_le_right _ _
set_option maxRecDepth 100000 in
theorem lst_mem : lst R = NV ∨ ∃ j, hx R (R 7) ≤ j ∧ j ≤ R 0 ∧ lst R = vl R j := by
  refine skl_pres (P := fun x => x = NV ∨ ∃ j, hx R (R 7) ≤ j ∧ j ≤ R 0 ∧ x = vl R j) _ _ _ (fun i x h1 h2 hx => ?_) (Or.inl rfl)
  rcases Nat.le_total x (vl R i) with c | c
  · show min x (vl R i) = NV ∨ _
    rw [Nat.min_eq_left c]; exact hx
  · show min x (vl R i) = NV ∨ _
    rw [Nat.min_eq_right c]; exact Or.inr ⟨i, h1, by omega, rfl⟩
set_option maxRecDepth 100000 in
theorem soon_eq (v : VR R) : ss R (R 7) 0 0 0 none = some (lst R) := by
  have hF : hx R (R 7) ≤ R 0 := hx_le (fun i hi => (v.2.2.2.2.2.1 i hi).1)
  have h0 : ∃ j, hx R (R 7) ≤ j ∧ j ≤ R 0 ∧ lst R = vl R j := by
    rcases lst_mem (R := R) with e | e
    · have h1 := lst_le (R := R) (j := R 0) hF (Nat.le_refl _)
      have h2 := vl_le v (Nat.le_refl (R 0))
      unfold NV at e
      omega
    · exact e
  obtain ⟨j, j1, j2, j3⟩ := h0
  obtain ⟨z, e, hz⟩ := ss_hit v j2 (fun i hi => Nat.le_trans (hx_at hi) j1) (R 7) 0 0 0 none (by omega) (Nat.zero_le _) (Nat.zero_le _)
  have hg := ss_ge v (b := lst R) (fun j h1 h2 => lst_le (hx_le h2) h1) (R 7) 0 0 0 none (by omega) (Nat.zero_le _) (fun i hi => by omega) (by show 0 * _ ≤ 0; omega) (fun z hz => by cases hz) z e
  rw [e, j3]
  unfold vl at j3 ⊢
  congr 1; omega
set_option maxRecDepth 100000 in
theorem cLeast {h : HH} {d : Nat} (D : DRep h d R) (hD : isD d) (v : VR R) : fX4_leastTicks d h = some (lN (lst R), h) := by
  have v7 := v.2.1
  have vF := v.F
  have hF : hx R (R 7) ≤ R 0 := hx_le (fun i hi => (v.2.2.2.2.2.1 i hi).1)
  have hA := aMin_le v (R 7) (Nat.le_refl _)
  have m2 : ∀ n j f x, j + n = R 0 + 1 → n < f → x ≤ NV → lq2 (fX4_leastTicks_L42 d) f (lN x) (nI j) h = some (lN (skl (fun j x => min x (vl R j)) j n x), h) := by
    intro n
    induction n with
    | zero =>
      intro j f x e hf hx
      obtain ⟨f, rfl⟩ : ∃ q, f = q + 1 := ⟨f - 1, by omega⟩
      have n1 : R 0 < j := by omega
      simp (disch := omega) only [lq2, fX4_leastTicks_L42, D.2.2.1.1, ltN, n1, if_true, skl]
    | succ n ih =>
      intro j f x e hf hx
      obtain ⟨f, rfl⟩ : ∃ q, f = q + 1 := ⟨f - 1, by omega⟩
      have n1 : ¬ R 0 < j := by omega
      have hm := v.mn (f := j) (by omega)
      have hv := vl_le v (j := j) (by omega)
      have e9 : fs R 0 j + aMin R (R 7) * mn R j = vl R j := rfl
      have hx2 := NVb hx
      simp (disch := omega) only [lI, bd_1, nm_1, nI_add, nI_l, lN_mul, lN_add, lq2, fX4_leastTicks_L42, D.2.2.1.1, ltN, n1, if_false, cFall D v (Nat.zero_le (R 0)) (show j ≤ R 0 by omega), cAllMin D hD v, cMinute D v (f := j) (by omega), e9, minL]
      exact ih (j + 1) f (min x (vl R j)) (by omega) (by omega) (Nat.le_trans (Nat.min_le_left _ _) hx)
  have m1 : ∀ m i f, i + m = R 7 → m < f → lq2 (fX4_leastTicks_L4 (fun x1 h => lq2 (fX4_leastTicks_L42 d) FU (lN NV) x1 h) d) f (nI (hx R i)) (nI i) h = some (lN (lst R), h) := by
    intro m
    induction m with
    | zero =>
      intro i f e hf
      obtain ⟨f, rfl⟩ : ∃ q, f = q + 1 := ⟨f - 1, by omega⟩
      have : i = R 7 := by omega
      subst this
      simp (disch := omega) only [lq2, fX4_leastTicks_L4, D.2.2.2.1.2.2.2.1.2, leN, Nat.le_refl, if_true]
      exact m2 _ _ FU NV (by omega) (by unfold FU; omega) (Nat.le_refl _)
    | succ m ih =>
      intro i f e hf
      obtain ⟨f, rfl⟩ : ∃ q, f = q + 1 := ⟨f - 1, by omega⟩
      have n1 : ¬ R 7 ≤ i := by omega
      have hi : i < R 7 := by omega
      have vk := v.2.2.2.2.2.1 i hi
      have dk := D.2.2.2.2.2.2.2.2.1 i hi
      have hl : hx R i ≤ R 0 := hx_le (fun q hq => (v.2.2.2.2.2.1 q (by omega)).1)
      simp (disch := omega) only [lI, bd_1, nm_1, nI_add, lq2, fX4_leastTicks_L4, D.2.2.2.1.2.2.2.1.2, leN, n1, if_false, cTa D hD v hi, dk, maxN]
      exact ih (i + 1) f (by omega) (by omega)
  exact m1 (R 7) 0 FU (by omega) (by unfold FU; omega)
end SOON
