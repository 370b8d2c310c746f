section OPS
variable {h : HH} {d : Nat} {R N T : Nat → Nat}
/-- ticks of going down -/
def fs (R : Nat → Nat) (f : Nat) : Nat → Nat
  | 0 => 0
  | t + 1 => fs R f t + (if f ≤ t then R 1 * mn R t else 0)
set_option maxRecDepth 100000 in
theorem fs_0 (R : Nat → Nat) (f : Nat) : ∀ t, t ≤ f → fs R f t = 0
  | 0, _ => rfl
  | t + 1, h => by
    have c : ¬ f ≤ t := by omega
    simp only [fs, c, if_false, fs_0 R f t (by omega)]
set_option maxRecDepth 100000 in
theorem fs_le (v : VR R) (f : Nat) : ∀ t, t ≤ R 0 → fs R f t ≤ t * 1244160
  | 0, _ => by simp [fs]
  | t + 1, h => by
    have h1 := fs_le v f t (by omega)
    have h2 := v.mn (f := t) (by omega)
    have h3 : R 1 * mn R t ≤ 1244160 := Nat.le_trans (Nat.mul_le_mul v.2.1.1 h2.2) (by decide)
    have h4 : fs R f (t + 1) ≤ fs R f t + R 1 * mn R t := by
      simp only [fs]
      split
      · exact Nat.le_refl _
      · exact Nat.add_le_add_left (Nat.zero_le _) _
    rw [Nat.add_mul]
    omega
set_option maxRecDepth 100000 in
theorem cFall (D : DRep h d R) (v : VR R) {f t : Nat} (hf : f ≤ R 0) (ht : t ≤ R 0) : fX0_falling d (nI f) (nI t) h = some (lN (fs R f t), h) := by
  have vF := v.F
  have v1 := v.2.1.1
  have main : ∀ m i n, i + m = max t f → f ≤ i → m < n → lq2 (fX0_falling_L5 d (nI t)) n (lN (fs R f i)) (nI i) h = some (lN (fs R f t), h) := by
    intro m
    induction m with
    | zero =>
      intro i n e hi hn
      obtain ⟨n, rfl⟩ : ∃ q, n = q + 1 := ⟨n - 1, by omega⟩
      have h1 : t ≤ i := by omega
      have e2 : fs R f i = fs R f t := by
        rcases Nat.lt_or_ge f t with z | z
        · have : i = t := by omega
          rw [this]
        · rw [fs_0 R f i (by omega), fs_0 R f t (by omega)]
      simp (disch := omega) only [lI, lJ, gd_1, bd_1, bv_1, nm_1, ixN, inbN, eqN, leN, ltN, eqL, leL, ltL, beqN, beqL, nI_add, pk_mul, lN_add, lN_mul, nI_l, lN_i, pk_div, pk_lDiv, pk_sub, lN_sub, remN, remL, neg1, neg2, negL, negL2, M1e, M1f, M1g, M1h, M1i, M1j, M2e, M2f, L1g, L1h, L1i, L1j, les_eq, les_e, les_n, les_m, lq2, fX0_falling_L5, h1, if_true, e2]
    | succ m ih =>
      intro i n e hi hn
      obtain ⟨n, rfl⟩ : ∃ q, n = q + 1 := ⟨n - 1, by omega⟩
      have h1 : ¬ t ≤ i := by omega
      have hm := v.mn (f := i) (by omega)
      have key := ih (i + 1) n (by omega) (by omega) (by omega)
      rw [show fs R f (i + 1) = fs R f i + R 1 * mn R i by simp only [fs, hi, if_true]] at key
      simp (disch := omega) only [lI, lJ, gd_1, bd_1, bv_1, nm_1, ixN, inbN, eqN, leN, ltN, eqL, leL, ltL, beqN, beqL, nI_add, pk_mul, lN_add, lN_mul, nI_l, lN_i, pk_div, pk_lDiv, pk_sub, lN_sub, remN, remL, neg1, neg2, negL, negL2, M1e, M1f, M1g, M1h, M1i, M1j, M2e, M2f, L1g, L1h, L1i, L1j, les_eq, les_e, les_n, les_m, lq2, fX0_falling_L5, h1, if_false, cMinute D v (f := i) (by omega), D.2.2.1.2.1]
      exact key
  have := main (max t f - f) f FU (by omega) (by omega) (by unfold FU; omega)
  rw [fs_0 R f f (by omega)] at this
  exact this
set_option maxRecDepth 100000 in
theorem mDown {g : HH} (v : VR R) (M : MRep g R) {f t : Nat} (hf : f ≤ R 0) (ht : t ≤ R 0) : fX9_down 181 (nI f) (nI t) g = some (lN (fs R f t), g) := by
  have vF := v.F
  have v1 := v.2.1.1
  have main : ∀ m i n, i + m = max t f → f ≤ i → m < n → lq2 (fX9_down_L5 181 (nI t)) n (lN (fs R f i)) (nI i) g = some (lN (fs R f t), g) := by
    intro m
    induction m with
    | zero =>
      intro i n e hi hn
      obtain ⟨n, rfl⟩ : ∃ q, n = q + 1 := ⟨n - 1, by omega⟩
      have h1 : t ≤ i := by omega
      have e2 : fs R f i = fs R f t := by
        rcases Nat.lt_or_ge f t with z | z
        · have : i = t := by omega
          rw [this]
        · rw [fs_0 R f i (by omega), fs_0 R f t (by omega)]
      simp (disch := omega) only [lI, lJ, gd_1, bd_1, bv_1, nm_1, ixN, inbN, eqN, leN, ltN, eqL, leL, ltL, beqN, beqL, nI_add, pk_mul, lN_add, lN_mul, nI_l, lN_i, pk_div, pk_lDiv, pk_sub, lN_sub, remN, remL, neg1, neg2, negL, negL2, M1e, M1f, M1g, M1h, M1i, M1j, M2e, M2f, L1g, L1h, L1i, L1j, les_eq, les_e, les_n, les_m, lq2, fX9_down_L5, h1, if_true, e2]
    | succ m ih =>
      intro i n e hi hn
      obtain ⟨n, rfl⟩ : ∃ q, n = q + 1 := ⟨n - 1, by omega⟩
      have h1 : ¬ t ≤ i := by omega
      have hm := v.mn (f := i) (by omega)
      have key := ih (i + 1) n (by omega) (by omega) (by omega)
      rw [show fs R f (i + 1) = fs R f i + R 1 * mn R i by simp only [fs, hi, if_true]] at key
      simp (disch := omega) only [lI, lJ, gd_1, bd_1, bv_1, nm_1, ixN, inbN, eqN, leN, ltN, eqL, leL, ltL, beqN, beqL, nI_add, pk_mul, lN_add, lN_mul, nI_l, lN_i, pk_div, pk_lDiv, pk_sub, lN_sub, remN, remL, neg1, neg2, negL, negL2, M1e, M1f, M1g, M1h, M1i, M1j, M2e, M2f, L1g, L1h, L1i, L1j, les_eq, les_e, les_n, les_m, lq2, fX9_down_L5, h1, if_false, Nat.reduceAdd, M 1, mMinute M v (f := i) (by omega)]
      exact key
  have := main (max t f - f) f FU (by omega) (by omega) (by unfold FU; omega)
  rw [fs_0 R f f (by omega)] at this
  exact this
/-- ticks till one can be on a floor of a head; the later of two -/
def tt (R N : Nat → Nat) (s fl hh : Nat) : Nat := fs R (if N (4 * s + 1) = hh + 1 then N (4 * s + 0) else 0) fl
def later (R N : Nat → Nat) (s q fl hh : Nat) : Nat := max (tt R N s fl hh) (tt R N q fl hh)
set_option maxRecDepth 100000 in
theorem tt_le (v : VR R) {s fl hh : Nat} (hfl : fl ≤ R 0) : tt R N s fl hh ≤ 4976640 := by
  have h1 := fs_le v (if N (4 * s + 1) = hh + 1 then N (4 * s + 0) else 0) fl hfl
  have vF := v.F
  unfold tt
  omega
set_option maxRecDepth 100000 in
theorem cTill (C : CA h d R N T) {s fl hh : Nat} (hs : s < R 4) (hfl : fl ≤ R 0) (hhh : hh < 1000) : fX8_ticksTo 0 (nI s) (nI fl) (nI hh) h = some (lN (tt R N s fl hh), h) := by
  have k := isKb_D C.2.1
  have v := C.2.2.2.2.1
  have vF := v.F
  have vS := v.S
  have vH := v.H
  have q := C.2.2.2.2.2.1.2.1 s (by omega)
  have w := C.2.2.2.2.2.2.1.2.1 s (by omega)
  unfold tt
  by_cases c : N (4 * s + 1) = hh + 1
  · rw [if_pos c]
    simp (disch := omega) only [lI, lJ, gd_1, bd_1, bv_1, nm_1, ixN, inbN, eqN, leN, ltN, eqL, leL, ltL, beqN, beqL, nI_add, pk_mul, lN_add, lN_mul, nI_l, lN_i, pk_div, pk_lDiv, pk_sub, lN_sub, remN, remL, neg1, neg2, negL, negL2, M1e, M1f, M1g, M1h, M1i, M1j, M2e, M2f, L1g, L1h, L1i, L1j, les_eq, les_e, les_n, les_m, cond_true, cond_false, if_true, if_false, fX8_refuse, fX8_allow, fX8_allow_, Nat.not_lt_zero, Nat.reduceAdd, Nat.reduceLT, Nat.reduceLeDiff, Nat.reduceEqDiff, decide_false, decide_true, Bool.not_false, Bool.not_true, C.1, k, fX8_ticksTo, q, eq_true c, cFall C.2.2.2.1 v w.1 hfl]
  · rw [if_neg c]
    simp (disch := omega) only [lI, lJ, gd_1, bd_1, bv_1, nm_1, ixN, inbN, eqN, leN, ltN, eqL, leL, ltL, beqN, beqL, nI_add, pk_mul, lN_add, lN_mul, nI_l, lN_i, pk_div, pk_lDiv, pk_sub, lN_sub, remN, remL, neg1, neg2, negL, negL2, M1e, M1f, M1g, M1h, M1i, M1j, M2e, M2f, L1g, L1h, L1i, L1j, les_eq, les_e, les_n, les_m, cond_true, cond_false, if_true, if_false, fX8_refuse, fX8_allow, fX8_allow_, Nat.not_lt_zero, Nat.reduceAdd, Nat.reduceLT, Nat.reduceLeDiff, Nat.reduceEqDiff, decide_false, decide_true, Bool.not_false, Bool.not_true, C.1, k, fX8_ticksTo, q, c, cFall C.2.2.2.1 v (f := 0) (by omega) hfl]
set_option maxRecDepth 100000 in
theorem cLater (C : CA h d R N T) {s q fl hh : Nat} (hs : s < R 4) (hq : q < R 4) (hfl : fl ≤ R 0) (hhh : hh < 1000) : fX8_laterOfBoth 0 (nI s) (nI q) (nI fl) (nI hh) h = some (lN (later R N s q fl hh), h) := by
  have v := C.2.2.2.2.1
  have t1 := tt_le (N := N) v (s := s) (hh := hh) hfl
  have t2 := tt_le (N := N) v (s := q) (hh := hh) hfl
  simp (disch := omega) only [lI, lJ, gd_1, bd_1, bv_1, nm_1, ixN, inbN, eqN, leN, ltN, eqL, leL, ltL, beqN, beqL, nI_add, pk_mul, lN_add, lN_mul, nI_l, lN_i, pk_div, pk_lDiv, pk_sub, lN_sub, remN, remL, neg1, neg2, negL, negL2, M1e, M1f, M1g, M1h, M1i, M1j, M2e, M2f, L1g, L1h, L1i, L1j, les_eq, les_e, les_n, les_m, fX8_laterOfBoth, cTill C hs hfl hhh, cTill C hq hfl hhh, maxL, later]
set_option maxRecDepth 100000 in
theorem mTill {g : HH} (M : MA g R N T) {s fl hh : Nat} (hs : s < R 4) (hfl : fl ≤ R 0) (hhh : hh < 1000) : fX9_tillThere 181 (nI s) (nI hh) (nI fl) g = some (lN (tt R N s fl hh), g) := by
  have v := M.2.2.1
  have vF := v.F
  have vS := v.S
  have vH := v.H
  have w := M.2.2.2.2.1.2.1 s (by omega)
  unfold tt
  by_cases c : N (4 * s + 1) = hh + 1
  · rw [if_pos c]
    simp (disch := omega) only [lI, lJ, gd_1, bd_1, bv_1, nm_1, ixN, inbN, eqN, leN, ltN, eqL, leL, ltL, beqN, beqL, nI_add, pk_mul, lN_add, lN_mul, nI_l, lN_i, pk_div, pk_lDiv, pk_sub, lN_sub, remN, remL, neg1, neg2, negL, negL2, M1e, M1f, M1g, M1h, M1i, M1j, M2e, M2f, L1g, L1h, L1i, L1j, les_eq, les_e, les_n, les_m, fX9_tillThere, mIts M.2.2.2.1, eq_true c, if_true, mDown v M.2.1 w.1 hfl]
  · rw [if_neg c]
    simp (disch := omega) only [lI, lJ, gd_1, bd_1, bv_1, nm_1, ixN, inbN, eqN, leN, ltN, eqL, leL, ltL, beqN, beqL, nI_add, pk_mul, lN_add, lN_mul, nI_l, lN_i, pk_div, pk_lDiv, pk_sub, lN_sub, remN, remL, neg1, neg2, negL, negL2, M1e, M1f, M1g, M1h, M1i, M1j, M2e, M2f, L1g, L1h, L1i, L1j, les_eq, les_e, les_n, les_m, fX9_tillThere, mIts M.2.2.2.1, c, if_false, mDown v M.2.1 (f := 0) (by omega) hfl]
set_option maxRecDepth 100000 in
theorem meetL (C : CA h d R N T) {s q fl : Nat} (hs : s < R 4) (hq : q < R 4) (hfl : fl ≤ R 0) : ∀ m i b, i + m = R 3 → 1 ≤ i → b < i → ∃ a, a < R 3 ∧ (∀ n, m < n → lq2 (fX8_soonestHead_L6 0 (nI s) (nI q) (nI fl)) n (nI b) (nI i) h = some (nI a, h)) ∧ ∀ (g : HH) n, MA g R N T → gL g 181 40 = lN (later R N s q fl b) → m < n → ∃ g', lq2 (fX9_meetHead_L6 181 (nI s) (nI q) (nI fl)) n (nI b) (nI i) g = some (nI a, g') ∧ gL g' 181 40 = lN (later R N s q fl a) ∧ Keep PM g g' ∧ gI g' 181 11 = gI g 181 11 := by
  have k := isKb_D C.2.1
  have v := C.2.2.2.2.1
  have vH := v.H
  intro m
  induction m with
  | zero =>
    intro i b e hi hb
    have : i = R 3 := by omega
    subst this
    refine ⟨b, hb, fun n hn => ?_, fun g n Mg hg hn => ⟨g, ?_, hg, Keep.rfl, rfl⟩⟩
    · obtain ⟨n, rfl⟩ : ∃ q, n = q + 1 := ⟨n - 1, by omega⟩
      simp (disch := omega) only [lI, lJ, gd_1, bd_1, bv_1, nm_1, ixN, inbN, eqN, leN, ltN, eqL, leL, ltL, beqN, beqL, nI_add, pk_mul, lN_add, lN_mul, nI_l, lN_i, pk_div, pk_lDiv, pk_sub, lN_sub, remN, remL, neg1, neg2, negL, negL2, M1e, M1f, M1g, M1h, M1i, M1j, M2e, M2f, L1g, L1h, L1i, L1j, les_eq, les_e, les_n, les_m, cond_true, cond_false, if_true, if_false, fX8_refuse, fX8_allow, fX8_allow_, Nat.not_lt_zero, Nat.reduceAdd, Nat.reduceLT, Nat.reduceLeDiff, Nat.reduceEqDiff, decide_false, decide_true, Bool.not_false, Bool.not_true, C.1, k, lq2, fX8_soonestHead_L6, C.2.2.2.1.2.2.1.2.2.2.1, Nat.le_refl]
    · obtain ⟨n, rfl⟩ : ∃ q, n = q + 1 := ⟨n - 1, by omega⟩
      simp (disch := omega) only [lI, lJ, gd_1, bd_1, bv_1, nm_1, ixN, inbN, eqN, leN, ltN, eqL, leL, ltL, beqN, beqL, nI_add, pk_mul, lN_add, lN_mul, nI_l, lN_i, pk_div, pk_lDiv, pk_sub, lN_sub, remN, remL, neg1, neg2, negL, negL2, M1e, M1f, M1g, M1h, M1i, M1j, M2e, M2f, L1g, L1h, L1i, L1j, les_eq, les_e, les_n, les_m, lq2, fX9_meetHead_L6, Nat.reduceAdd, Mg.2.1 3, Nat.le_refl, if_true]
  | succ m ih =>
    intro i b e hi hb
    have n1 : ¬ R 3 ≤ i := by omega
    have nb : ¬ b < 0 := by omega
    have t1 := tt_le (N := N) v (s := s) (hh := i) hfl
    have t2 := tt_le (N := N) v (s := q) (hh := i) hfl
    have t3 := tt_le (N := N) v (s := s) (hh := b) hfl
    have t4 := tt_le (N := N) v (s := q) (hh := b) hfl
    have l1 : later R N s q fl i ≤ 4976640 := by unfold later; omega
    have l2 : later R N s q fl b ≤ 4976640 := by unfold later; omega
    by_cases c : later R N s q fl b ≤ later R N s q fl i
    · obtain ⟨a, ha, A, B⟩ := ih (i + 1) b (by omega) (by omega) (by omega)
      refine ⟨a, ha, fun n hn => ?_, fun g n Mg hg hn => ?_⟩
      · obtain ⟨n, rfl⟩ : ∃ q, n = q + 1 := ⟨n - 1, by omega⟩
        simp (disch := omega) only [lI, lJ, gd_1, bd_1, bv_1, nm_1, ixN, inbN, eqN, leN, ltN, eqL, leL, ltL, beqN, beqL, nI_add, pk_mul, lN_add, lN_mul, nI_l, lN_i, pk_div, pk_lDiv, pk_sub, lN_sub, remN, remL, neg1, neg2, negL, negL2, M1e, M1f, M1g, M1h, M1i, M1j, M2e, M2f, L1g, L1h, L1i, L1j, les_eq, les_e, les_n, les_m, cond_true, cond_false, if_true, if_false, fX8_refuse, fX8_allow, fX8_allow_, Nat.not_lt_zero, Nat.reduceAdd, Nat.reduceLT, Nat.reduceLeDiff, Nat.reduceEqDiff, decide_false, decide_true, Bool.not_false, Bool.not_true, C.1, k, lq2, fX8_soonestHead_L6, C.2.2.2.1.2.2.1.2.2.2.1, n1, cLater C hs hq hfl (hh := i) (by omega), cLater C hs hq hfl (hh := b) (by omega), c]
        exact A n (by omega)
      · obtain ⟨n, rfl⟩ : ∃ q, n = q + 1 := ⟨n - 1, by omega⟩
        obtain ⟨g', B1, B2⟩ := B g n Mg hg (by omega)
        refine ⟨g', ?_, B2⟩
        by_cases y : tt R N s fl i ≤ tt R N q fl i
        · have e9 : later R N s q fl i = tt R N q fl i := by unfold later; omega
          rw [e9] at c
          have c9 : ¬ tt R N q fl i < later R N s q fl b := by omega
          simp (disch := omega) only [lI, lJ, gd_1, bd_1, bv_1, nm_1, ixN, inbN, eqN, leN, ltN, eqL, leL, ltL, beqN, beqL, nI_add, pk_mul, lN_add, lN_mul, nI_l, lN_i, pk_div, pk_lDiv, pk_sub, lN_sub, remN, remL, neg1, neg2, negL, negL2, M1e, M1f, M1g, M1h, M1i, M1j, M2e, M2f, L1g, L1h, L1i, L1j, les_eq, les_e, les_n, les_m, lq2, fX9_meetHead_L6, Nat.reduceAdd, Mg.2.1 3, n1, if_false, mTill Mg hs hfl (hh := i) (by omega), mTill Mg hq hfl (hh := i) (by omega), y, if_true, nb, hg, c9]
          exact B1
        · have e9 : later R N s q fl i = tt R N s fl i := by unfold later; omega
          rw [e9] at c
          have c9 : ¬ tt R N s fl i < later R N s q fl b := by omega
          simp (disch := omega) only [lI, lJ, gd_1, bd_1, bv_1, nm_1, ixN, inbN, eqN, leN, ltN, eqL, leL, ltL, beqN, beqL, nI_add, pk_mul, lN_add, lN_mul, nI_l, lN_i, pk_div, pk_lDiv, pk_sub, lN_sub, remN, remL, neg1, neg2, negL, negL2, M1e, M1f, M1g, M1h, M1i, M1j, M2e, M2f, L1g, L1h, L1i, L1j, les_eq, les_e, les_n, les_m, lq2, fX9_meetHead_L6, Nat.reduceAdd, Mg.2.1 3, n1, if_false, mTill Mg hs hfl (hh := i) (by omega), mTill Mg hq hfl (hh := i) (by omega), y, nb, hg, c9]
          exact B1
    · obtain ⟨a, ha, A, B⟩ := ih (i + 1) i (by omega) (by omega) (by omega)
      refine ⟨a, ha, fun n hn => ?_, fun g n Mg hg hn => ?_⟩
      · obtain ⟨n, rfl⟩ : ∃ q, n = q + 1 := ⟨n - 1, by omega⟩
        simp (disch := omega) only [lI, lJ, gd_1, bd_1, bv_1, nm_1, ixN, inbN, eqN, leN, ltN, eqL, leL, ltL, beqN, beqL, nI_add, pk_mul, lN_add, lN_mul, nI_l, lN_i, pk_div, pk_lDiv, pk_sub, lN_sub, remN, remL, neg1, neg2, negL, negL2, M1e, M1f, M1g, M1h, M1i, M1j, M2e, M2f, L1g, L1h, L1i, L1j, les_eq, les_e, les_n, les_m, cond_true, cond_false, if_true, if_false, fX8_refuse, fX8_allow, fX8_allow_, Nat.not_lt_zero, Nat.reduceAdd, Nat.reduceLT, Nat.reduceLeDiff, Nat.reduceEqDiff, decide_false, decide_true, Bool.not_false, Bool.not_true, C.1, k, lq2, fX8_soonestHead_L6, C.2.2.2.1.2.2.1.2.2.2.1, n1, cLater C hs hq hfl (hh := i) (by omega), cLater C hs hq hfl (hh := b) (by omega), c]
        exact A n (by omega)
      · obtain ⟨n, rfl⟩ : ∃ q, n = q + 1 := ⟨n - 1, by omega⟩
        have K : ∀ x, Keep PM g (sL g 181 40 x) := fun x => Keep.rfl.sL (by unfold PM; omega)
        by_cases y : tt R N s fl i ≤ tt R N q fl i
        · have e9 : later R N s q fl i = tt R N q fl i := by unfold later; omega
          obtain ⟨g', B1, B2, B3, B4⟩ := B (sL g 181 40 (lN (tt R N q fl i))) n (Mg.keep (K _)) (by rw [gL_sL, if_pos ⟨rfl, rfl⟩, e9]) (by omega)
          refine ⟨g', ?_, B2, (K _).trans B3, B4⟩
          rw [e9] at c
          have c9 : tt R N q fl i < later R N s q fl b := by omega
          simp (disch := omega) only [lI, lJ, gd_1, bd_1, bv_1, nm_1, ixN, inbN, eqN, leN, ltN, eqL, leL, ltL, beqN, beqL, nI_add, pk_mul, lN_add, lN_mul, nI_l, lN_i, pk_div, pk_lDiv, pk_sub, lN_sub, remN, remL, neg1, neg2, negL, negL2, M1e, M1f, M1g, M1h, M1i, M1j, M2e, M2f, L1g, L1h, L1i, L1j, les_eq, les_e, les_n, les_m, lq2, fX9_meetHead_L6, Nat.reduceAdd, Mg.2.1 3, n1, if_false, mTill Mg hs hfl (hh := i) (by omega), mTill Mg hq hfl (hh := i) (by omega), y, if_true, nb, hg, c9]
          exact B1
        · have e9 : later R N s q fl i = tt R N s fl i := by unfold later; omega
          obtain ⟨g', B1, B2, B3, B4⟩ := B (sL g 181 40 (lN (tt R N s fl i))) n (Mg.keep (K _)) (by rw [gL_sL, if_pos ⟨rfl, rfl⟩, e9]) (by omega)
          refine ⟨g', ?_, B2, (K _).trans B3, B4⟩
          rw [e9] at c
          have c9 : tt R N s fl i < later R N s q fl b := by omega
          simp (disch := omega) only [lI, lJ, gd_1, bd_1, bv_1, nm_1, ixN, inbN, eqN, leN, ltN, eqL, leL, ltL, beqN, beqL, nI_add, pk_mul, lN_add, lN_mul, nI_l, lN_i, pk_div, pk_lDiv, pk_sub, lN_sub, remN, remL, neg1, neg2, negL, negL2, M1e, M1f, M1g, M1h, M1i, M1j, M2e, M2f, L1g, L1h, L1i, L1j, les_eq, les_e, les_n, les_m, lq2, fX9_meetHead_L6, Nat.reduceAdd, Mg.2.1 3, n1, if_false, mTill Mg hs hfl (hh := i) (by omega), mTill Mg hq hfl (hh := i) (by omega), y, if_true, nb, hg, c9]
          exact B1
set_option maxRecDepth 100000 in
theorem meetF (C : CA h d R N T) {s q fl : Nat} (hs : s < R 4) (hq : q < R 4) (hfl : fl ≤ R 0) : ∃ a, a < R 3 ∧ fX8_soonestHead 0 (nI s) (nI q) (nI fl) h = some (nI a, h) ∧ ∀ g, MA g R N T → ∃ g', fX9_meetHead 181 (nI s) (nI q) (nI fl) g = some (nI a, g') ∧ gL g' 181 40 = lN (later R N s q fl a) ∧ Keep PM g g' ∧ gI g' 181 11 = gI g 181 11 := by
  have v := C.2.2.2.2.1
  have vH := v.H
  obtain ⟨a, ha, A, B⟩ := meetL C hs hq hfl (R 3 - 1) 1 0 (by omega) (by omega) (by omega)
  refine ⟨a, ha, A FU (by unfold FU; omega), fun g Mg => ?_⟩
  have K : ∀ x, Keep PM g (sL g 181 40 x) := fun x => Keep.rfl.sL (by unfold PM; omega)
  have n1 : ¬ R 3 ≤ 0 := by omega
  have t1 := tt_le (N := N) v (s := s) (hh := 0) hfl
  have t2 := tt_le (N := N) v (s := q) (hh := 0) hfl
  obtain ⟨F, hF, hF2⟩ : ∃ F, FU = F + 1 ∧ R 3 - 1 < F := ⟨19999, rfl, by omega⟩
  unfold fX9_meetHead
  by_cases y : tt R N s fl 0 ≤ tt R N q fl 0
  · have e9 : later R N s q fl 0 = tt R N q fl 0 := by unfold later; omega
    obtain ⟨g', B1, B2, B3, B4⟩ := B (sL g 181 40 (lN (tt R N q fl 0))) F (Mg.keep (K _)) (by rw [gL_sL, if_pos ⟨rfl, rfl⟩, e9]) hF2
    refine ⟨g', ?_, B2, (K _).trans B3, B4⟩
    rw [hF]
    simp (disch := omega) only [lI, lJ, gd_1, bd_1, bv_1, nm_1, ixN, inbN, eqN, leN, ltN, eqL, leL, ltL, beqN, beqL, nI_add, pk_mul, lN_add, lN_mul, nI_l, lN_i, pk_div, pk_lDiv, pk_sub, lN_sub, remN, remL, neg1, neg2, negL, negL2, M1e, M1f, M1g, M1h, M1i, M1j, M2e, M2f, L1g, L1h, L1i, L1j, les_eq, les_e, les_n, les_m, lq2, fX9_meetHead_L6, Nat.reduceAdd, Mg.2.1 3, n1, if_false, mTill Mg hs hfl (hh := 0) (by omega), mTill Mg hq hfl (hh := 0) (by omega), y, if_true]
    exact B1
  · have e9 : later R N s q fl 0 = tt R N s fl 0 := by unfold later; omega
    obtain ⟨g', B1, B2, B3, B4⟩ := B (sL g 181 40 (lN (tt R N s fl 0))) F (Mg.keep (K _)) (by rw [gL_sL, if_pos ⟨rfl, rfl⟩, e9]) hF2
    refine ⟨g', ?_, B2, (K _).trans B3, B4⟩
    rw [hF]
    simp (disch := omega) only [lI, lJ, gd_1, bd_1, bv_1, nm_1, ixN, inbN, eqN, leN, ltN, eqL, leL, ltL, beqN, beqL, nI_add, pk_mul, lN_add, lN_mul, nI_l, lN_i, pk_div, pk_lDiv, pk_sub, lN_sub, remN, remL, neg1, neg2, negL, negL2, M1e, M1f, M1g, M1h, M1i, M1j, M2e, M2f, L1g, L1h, L1i, L1j, les_eq, les_e, les_n, les_m, lq2, fX9_meetHead_L6, Nat.reduceAdd, Mg.2.1 3, n1, if_false, mTill Mg hs hfl (hh := 0) (by omega), mTill Mg hq hfl (hh := 0) (by omega), y, if_true]
    exact B1
set_option maxRecDepth 100000 in
theorem opg {α : Type} {h : HH} {x : Option (α × HH)} {y : HH → Option (α × HH)} {R N T : Nat → Nat} (a : α) (hc : x = some (a, sI h 0 16 (nI 0))) (hm : ∀ h1 g, MA g R N T → fX9_good 181 h1 = some g → gI g 181 11 = nI 0 → ∃ g', y h1 = some (a, g') ∧ Keep PM g g' ∧ gI g' 181 11 = nI 0) : OpQ h x y (fun h1 => MA h1 R N T) :=
  ⟨a, 0, by omega, CQ.of hc, fun h1 M => by
    obtain ⟨g, hg, Mg, K, t0⟩ := mGood M
    obtain ⟨g', e, K', t'⟩ := hm h1 g Mg hg t0
    exact MQ'.of e t' (K.trans K')⟩
set_option maxRecDepth 100000 in
theorem oMeetingHead (C : CA h d R N T) (x y z : Int32) : OpQ h (fX8_meetingHead 0 x y z h) (fun h1 => fX9_meetingHead 181 x y z h1) (fun h1 => MA h1 R N T) := by
  have k := isKb_D C.2.1
  have v := C.2.2.2.2.1
  have vF := v.F
  have vS := v.S
  have z1 : ¬ (1 : Nat) = 0 := by omega
  rcases slC C x with ⟨s, hs, rfl, e1, e2⟩ | ⟨e1, e2⟩
  · rcases slC C y with ⟨q, hq, rfl, e3, e4⟩ | ⟨e3, e4⟩
    · by_cases hsq : s = q
      · refine opr 1 (by omega) (M1) ?_ (fun h1 g Mg hg => ?_)
        · simp (disch := omega) only [lI, lJ, gd_1, bd_1, bv_1, nm_1, ixN, inbN, eqN, leN, ltN, eqL, leL, ltL, beqN, beqL, nI_add, pk_mul, lN_add, lN_mul, nI_l, lN_i, pk_div, pk_lDiv, pk_sub, lN_sub, remN, remL, neg1, neg2, negL, negL2, M1e, M1f, M1g, M1h, M1i, M1j, M2e, M2f, L1g, L1h, L1i, L1j, les_eq, les_e, les_n, les_m, cond_true, cond_false, if_true, if_false, fX8_refuse, fX8_allow, fX8_allow_, Nat.not_lt_zero, Nat.reduceAdd, Nat.reduceLT, Nat.reduceLeDiff, Nat.reduceEqDiff, decide_false, decide_true, Bool.not_false, Bool.not_true, C.1, k, fX8_meetingHead, fX8_isPair, e1, e3, eq_true hsq]
        · simp (disch := omega) only [lI, lJ, gd_1, bd_1, bv_1, nm_1, ixN, inbN, eqN, leN, ltN, eqL, leL, ltL, beqN, beqL, nI_add, pk_mul, lN_add, lN_mul, nI_l, lN_i, pk_div, pk_lDiv, pk_sub, lN_sub, remN, remL, neg1, neg2, negL, negL2, M1e, M1f, M1g, M1h, M1i, M1j, M2e, M2f, L1g, L1h, L1i, L1j, les_eq, les_e, les_n, les_m, cond_true, cond_false, if_true, if_false, fX9_no, hg, Nat.not_lt_zero, Nat.reduceAdd, Nat.reduceLT, Nat.reduceLeDiff, Nat.reduceEqDiff, decide_false, decide_true, Bool.not_false, Bool.not_true, fX9_meetingHead, fX9_meetWhy, e2 g Mg, e4 g Mg, eq_true hsq, z1]
      · rcases dfC C z with ⟨f, f1, hf, rfl, e5, e7, e6⟩ | ⟨e5, e6 | ⟨rfl, e6⟩⟩
        · have n0 : ¬ f = 0 := by omega
          obtain ⟨a, ha, A, B⟩ := meetF C hs hq hf
          refine opg (nI a) ?_ (fun h1 g Mg hg t0 => ?_)
          · simp (disch := omega) only [lI, lJ, gd_1, bd_1, bv_1, nm_1, ixN, inbN, eqN, leN, ltN, eqL, leL, ltL, beqN, beqL, nI_add, pk_mul, lN_add, lN_mul, nI_l, lN_i, pk_div, pk_lDiv, pk_sub, lN_sub, remN, remL, neg1, neg2, negL, negL2, M1e, M1f, M1g, M1h, M1i, M1j, M2e, M2f, L1g, L1h, L1i, L1j, les_eq, les_e, les_n, les_m, cond_true, cond_false, if_true, if_false, fX8_refuse, fX8_allow, fX8_allow_, Nat.not_lt_zero, Nat.reduceAdd, Nat.reduceLT, Nat.reduceLeDiff, Nat.reduceEqDiff, decide_false, decide_true, Bool.not_false, Bool.not_true, C.1, k, fX8_meetingHead, fX8_isPair, e1, e3, hsq, e5, A]
          · obtain ⟨g', B1, B2, B3, B4⟩ := B g Mg
            refine ⟨g', ?_, B3, B4.trans t0⟩
            simp (disch := omega) only [lI, lJ, gd_1, bd_1, bv_1, nm_1, ixN, inbN, eqN, leN, ltN, eqL, leL, ltL, beqN, beqL, nI_add, pk_mul, lN_add, lN_mul, nI_l, lN_i, pk_div, pk_lDiv, pk_sub, lN_sub, remN, remL, neg1, neg2, negL, negL2, M1e, M1f, M1g, M1h, M1i, M1j, M2e, M2f, L1g, L1h, L1i, L1j, les_eq, les_e, les_n, les_m, cond_true, cond_false, if_true, if_false, fX9_no, hg, Nat.not_lt_zero, Nat.reduceAdd, Nat.reduceLT, Nat.reduceLeDiff, Nat.reduceEqDiff, decide_false, decide_true, Bool.not_false, Bool.not_true, fX9_meetingHead, fX9_meetWhy, e2 g Mg, e4 g Mg, hsq, e6 g Mg, n0, B1]
        · refine opr 1 (by omega) (M1) ?_ (fun h1 g Mg hg => ?_)
          · simp (disch := omega) only [lI, lJ, gd_1, bd_1, bv_1, nm_1, ixN, inbN, eqN, leN, ltN, eqL, leL, ltL, beqN, beqL, nI_add, pk_mul, lN_add, lN_mul, nI_l, lN_i, pk_div, pk_lDiv, pk_sub, lN_sub, remN, remL, neg1, neg2, negL, negL2, M1e, M1f, M1g, M1h, M1i, M1j, M2e, M2f, L1g, L1h, L1i, L1j, les_eq, les_e, les_n, les_m, cond_true, cond_false, if_true, if_false, fX8_refuse, fX8_allow, fX8_allow_, Nat.not_lt_zero, Nat.reduceAdd, Nat.reduceLT, Nat.reduceLeDiff, Nat.reduceEqDiff, decide_false, decide_true, Bool.not_false, Bool.not_true, C.1, k, fX8_meetingHead, fX8_isPair, e1, e3, hsq, e5]
          · simp (disch := omega) only [lI, lJ, gd_1, bd_1, bv_1, nm_1, ixN, inbN, eqN, leN, ltN, eqL, leL, ltL, beqN, beqL, nI_add, pk_mul, lN_add, lN_mul, nI_l, lN_i, pk_div, pk_lDiv, pk_sub, lN_sub, remN, remL, neg1, neg2, negL, negL2, M1e, M1f, M1g, M1h, M1i, M1j, M2e, M2f, L1g, L1h, L1i, L1j, les_eq, les_e, les_n, les_m, cond_true, cond_false, if_true, if_false, fX9_no, hg, Nat.not_lt_zero, Nat.reduceAdd, Nat.reduceLT, Nat.reduceLeDiff, Nat.reduceEqDiff, decide_false, decide_true, Bool.not_false, Bool.not_true, fX9_meetingHead, fX9_meetWhy, e2 g Mg, e4 g Mg, hsq, e6 g Mg, z1]
        · refine opr 1 (by omega) (M1) ?_ (fun h1 g Mg hg => ?_)
          · simp (disch := omega) only [lI, lJ, gd_1, bd_1, bv_1, nm_1, ixN, inbN, eqN, leN, ltN, eqL, leL, ltL, beqN, beqL, nI_add, pk_mul, lN_add, lN_mul, nI_l, lN_i, pk_div, pk_lDiv, pk_sub, lN_sub, remN, remL, neg1, neg2, negL, negL2, M1e, M1f, M1g, M1h, M1i, M1j, M2e, M2f, L1g, L1h, L1i, L1j, les_eq, les_e, les_n, les_m, cond_true, cond_false, if_true, if_false, fX8_refuse, fX8_allow, fX8_allow_, Nat.not_lt_zero, Nat.reduceAdd, Nat.reduceLT, Nat.reduceLeDiff, Nat.reduceEqDiff, decide_false, decide_true, Bool.not_false, Bool.not_true, C.1, k, fX8_meetingHead, fX8_isPair, e1, e3, hsq, e5]
          · simp (disch := omega) only [lI, lJ, gd_1, bd_1, bv_1, nm_1, ixN, inbN, eqN, leN, ltN, eqL, leL, ltL, beqN, beqL, nI_add, pk_mul, lN_add, lN_mul, nI_l, lN_i, pk_div, pk_lDiv, pk_sub, lN_sub, remN, remL, neg1, neg2, negL, negL2, M1e, M1f, M1g, M1h, M1i, M1j, M2e, M2f, L1g, L1h, L1i, L1j, les_eq, les_e, les_n, les_m, cond_true, cond_false, if_true, if_false, fX9_no, hg, Nat.not_lt_zero, Nat.reduceAdd, Nat.reduceLT, Nat.reduceLeDiff, Nat.reduceEqDiff, decide_false, decide_true, Bool.not_false, Bool.not_true, fX9_meetingHead, fX9_meetWhy, e2 g Mg, e4 g Mg, hsq, e6 g Mg, z1]
    · refine opr 1 (by omega) (M1) ?_ (fun h1 g Mg hg => ?_)
      · simp (disch := omega) only [lI, lJ, gd_1, bd_1, bv_1, nm_1, ixN, inbN, eqN, leN, ltN, eqL, leL, ltL, beqN, beqL, nI_add, pk_mul, lN_add, lN_mul, nI_l, lN_i, pk_div, pk_lDiv, pk_sub, lN_sub, remN, remL, neg1, neg2, negL, negL2, M1e, M1f, M1g, M1h, M1i, M1j, M2e, M2f, L1g, L1h, L1i, L1j, les_eq, les_e, les_n, les_m, cond_true, cond_false, if_true, if_false, fX8_refuse, fX8_allow, fX8_allow_, Nat.not_lt_zero, Nat.reduceAdd, Nat.reduceLT, Nat.reduceLeDiff, Nat.reduceEqDiff, decide_false, decide_true, Bool.not_false, Bool.not_true, C.1, k, fX8_meetingHead, fX8_isPair, e1, e3]
      · simp (disch := omega) only [lI, lJ, gd_1, bd_1, bv_1, nm_1, ixN, inbN, eqN, leN, ltN, eqL, leL, ltL, beqN, beqL, nI_add, pk_mul, lN_add, lN_mul, nI_l, lN_i, pk_div, pk_lDiv, pk_sub, lN_sub, remN, remL, neg1, neg2, negL, negL2, M1e, M1f, M1g, M1h, M1i, M1j, M2e, M2f, L1g, L1h, L1i, L1j, les_eq, les_e, les_n, les_m, cond_true, cond_false, if_true, if_false, fX9_no, hg, Nat.not_lt_zero, Nat.reduceAdd, Nat.reduceLT, Nat.reduceLeDiff, Nat.reduceEqDiff, decide_false, decide_true, Bool.not_false, Bool.not_true, fX9_meetingHead, fX9_meetWhy, e2 g Mg, e4 g Mg, z1]
  · refine opr 1 (by omega) (M1) ?_ (fun h1 g Mg hg => ?_)
    · simp (disch := omega) only [lI, lJ, gd_1, bd_1, bv_1, nm_1, ixN, inbN, eqN, leN, ltN, eqL, leL, ltL, beqN, beqL, nI_add, pk_mul, lN_add, lN_mul, nI_l, lN_i, pk_div, pk_lDiv, pk_sub, lN_sub, remN, remL, neg1, neg2, negL, negL2, M1e, M1f, M1g, M1h, M1i, M1j, M2e, M2f, L1g, L1h, L1i, L1j, les_eq, les_e, les_n, les_m, cond_true, cond_false, if_true, if_false, fX8_refuse, fX8_allow, fX8_allow_, Nat.not_lt_zero, Nat.reduceAdd, Nat.reduceLT, Nat.reduceLeDiff, Nat.reduceEqDiff, decide_false, decide_true, Bool.not_false, Bool.not_true, C.1, k, fX8_meetingHead, fX8_isPair, e1]
    · simp (disch := omega) only [lI, lJ, gd_1, bd_1, bv_1, nm_1, ixN, inbN, eqN, leN, ltN, eqL, leL, ltL, beqN, beqL, nI_add, pk_mul, lN_add, lN_mul, nI_l, lN_i, pk_div, pk_lDiv, pk_sub, lN_sub, remN, remL, neg1, neg2, negL, negL2, M1e, M1f, M1g, M1h, M1i, M1j, M2e, M2f, L1g, L1h, L1i, L1j, les_eq, les_e, les_n, les_m, cond_true, cond_false, if_true, if_false, fX9_no, hg, Nat.not_lt_zero, Nat.reduceAdd, Nat.reduceLT, Nat.reduceLeDiff, Nat.reduceEqDiff, decide_false, decide_true, Bool.not_false, Bool.not_true, fX9_meetingHead, fX9_meetWhy, e2 g Mg, z1]
set_option maxRecDepth 100000 in
theorem oMeeting (C : CA h d R N T) (x y z : Int32) : OpQ h (fX8_meeting 0 x y z h) (fun h1 => fX9_meeting 181 x y z h1) (fun h1 => MA h1 R N T) := by
  have k := isKb_D C.2.1
  have v := C.2.2.2.2.1
  have vF := v.F
  have vS := v.S
  have vH := v.H
  have z1 : ¬ (1 : Nat) = 0 := by omega
  rcases slC C x with ⟨s, hs, rfl, e1, e2⟩ | ⟨e1, e2⟩
  · rcases slC C y with ⟨q, hq, rfl, e3, e4⟩ | ⟨e3, e4⟩
    · by_cases hsq : s = q
      · refine opr 1 (by omega) (M1.toInt64) ?_ (fun h1 g Mg hg => ?_)
        · simp (disch := omega) only [lI, lJ, gd_1, bd_1, bv_1, nm_1, ixN, inbN, eqN, leN, ltN, eqL, leL, ltL, beqN, beqL, nI_add, pk_mul, lN_add, lN_mul, nI_l, lN_i, pk_div, pk_lDiv, pk_sub, lN_sub, remN, remL, neg1, neg2, negL, negL2, M1e, M1f, M1g, M1h, M1i, M1j, M2e, M2f, L1g, L1h, L1i, L1j, les_eq, les_e, les_n, les_m, cond_true, cond_false, if_true, if_false, fX8_refuse, fX8_allow, fX8_allow_, Nat.not_lt_zero, Nat.reduceAdd, Nat.reduceLT, Nat.reduceLeDiff, Nat.reduceEqDiff, decide_false, decide_true, Bool.not_false, Bool.not_true, C.1, k, fX8_meeting, fX8_isPair, e1, e3, eq_true hsq]
        · simp (disch := omega) only [lI, lJ, gd_1, bd_1, bv_1, nm_1, ixN, inbN, eqN, leN, ltN, eqL, leL, ltL, beqN, beqL, nI_add, pk_mul, lN_add, lN_mul, nI_l, lN_i, pk_div, pk_lDiv, pk_sub, lN_sub, remN, remL, neg1, neg2, negL, negL2, M1e, M1f, M1g, M1h, M1i, M1j, M2e, M2f, L1g, L1h, L1i, L1j, les_eq, les_e, les_n, les_m, cond_true, cond_false, if_true, if_false, fX9_no, hg, Nat.not_lt_zero, Nat.reduceAdd, Nat.reduceLT, Nat.reduceLeDiff, Nat.reduceEqDiff, decide_false, decide_true, Bool.not_false, Bool.not_true, fX9_meeting, fX9_meetWhy, e2 g Mg, e4 g Mg, eq_true hsq, z1]
      · rcases dfC C z with ⟨f, f1, hf, rfl, e5, e7, e6⟩ | ⟨e5, e6 | ⟨rfl, e6⟩⟩
        · have n0 : ¬ f = 0 := by omega
          obtain ⟨a, ha, A, B⟩ := meetF C hs hq hf
          refine opg (lN (later R N s q f a)) ?_ (fun h1 g Mg hg t0 => ?_)
          · simp (disch := omega) only [lI, lJ, gd_1, bd_1, bv_1, nm_1, ixN, inbN, eqN, leN, ltN, eqL, leL, ltL, beqN, beqL, nI_add, pk_mul, lN_add, lN_mul, nI_l, lN_i, pk_div, pk_lDiv, pk_sub, lN_sub, remN, remL, neg1, neg2, negL, negL2, M1e, M1f, M1g, M1h, M1i, M1j, M2e, M2f, L1g, L1h, L1i, L1j, les_eq, les_e, les_n, les_m, cond_true, cond_false, if_true, if_false, fX8_refuse, fX8_allow, fX8_allow_, Nat.not_lt_zero, Nat.reduceAdd, Nat.reduceLT, Nat.reduceLeDiff, Nat.reduceEqDiff, decide_false, decide_true, Bool.not_false, Bool.not_true, C.1, k, fX8_meeting, fX8_isPair, e1, e3, hsq, e5, A, cLater C hs hq hf (hh := a) (by omega)]
          · obtain ⟨g', B1, B2, B3, B4⟩ := B g Mg
            refine ⟨g', ?_, B3, B4.trans t0⟩
            simp (disch := omega) only [lI, lJ, gd_1, bd_1, bv_1, nm_1, ixN, inbN, eqN, leN, ltN, eqL, leL, ltL, beqN, beqL, nI_add, pk_mul, lN_add, lN_mul, nI_l, lN_i, pk_div, pk_lDiv, pk_sub, lN_sub, remN, remL, neg1, neg2, negL, negL2, M1e, M1f, M1g, M1h, M1i, M1j, M2e, M2f, L1g, L1h, L1i, L1j, les_eq, les_e, les_n, les_m, cond_true, cond_false, if_true, if_false, fX9_no, hg, Nat.not_lt_zero, Nat.reduceAdd, Nat.reduceLT, Nat.reduceLeDiff, Nat.reduceEqDiff, decide_false, decide_true, Bool.not_false, Bool.not_true, fX9_meeting, fX9_meetWhy, e2 g Mg, e4 g Mg, hsq, e6 g Mg, n0, B1, B2]
        · refine opr 1 (by omega) (M1.toInt64) ?_ (fun h1 g Mg hg => ?_)
          · simp (disch := omega) only [lI, lJ, gd_1, bd_1, bv_1, nm_1, ixN, inbN, eqN, leN, ltN, eqL, leL, ltL, beqN, beqL, nI_add, pk_mul, lN_add, lN_mul, nI_l, lN_i, pk_div, pk_lDiv, pk_sub, lN_sub, remN, remL, neg1, neg2, negL, negL2, M1e, M1f, M1g, M1h, M1i, M1j, M2e, M2f, L1g, L1h, L1i, L1j, les_eq, les_e, les_n, les_m, cond_true, cond_false, if_true, if_false, fX8_refuse, fX8_allow, fX8_allow_, Nat.not_lt_zero, Nat.reduceAdd, Nat.reduceLT, Nat.reduceLeDiff, Nat.reduceEqDiff, decide_false, decide_true, Bool.not_false, Bool.not_true, C.1, k, fX8_meeting, fX8_isPair, e1, e3, hsq, e5]
          · simp (disch := omega) only [lI, lJ, gd_1, bd_1, bv_1, nm_1, ixN, inbN, eqN, leN, ltN, eqL, leL, ltL, beqN, beqL, nI_add, pk_mul, lN_add, lN_mul, nI_l, lN_i, pk_div, pk_lDiv, pk_sub, lN_sub, remN, remL, neg1, neg2, negL, negL2, M1e, M1f, M1g, M1h, M1i, M1j, M2e, M2f, L1g, L1h, L1i, L1j, les_eq, les_e, les_n, les_m, cond_true, cond_false, if_true, if_false, fX9_no, hg, Nat.not_lt_zero, Nat.reduceAdd, Nat.reduceLT, Nat.reduceLeDiff, Nat.reduceEqDiff, decide_false, decide_true, Bool.not_false, Bool.not_true, fX9_meeting, fX9_meetWhy, e2 g Mg, e4 g Mg, hsq, e6 g Mg, z1]
        · refine opr 1 (by omega) (M1.toInt64) ?_ (fun h1 g Mg hg => ?_)
          · simp (disch := omega) only [lI, lJ, gd_1, bd_1, bv_1, nm_1, ixN, inbN, eqN, leN, ltN, eqL, leL, ltL, beqN, beqL, nI_add, pk_mul, lN_add, lN_mul, nI_l, lN_i, pk_div, pk_lDiv, pk_sub, lN_sub, remN, remL, neg1, neg2, negL, negL2, M1e, M1f, M1g, M1h, M1i, M1j, M2e, M2f, L1g, L1h, L1i, L1j, les_eq, les_e, les_n, les_m, cond_true, cond_false, if_true, if_false, fX8_refuse, fX8_allow, fX8_allow_, Nat.not_lt_zero, Nat.reduceAdd, Nat.reduceLT, Nat.reduceLeDiff, Nat.reduceEqDiff, decide_false, decide_true, Bool.not_false, Bool.not_true, C.1, k, fX8_meeting, fX8_isPair, e1, e3, hsq, e5]
          · simp (disch := omega) only [lI, lJ, gd_1, bd_1, bv_1, nm_1, ixN, inbN, eqN, leN, ltN, eqL, leL, ltL, beqN, beqL, nI_add, pk_mul, lN_add, lN_mul, nI_l, lN_i, pk_div, pk_lDiv, pk_sub, lN_sub, remN, remL, neg1, neg2, negL, negL2, M1e, M1f, M1g, M1h, M1i, M1j, M2e, M2f, L1g, L1h, L1i, L1j, les_eq, les_e, les_n, les_m, cond_true, cond_false, if_true, if_false, fX9_no, hg, Nat.not_lt_zero, Nat.reduceAdd, Nat.reduceLT, Nat.reduceLeDiff, Nat.reduceEqDiff, decide_false, decide_true, Bool.not_false, Bool.not_true, fX9_meeting, fX9_meetWhy, e2 g Mg, e4 g Mg, hsq, e6 g Mg, z1]
    · refine opr 1 (by omega) (M1.toInt64) ?_ (fun h1 g Mg hg => ?_)
      · simp (disch := omega) only [lI, lJ, gd_1, bd_1, bv_1, nm_1, ixN, inbN, eqN, leN, ltN, eqL, leL, ltL, beqN, beqL, nI_add, pk_mul, lN_add, lN_mul, nI_l, lN_i, pk_div, pk_lDiv, pk_sub, lN_sub, remN, remL, neg1, neg2, negL, negL2, M1e, M1f, M1g, M1h, M1i, M1j, M2e, M2f, L1g, L1h, L1i, L1j, les_eq, les_e, les_n, les_m, cond_true, cond_false, if_true, if_false, fX8_refuse, fX8_allow, fX8_allow_, Nat.not_lt_zero, Nat.reduceAdd, Nat.reduceLT, Nat.reduceLeDiff, Nat.reduceEqDiff, decide_false, decide_true, Bool.not_false, Bool.not_true, C.1, k, fX8_meeting, fX8_isPair, e1, e3]
      · simp (disch := omega) only [lI, lJ, gd_1, bd_1, bv_1, nm_1, ixN, inbN, eqN, leN, ltN, eqL, leL, ltL, beqN, beqL, nI_add, pk_mul, lN_add, lN_mul, nI_l, lN_i, pk_div, pk_lDiv, pk_sub, lN_sub, remN, remL, neg1, neg2, negL, negL2, M1e, M1f, M1g, M1h, M1i, M1j, M2e, M2f, L1g, L1h, L1i, L1j, les_eq, les_e, les_n, les_m, cond_true, cond_false, if_true, if_false, fX9_no, hg, Nat.not_lt_zero, Nat.reduceAdd, Nat.reduceLT, Nat.reduceLeDiff, Nat.reduceEqDiff, decide_false, decide_true, Bool.not_false, Bool.not_true, fX9_meeting, fX9_meetWhy, e2 g Mg, e4 g Mg, z1]
  · refine opr 1 (by omega) (M1.toInt64) ?_ (fun h1 g Mg hg => ?_)
    · simp (disch := omega) only [lI, lJ, gd_1, bd_1, bv_1, nm_1, ixN, inbN, eqN, leN, ltN, eqL, leL, ltL, beqN, beqL, nI_add, pk_mul, lN_add, lN_mul, nI_l, lN_i, pk_div, pk_lDiv, pk_sub, lN_sub, remN, remL, neg1, neg2, negL, negL2, M1e, M1f, M1g, M1h, M1i, M1j, M2e, M2f, L1g, L1h, L1i, L1j, les_eq, les_e, les_n, les_m, cond_true, cond_false, if_true, if_false, fX8_refuse, fX8_allow, fX8_allow_, Nat.not_lt_zero, Nat.reduceAdd, Nat.reduceLT, Nat.reduceLeDiff, Nat.reduceEqDiff, decide_false, decide_true, Bool.not_false, Bool.not_true, C.1, k, fX8_meeting, fX8_isPair, e1]
    · simp (disch := omega) only [lI, lJ, gd_1, bd_1, bv_1, nm_1, ixN, inbN, eqN, leN, ltN, eqL, leL, ltL, beqN, beqL, nI_add, pk_mul, lN_add, lN_mul, nI_l, lN_i, pk_div, pk_lDiv, pk_sub, lN_sub, remN, remL, neg1, neg2, negL, negL2, M1e, M1f, M1g, M1h, M1i, M1j, M2e, M2f, L1g, L1h, L1i, L1j, les_eq, les_e, les_n, les_m, cond_true, cond_false, if_true, if_false, fX9_no, hg, Nat.not_lt_zero, Nat.reduceAdd, Nat.reduceLT, Nat.reduceLeDiff, Nat.reduceEqDiff, decide_false, decide_true, Bool.not_false, Bool.not_true, fX9_meeting, fX9_meetWhy, e2 g Mg, z1]
end OPS
