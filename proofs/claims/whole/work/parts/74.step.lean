def iv : Option Nat → Int32
  | none => M1
  | some k => nI k
set_option maxRecDepth 100000 in
theorem scan_some {R : Nat → Nat} {s n : Nat} : ∀ {m k}, scan R s n m = some k → k < m ∧ R (40 + 3 * k) = s ∧ cnt R s k = n := by
  intro m
  induction m with
  | zero => intro k h; cases h
  | succ m ih =>
    intro k h
    have e : scan R s n (m + 1) = match scan R s n m with
      | some j => some j
      | none => if R (40 + 3 * m) = s ∧ cnt R s m = n then some m else none := rfl
    rw [e] at h
    cases hs : scan R s n m with
    | some j =>
      rw [hs] at h
      obtain ⟨a, b, c⟩ := ih hs
      cases h
      exact ⟨by omega, b, c⟩
    | none =>
      rw [hs] at h
      by_cases c : R (40 + 3 * m) = s ∧ cnt R s m = n
      · simp only [c, if_true] at h
        rw [if_pos ⟨trivial, trivial⟩] at h
        cases h
        exact ⟨by omega, c.1, c.2⟩
      · simp only [c, if_false] at h
        cases h
set_option maxRecDepth 100000 in
theorem scan_none {R : Nat → Nat} {s n : Nat} : ∀ m, scan R s n m = none ↔ cnt R s m ≤ n := by
  intro m
  induction m with
  | zero => simp [scan, cnt]
  | succ m ih =>
    have e : scan R s n (m + 1) = match scan R s n m with
      | some j => some j
      | none => if R (40 + 3 * m) = s ∧ cnt R s m = n then some m else none := rfl
    have e2 : cnt R s (m + 1) = cnt R s m + (if R (40 + 3 * m) = s then 1 else 0) := rfl
    rw [e, e2]
    cases hs : scan R s n m with
    | some j =>
      have : ¬ cnt R s m ≤ n := fun z => by rw [ih.mpr z] at hs; cases hs
      constructor
      · intro z; cases z
      · intro z; omega
    | none =>
      have h1 := ih.mp hs
      by_cases c1 : R (40 + 3 * m) = s
      · by_cases c2 : cnt R s m = n
        · simp only [c1, c2, and_self, if_true]
          constructor
          · intro z; cases z
          · intro z; omega
        · simp only [c1, c2, and_false, if_false, if_true]
          constructor
          · intro _; omega
          · intro _; trivial
      · simp only [c1, false_and, if_false]
        constructor
        · intro _; omega
        · intro _; trivial
set_option maxRecDepth 100000 in
theorem nst_some {R : Nat → Nat} {s n k : Nat} (h : nst R s n = some k) : k < R 5 ∧ R (40 + 3 * k) = s ∧ cnt R s k = n := scan_some h
set_option maxRecDepth 100000 in
theorem nst_none {R : Nat → Nat} {s n : Nat} : nst R s n = none ↔ cnt R s (R 5) ≤ n := scan_none (R 5)
section STEP
variable {h : HH} {d a : Nat} {R N T : Nat → Nat} {B : Nat}
set_option maxRecDepth 100000 in
theorem cStep (D : DRep h d R) (hd : isD d) (v : VR R) {s n : Nat} (hs : s < R 4) (hn : n ≤ 20) : fX0_stepOf d (nI s) (nI n) h = some (iv (nst R s n), h) := by
  have vS := v.S
  have v5 := v.2.1
  have dS := (D.2.2.2.2.1 s hs).2.2
  have hc := cnt_le R s (R 5)
  have n5 : ¬ 5 ≤ s := by omega
  cases hk : nst R s n with
  | none =>
    have h1 := nst_none.mp hk
    simp (disch := omega) only [lI, lJ, gd_1, bd_1, bv_1, nm_1, ixN, inbN, eqN, leN, ltN, eqL, leL, ltL, beqN, beqL, nI_add, pk_mul, lN_add, lN_mul, nI_l, lN_i, pk_div, pk_lDiv, pk_sub, lN_sub, remN, remL, neg1, neg2, negL, negL2, M1e, M1f, M1g, M1h, M1i, M1j, M2e, M2f, L1g, L1h, L1i, L1j, les_eq, les_e, les_n, les_m, fX0_stepOf, n5, Nat.not_lt_zero, if_false, cSl D hd v hs, dS, h1, if_true, iv]
  | some k =>
    obtain ⟨k1, k2, k3⟩ := nst_some hk
    have h1 : ¬ cnt R s (R 5) ≤ n := fun z => by rw [nst_none.mpr z] at hk; cases hk
    have h2 : ¬ 20 ≤ n := by omega
    have o := D.2.2.2.2.2.2.1 k k1
    rw [k2, k3] at o
    simp (disch := omega) only [lI, lJ, gd_1, bd_1, bv_1, nm_1, ixN, inbN, eqN, leN, ltN, eqL, leL, ltL, beqN, beqL, nI_add, pk_mul, lN_add, lN_mul, nI_l, lN_i, pk_div, pk_lDiv, pk_sub, lN_sub, remN, remL, neg1, neg2, negL, negL2, M1e, M1f, M1g, M1h, M1i, M1j, M2e, M2f, L1g, L1h, L1i, L1j, les_eq, les_e, les_n, les_m, fX0_stepOf, n5, Nat.not_lt_zero, if_false, cSl D hd v hs, dS, h1, h2, o, iv]
set_option maxRecDepth 100000 in
theorem mNext {g : HH} (v : VR R) (M : MRep g R) (Q : MNRep g N T) {s : Nat} (hs : s < R 4) (hn : N (4 * s + 2) ≤ 20) : fX9_nextStep 181 (nI s) g = some (iv (nst R s (N (4 * s + 2))), g) := by
  have vS := v.S
  have v5 := v.2.1
  have main : ∀ m i n, i + m = R 5 → scan R s (N (4 * s + 2)) i = none → m < n → lq2 (fX9_nextStep_L4 181 (nI s)) n (nI (cnt R s i)) (nI i) g = some (iv (nst R s (N (4 * s + 2))), g) := by
    intro m
    induction m with
    | zero =>
      intro i n e hi hn
      obtain ⟨n, rfl⟩ : ∃ q, n = q + 1 := ⟨n - 1, by omega⟩
      have : i = R 5 := by omega
      subst this
      rw [show nst R s (N (4 * s + 2)) = none from hi]
      simp (disch := omega) only [lI, lJ, gd_1, bd_1, bv_1, nm_1, ixN, inbN, eqN, leN, ltN, eqL, leL, ltL, beqN, beqL, nI_add, pk_mul, lN_add, lN_mul, nI_l, lN_i, pk_div, pk_lDiv, pk_sub, lN_sub, remN, remL, neg1, neg2, negL, negL2, M1e, M1f, M1g, M1h, M1i, M1j, M2e, M2f, L1g, L1h, L1i, L1j, les_eq, les_e, les_n, les_m, lq2, fX9_nextStep_L4, Nat.reduceAdd, M 5, Nat.le_refl, if_true, iv]
    | succ m ih =>
      intro i n e hi hn
      obtain ⟨n, rfl⟩ : ∃ q, n = q + 1 := ⟨n - 1, by omega⟩
      have n1 : ¬ R 5 ≤ i := by omega
      have vi := v.2.2.2.1 i (by omega)
      have hc := cnt_le R s i
      have e2 : cnt R s (i + 1) = cnt R s i + (if R (40 + 3 * i) = s then 1 else 0) := rfl
      by_cases c1 : R (40 + 3 * i) = s
      · by_cases c2 : cnt R s i = N (4 * s + 2)
        · have hk : nst R s (N (4 * s + 2)) = some i := by
            cases hk : nst R s (N (4 * s + 2)) with
            | none =>
              have h1 := nst_none.mp hk
              have h2 := cnt_mono R s (show i + 1 ≤ R 5 by omega)
              rw [e2, if_pos c1] at h2
              omega
            | some k =>
              obtain ⟨k1, k2, k3⟩ := nst_some hk
              rcases Nat.lt_or_ge k i with z | z
              · have h2 := cnt_mono R s (show k + 1 ≤ i by omega)
                rw [show cnt R s (k + 1) = cnt R s k + (if R (40 + 3 * k) = s then 1 else 0) from rfl, if_pos k2] at h2
                omega
              · rcases Nat.lt_or_ge i k with y | y
                · have h2 := cnt_mono R s (show i + 1 ≤ k by omega)
                  rw [e2, if_pos c1] at h2
                  omega
                · congr 1; omega
          rw [hk]
          simp (disch := omega) only [lI, lJ, gd_1, bd_1, bv_1, nm_1, ixN, inbN, eqN, leN, ltN, eqL, leL, ltL, beqN, beqL, nI_add, pk_mul, lN_add, lN_mul, nI_l, lN_i, pk_div, pk_lDiv, pk_sub, lN_sub, remN, remL, neg1, neg2, negL, negL2, M1e, M1f, M1g, M1h, M1i, M1j, M2e, M2f, L1g, L1h, L1i, L1j, les_eq, les_e, les_n, les_m, lq2, fX9_nextStep_L4, Nat.reduceAdd, M 5, M (40 + 3 * i), n1, if_false, eq_true c1, if_true, mIts Q, eq_true c2, iv]
        · rw [if_pos c1] at e2
          have key := ih (i + 1) n (by omega) (by
            rw [scan_none, e2]
            have := (scan_none i).mp hi
            omega) (by omega)
          rw [e2] at key
          simp (disch := omega) only [lI, lJ, gd_1, bd_1, bv_1, nm_1, ixN, inbN, eqN, leN, ltN, eqL, leL, ltL, beqN, beqL, nI_add, pk_mul, lN_add, lN_mul, nI_l, lN_i, pk_div, pk_lDiv, pk_sub, lN_sub, remN, remL, neg1, neg2, negL, negL2, M1e, M1f, M1g, M1h, M1i, M1j, M2e, M2f, L1g, L1h, L1i, L1j, les_eq, les_e, les_n, les_m, lq2, fX9_nextStep_L4, Nat.reduceAdd, M 5, M (40 + 3 * i), n1, if_false, eq_true c1, if_true, mIts Q, c2]
          exact key
      · rw [if_neg c1] at e2
        have key := ih (i + 1) n (by omega) (by
          rw [scan_none, e2]
          exact (scan_none i).mp hi) (by omega)
        rw [e2] at key
        simp (disch := omega) only [lI, lJ, gd_1, bd_1, bv_1, nm_1, ixN, inbN, eqN, leN, ltN, eqL, leL, ltL, beqN, beqL, nI_add, pk_mul, lN_add, lN_mul, nI_l, lN_i, pk_div, pk_lDiv, pk_sub, lN_sub, remN, remL, neg1, neg2, negL, negL2, M1e, M1f, M1g, M1h, M1i, M1j, M2e, M2f, L1g, L1h, L1i, L1j, les_eq, les_e, les_n, les_m, lq2, fX9_nextStep_L4, Nat.reduceAdd, M 5, M (40 + 3 * i), n1, if_false, c1]
        exact key
  exact main (R 5) 0 FU (by omega) rfl (by unfold FU; omega)
/-- never; and a tick -/
def dv : Option Nat → Int64
  | none => 1152921504606846976
  | some t => lN t
def dm : Option Nat → Int64
  | none => L1
  | some t => lN t
set_option maxRecDepth 100000 in
theorem due_le (v : VR R) (W : VN R N T B) {s t : Nat} (hs : s < R 4) (h : due R N T s = some t) : T (1 + s) ≤ t ∧ t ≤ T 0 + 20715264 := by
  have vS := v.S
  unfold due at h
  cases hk : nst R s (N (4 * s + 2)) with
  | none => rw [hk] at h; cases h
  | some k =>
    rw [hk] at h
    obtain ⟨k1, k2, k3⟩ := nst_some hk
    have w := W.2.1 s (by omega)
    have vk := v.2.2.2.1 k k1
    have hm := v.mn w.1
    have hb : R (40 + 3 * k + 2) * mn R (N (4 * s + 0)) ≤ 20715264 := Nat.le_trans (Nat.mul_le_mul vk.2.2 hm.2) (by decide)
    have : T (1 + s) + R (40 + 3 * k + 2) * mn R (N (4 * s + 0)) = t := Option.some.inj h
    omega
set_option maxRecDepth 100000 in
theorem cDue (D : DRep h d R) (hd : isD d) (v : VR R) (Q : NRep h a R N T) (W : VN R N T B) (hB : B ≤ 2000) {s : Nat} (hs : s < R 4) : fX2_dueTick a d (nI s) h = some (dv (due R N T s), h) := by
  have vS := v.S
  have v5 := v.2.1
  have q := Q.2.1 s (by omega)
  have w := W.2.1 s (by omega)
  have hc := cnt_le R s (R 5)
  have hT := VN.t v W hB
  have cs := cStep D hd v hs (n := N (4 * s + 2)) (by omega)
  unfold due
  cases hk : nst R s (N (4 * s + 2)) with
  | none =>
    rw [hk] at cs
    simp (disch := omega) only [lI, lJ, gd_1, bd_1, bv_1, nm_1, ixN, inbN, eqN, leN, ltN, eqL, leL, ltL, beqN, beqL, nI_add, pk_mul, lN_add, lN_mul, nI_l, lN_i, pk_div, pk_lDiv, pk_sub, lN_sub, remN, remL, neg1, neg2, negL, negL2, M1e, M1f, M1g, M1h, M1i, M1j, M2e, M2f, L1g, L1h, L1i, L1j, les_eq, les_e, les_n, les_m, fX2_dueTick, q, cs, iv, if_false, Option.map_none, dv]
  | some k =>
    rw [hk] at cs
    obtain ⟨k1, k2, k3⟩ := nst_some hk
    have vk := v.2.2.2.1 k k1
    have dk := D.2.2.2.2.2.1 k k1
    have hm := v.mn w.1
    simp (disch := omega) only [lI, lJ, gd_1, bd_1, bv_1, nm_1, ixN, inbN, eqN, leN, ltN, eqL, leL, ltL, beqN, beqL, nI_add, pk_mul, lN_add, lN_mul, nI_l, lN_i, pk_div, pk_lDiv, pk_sub, lN_sub, remN, remL, neg1, neg2, negL, negL2, M1e, M1f, M1g, M1h, M1i, M1j, M2e, M2f, L1g, L1h, L1i, L1j, les_eq, les_e, les_n, les_m, fX2_dueTick, q, cs, iv, if_true, Nat.zero_le, Option.map_some, dv, cSt D hd v k1, dk, cMinute D v w.1]
set_option maxRecDepth 100000 in
theorem mDue {g : HH} (v : VR R) (M : MRep g R) (Q : MNRep g N T) (W : VN R N T B) (hB : B ≤ 2000) {s : Nat} (hs : s < R 4) : fX9_dueOf 181 (nI s) g = some (dm (due R N T s), g) := by
  have vS := v.S
  have v5 := v.2.1
  have w := W.2.1 s (by omega)
  have hc := cnt_le R s (R 5)
  have hT := VN.t v W hB
  have cs := mNext v M Q hs (by omega)
  unfold due
  cases hk : nst R s (N (4 * s + 2)) with
  | none =>
    rw [hk] at cs
    simp (disch := omega) only [lI, lJ, gd_1, bd_1, bv_1, nm_1, ixN, inbN, eqN, leN, ltN, eqL, leL, ltL, beqN, beqL, nI_add, pk_mul, lN_add, lN_mul, nI_l, lN_i, pk_div, pk_lDiv, pk_sub, lN_sub, remN, remL, neg1, neg2, negL, negL2, M1e, M1f, M1g, M1h, M1i, M1j, M2e, M2f, L1g, L1h, L1i, L1j, les_eq, les_e, les_n, les_m, fX9_dueOf, cs, iv, if_false, Option.map_none, dm]
  | some k =>
    rw [hk] at cs
    obtain ⟨k1, k2, k3⟩ := nst_some hk
    have vk := v.2.2.2.1 k k1
    have hm := v.mn w.1
    simp (disch := omega) only [lI, lJ, gd_1, bd_1, bv_1, nm_1, ixN, inbN, eqN, leN, ltN, eqL, leL, ltL, beqN, beqL, nI_add, pk_mul, lN_add, lN_mul, nI_l, lN_i, pk_div, pk_lDiv, pk_sub, lN_sub, remN, remL, neg1, neg2, negL, negL2, M1e, M1f, M1g, M1h, M1i, M1j, M2e, M2f, L1g, L1h, L1i, L1j, les_eq, les_e, les_n, les_m, fX9_dueOf, cs, iv, if_true, Nat.zero_le, Option.map_some, dm, Nat.reduceAdd, mIts Q, mMinute M v w.1, M (40 + 3 * k + 2), Q.2 (1 + s)]
/-! where one is brought -/
def br (R : Nat → Nat) (s fl kn st : Nat) : Nat :=
  if st * rt R kn fl < R (15 + 5 * s + 1) * (if R (15 + 5 * s + 0) = 2 then 2 else 1) ∨ (R (15 + 5 * s + 0) = 3 ∧ fl = R 0) then fl else max kn (fl - (if R (15 + 5 * s + 0) = 1 then 2 else 1))
set_option maxRecDepth 100000 in
theorem br_le (R : Nat → Nat) {s fl kn st : Nat} (h : kn < fl) : br R s fl kn st ≤ fl ∧ kn ≤ br R s fl kn st := by
  unfold br
  by_cases c : st * rt R kn fl < R (15 + 5 * s + 1) * (if R (15 + 5 * s + 0) = 2 then 2 else 1) ∨ (R (15 + 5 * s + 0) = 3 ∧ fl = R 0)
  · rw [if_pos c]; omega
  · rw [if_neg c]
    by_cases c2 : R (15 + 5 * s + 0) = 1
    · rw [if_pos c2]; omega
    · rw [if_neg c2]; omega
set_option maxRecDepth 100000 in
theorem maxM {kn : Nat} (hk : kn < 2 ^ 31) : jmmax (nI kn) (nI 1 - nI 2) = nI kn := by
  have e : nI 1 - nI 2 = M1 := by decide +kernel
  rw [e]; unfold jmmax
  simp only [M1h hk, if_false]
set_option maxRecDepth 100000 in
theorem cBr (D : DRep h d R) (hd : isD d) (v : VR R) {s fl kn st : Nat} (hs : s < R 4) (hk : kn < fl) (hfl : fl ≤ R 0) (hst : st ≤ 99) : fX0_floorBehind d (nI s) (nI fl) (nI kn) (nI st) h = some (nI (br R s fl kn st), h) := by
  have vF := v.F
  have vS := v.2.2.1 s hs
  have d0 := (D.2.2.2.2.1 s hs).1 0 (by omega)
  have d1 := (D.2.2.2.2.1 s hs).1 1 (by omega)
  have hr := v.rt (u := kn) (l := fl) (by omega) hfl
  have hb : st * rt R kn fl ≤ 99 * 20736 := Nat.mul_le_mul hst hr.2
  have step60 : ∀ de, de < 2 ^ 31 → ¬ (R (15 + 5 * s + 0) = 3 ∧ fl = R 0) → fX0_floorBehind_b60 d (nI fl) (nI kn) (nI st) (nI (R (15 + 5 * s + 0))) (nI de) h = some (nI (if st * rt R kn fl < de then fl else max kn (fl - (if R (15 + 5 * s + 0) = 1 then 2 else 1))), h) := by
    intro de hde _
    by_cases c : de ≤ st * rt R kn fl
    · rw [if_neg (by omega)]
      by_cases c1 : R (15 + 5 * s + 0) = 1
      · rw [if_pos c1]
        by_cases c2 : fl = 1
        · have k0 : kn = 0 := by omega
          subst c2 k0
          simp (disch := omega) only [fX0_floorBehind_b60, cRatio D v (u := 0) (l := 1) (by omega) hfl, bd_1, pk_mul, leN, c, if_true, show (1 : Int32) = nI 1 from rfl, show (2 : Int32) = nI 2 from rfl, eqN, eq_true c1, maxM]
          rfl
        · simp (disch := omega) only [lI, lJ, gd_1, bd_1, bv_1, nm_1, ixN, inbN, eqN, leN, ltN, eqL, leL, ltL, beqN, beqL, nI_add, pk_mul, lN_add, lN_mul, nI_l, lN_i, pk_div, pk_lDiv, pk_sub, lN_sub, remN, remL, neg1, neg2, negL, negL2, M1e, M1f, M1g, M1h, M1i, M1j, M2e, M2f, L1g, L1h, L1i, L1j, les_eq, les_e, les_n, les_m, fX0_floorBehind_b60, cRatio D v (u := kn) (l := fl) (by omega) hfl, c, if_true, eq_true c1, maxN]
      · rw [if_neg c1]
        simp (disch := omega) only [lI, lJ, gd_1, bd_1, bv_1, nm_1, ixN, inbN, eqN, leN, ltN, eqL, leL, ltL, beqN, beqL, nI_add, pk_mul, lN_add, lN_mul, nI_l, lN_i, pk_div, pk_lDiv, pk_sub, lN_sub, remN, remL, neg1, neg2, negL, negL2, M1e, M1f, M1g, M1h, M1i, M1j, M2e, M2f, L1g, L1h, L1i, L1j, les_eq, les_e, les_n, les_m, fX0_floorBehind_b60, cRatio D v (u := kn) (l := fl) (by omega) hfl, c, if_true, c1, if_false, maxN]
    · rw [if_pos (by omega)]
      simp (disch := omega) only [lI, lJ, gd_1, bd_1, bv_1, nm_1, ixN, inbN, eqN, leN, ltN, eqL, leL, ltL, beqN, beqL, nI_add, pk_mul, lN_add, lN_mul, nI_l, lN_i, pk_div, pk_lDiv, pk_sub, lN_sub, remN, remL, neg1, neg2, negL, negL2, M1e, M1f, M1g, M1h, M1i, M1j, M2e, M2f, L1g, L1h, L1i, L1j, les_eq, les_e, les_n, les_m, fX0_floorBehind_b60, cRatio D v (u := kn) (l := fl) (by omega) hfl, c, if_false]
  have step38 : ∀ m, m ≤ 2 → fX0_floorBehind_b38 d (nI fl) (nI kn) (nI st) (nI (R (15 + 5 * s + 0))) (nI m) (nI (R (15 + 5 * s + 1))) h = some (nI (if st * rt R kn fl < R (15 + 5 * s + 1) * m ∨ (R (15 + 5 * s + 0) = 3 ∧ fl = R 0) then fl else max kn (fl - (if R (15 + 5 * s + 0) = 1 then 2 else 1))), h) := by
    intro m hm
    have hb2 : R (15 + 5 * s + 1) * m ≤ 9999 * 2 := Nat.mul_le_mul vS.2.2.1 hm
    by_cases c3 : R (15 + 5 * s + 0) = 3 ∧ fl = R 0
    · rw [if_pos (Or.inr c3)]
      have n1 : ¬ fl < R 0 := by omega
      simp (disch := omega) only [lI, lJ, gd_1, bd_1, bv_1, nm_1, ixN, inbN, eqN, leN, ltN, eqL, leL, ltL, beqN, beqL, nI_add, pk_mul, lN_add, lN_mul, nI_l, lN_i, pk_div, pk_lDiv, pk_sub, lN_sub, remN, remL, neg1, neg2, negL, negL2, M1e, M1f, M1g, M1h, M1i, M1j, M2e, M2f, L1g, L1h, L1i, L1j, les_eq, les_e, les_n, les_m, fX0_floorBehind_b38, c3.1, if_true, D.2.2.1.1, n1, if_false]
    · have s6 := step60 (R (15 + 5 * s + 1) * m) (by omega) c3
      have ee : (st * rt R kn fl < R (15 + 5 * s + 1) * m ∨ (R (15 + 5 * s + 0) = 3 ∧ fl = R 0)) = (st * rt R kn fl < R (15 + 5 * s + 1) * m) := propext ⟨fun z => z.elim (fun y => y) (fun y => absurd y c3), Or.inl⟩
      simp only [ee]
      by_cases c4 : R (15 + 5 * s + 0) = 3
      · have n1 : fl < R 0 := by omega
        simp (disch := omega) only [lI, lJ, gd_1, bd_1, bv_1, nm_1, ixN, inbN, eqN, leN, ltN, eqL, leL, ltL, beqN, beqL, nI_add, pk_mul, lN_add, lN_mul, nI_l, lN_i, pk_div, pk_lDiv, pk_sub, lN_sub, remN, remL, neg1, neg2, negL, negL2, M1e, M1f, M1g, M1h, M1i, M1j, M2e, M2f, L1g, L1h, L1i, L1j, les_eq, les_e, les_n, les_m, fX0_floorBehind_b38, fX0_floorBehind_b59, eq_true c4, if_true, D.2.2.1.1, n1]
        exact s6
      · simp (disch := omega) only [lI, lJ, gd_1, bd_1, bv_1, nm_1, ixN, inbN, eqN, leN, ltN, eqL, leL, ltL, beqN, beqL, nI_add, pk_mul, lN_add, lN_mul, nI_l, lN_i, pk_div, pk_lDiv, pk_sub, lN_sub, remN, remL, neg1, neg2, negL, negL2, M1e, M1f, M1g, M1h, M1i, M1j, M2e, M2f, L1g, L1h, L1i, L1j, les_eq, les_e, les_n, les_m, fX0_floorBehind_b38, fX0_floorBehind_b59, c4, if_false]
        exact s6
  unfold br
  by_cases c : R (15 + 5 * s + 0) = 2
  · have s3 := step38 2 (by omega)
    simp (disch := omega) only [lI, lJ, gd_1, bd_1, bv_1, nm_1, ixN, inbN, eqN, leN, ltN, eqL, leL, ltL, beqN, beqL, nI_add, pk_mul, lN_add, lN_mul, nI_l, lN_i, pk_div, pk_lDiv, pk_sub, lN_sub, remN, remL, neg1, neg2, negL, negL2, M1e, M1f, M1g, M1h, M1i, M1j, M2e, M2f, L1g, L1h, L1i, L1j, les_eq, les_e, les_n, les_m, fX0_floorBehind, hk, if_true, cSl D hd v hs, d0, d1, eq_true c]
    exact s3
  · have s3 := step38 1 (by omega)
    simp (disch := omega) only [lI, lJ, gd_1, bd_1, bv_1, nm_1, ixN, inbN, eqN, leN, ltN, eqL, leL, ltL, beqN, beqL, nI_add, pk_mul, lN_add, lN_mul, nI_l, lN_i, pk_div, pk_lDiv, pk_sub, lN_sub, remN, remL, neg1, neg2, negL, negL2, M1e, M1f, M1g, M1h, M1i, M1j, M2e, M2f, L1g, L1h, L1i, L1j, les_eq, les_e, les_n, les_m, fX0_floorBehind, hk, if_true, cSl D hd v hs, d0, d1, c, if_false]
    exact s3
set_option maxRecDepth 100000 in
theorem cBr0 {s fl kn : Nat} (st : Int32) (hk : fl ≤ kn) (hkn : kn < 2 ^ 31) : fX0_floorBehind d (nI s) (nI fl) (nI kn) st h = some (nI fl, h) := by
  have n1 : ¬ kn < fl := by omega
  simp (disch := omega) only [lI, lJ, gd_1, bd_1, bv_1, nm_1, ixN, inbN, eqN, leN, ltN, eqL, leL, ltL, beqN, beqL, nI_add, pk_mul, lN_add, lN_mul, nI_l, lN_i, pk_div, pk_lDiv, pk_sub, lN_sub, remN, remL, neg1, neg2, negL, negL2, M1e, M1f, M1g, M1h, M1i, M1j, M2e, M2f, L1g, L1h, L1i, L1j, les_eq, les_e, les_n, les_m, fX0_floorBehind, n1, if_false]
set_option maxRecDepth 100000 in
theorem mBr {g : HH} (v : VR R) (M : MRep g R) {s fl kn st : Nat} (hs : s < R 4) (hk : kn < fl) (hfl : fl ≤ R 0) (hst : st ≤ 99) : fX9_broughtTo 181 (nI s) (nI fl) (nI kn) (nI st) g = some (nI (br R s fl kn st), g) := by
  have vF := v.F
  have vS9 := v.S
  have vS := v.2.2.1 s hs
  have hr := v.rt (u := kn) (l := fl) (by omega) hfl
  have hb : st * rt R kn fl ≤ 99 * 20736 := Nat.mul_le_mul hst hr.2
  have step62 : fX9_broughtTo_b62 (nI fl) (nI kn) (nI (R (15 + 5 * s + 0))) g = some (nI (max kn (fl - (if R (15 + 5 * s + 0) = 1 then 2 else 1))), g) := by
    by_cases c1 : R (15 + 5 * s + 0) = 1
    · rw [if_pos c1]
      by_cases c2 : fl = 1
      · have k0 : kn = 0 := by omega
        subst c2 k0
        have e : nI 1 - nI 2 = M1 := by decide +kernel
        simp (disch := omega) only [fX9_broughtTo_b62, show (1 : Int32) = nI 1 from rfl, show (2 : Int32) = nI 2 from rfl, eqN, eq_true c1, if_true, nm_1, e, M1g, if_false]
        rfl
      · by_cases c3 : kn ≤ fl - 2
        · rw [Nat.max_eq_right c3]
          simp (disch := omega) only [lI, lJ, gd_1, bd_1, bv_1, nm_1, ixN, inbN, eqN, leN, ltN, eqL, leL, ltL, beqN, beqL, nI_add, pk_mul, lN_add, lN_mul, nI_l, lN_i, pk_div, pk_lDiv, pk_sub, lN_sub, remN, remL, neg1, neg2, negL, negL2, M1e, M1f, M1g, M1h, M1i, M1j, M2e, M2f, L1g, L1h, L1i, L1j, les_eq, les_e, les_n, les_m, fX9_broughtTo_b62, eq_true c1, if_true, c3]
        · rw [Nat.max_eq_left (by omega)]
          simp (disch := omega) only [lI, lJ, gd_1, bd_1, bv_1, nm_1, ixN, inbN, eqN, leN, ltN, eqL, leL, ltL, beqN, beqL, nI_add, pk_mul, lN_add, lN_mul, nI_l, lN_i, pk_div, pk_lDiv, pk_sub, lN_sub, remN, remL, neg1, neg2, negL, negL2, M1e, M1f, M1g, M1h, M1i, M1j, M2e, M2f, L1g, L1h, L1i, L1j, les_eq, les_e, les_n, les_m, fX9_broughtTo_b62, eq_true c1, if_true, c3, if_false]
    · rw [if_neg c1]
      have c3 : kn ≤ fl - 1 := by omega
      rw [Nat.max_eq_right c3]
      simp (disch := omega) only [lI, lJ, gd_1, bd_1, bv_1, nm_1, ixN, inbN, eqN, leN, ltN, eqL, leL, ltL, beqN, beqL, nI_add, pk_mul, lN_add, lN_mul, nI_l, lN_i, pk_div, pk_lDiv, pk_sub, lN_sub, remN, remL, neg1, neg2, negL, negL2, M1e, M1f, M1g, M1h, M1i, M1j, M2e, M2f, L1g, L1h, L1i, L1j, les_eq, les_e, les_n, les_m, fX9_broughtTo_b62, c1, if_false, c3, if_true]
  have step38 : ∀ m, m ≤ 2 → fX9_broughtTo_b38 181 (nI fl) (nI kn) (nI (R (15 + 5 * s + 0))) (nI m) (lN (R (15 + 5 * s + 1))) (lN (st * rt R kn fl)) g = some (nI (if st * rt R kn fl < R (15 + 5 * s + 1) * m ∨ (R (15 + 5 * s + 0) = 3 ∧ fl = R 0) then fl else max kn (fl - (if R (15 + 5 * s + 0) = 1 then 2 else 1))), g) := by
    intro m hm
    have hb2 : R (15 + 5 * s + 1) * m ≤ 9999 * 2 := Nat.mul_le_mul vS.2.2.1 hm
    by_cases c : st * rt R kn fl < R (15 + 5 * s + 1) * m
    · rw [if_pos (Or.inl c)]
      simp (disch := omega) only [lI, lJ, gd_1, bd_1, bv_1, nm_1, ixN, inbN, eqN, leN, ltN, eqL, leL, ltL, beqN, beqL, nI_add, pk_mul, lN_add, lN_mul, nI_l, lN_i, pk_div, pk_lDiv, pk_sub, lN_sub, remN, remL, neg1, neg2, negL, negL2, M1e, M1f, M1g, M1h, M1i, M1j, M2e, M2f, L1g, L1h, L1i, L1j, les_eq, les_e, les_n, les_m, fX9_broughtTo_b38, c, if_true]
    · by_cases c3 : R (15 + 5 * s + 0) = 3
      · by_cases c4 : fl = R 0
        · rw [if_pos (Or.inr ⟨c3, c4⟩)]
          simp (disch := omega) only [lI, lJ, gd_1, bd_1, bv_1, nm_1, ixN, inbN, eqN, leN, ltN, eqL, leL, ltL, beqN, beqL, nI_add, pk_mul, lN_add, lN_mul, nI_l, lN_i, pk_div, pk_lDiv, pk_sub, lN_sub, remN, remL, neg1, neg2, negL, negL2, M1e, M1f, M1g, M1h, M1i, M1j, M2e, M2f, L1g, L1h, L1i, L1j, les_eq, les_e, les_n, les_m, fX9_broughtTo_b38, c, if_false, eq_true c3, if_true, Nat.reduceAdd, M 0, eq_true c4]
        · rw [if_neg (by omega)]
          simp (disch := omega) only [lI, lJ, gd_1, bd_1, bv_1, nm_1, ixN, inbN, eqN, leN, ltN, eqL, leL, ltL, beqN, beqL, nI_add, pk_mul, lN_add, lN_mul, nI_l, lN_i, pk_div, pk_lDiv, pk_sub, lN_sub, remN, remL, neg1, neg2, negL, negL2, M1e, M1f, M1g, M1h, M1i, M1j, M2e, M2f, L1g, L1h, L1i, L1j, les_eq, les_e, les_n, les_m, fX9_broughtTo_b38, c, if_false, eq_true c3, if_true, Nat.reduceAdd, M 0, c4]
          exact step62
      · rw [if_neg (by omega)]
        simp (disch := omega) only [lI, lJ, gd_1, bd_1, bv_1, nm_1, ixN, inbN, eqN, leN, ltN, eqL, leL, ltL, beqN, beqL, nI_add, pk_mul, lN_add, lN_mul, nI_l, lN_i, pk_div, pk_lDiv, pk_sub, lN_sub, remN, remL, neg1, neg2, negL, negL2, M1e, M1f, M1g, M1h, M1i, M1j, M2e, M2f, L1g, L1h, L1i, L1j, les_eq, les_e, les_n, les_m, fX9_broughtTo_b38, c, if_false, c3]
        exact step62
  unfold br
  by_cases c : R (15 + 5 * s + 0) = 2
  · have s3 := step38 2 (by omega)
    simp (disch := omega) only [lI, lJ, gd_1, bd_1, bv_1, nm_1, ixN, inbN, eqN, leN, ltN, eqL, leL, ltL, beqN, beqL, nI_add, pk_mul, lN_add, lN_mul, nI_l, lN_i, pk_div, pk_lDiv, pk_sub, lN_sub, remN, remL, neg1, neg2, negL, negL2, M1e, M1f, M1g, M1h, M1i, M1j, M2e, M2f, L1g, L1h, L1i, L1j, les_eq, les_e, les_n, les_m, fX9_broughtTo, mFeel v M (w := st) (f := kn) (t := fl) (by omega) (by omega) hfl, mOf M, eq_true c, if_true]
    exact s3
  · have s3 := step38 1 (by omega)
    simp (disch := omega) only [lI, lJ, gd_1, bd_1, bv_1, nm_1, ixN, inbN, eqN, leN, ltN, eqL, leL, ltL, beqN, beqL, nI_add, pk_mul, lN_add, lN_mul, nI_l, lN_i, pk_div, pk_lDiv, pk_sub, lN_sub, remN, remL, neg1, neg2, negL, negL2, M1e, M1f, M1g, M1h, M1i, M1j, M2e, M2f, L1g, L1h, L1i, L1j, les_eq, les_e, les_n, les_m, fX9_broughtTo, mFeel v M (w := st) (f := kn) (t := fl) (by omega) (by omega) hfl, mOf M, c, if_false]
    exact s3
end STEP
