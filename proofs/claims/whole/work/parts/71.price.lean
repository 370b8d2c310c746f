section OPS
variable {h : HH} {d : Nat} {R N T : Nat → Nat}
def gz (R : Nat → Nat) (s f : Nat) : Int := if f = 0 then 0 else ((R (150 + f - 1) * qk R f : Nat) : Int) - ((R (15 + 5 * s + 2) * f * f : Nat) : Int)
set_option maxRecDepth 100000 in
theorem subL_toInt {a b : Nat} (ha : a < 2 ^ 62) (hb : b < 2 ^ 62) : (lN a - lN b).toInt = (a : Int) - b := by
  rw [Int64.toInt_sub, pk_lT (by omega), pk_lT (by omega)]
  exact Int.bmod_eq_of_le (by omega) (by omega)
set_option maxRecDepth 100000 in
theorem pay_le (v : VR R) {f : Nat} (h1 : 1 ≤ f) (hf : f ≤ R 0) : R (150 + f - 1) * qk R f ≤ 999 * 20736 := by
  have vp := v.2.2.2.2.2.2.1 (f - 1) (by omega)
  rw [show 150 + (f - 1) = 150 + f - 1 by omega] at vp
  exact Nat.mul_le_mul vp (v.qk hf).2
set_option maxRecDepth 100000 in
theorem gn_toInt (v : VR R) {s f : Nat} (hs : s < R 4) (hf : f ≤ R 0) : (gn R s f).toInt = gz R s f := by
  have vF := v.F
  rcases Nat.eq_zero_or_pos f with z | z
  · subst z; simp only [gn, gz, if_true]; decide
  · have n0 : ¬ f = 0 := by omega
    have h1 := pay_le v z hf
    have h2 := dread_le v hs (f := f) (by omega)
    simp only [gn, gz, n0, if_false]
    exact subL_toInt (by omega) (by omega)
set_option maxRecDepth 100000 in
theorem gz_le (v : VR R) {s f : Nat} (hs : s < R 4) (hf : f ≤ R 0) : gz R s f ≤ 20715264 ∧ -15984 ≤ gz R s f := by
  have vF := v.F
  rcases Nat.eq_zero_or_pos f with z | z
  · subst z; simp only [gz, if_true]; omega
  · have n0 : ¬ f = 0 := by omega
    have h1 := pay_le v z hf
    have h2 := dread_le v hs (f := f) (by omega)
    simp only [gz, n0, if_false]
    omega
/-- what must be gained on a floor for it to be taken -/
def nd (R : Nat → Nat) (s fl : Nat) : Nat → Nat
  | 0 => 0
  | f + 1 => if f = fl then nd R s fl f else max (nd R s fl f) ((gz R s f + (if f < fl then 1 else 0)).toNat)
set_option maxRecDepth 100000 in
theorem nd_le (v : VR R) {s fl : Nat} (hs : s < R 4) : ∀ f, f ≤ R 0 + 1 → nd R s fl f ≤ 20715265
  | 0, _ => by simp [nd]
  | f + 1, hf => by
    have h1 := nd_le v (fl := fl) hs f (by omega)
    have h2 := gz_le v hs (f := f) (by omega)
    unfold nd
    split
    · exact h1
    · split <;> omega
set_option maxRecDepth 100000 in
theorem maxLz {n : Nat} {x : Int64} {z : Int} (hx : x.toInt = z) (hn : n < 2 ^ 62) (hz : z < 2 ^ 62) : jmmaxl (lN n) x = lN (max n z.toNat) := by
  unfold jmmaxl
  have h0 := pk_lT (n := n) (by omega)
  by_cases c : x < lN n
  · rw [if_pos c]
    rw [Int64.lt_iff_toInt_lt, hx, h0] at c
    congr 1
    omega
  · rw [if_neg c]
    rw [Int64.lt_iff_toInt_lt, hx, h0] at c
    have hm : max n z.toNat = z.toNat := by omega
    rw [hm]
    exact Int64.toInt_inj.mp (by rw [hx, pk_lT (by omega)]; omega)
set_option maxRecDepth 100000 in
theorem addLz {x : Int64} {z : Int} {e : Nat} (hx : x.toInt = z) (h1 : -1000000000 ≤ z) (h2 : z ≤ 1000000000) (he : e ≤ 1) : (x + lN e).toInt = z + e := by
  rw [Int64.toInt_add, hx, pk_lT (by omega)]
  exact Int.bmod_eq_of_le (by omega) (by omega)
set_option maxRecDepth 100000 in
theorem cPri (C : CA h d R N T) (hp : R 10 = 1) {s fl : Nat} (hs : s < R 4) (h1 : 1 ≤ fl) (hfl : fl ≤ R 0) : ∀ m i n, i + m = R 0 + 1 → m < n → lq2 (fX8_price_L44 0 (nI s) (nI fl)) n (lN (nd R s fl i)) (nI i) h = bd (fX8_leastPay 0 (nI s) (nI fl) (lN (nd R s fl (R 0 + 1))) h) (fun r101 h101 => bd (fX8_allow 0 r101 h101) (fun r104 h104 => some (r104, h104))) := by
  have k := isKb_D C.2.1
  have v := C.2.2.2.2.1
  have vF := v.F
  intro m
  induction m with
  | zero =>
    intro i n e hn
    obtain ⟨n, rfl⟩ : ∃ q, n = q + 1 := ⟨n - 1, by omega⟩
    have : i = R 0 + 1 := by omega
    subst this
    have n1 : R 0 < R 0 + 1 := by omega
    simp only [lq2, fX8_price_L44, C.1, k, gd_1, C.2.2.2.1.2.2.1.1, ltN (show R 0 < 2 ^ 31 by omega) (show R 0 + 1 < 2 ^ 31 by omega), n1, if_true]
  | succ m ih =>
    intro i n e hn
    obtain ⟨n, rfl⟩ : ∃ q, n = q + 1 := ⟨n - 1, by omega⟩
    have n1 : ¬ R 0 < i := by omega
    have key := ih (i + 1) n (by omega) (by omega)
    have gt := gn_toInt v hs (f := i) (by omega)
    have gl := gz_le v hs (f := i) (by omega)
    have nl := nd_le v (fl := fl) hs i (by omega)
    by_cases c : i = fl
    · rw [show nd R s fl (i + 1) = nd R s fl i by simp [nd, c]] at key
      simp only [lq2, fX8_price_L44, C.1, k, gd_1, C.2.2.2.1.2.2.1.1, ltN (show R 0 < 2 ^ 31 by omega) (show i < 2 ^ 31 by omega), n1, if_false, eqN (show i < 2 ^ 31 by omega) (show fl < 2 ^ 31 by omega), eq_true c, if_true, nI_1]
      exact key
    · by_cases c2 : fl ≤ i
      · have c3 : ¬ i < fl := by omega
        rw [show nd R s fl (i + 1) = max (nd R s fl i) (gz R s i + 0).toNat by simp [nd, c, c3]] at key
        have e3 : gn R s i + (0 : Int32).toInt64 = gn R s i + lN 0 := rfl
        have e4 : jmmaxl (lN (nd R s fl i)) (gn R s i + lN 0) = lN (max (nd R s fl i) (gz R s i + 0).toNat) := maxLz (z := gz R s i + 0) (by exact addLz gt (by omega) (by omega) (by omega)) (by omega) (by omega)
        simp only [lq2, fX8_price_L44, C.1, k, gd_1, C.2.2.2.1.2.2.1.1, ltN (show R 0 < 2 ^ 31 by omega) (show i < 2 ^ 31 by omega), n1, if_false, eqN (show i < 2 ^ 31 by omega) (show fl < 2 ^ 31 by omega), c, cGain C hp hs (f := i) (by omega), bd_1, leN (show fl < 2 ^ 31 by omega) (show i < 2 ^ 31 by omega), c2, if_true, nm_1, e3, e4, nI_1]
        exact key
      · have c3 : i < fl := by omega
        rw [show nd R s fl (i + 1) = max (nd R s fl i) (gz R s i + 1).toNat by simp [nd, c, c3]] at key
        have e3 : gn R s i + (1 : Int32).toInt64 = gn R s i + lN 1 := rfl
        have e4 : jmmaxl (lN (nd R s fl i)) (gn R s i + lN 1) = lN (max (nd R s fl i) (gz R s i + 1).toNat) := maxLz (z := gz R s i + 1) (by exact addLz gt (by omega) (by omega) (by omega)) (by omega) (by omega)
        simp only [lq2, fX8_price_L44, C.1, k, gd_1, C.2.2.2.1.2.2.1.1, ltN (show R 0 < 2 ^ 31 by omega) (show i < 2 ^ 31 by omega), n1, if_false, eqN (show i < 2 ^ 31 by omega) (show fl < 2 ^ 31 by omega), c, cGain C hp hs (f := i) (by omega), bd_1, leN (show fl < 2 ^ 31 by omega) (show i < 2 ^ 31 by omega), c2, nm_1, e3, e4, nI_1]
        exact key
def dt (R : Nat → Nat) (s fl : Nat) (z : Int) : Nat → Bool
  | 0 => true
  | f + 1 => dt R s fl z f && (decide (f = fl) || (if f < fl then decide (gz R s f < z) else decide (gz R s f ≤ z)))
set_option maxRecDepth 100000 in
theorem dt_nd {s fl : Nat} (h1 : 1 ≤ fl) (z : Int) (i : Nat) : dt R s fl z (i + 1) = decide ((nd R s fl (i + 1) : Int) ≤ z) := by
  induction i with
  | zero =>
    have c : ¬ 0 = fl := by omega
    have c2 : 0 < fl := by omega
    simp only [dt, nd, c, c2, if_false, if_true, gz, Bool.true_and, decide_false, Bool.false_or]
    exact decide_eq_decide.mpr (by omega)
  | succ i ih =>
    have ed : dt R s fl z (i + 1 + 1) = (dt R s fl z (i + 1) && (decide (i + 1 = fl) || (if i + 1 < fl then decide (gz R s (i + 1) < z) else decide (gz R s (i + 1) ≤ z)))) := rfl
    have en : nd R s fl (i + 1 + 1) = if i + 1 = fl then nd R s fl (i + 1) else max (nd R s fl (i + 1)) ((gz R s (i + 1) + (if i + 1 < fl then 1 else 0)).toNat) := rfl
    rw [ed, en, ih]
    by_cases c : i + 1 = fl
    · rw [if_pos c, decide_eq_true c, Bool.true_or, Bool.and_true]
    · rw [if_neg c, decide_eq_false c, Bool.false_or]
      have h0 : 0 ≤ (nd R s fl (i + 1) : Int) := Int.natCast_nonneg _
      by_cases c2 : i + 1 < fl
      · rw [if_pos c2, if_pos c2, ← Bool.decide_and]
        exact decide_eq_decide.mpr (by omega)
      · rw [if_neg c2, if_neg c2, ← Bool.decide_and]
        exact decide_eq_decide.mpr (by omega)
set_option maxRecDepth 100000 in
theorem mDoesL {g : HH} (v : VR R) (M : MRep g R) {s fl : Nat} (hs : s < R 4) (h1 : 1 ≤ fl) (hfl : fl ≤ R 0) {G : Int64} {z : Int} (hG : G.toInt = z) : ∀ m i n, i + m = R 0 + 1 → m < n → lq2 (fX9_doesTake_L15 181 (nI s) (nI fl) G) n (dt R s fl z i) (nI i) g = some (dt R s fl z (R 0 + 1), g) := by
  have vF := v.F
  intro m
  induction m with
  | zero =>
    intro i n e hn
    obtain ⟨n, rfl⟩ : ∃ q, n = q + 1 := ⟨n - 1, by omega⟩
    have : i = R 0 + 1 := by omega
    subst this
    have n1 : R 0 < R 0 + 1 := by omega
    simp (disch := omega) only [lI, lJ, gd_1, bd_1, bv_1, nm_1, ixN, inbN, eqN, leN, ltN, eqL, leL, ltL, beqN, beqL, nI_add, pk_mul, lN_add, lN_mul, nI_l, lN_i, pk_div, pk_lDiv, pk_sub, lN_sub, remN, remL, neg1, neg2, negL, negL2, M1e, M1f, M1g, M1h, M1i, M1j, M2e, M2f, L1g, L1h, L1i, L1j, les_eq, les_e, les_n, les_m, lq2, fX9_doesTake_L15, Nat.reduceAdd, M 0, n1, if_true]
  | succ m ih =>
    intro i n e hn
    obtain ⟨n, rfl⟩ : ∃ q, n = q + 1 := ⟨n - 1, by omega⟩
    have n1 : ¬ R 0 < i := by omega
    have key := ih (i + 1) n (by omega) (by omega)
    have gt := gn_toInt v hs (f := i) (by omega)
    have l1 : (G ≤ gn R s i) = (z ≤ gz R s i) := by rw [Int64.le_iff_toInt_le, hG, gt]
    have l2 : (G < gn R s i) = (z < gz R s i) := by rw [Int64.lt_iff_toInt_lt, hG, gt]
    by_cases c : i = fl
    · rw [show dt R s fl z (i + 1) = dt R s fl z i by simp [dt, c]] at key
      simp (disch := omega) only [lI, lJ, gd_1, bd_1, bv_1, nm_1, ixN, inbN, eqN, leN, ltN, eqL, leL, ltL, beqN, beqL, nI_add, pk_mul, lN_add, lN_mul, nI_l, lN_i, pk_div, pk_lDiv, pk_sub, lN_sub, remN, remL, neg1, neg2, negL, negL2, M1e, M1f, M1g, M1h, M1i, M1j, M2e, M2f, L1g, L1h, L1i, L1j, les_eq, les_e, les_n, les_m, lq2, fX9_doesTake_L15, Nat.reduceAdd, M 0, n1, if_false, eq_true c, if_true]
      exact key
    · have B : fX9_doesTake_b62 (lq2 (fX9_doesTake_L15 181 (nI s) (nI fl) G) n) 181 (nI s) (nI fl) G (dt R s fl z i) (nI i) (if i = 0 then lN 0 else lN (R (150 + i - 1))) (nI i) (nI s) g = some (dt R s fl z (R 0 + 1), g) := by
        have gg : fX9_gainOf 181 (nI s) (nI i) (if i = 0 then lN 0 else lN (R (150 + i - 1))) g = some (gn R s i, g) := by
          rcases Nat.eq_zero_or_pos i with y | y
          · subst y
            rw [if_pos rfl, mGain0]; rfl
          · rw [if_neg (by omega), mGainT v M hs y (by omega)]
        rw [fX9_doesTake_b62, gg, bd_1]
        cases hd : dt R s fl z i
        · rw [show dt R s fl z (i + 1) = false by simp [dt, hd]] at key
          rw [cond_false, nI_1]
          exact key
        · rw [cond_true]
          by_cases c2 : fl ≤ i
          · have c3 : ¬ i < fl := by omega
            rw [if_pos (by rw [leN (by omega) (by omega)]; exact c2)]
            by_cases c4 : G < gn R s i
            · rw [if_pos c4, nI_1]
              rw [l2] at c4
              rw [show dt R s fl z (i + 1) = false by simp [dt, hd, c, c3]; omega] at key
              exact key
            · rw [if_neg c4, nI_1]
              rw [l2] at c4
              rw [show dt R s fl z (i + 1) = true by simp [dt, hd, c, c3]; omega] at key
              exact key
          · have c3 : i < fl := by omega
            rw [if_neg (by rw [leN (by omega) (by omega)]; exact c2)]
            by_cases c4 : G ≤ gn R s i
            · rw [if_pos c4, nI_1]
              rw [l1] at c4
              rw [show dt R s fl z (i + 1) = false by simp [dt, hd, c, c3]; omega] at key
              exact key
            · rw [if_neg c4, nI_1]
              rw [l1] at c4
              rw [show dt R s fl z (i + 1) = true by simp [dt, hd, c, c3]; omega] at key
              exact key
      rcases Nat.eq_zero_or_pos i with y | y
      · subst y
        rw [if_pos rfl] at B
        simp (disch := omega) only [lI, lJ, gd_1, bd_1, bv_1, nm_1, ixN, inbN, eqN, leN, ltN, eqL, leL, ltL, beqN, beqL, nI_add, pk_mul, lN_add, lN_mul, nI_l, lN_i, pk_div, pk_lDiv, pk_sub, lN_sub, remN, remL, neg1, neg2, negL, negL2, M1e, M1f, M1g, M1h, M1i, M1j, M2e, M2f, L1g, L1h, L1i, L1j, les_eq, les_e, les_n, les_m, lq2, fX9_doesTake_L15, Nat.reduceAdd, M 0, n1, if_false, c, if_true]
        exact B
      · have y0 : ¬ i = 0 := by omega
        rw [if_neg y0] at B
        have vp := v.2.2.2.2.2.2.1 (i - 1) (by omega)
        have vp' : R (150 + i - 1) ≤ 999 := by rw [show 150 + i - 1 = 150 + (i - 1) by omega]; exact vp
        simp (disch := omega) only [lI, lJ, gd_1, bd_1, bv_1, nm_1, ixN, inbN, eqN, leN, ltN, eqL, leL, ltL, beqN, beqL, nI_add, pk_mul, lN_add, lN_mul, nI_l, lN_i, pk_div, pk_lDiv, pk_sub, lN_sub, remN, remL, neg1, neg2, negL, negL2, M1e, M1f, M1g, M1h, M1i, M1j, M2e, M2f, L1g, L1h, L1i, L1j, les_eq, les_e, les_n, les_m, lq2, fX9_doesTake_L15, Nat.reduceAdd, M 0, M (150 + i - 1), n1, if_false, c, y0]
        exact B
def leastP (R : Nat → Nat) (s fl : Nat) : Nat := (nd R s fl (R 0 + 1) + R (15 + 5 * s + 2) * fl * fl + qk R fl - 1) / qk R fl
set_option maxRecDepth 100000 in
theorem leastP_iff {a q p : Nat} (hq : 1 ≤ q) : (a + q - 1) / q ≤ p ↔ a ≤ p * q := by
  constructor
  · intro h
    have h1 := Nat.div_add_mod (a + q - 1) q
    have h2 := Nat.mod_lt (a + q - 1) (show 0 < q by omega)
    have h3 : q * ((a + q - 1) / q) ≤ q * p := Nat.mul_le_mul_left q h
    rw [Nat.mul_comm p q]
    omega
  · intro h
    have h1 : a + q - 1 < (p + 1) * q := by rw [Nat.add_mul]; omega
    have := (Nat.div_lt_iff_lt_mul (show 0 < q by omega)).mpr h1
    omega
set_option maxRecDepth 100000 in
theorem mDoes {g : HH} (v : VR R) (M : MRep g R) {s fl p : Nat} (hs : s < R 4) (h1 : 1 ≤ fl) (hfl : fl ≤ R 0) (hp : p ≤ 99999) : fX9_doesTake 181 (nI s) (nI fl) (lN p) g = some (decide (leastP R s fl ≤ p), g) := by
  have vF := v.F
  have q := v.qk hfl
  have hb : p * qk R fl ≤ 99999 * 20736 := Nat.mul_le_mul hp q.2
  have h2 := dread_le v hs (f := fl) (by omega)
  have e : dt R s fl (((p * qk R fl : Nat) : Int) - ((R (15 + 5 * s + 2) * fl * fl : Nat) : Int)) (R 0 + 1) = decide (leastP R s fl ≤ p) := by
    rw [dt_nd h1]
    congr 1
    apply propext
    unfold leastP
    rw [leastP_iff q.1]
    omega
  have key := mDoesL v M hs h1 hfl (subL_toInt (a := p * qk R fl) (b := R (15 + 5 * s + 2) * fl * fl) (by omega) (by omega)) (R 0 + 1) 0 FU (by omega) (by unfold FU; omega)
  rw [e] at key
  rw [fX9_doesTake, mGain v M _ hs h1 hfl, bd_1, lN_mul]
  exact key
set_option maxRecDepth 100000 in
theorem mPri {g : HH} (v : VR R) (M : MRep g R) {s fl : Nat} (hs : s < R 4) (h1 : 1 ≤ fl) (hfl : fl ≤ R 0) : ∀ j l hi n, l ≤ leastP R s fl → leastP R s fl ≤ hi → hi ≤ 99999 → hi + 1 - l ≤ 2 ^ j → j < n → lq2 (fX9_price_L69 181 (nI s) (nI fl)) n (les M1 l) (nI hi) g = some (nI (leastP R s fl), g) := by
  have sub9 : ∀ l hi, l ≤ hi + 1 → hi ≤ 99999 → nI hi - les M1 l = nI (hi + 1 - l) := by
    intro l hi hl hh
    cases l with
    | zero =>
      rw [show les M1 0 = M1 from rfl]
      exact Int32.toInt_inj.mp (by rw [Int32.toInt_sub, nI_toInt (by omega), M1_toInt, nI_toInt (by omega)]; exact (Int.bmod_eq_of_le (by omega) (by omega)).trans (by omega))
    | succ l => rw [show les M1 (l + 1) = nI l from rfl, pk_sub (by omega)]; congr 1; omega
  have add9 : ∀ l w, 1 ≤ w → les M1 l + nI w = nI (l + w - 1) := by
    intro l w hw
    cases l with
    | zero =>
      obtain ⟨w, rfl⟩ : ∃ u, w = u + 1 := ⟨w - 1, by omega⟩
      rw [show les M1 0 = M1 from rfl, Int32.add_comm, show M1 = (-1 : Int32) from rfl, pk_m1]; congr 1; omega
    | succ l => rw [show les M1 (l + 1) = nI l from rfl, nI_add]; congr 1; omega
  intro j
  induction j with
  | zero =>
    intro l hi n hl hh h9 hw hn
    obtain ⟨n, rfl⟩ : ∃ q, n = q + 1 := ⟨n - 1, by omega⟩
    have e : hi = leastP R s fl := by omega
    have e2 : hi + 1 - l ≤ 1 := by omega
    simp only [lq2, fX9_price_L69, sub9 l hi (by omega) h9, show (1 : Int32) = nI 1 from rfl, leN (show hi + 1 - l < 2 ^ 31 by omega) (show 1 < 2 ^ 31 by omega), e2, if_true]
    rw [e]
  | succ j ih =>
    intro l hi n hl hh h9 hw hn
    obtain ⟨n, rfl⟩ : ∃ q, n = q + 1 := ⟨n - 1, by omega⟩
    rw [Nat.pow_succ] at hw
    by_cases e2 : hi + 1 - l ≤ 1
    · have e : hi = leastP R s fl := by omega
      simp only [lq2, fX9_price_L69, sub9 l hi (by omega) h9, show (1 : Int32) = nI 1 from rfl, leN (show hi + 1 - l < 2 ^ 31 by omega) (show 1 < 2 ^ 31 by omega), e2, if_true]
      rw [e]
    · have hm : l + (hi + 1 - l) / 2 - 1 ≤ 99999 := by omega
      have e3 : nI (hi + 1 - l) / nI 2 = nI ((hi + 1 - l) / 2) := pk_div (by omega) (by omega) (by omega)
      simp only [lq2, fX9_price_L69, sub9 l hi (by omega) h9, show (1 : Int32) = nI 1 from rfl, show (2 : Int32) = nI 2 from rfl, leN (show hi + 1 - l < 2 ^ 31 by omega) (show 1 < 2 ^ 31 by omega), e2, if_false, e3, add9 l ((hi + 1 - l) / 2) (by omega), nm_1, nI_l (show l + (hi + 1 - l) / 2 - 1 < 2 ^ 31 by omega), mDoes v M hs h1 hfl hm, bd_1]
      by_cases c : leastP R s fl ≤ l + (hi + 1 - l) / 2 - 1
      · rw [decide_eq_true c, cond_true]
        exact ih l (l + (hi + 1 - l) / 2 - 1) n hl c (by omega) (by omega) (by omega)
      · rw [decide_eq_false c, cond_false]
        have := ih (l + (hi + 1 - l) / 2 - 1 + 1) hi n (by omega) hh h9 (by omega) (by omega)
        exact this
set_option maxRecDepth 100000 in
theorem oPrice (C : CA h d R N T) (x y : Int32) : OpQ h (fX8_price 0 x y h) (fun h1 => fX9_price 181 x y h1) (fun h1 => MA h1 R N T) := by
  have k := isKb_D C.2.1
  have v := C.2.2.2.2.1
  have vF := v.F
  have vS := v.S
  have vp := v.2.1
  have z1 : ¬ (1 : Nat) = 0 := by omega
  have z6 : ¬ (6 : Nat) = 0 := by omega
  have z0 : ¬ (0 : Nat) = 1 := by omega
  have c13 := C.2.2.2.1.2.2.1.2.2.2.2
  rcases slC C x with ⟨s, hs, rfl, e1, e2⟩ | ⟨e1, e2⟩
  · rcases dfC C y with ⟨f, f1, hf, rfl, e3, e5, e4⟩ | ⟨e3, e4 | ⟨rfl, e4⟩⟩
    · have q := v.qk hf
      have n0 : ¬ f = 0 := by omega
      by_cases hp : R 10 = 1
      · have nl := nd_le v (fl := f) hs (R 0 + 1) (by omega)
        have hd := dread_le v hs (f := f) (by omega)
        have lp : fX8_leastPay 0 (nI s) (nI f) (lN (nd R s f (R 0 + 1))) h = some (if leastP R s f ≤ 99999 then nI (leastP R s f) else M2, h) := by
          have hle : leastP R s f < 2 ^ 31 := Nat.lt_of_le_of_lt (Nat.div_le_self _ _) (by omega)
          have hq : fX8_quotient (lN (nd R s f (R 0 + 1) + R (15 + 5 * s + 2) * f * f + qk R f - 1)) (lN (qk R f)) h = some (lN (leastP R s f), h) := cQuo (by omega) (by omega) (by omega)
          by_cases c : leastP R s f ≤ 99999
          · rw [if_pos c]
            simp (disch := omega) only [lI, lJ, gd_1, bd_1, bv_1, nm_1, ixN, inbN, eqN, leN, ltN, eqL, leL, ltL, beqN, beqL, nI_add, pk_mul, lN_add, lN_mul, nI_l, lN_i, pk_div, pk_lDiv, pk_sub, lN_sub, remN, remL, neg1, neg2, negL, negL2, M1e, M1f, M1g, M1h, M1i, M1j, M2e, M2f, L1g, L1h, L1i, L1j, les_eq, les_e, les_n, les_m, cond_true, cond_false, if_true, if_false, fX8_refuse, fX8_allow, fX8_allow_, Nat.not_lt_zero, Nat.reduceAdd, Nat.reduceLT, Nat.reduceLeDiff, Nat.reduceEqDiff, decide_false, decide_true, Bool.not_false, Bool.not_true, C.1, k, fX8_leastPay, cQuick C.2.2.2.1 v hf, cDread C hs (f := f) (by omega), hq, c]
          · rw [if_neg c]
            simp (disch := omega) only [lI, lJ, gd_1, bd_1, bv_1, nm_1, ixN, inbN, eqN, leN, ltN, eqL, leL, ltL, beqN, beqL, nI_add, pk_mul, lN_add, lN_mul, nI_l, lN_i, pk_div, pk_lDiv, pk_sub, lN_sub, remN, remL, neg1, neg2, negL, negL2, M1e, M1f, M1g, M1h, M1i, M1j, M2e, M2f, L1g, L1h, L1i, L1j, les_eq, les_e, les_n, les_m, cond_true, cond_false, if_true, if_false, fX8_refuse, fX8_allow, fX8_allow_, Nat.not_lt_zero, Nat.reduceAdd, Nat.reduceLT, Nat.reduceLeDiff, Nat.reduceEqDiff, decide_false, decide_true, Bool.not_false, Bool.not_true, C.1, k, fX8_leastPay, cQuick C.2.2.2.1 v hf, cDread C hs (f := f) (by omega), hq, c]
        have cp := cPri C hp hs f1 hf (R 0 + 1) 0 FU (by omega) (by unfold FU; omega)
        rw [lp] at cp
        refine opq (if leastP R s f ≤ 99999 then nI (leastP R s f) else M2) ?_ (fun h1 g Mg hg => ?_)
        · simp (disch := omega) only [lI, lJ, gd_1, bd_1, bv_1, nm_1, ixN, inbN, eqN, leN, ltN, eqL, leL, ltL, beqN, beqL, nI_add, pk_mul, lN_add, lN_mul, nI_l, lN_i, pk_div, pk_lDiv, pk_sub, lN_sub, remN, remL, neg1, neg2, negL, negL2, M1e, M1f, M1g, M1h, M1i, M1j, M2e, M2f, L1g, L1h, L1i, L1j, les_eq, les_e, les_n, les_m, cond_true, cond_false, if_true, if_false, fX8_refuse, fX8_allow, fX8_allow_, Nat.not_lt_zero, Nat.reduceAdd, Nat.reduceLT, Nat.reduceLeDiff, Nat.reduceEqDiff, decide_false, decide_true, Bool.not_false, Bool.not_true, C.1, k, fX8_price, e1, e3, c13, hp, z1]
          exact cp
        · have dm := mDoes v Mg.2.1 hs f1 hf (p := 99999) (by omega)
          by_cases c : leastP R s f ≤ 99999
          · rw [if_pos c]
            rw [decide_eq_true c] at dm
            have pm := mPri v Mg.2.1 hs f1 hf 17 0 99999 FU (by omega) c (by omega) (by omega) (by unfold FU; omega)
            simp (disch := omega) only [lI, lJ, gd_1, bd_1, bv_1, nm_1, ixN, inbN, eqN, leN, ltN, eqL, leL, ltL, beqN, beqL, nI_add, pk_mul, lN_add, lN_mul, nI_l, lN_i, pk_div, pk_lDiv, pk_sub, lN_sub, remN, remL, neg1, neg2, negL, negL2, M1e, M1f, M1g, M1h, M1i, M1j, M2e, M2f, L1g, L1h, L1i, L1j, les_eq, les_e, les_n, les_m, cond_true, cond_false, if_true, if_false, fX9_no, hg, Nat.not_lt_zero, Nat.reduceAdd, Nat.reduceLT, Nat.reduceLeDiff, Nat.reduceEqDiff, decide_false, decide_true, Bool.not_false, Bool.not_true, fX9_price, fX9_payWhy, e2 g Mg, e4 g Mg, n0, Mg.2.1 10, hp, dm]
            exact pm
          · rw [if_neg c]
            rw [decide_eq_false c] at dm
            simp (disch := omega) only [lI, lJ, gd_1, bd_1, bv_1, nm_1, ixN, inbN, eqN, leN, ltN, eqL, leL, ltL, beqN, beqL, nI_add, pk_mul, lN_add, lN_mul, nI_l, lN_i, pk_div, pk_lDiv, pk_sub, lN_sub, remN, remL, neg1, neg2, negL, negL2, M1e, M1f, M1g, M1h, M1i, M1j, M2e, M2f, L1g, L1h, L1i, L1j, les_eq, les_e, les_n, les_m, cond_true, cond_false, if_true, if_false, fX9_no, hg, Nat.not_lt_zero, Nat.reduceAdd, Nat.reduceLT, Nat.reduceLeDiff, Nat.reduceEqDiff, decide_false, decide_true, Bool.not_false, Bool.not_true, fX9_price, fX9_payWhy, e2 g Mg, e4 g Mg, n0, Mg.2.1 10, hp, dm]
      · have hp0 : R 10 = 0 := by omega
        refine opr 6 (by omega) (M1) ?_ (fun h1 g Mg hg => ?_)
        · simp (disch := omega) only [lI, lJ, gd_1, bd_1, bv_1, nm_1, ixN, inbN, eqN, leN, ltN, eqL, leL, ltL, beqN, beqL, nI_add, pk_mul, lN_add, lN_mul, nI_l, lN_i, pk_div, pk_lDiv, pk_sub, lN_sub, remN, remL, neg1, neg2, negL, negL2, M1e, M1f, M1g, M1h, M1i, M1j, M2e, M2f, L1g, L1h, L1i, L1j, les_eq, les_e, les_n, les_m, cond_true, cond_false, if_true, if_false, fX8_refuse, fX8_allow, fX8_allow_, Nat.not_lt_zero, Nat.reduceAdd, Nat.reduceLT, Nat.reduceLeDiff, Nat.reduceEqDiff, decide_false, decide_true, Bool.not_false, Bool.not_true, C.1, k, fX8_price, e1, e3, c13, hp0]
        · simp (disch := omega) only [lI, lJ, gd_1, bd_1, bv_1, nm_1, ixN, inbN, eqN, leN, ltN, eqL, leL, ltL, beqN, beqL, nI_add, pk_mul, lN_add, lN_mul, nI_l, lN_i, pk_div, pk_lDiv, pk_sub, lN_sub, remN, remL, neg1, neg2, negL, negL2, M1e, M1f, M1g, M1h, M1i, M1j, M2e, M2f, L1g, L1h, L1i, L1j, les_eq, les_e, les_n, les_m, cond_true, cond_false, if_true, if_false, fX9_no, hg, Nat.not_lt_zero, Nat.reduceAdd, Nat.reduceLT, Nat.reduceLeDiff, Nat.reduceEqDiff, decide_false, decide_true, Bool.not_false, Bool.not_true, fX9_price, fX9_payWhy, e2 g Mg, e4 g Mg, n0, Mg.2.1 10, hp0, z0, z6]
    · refine opr 1 (by omega) (M1) ?_ (fun h1 g Mg hg => ?_)
      · simp (disch := omega) only [lI, lJ, gd_1, bd_1, bv_1, nm_1, ixN, inbN, eqN, leN, ltN, eqL, leL, ltL, beqN, beqL, nI_add, pk_mul, lN_add, lN_mul, nI_l, lN_i, pk_div, pk_lDiv, pk_sub, lN_sub, remN, remL, neg1, neg2, negL, negL2, M1e, M1f, M1g, M1h, M1i, M1j, M2e, M2f, L1g, L1h, L1i, L1j, les_eq, les_e, les_n, les_m, cond_true, cond_false, if_true, if_false, fX8_refuse, fX8_allow, fX8_allow_, Nat.not_lt_zero, Nat.reduceAdd, Nat.reduceLT, Nat.reduceLeDiff, Nat.reduceEqDiff, decide_false, decide_true, Bool.not_false, Bool.not_true, C.1, k, fX8_price, e1, e3]
      · simp (disch := omega) only [lI, lJ, gd_1, bd_1, bv_1, nm_1, ixN, inbN, eqN, leN, ltN, eqL, leL, ltL, beqN, beqL, nI_add, pk_mul, lN_add, lN_mul, nI_l, lN_i, pk_div, pk_lDiv, pk_sub, lN_sub, remN, remL, neg1, neg2, negL, negL2, M1e, M1f, M1g, M1h, M1i, M1j, M2e, M2f, L1g, L1h, L1i, L1j, les_eq, les_e, les_n, les_m, cond_true, cond_false, if_true, if_false, fX9_no, hg, Nat.not_lt_zero, Nat.reduceAdd, Nat.reduceLT, Nat.reduceLeDiff, Nat.reduceEqDiff, decide_false, decide_true, Bool.not_false, Bool.not_true, fX9_price, e2 g Mg, e4 g Mg]
    · refine opr 1 (by omega) (M1) ?_ (fun h1 g Mg hg => ?_)
      · simp (disch := omega) only [lI, lJ, gd_1, bd_1, bv_1, nm_1, ixN, inbN, eqN, leN, ltN, eqL, leL, ltL, beqN, beqL, nI_add, pk_mul, lN_add, lN_mul, nI_l, lN_i, pk_div, pk_lDiv, pk_sub, lN_sub, remN, remL, neg1, neg2, negL, negL2, M1e, M1f, M1g, M1h, M1i, M1j, M2e, M2f, L1g, L1h, L1i, L1j, les_eq, les_e, les_n, les_m, cond_true, cond_false, if_true, if_false, fX8_refuse, fX8_allow, fX8_allow_, Nat.not_lt_zero, Nat.reduceAdd, Nat.reduceLT, Nat.reduceLeDiff, Nat.reduceEqDiff, decide_false, decide_true, Bool.not_false, Bool.not_true, C.1, k, fX8_price, e1, e3]
      · simp (disch := omega) only [lI, lJ, gd_1, bd_1, bv_1, nm_1, ixN, inbN, eqN, leN, ltN, eqL, leL, ltL, beqN, beqL, nI_add, pk_mul, lN_add, lN_mul, nI_l, lN_i, pk_div, pk_lDiv, pk_sub, lN_sub, remN, remL, neg1, neg2, negL, negL2, M1e, M1f, M1g, M1h, M1i, M1j, M2e, M2f, L1g, L1h, L1i, L1j, les_eq, les_e, les_n, les_m, cond_true, cond_false, if_true, if_false, fX9_no, hg, Nat.not_lt_zero, Nat.reduceAdd, Nat.reduceLT, Nat.reduceLeDiff, Nat.reduceEqDiff, decide_false, decide_true, Bool.not_false, Bool.not_true, fX9_price, e2 g Mg, e4 g Mg]
  · refine opr 1 (by omega) (M1) ?_ (fun h1 g Mg hg => ?_)
    · simp (disch := omega) only [lI, lJ, gd_1, bd_1, bv_1, nm_1, ixN, inbN, eqN, leN, ltN, eqL, leL, ltL, beqN, beqL, nI_add, pk_mul, lN_add, lN_mul, nI_l, lN_i, pk_div, pk_lDiv, pk_sub, lN_sub, remN, remL, neg1, neg2, negL, negL2, M1e, M1f, M1g, M1h, M1i, M1j, M2e, M2f, L1g, L1h, L1i, L1j, les_eq, les_e, les_n, les_m, cond_true, cond_false, if_true, if_false, fX8_refuse, fX8_allow, fX8_allow_, Nat.not_lt_zero, Nat.reduceAdd, Nat.reduceLT, Nat.reduceLeDiff, Nat.reduceEqDiff, decide_false, decide_true, Bool.not_false, Bool.not_true, C.1, k, fX8_price, e1]
    · simp (disch := omega) only [lI, lJ, gd_1, bd_1, bv_1, nm_1, ixN, inbN, eqN, leN, ltN, eqL, leL, ltL, beqN, beqL, nI_add, pk_mul, lN_add, lN_mul, nI_l, lN_i, pk_div, pk_lDiv, pk_sub, lN_sub, remN, remL, neg1, neg2, negL, negL2, M1e, M1f, M1g, M1h, M1i, M1j, M2e, M2f, L1g, L1h, L1i, L1j, les_eq, les_e, les_n, les_m, cond_true, cond_false, if_true, if_false, fX9_no, hg, Nat.not_lt_zero, Nat.reduceAdd, Nat.reduceLT, Nat.reduceLeDiff, Nat.reduceEqDiff, decide_false, decide_true, Bool.not_false, Bool.not_true, fX9_price, e2 g Mg]
end OPS
