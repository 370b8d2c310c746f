set_option maxRecDepth 100000 in
theorem bit2N : ∀ f, f < 5 → ∀ g, g < 5 → ∀ a, a < 32 → ((nI a >>> (nI f &&& nI 31)) &&& (nI a >>> (nI g &&& nI 31))) &&& nI 1 = nI ((a / 2 ^ f % 2) * (a / 2 ^ g % 2)) := by decide +kernel
set_option maxRecDepth 100000 in
theorem bitA : ∀ m, m < 5 → ∀ x, x < 2 ^ m → (∀ f, f < m → (x + 2 ^ m) / 2 ^ f % 2 = x / 2 ^ f % 2) ∧ (x + 2 ^ m) / 2 ^ m % 2 = 1 ∧ x / 2 ^ m % 2 = 0 := by decide +kernel
def bcE (x : Int32) : Int32 := match fJ6_bitCount_0f7a4 x (fun _ _ => 0, fun _ _ => 0, fun _ _ => 0) with
  | some p => p.1
  | none => 0
set_option maxRecDepth 100000 in
theorem bc_eq (x : Int32) (h : HH) : fJ6_bitCount_0f7a4 x h = some (bcE x, h) := Eq.trans rfl rfl
def pcs (a : Nat) : Nat → Nat
  | 0 => 0
  | k + 1 => pcs a k + a / 2 ^ k % 2
set_option maxRecDepth 100000 in
theorem bc_all : ∀ a, a < 32 → bcE (nI a) = nI (pcs a 5) := by decide +kernel
section OPS
variable {h : HH} {d : Nat} {R N T : Nat → Nat}
set_option maxRecDepth 100000 in
theorem dset_bit (R : Nat → Nat) : ∀ m f, f < m → m ≤ 5 → dset R m / 2 ^ f % 2 = bif dp R f then 1 else 0 := by
  intro m
  induction m with
  | zero => intro f h1 h2; omega
  | succ m ih =>
    intro f h1 h2
    obtain ⟨b1, b2, b3⟩ := bitA m (by omega) (dset R m) (dset_lt R m)
    have ed : dset R (m + 1) = dset R m + (bif dp R m then 2 ^ m else 0) := rfl
    rw [ed]
    rcases Nat.lt_or_ge f m with z | z
    · rw [← ih f z (by omega)]
      cases hp : dp R m
      · simp
      · simp only [cond_true]; exact b1 f z
    · have : f = m := by omega
      subst this
      cases hp : dp R f
      · simp only [cond_false, Nat.add_zero]; exact b3
      · simp only [cond_true]; exact b2
abbrev DS (R : Nat → Nat) : Nat := dset R (R 0 + 1)
set_option maxRecDepth 100000 in
theorem DS_lt (v : VR R) : DS R < 32 := by
  have h1 := dset_lt R (R 0 + 1)
  have vF := v.F
  have h2 : 2 ^ (R 0 + 1) ≤ 2 ^ 5 := Nat.pow_le_pow_right (by omega) (by omega)
  exact Nat.lt_of_lt_of_le h1 h2
set_option maxRecDepth 100000 in
theorem DS_bit (v : VR R) {f : Nat} (hf : f ≤ R 0) : DS R / 2 ^ f % 2 = bif dp R f then 1 else 0 := dset_bit R (R 0 + 1) f (by omega) (by have := v.F; omega)
set_option maxRecDepth 100000 in
theorem mHas {g : HH} (v : VR R) {f : Nat} (hf : f ≤ R 0) : fX9_hasBit (nI (DS R)) (nI f) g = some (dp R f, g) := by
  have b := bitN f (by have := v.F; omega) (DS R) (DS_lt v)
  rw [DS_bit v hf] at b
  have z : ¬ (0 : Nat) = 1 := by omega
  cases hp : dp R f
  · rw [hp] at b
    simp (disch := omega) only [lI, lJ, gd_1, bd_1, bv_1, nm_1, ixN, inbN, eqN, leN, ltN, eqL, leL, ltL, beqN, beqL, nI_add, pk_mul, lN_add, lN_mul, nI_l, lN_i, pk_div, pk_lDiv, pk_sub, lN_sub, remN, remL, neg1, neg2, negL, negL2, M1e, M1f, M1g, M1h, M1i, M1j, M2e, M2f, L1g, L1h, L1i, L1j, les_eq, les_e, les_n, les_m, fX9_hasBit, b, cond_false, z, if_false]
  · rw [hp] at b
    simp (disch := omega) only [lI, lJ, gd_1, bd_1, bv_1, nm_1, ixN, inbN, eqN, leN, ltN, eqL, leL, ltL, beqN, beqL, nI_add, pk_mul, lN_add, lN_mul, nI_l, lN_i, pk_div, pk_lDiv, pk_sub, lN_sub, remN, remL, neg1, neg2, negL, negL2, M1e, M1f, M1g, M1h, M1i, M1j, M2e, M2f, L1g, L1h, L1i, L1j, les_eq, les_e, les_n, les_m, fX9_hasBit, b, cond_true, if_true]
set_option maxRecDepth 100000 in
theorem mOnes {g : HH} {a : Nat} (ha : a < 32) : fX9_ones (nI a) g = some (nI (pcs a 5), g) := by
  have main : ∀ m i n, i + m = 5 → m < n → lq2 (fX9_ones_L4 (nI a)) n (nI (pcs a i)) (nI i) g = some (nI (pcs a 5), g) := by
    intro m
    induction m with
    | zero =>
      intro i n e hn
      obtain ⟨n, rfl⟩ : ∃ q, n = q + 1 := ⟨n - 1, by omega⟩
      have : i = 5 := by omega
      subst this
      simp (disch := omega) only [lI, lJ, gd_1, bd_1, bv_1, nm_1, ixN, inbN, eqN, leN, ltN, eqL, leL, ltL, beqN, beqL, nI_add, pk_mul, lN_add, lN_mul, nI_l, lN_i, pk_div, pk_lDiv, pk_sub, lN_sub, remN, remL, neg1, neg2, negL, negL2, M1e, M1f, M1g, M1h, M1i, M1j, M2e, M2f, L1g, L1h, L1i, L1j, les_eq, les_e, les_n, les_m, lq2, fX9_ones_L4, Nat.le_refl, if_true]
    | succ m ih =>
      intro i n e hn
      obtain ⟨n, rfl⟩ : ∃ q, n = q + 1 := ⟨n - 1, by omega⟩
      have n1 : ¬ 5 ≤ i := by omega
      have key := ih (i + 1) n (by omega) (by omega)
      have b := bitN i (by omega) a ha
      simp (disch := omega) only [lI, lJ, gd_1, bd_1, bv_1, nm_1, ixN, inbN, eqN, leN, ltN, eqL, leL, ltL, beqN, beqL, nI_add, pk_mul, lN_add, lN_mul, nI_l, lN_i, pk_div, pk_lDiv, pk_sub, lN_sub, remN, remL, neg1, neg2, negL, negL2, M1e, M1f, M1g, M1h, M1i, M1j, M2e, M2f, L1g, L1h, L1i, L1j, les_eq, les_e, les_n, les_m, lq2, fX9_ones_L4, n1, if_false, b]
      exact key
  exact main 5 0 FU (by omega) (by unfold FU; omega)
/-- how many of the deep ones are those: by the first m floors -/
def dcn (R : Nat → Nat) : Nat → Nat
  | 0 => 0
  | f + 1 => dcn R f + (bif dp R f then 1 else 0)
set_option maxRecDepth 100000 in
theorem pcs_dcn (v : VR R) : pcs (DS R) 5 = dcn R (R 0 + 1) := by
  have vF := v.F
  have main : ∀ m, m ≤ R 0 + 1 → pcs (DS R) m = dcn R m := by
    intro m
    induction m with
    | zero => intro _; rfl
    | succ m ih =>
      intro hm
      unfold pcs dcn
      rw [ih (by omega), DS_bit v (by omega)]
  have l := dset_lt R (R 0 + 1)
  have z : ∀ m, R 0 + 1 ≤ m → DS R / 2 ^ m % 2 = 0 := fun m hm => by
    have : DS R < 2 ^ m := Nat.lt_of_lt_of_le l (Nat.pow_le_pow_right (by omega) hm)
    rw [Nat.div_eq_of_lt this]
  have rest : ∀ k, R 0 + 1 + k ≤ 5 → pcs (DS R) (R 0 + 1 + k) = dcn R (R 0 + 1) := by
    intro k
    induction k with
    | zero => intro _; exact main _ (Nat.le_refl _)
    | succ k ih =>
      intro hk
      show pcs (DS R) (R 0 + 1 + k) + DS R / 2 ^ (R 0 + 1 + k) % 2 = _
      rw [ih (by omega), z _ (by omega), Nat.add_zero]
  have := rest (4 - R 0) (by omega)
  rw [show R 0 + 1 + (4 - R 0) = 5 by omega] at this
  exact this
/-- the lowest deep one and the one ahead of it, each plus 1; 0: none -/
def lw (R : Nat → Nat) : Nat → Nat × Nat
  | 0 => (0, 0)
  | f + 1 => bif dp R f then (f + 1, (lw R f).1) else lw R f
set_option maxRecDepth 100000 in
theorem lw_spec (R : Nat → Nat) : ∀ i, (lw R i).1 ≤ i ∧ (lw R i).2 ≤ i ∧ (∀ a, (lw R i).1 = a + 1 → dp R a = true) ∧ (∀ b, (lw R i).2 = b + 1 → dp R b = true ∧ b + 1 < (lw R i).1) ∧ (∀ f, f < i → dp R f = true → f + 1 = (lw R i).1 ∨ f + 1 ≤ (lw R i).2) ∧ (1 ≤ dcn R i → 1 ≤ (lw R i).1) ∧ (2 ≤ dcn R i → 1 ≤ (lw R i).2) := by
  intro i
  induction i with
  | zero => simp [lw, dcn]
  | succ i ih =>
    obtain ⟨h1, h2, h3, h4, h5, h6, h7⟩ := ih
    unfold lw dcn
    cases hp : dp R i
    · simp only [cond_false, Nat.add_zero]
      refine ⟨by omega, by omega, h3, h4, fun f hf hd => ?_, h6, h7⟩
      rcases Nat.lt_or_ge f i with z | z
      · exact h5 f z hd
      · have : f = i := by omega
        subst this
        rw [hp] at hd; cases hd
    · simp only [cond_true]
      refine ⟨by omega, by omega, fun a ha => ?_, fun b hb => ⟨h3 b hb, by omega⟩, fun f hf hd => ?_, fun _ => by omega, fun hc => ?_⟩
      · have : a = i := by omega
        subst this; exact hp
      · rcases Nat.lt_or_ge f i with z | z
        · rcases h5 f z hd with y | y
          · right; omega
          · right
            rcases Nat.eq_zero_or_pos (lw R i).2 with w | w
            · omega
            · obtain ⟨b, hb⟩ : ∃ b, (lw R i).2 = b + 1 := ⟨(lw R i).2 - 1, by omega⟩
              have := (h4 b hb).2
              omega
        · left; omega
      · exact h6 (by omega)
set_option maxRecDepth 100000 in
theorem cFew (C : CA h d R N T) : ∀ m i n, i + m = R 0 + 1 → m < n → lq3 (fX8_fewestAsked_L9 0 (nI (DS R))) n (les M2 (lw R i).1) (les M2 (lw R i).2) (nI i) h = bd (fX0_quickOf d (les M2 (lw R (R 0 + 1)).2) h) (fun r47 h47 => some (r47, h47)) := by
  have k := isKb_D C.2.1
  have v := C.2.2.2.2.1
  have vF := v.F
  intro m
  induction m with
  | zero =>
    intro i n e hn
    obtain ⟨n, rfl⟩ : ∃ q, n = q + 1 := ⟨n - 1, by omega⟩
    have : i = R 0 + 1 := by omega
    subst this
    have n1 : R 0 < R 0 + 1 := by omega
    simp only [lq3, fX8_fewestAsked_L9, C.1, k, gd_1, C.2.2.2.1.2.2.1.1, ltN (show R 0 < 2 ^ 31 by omega) (show R 0 + 1 < 2 ^ 31 by omega), n1, if_true]
  | succ m ih =>
    intro i n e hn
    obtain ⟨n, rfl⟩ : ∃ q, n = q + 1 := ⟨n - 1, by omega⟩
    have n1 : ¬ R 0 < i := by omega
    have key := ih (i + 1) n (by omega) (by omega)
    have b := bitN i (by omega) (DS R) (DS_lt v)
    rw [DS_bit v (by omega)] at b
    have b' : ((nI (DS R) >>> (nI i &&& 31)) &&& 1) = nI (bif dp R i then 1 else 0) := b
    cases hp : dp R i
    · rw [show lw R (i + 1) = lw R i by simp [lw, hp]] at key
      rw [hp, cond_false] at b'
      have z : ¬ nI 0 = (1 : Int32) := by decide
      simp only [lq3, fX8_fewestAsked_L9, C.1, k, gd_1, C.2.2.2.1.2.2.1.1, ltN (show R 0 < 2 ^ 31 by omega) (show i < 2 ^ 31 by omega), n1, if_false, b', z, nI_1]
      exact key
    · rw [show lw R (i + 1) = (i + 1, (lw R i).1) by simp [lw, hp]] at key
      rw [hp, cond_true] at b'
      have z : nI 1 = (1 : Int32) := rfl
      simp only [lq3, fX8_fewestAsked_L9, C.1, k, gd_1, C.2.2.2.1.2.2.1.1, ltN (show R 0 < 2 ^ 31 by omega) (show i < 2 ^ 31 by omega), n1, if_false, b', eq_true z, if_true, nI_1]
      exact key
/-- of the first i floors, those that answer as f does; the most by the first i floors -/
def smc (R : Nat → Nat) (n f g : Nat) : Bool := dp R f && dp R g && decide (n / qk R f = n / qk R g)
def smk (R : Nat → Nat) (n f : Nat) : Nat → Nat
  | 0 => 0
  | g + 1 => smk R n f g + (bif smc R n f g then 1 else 0)
def mstk (R : Nat → Nat) (n : Nat) : Nat → Nat
  | 0 => 0
  | f + 1 => max (mstk R n f) (smk R n f (R 0 + 1))
set_option maxRecDepth 100000 in
theorem smk_le (R : Nat → Nat) (n f : Nat) : ∀ i, smk R n f i ≤ i
  | 0 => Nat.le_refl 0
  | i + 1 => by have := smk_le R n f i; unfold smk; cases smc R n f i <;> simp <;> omega
set_option maxRecDepth 100000 in
theorem mstk_le (R : Nat → Nat) (n : Nat) : ∀ i, mstk R n i ≤ R 0 + 1
  | 0 => Nat.zero_le _
  | i + 1 => by have h1 := mstk_le R n i; have h2 := smk_le R n i (R 0 + 1); unfold mstk; omega
set_option maxRecDepth 100000 in
theorem cSame (C : CA h d R N T) {w f : Nat} (hw : w ≤ 20736) (hf : f ≤ R 0) (kk : Int32 → HH → Option (Int32 × HH)) (x3 : Int32) : ∀ m i n, i + m = R 0 + 1 → m < n → lq2 (fX8_mostOfOneAnswer_L23 kk 0 (nI (DS R)) (nI w) x3 (nI f)) n (nI (smk R w f i)) (nI i) h = kk (nI (smk R w f (R 0 + 1))) h := by
  have k := isKb_D C.2.1
  have v := C.2.2.2.2.1
  have vF := v.F
  have q := v.qk hf
  intro m
  induction m with
  | zero =>
    intro i n e hn
    obtain ⟨n, rfl⟩ : ∃ q, n = q + 1 := ⟨n - 1, by omega⟩
    have : i = R 0 + 1 := by omega
    subst this
    have n1 : R 0 < R 0 + 1 := by omega
    simp (disch := omega) only [lI, lJ, gd_1, bd_1, bv_1, nm_1, ixN, inbN, eqN, leN, ltN, eqL, leL, ltL, beqN, beqL, nI_add, pk_mul, lN_add, lN_mul, nI_l, lN_i, pk_div, pk_lDiv, pk_sub, lN_sub, remN, remL, neg1, neg2, negL, negL2, M1e, M1f, M1g, M1h, M1i, M1j, M2e, M2f, L1g, L1h, L1i, L1j, les_eq, les_e, les_n, les_m, cond_true, cond_false, if_true, if_false, fX8_refuse, fX8_allow, fX8_allow_, Nat.not_lt_zero, Nat.reduceAdd, Nat.reduceLT, Nat.reduceLeDiff, Nat.reduceEqDiff, decide_false, decide_true, Bool.not_false, Bool.not_true, C.1, k, lq2, fX8_mostOfOneAnswer_L23, C.2.2.2.1.2.2.1.1, n1]
  | succ m ih =>
    intro i n e hn
    obtain ⟨n, rfl⟩ : ∃ q, n = q + 1 := ⟨n - 1, by omega⟩
    have n1 : ¬ R 0 < i := by omega
    have key := ih (i + 1) n (by omega) (by omega)
    have b := bit2N f (by omega) i (by omega) (DS R) (DS_lt v)
    rw [DS_bit v hf, DS_bit v (f := i) (by omega)] at b
    have sh := cShr C.2.2.2.1 v (w := w) (f := f) (t := 0) (by omega) hf (by omega)
    have si := cShr C.2.2.2.1 v (w := w) (f := i) (t := 0) (by omega) (by omega) (by omega)
    rw [rt_0] at sh si
    have d1 := Nat.div_le_self w (qk R f)
    have d2 := Nat.div_le_self w (qk R i)
    have z : ¬ (0 : Nat) = 1 := by omega
    cases hp : dp R f
    · rw [show smk R w f (i + 1) = smk R w f i by simp [smk, smc, hp]] at key
      rw [hp] at b
      simp only [cond_false, Nat.zero_mul] at b
      simp (disch := omega) only [lI, lJ, gd_1, bd_1, bv_1, nm_1, ixN, inbN, eqN, leN, ltN, eqL, leL, ltL, beqN, beqL, nI_add, pk_mul, lN_add, lN_mul, nI_l, lN_i, pk_div, pk_lDiv, pk_sub, lN_sub, remN, remL, neg1, neg2, negL, negL2, M1e, M1f, M1g, M1h, M1i, M1j, M2e, M2f, L1g, L1h, L1i, L1j, les_eq, les_e, les_n, les_m, cond_true, cond_false, if_true, if_false, fX8_refuse, fX8_allow, fX8_allow_, Nat.not_lt_zero, Nat.reduceAdd, Nat.reduceLT, Nat.reduceLeDiff, Nat.reduceEqDiff, decide_false, decide_true, Bool.not_false, Bool.not_true, C.1, k, lq2, fX8_mostOfOneAnswer_L23, C.2.2.2.1.2.2.1.1, n1, b, z]
      exact key
    · cases hq : dp R i
      · rw [show smk R w f (i + 1) = smk R w f i by simp [smk, smc, hq]] at key
        rw [hp, hq] at b
        simp only [cond_false, Nat.mul_zero] at b
        simp (disch := omega) only [lI, lJ, gd_1, bd_1, bv_1, nm_1, ixN, inbN, eqN, leN, ltN, eqL, leL, ltL, beqN, beqL, nI_add, pk_mul, lN_add, lN_mul, nI_l, lN_i, pk_div, pk_lDiv, pk_sub, lN_sub, remN, remL, neg1, neg2, negL, negL2, M1e, M1f, M1g, M1h, M1i, M1j, M2e, M2f, L1g, L1h, L1i, L1j, les_eq, les_e, les_n, les_m, cond_true, cond_false, if_true, if_false, fX8_refuse, fX8_allow, fX8_allow_, Nat.not_lt_zero, Nat.reduceAdd, Nat.reduceLT, Nat.reduceLeDiff, Nat.reduceEqDiff, decide_false, decide_true, Bool.not_false, Bool.not_true, C.1, k, lq2, fX8_mostOfOneAnswer_L23, C.2.2.2.1.2.2.1.1, n1, b, z]
        exact key
      · rw [hp, hq] at b
        simp only [cond_true, Nat.mul_one] at b
        by_cases c : w / qk R f = w / qk R i
        · rw [show smk R w f (i + 1) = smk R w f i + 1 by simp [smk, smc, hp, hq, c]] at key
          simp (disch := omega) only [lI, lJ, gd_1, bd_1, bv_1, nm_1, ixN, inbN, eqN, leN, ltN, eqL, leL, ltL, beqN, beqL, nI_add, pk_mul, lN_add, lN_mul, nI_l, lN_i, pk_div, pk_lDiv, pk_sub, lN_sub, remN, remL, neg1, neg2, negL, negL2, M1e, M1f, M1g, M1h, M1i, M1j, M2e, M2f, L1g, L1h, L1i, L1j, les_eq, les_e, les_n, les_m, cond_true, cond_false, if_true, if_false, fX8_refuse, fX8_allow, fX8_allow_, Nat.not_lt_zero, Nat.reduceAdd, Nat.reduceLT, Nat.reduceLeDiff, Nat.reduceEqDiff, decide_false, decide_true, Bool.not_false, Bool.not_true, C.1, k, lq2, fX8_mostOfOneAnswer_L23, C.2.2.2.1.2.2.1.1, n1, b, sh, si, eq_true c]
          exact key
        · rw [show smk R w f (i + 1) = smk R w f i by simp [smk, smc, hp, hq, c]] at key
          simp (disch := omega) only [lI, lJ, gd_1, bd_1, bv_1, nm_1, ixN, inbN, eqN, leN, ltN, eqL, leL, ltL, beqN, beqL, nI_add, pk_mul, lN_add, lN_mul, nI_l, lN_i, pk_div, pk_lDiv, pk_sub, lN_sub, remN, remL, neg1, neg2, negL, negL2, M1e, M1f, M1g, M1h, M1i, M1j, M2e, M2f, L1g, L1h, L1i, L1j, les_eq, les_e, les_n, les_m, cond_true, cond_false, if_true, if_false, fX8_refuse, fX8_allow, fX8_allow_, Nat.not_lt_zero, Nat.reduceAdd, Nat.reduceLT, Nat.reduceLeDiff, Nat.reduceEqDiff, decide_false, decide_true, Bool.not_false, Bool.not_true, C.1, k, lq2, fX8_mostOfOneAnswer_L23, C.2.2.2.1.2.2.1.1, n1, b, sh, si, c]
          exact key
set_option maxRecDepth 100000 in
theorem cMost (C : CA h d R N T) {w : Nat} (hw : w ≤ 20736) : fX8_mostOfOneAnswer 0 (nI (DS R)) (nI w) h = some (nI (mstk R w (R 0 + 1)), h) := by
  have k := isKb_D C.2.1
  have v := C.2.2.2.2.1
  have vF := v.F
  have main : ∀ m i n, i + m = R 0 + 1 → m < n → lq2 (fX8_mostOfOneAnswer_L5 0 (nI (DS R)) (nI w)) n (nI (mstk R w i)) (nI i) h = some (nI (mstk R w (R 0 + 1)), h) := by
    intro m
    induction m with
    | zero =>
      intro i n e hn
      obtain ⟨n, rfl⟩ : ∃ q, n = q + 1 := ⟨n - 1, by omega⟩
      have : i = R 0 + 1 := by omega
      subst this
      have n1 : R 0 < R 0 + 1 := by omega
      simp (disch := omega) only [lI, lJ, gd_1, bd_1, bv_1, nm_1, ixN, inbN, eqN, leN, ltN, eqL, leL, ltL, beqN, beqL, nI_add, pk_mul, lN_add, lN_mul, nI_l, lN_i, pk_div, pk_lDiv, pk_sub, lN_sub, remN, remL, neg1, neg2, negL, negL2, M1e, M1f, M1g, M1h, M1i, M1j, M2e, M2f, L1g, L1h, L1i, L1j, les_eq, les_e, les_n, les_m, cond_true, cond_false, if_true, if_false, fX8_refuse, fX8_allow, fX8_allow_, Nat.not_lt_zero, Nat.reduceAdd, Nat.reduceLT, Nat.reduceLeDiff, Nat.reduceEqDiff, decide_false, decide_true, Bool.not_false, Bool.not_true, C.1, k, lq2, fX8_mostOfOneAnswer_L5, C.2.2.2.1.2.2.1.1, n1]
    | succ m ih =>
      intro i n e hn
      obtain ⟨n, rfl⟩ : ∃ q, n = q + 1 := ⟨n - 1, by omega⟩
      have n1 : ¬ R 0 < i := by omega
      have key := ih (i + 1) n (by omega) (by omega)
      have b1 := mstk_le R w i
      have b2 := smk_le R w i (R 0 + 1)
      have s := cSame C hw (f := i) (by omega) (fun x5 h => nm (jmmax (nI (mstk R w i)) x5) (fun y5 => lq2 (fX8_mostOfOneAnswer_L5 0 (nI (DS R)) (nI w)) n y5 (nI i + 1) h)) (nI (mstk R w i)) (R 0 + 1) 0 FU (by omega) (by unfold FU; omega)
      simp only [nm_1, maxN (show mstk R w i < 2 ^ 31 by omega) (show smk R w i (R 0 + 1) < 2 ^ 31 by omega), nI_1] at s
      simp only [lq2, fX8_mostOfOneAnswer_L5, C.1, k, gd_1, C.2.2.2.1.2.2.1.1, ltN (show R 0 < 2 ^ 31 by omega) (show i < 2 ^ 31 by omega), n1, if_false, nm_1, nI_1]
      exact s.trans key
  exact main (R 0 + 1) 0 FU (by omega) (by unfold FU; omega)
set_option maxRecDepth 100000 in
theorem mSame {g : HH} (v : VR R) (M : MRep g R) {w f : Nat} (hw : w ≤ 9999) (hf : f ≤ R 0) (kk : Int32 → HH → Option (Int32 × HH)) (x2 x4 : Int32) : ∀ m i n, i + m = R 0 + 1 → m < n → lq2 (fX9_askOf_L41 kk 181 (nI (DS R)) x2 (nI w) x4 (nI f)) n (nI (smk R w f i)) (nI i) g = kk (nI (smk R w f (R 0 + 1))) g := by
  have vF := v.F
  have q := v.qk hf
  intro m
  induction m with
  | zero =>
    intro i n e hn
    obtain ⟨n, rfl⟩ : ∃ q, n = q + 1 := ⟨n - 1, by omega⟩
    have : i = R 0 + 1 := by omega
    subst this
    have n1 : R 0 < R 0 + 1 := by omega
    simp (disch := omega) only [lI, lJ, gd_1, bd_1, bv_1, nm_1, ixN, inbN, eqN, leN, ltN, eqL, leL, ltL, beqN, beqL, nI_add, pk_mul, lN_add, lN_mul, nI_l, lN_i, pk_div, pk_lDiv, pk_sub, lN_sub, remN, remL, neg1, neg2, negL, negL2, M1e, M1f, M1g, M1h, M1i, M1j, M2e, M2f, L1g, L1h, L1i, L1j, les_eq, les_e, les_n, les_m, lq2, fX9_askOf_L41, Nat.reduceAdd, M 0, n1, if_true]
  | succ m ih =>
    intro i n e hn
    obtain ⟨n, rfl⟩ : ∃ q, n = q + 1 := ⟨n - 1, by omega⟩
    have n1 : ¬ R 0 < i := by omega
    have key := ih (i + 1) n (by omega) (by omega)
    have q2 := v.qk (f := i) (by omega)
    have z1 : ¬ qk R f = 0 := by omega
    have z2 : ¬ qk R i = 0 := by omega
    have d1 := Nat.div_le_self w (qk R f)
    have d2 := Nat.div_le_self w (qk R i)
    cases hp : dp R f
    · rw [show smk R w f (i + 1) = smk R w f i by simp [smk, smc, hp]] at key
      simp (disch := omega) only [lI, lJ, gd_1, bd_1, bv_1, nm_1, ixN, inbN, eqN, leN, ltN, eqL, leL, ltL, beqN, beqL, nI_add, pk_mul, lN_add, lN_mul, nI_l, lN_i, pk_div, pk_lDiv, pk_sub, lN_sub, remN, remL, neg1, neg2, negL, negL2, M1e, M1f, M1g, M1h, M1i, M1j, M2e, M2f, L1g, L1h, L1i, L1j, les_eq, les_e, les_n, les_m, lq2, fX9_askOf_L41, Nat.reduceAdd, M 0, n1, if_false, mHas v hf, hp, cond_false, Nat.add_zero]
      exact key
    · cases hq : dp R i
      · rw [show smk R w f (i + 1) = smk R w f i by simp [smk, smc, hq]] at key
        simp (disch := omega) only [lI, lJ, gd_1, bd_1, bv_1, nm_1, ixN, inbN, eqN, leN, ltN, eqL, leL, ltL, beqN, beqL, nI_add, pk_mul, lN_add, lN_mul, nI_l, lN_i, pk_div, pk_lDiv, pk_sub, lN_sub, remN, remL, neg1, neg2, negL, negL2, M1e, M1f, M1g, M1h, M1i, M1j, M2e, M2f, L1g, L1h, L1i, L1j, les_eq, les_e, les_n, les_m, lq2, fX9_askOf_L41, Nat.reduceAdd, M 0, n1, if_false, mHas v hf, mHas v (f := i) (by omega), hp, hq, cond_true, cond_false, Nat.add_zero]
        exact key
      · by_cases c : w / qk R f = w / qk R i
        · rw [show smk R w f (i + 1) = smk R w f i + 1 by simp [smk, smc, hp, hq, c]] at key
          simp (disch := omega) only [lI, lJ, gd_1, bd_1, bv_1, nm_1, ixN, inbN, eqN, leN, ltN, eqL, leL, ltL, beqN, beqL, nI_add, pk_mul, lN_add, lN_mul, nI_l, lN_i, pk_div, pk_lDiv, pk_sub, lN_sub, remN, remL, neg1, neg2, negL, negL2, M1e, M1f, M1g, M1h, M1i, M1j, M2e, M2f, L1g, L1h, L1i, L1j, les_eq, les_e, les_n, les_m, lq2, fX9_askOf_L41, Nat.reduceAdd, M 0, n1, if_false, mHas v hf, mHas v (f := i) (by omega), hp, hq, cond_true, mQuick M (f := f) (by omega), mQuick M (f := i) (by omega), z1, z2, decide_false, Bool.not_false, eq_true c, if_true]
          exact key
        · rw [show smk R w f (i + 1) = smk R w f i by simp [smk, smc, hp, hq, c]] at key
          simp (disch := omega) only [lI, lJ, gd_1, bd_1, bv_1, nm_1, ixN, inbN, eqN, leN, ltN, eqL, leL, ltL, beqN, beqL, nI_add, pk_mul, lN_add, lN_mul, nI_l, lN_i, pk_div, pk_lDiv, pk_sub, lN_sub, remN, remL, neg1, neg2, negL, negL2, M1e, M1f, M1g, M1h, M1i, M1j, M2e, M2f, L1g, L1h, L1i, L1j, les_eq, les_e, les_n, les_m, lq2, fX9_askOf_L41, Nat.reduceAdd, M 0, n1, if_false, mHas v hf, mHas v (f := i) (by omega), hp, hq, cond_true, mQuick M (f := f) (by omega), mQuick M (f := i) (by omega), z1, z2, decide_false, Bool.not_false, c, Nat.add_zero]
          exact key
set_option maxRecDepth 100000 in
theorem mMost {g : HH} (v : VR R) (M : MRep g R) {w : Nat} (hw : w ≤ 9999) (kk : Int32 → HH → Option (Int32 × HH)) (x2 : Int32) : ∀ m i n, i + m = R 0 + 1 → m < n → lq2 (fX9_askOf_L24 kk 181 (nI (DS R)) x2 (nI w)) n (nI (mstk R w i)) (nI i) g = kk (nI (mstk R w (R 0 + 1))) g := by
  have vF := v.F
  intro m
  induction m with
  | zero =>
    intro i n e hn
    obtain ⟨n, rfl⟩ : ∃ q, n = q + 1 := ⟨n - 1, by omega⟩
    have : i = R 0 + 1 := by omega
    subst this
    have n1 : R 0 < R 0 + 1 := by omega
    simp (disch := omega) only [lI, lJ, gd_1, bd_1, bv_1, nm_1, ixN, inbN, eqN, leN, ltN, eqL, leL, ltL, beqN, beqL, nI_add, pk_mul, lN_add, lN_mul, nI_l, lN_i, pk_div, pk_lDiv, pk_sub, lN_sub, remN, remL, neg1, neg2, negL, negL2, M1e, M1f, M1g, M1h, M1i, M1j, M2e, M2f, L1g, L1h, L1i, L1j, les_eq, les_e, les_n, les_m, lq2, fX9_askOf_L24, Nat.reduceAdd, M 0, n1, if_true]
  | succ m ih =>
    intro i n e hn
    obtain ⟨n, rfl⟩ : ∃ q, n = q + 1 := ⟨n - 1, by omega⟩
    have n1 : ¬ R 0 < i := by omega
    have key := ih (i + 1) n (by omega) (by omega)
    have b1 := mstk_le R w i
    have b2 := smk_le R w i (R 0 + 1)
    have s := mSame v M hw (f := i) (by omega) (fun x6 h => if x6 ≤ nI (mstk R w i) then lq2 (fX9_askOf_L24 kk 181 (nI (DS R)) x2 (nI w)) n (nI (mstk R w i)) (nI i + 1) h else lq2 (fX9_askOf_L24 kk 181 (nI (DS R)) x2 (nI w)) n x6 (nI i + 1) h) x2 (nI (mstk R w i)) (R 0 + 1) 0 FU (by omega) (by unfold FU; omega)
    have e0 : inb (0 : Int32) 316 = true := inbN (n := 0) (by omega) (by omega)
    have e1 : ix (0 : Int32) = 0 := ixN (n := 0) (by omega)
    simp only [lq2, fX9_askOf_L24, Nat.reduceAdd, e0, gd_1, e1, M 0 (by omega), ltN (show R 0 < 2 ^ 31 by omega) (show i < 2 ^ 31 by omega), n1, if_false]
    refine s.trans ?_
    simp only [leN (show smk R w i (R 0 + 1) < 2 ^ 31 by omega) (show mstk R w i < 2 ^ 31 by omega), nI_1]
    by_cases c : smk R w i (R 0 + 1) ≤ mstk R w i
    · rw [if_pos c]
      rw [show mstk R w (i + 1) = mstk R w i by simp only [mstk]; omega] at key
      exact key
    · rw [if_neg c]
      rw [show mstk R w (i + 1) = smk R w i (R 0 + 1) by simp only [mstk]; omega] at key
      exact key
/-! the fewest words are those of the quick of the one but lowest -/
set_option maxRecDepth 100000 in
theorem smk_ge {n f g : Nat} (hc : smc R n f g = true) : ∀ i, g < i → 1 ≤ smk R n f i := by
  intro i
  induction i with
  | zero => intro h; omega
  | succ i ih =>
    intro h
    unfold smk
    rcases Nat.lt_or_ge g i with z | z
    · have := ih z; omega
    · have : g = i := by omega
      subst this; rw [hc]; simp
set_option maxRecDepth 100000 in
theorem smk_ge2 {n f g g' : Nat} (hc : smc R n f g = true) (hc' : smc R n f g' = true) (hgg : g < g') : ∀ i, g' < i → 2 ≤ smk R n f i := by
  intro i
  induction i with
  | zero => intro h; omega
  | succ i ih =>
    intro h
    unfold smk
    rcases Nat.lt_or_ge g' i with z | z
    · have := ih z; omega
    · have : g' = i := by omega
      subst this
      have := smk_ge hc g' hgg
      rw [hc']; simp only [cond_true]; omega
set_option maxRecDepth 100000 in
theorem smk_le1 {n f : Nat} (hc : ∀ g, g ≤ R 0 → smc R n f g = true → g = f) : ∀ i, i ≤ R 0 + 1 → smk R n f i ≤ (if f < i then 1 else 0) := by
  intro i
  induction i with
  | zero => intro _; simp [smk]
  | succ i ih =>
    intro hi
    have h1 := ih (by omega)
    unfold smk
    cases hs : smc R n f i
    · simp only [cond_false, Nat.add_zero]
      refine Nat.le_trans h1 ?_
      split <;> split <;> omega
    · have := hc i (by omega) hs
      subst this
      simp only [Nat.lt_irrefl, if_false] at h1
      simp only [cond_true]
      rw [if_pos (by omega)]
      omega
set_option maxRecDepth 100000 in
theorem mstk_ge {n f : Nat} (x : Nat) (hx : x ≤ smk R n f (R 0 + 1)) : ∀ i, f < i → x ≤ mstk R n i := by
  intro i
  induction i with
  | zero => intro h; omega
  | succ i ih =>
    intro h
    unfold mstk
    rcases Nat.lt_or_ge f i with z | z
    · have := ih z; omega
    · have : f = i := by omega
      subst this; omega
set_option maxRecDepth 100000 in
theorem mstk_le1 {n : Nat} (hx : ∀ f, f ≤ R 0 → smk R n f (R 0 + 1) ≤ 1) : ∀ i, i ≤ R 0 + 1 → mstk R n i ≤ 1
  | 0, _ => Nat.zero_le _
  | i + 1, h => by have h1 := mstk_le1 hx i (by omega); have h2 := hx i (by omega); unfold mstk; omega
set_option maxRecDepth 100000 in
theorem few_spec (v : VR R) (h2 : 2 ≤ dcn R (R 0 + 1)) : ∃ b, (lw R (R 0 + 1)).2 = b + 1 ∧ b < R 0 ∧ (∀ n, 1 ≤ mstk R n (R 0 + 1)) ∧ (∀ n, n < qk R b → 2 ≤ mstk R n (R 0 + 1)) ∧ mstk R (qk R b) (R 0 + 1) = 1 := by
  obtain ⟨l1, l2, l3, l4, l5, l6, l7⟩ := lw_spec R (R 0 + 1)
  obtain ⟨b, hb⟩ : ∃ b, (lw R (R 0 + 1)).2 = b + 1 := ⟨(lw R (R 0 + 1)).2 - 1, by have := l7 h2; omega⟩
  obtain ⟨a, ha⟩ : ∃ a, (lw R (R 0 + 1)).1 = a + 1 := ⟨(lw R (R 0 + 1)).1 - 1, by have := l6 (by omega); omega⟩
  have da := l3 a ha
  obtain ⟨db, hba⟩ := l4 b hb
  have hb0 : b < R 0 := by omega
  have qb := v.qk (f := b) (by omega)
  have self : ∀ n f, dp R f = true → smc R n f f = true := fun n f hf => by simp [smc, hf]
  have one : ∀ n, 1 ≤ mstk R n (R 0 + 1) := fun n => mstk_ge 1 (smk_ge (self n a da) (R 0 + 1) (by omega)) (R 0 + 1) (f := a) (by omega)
  have q2 : ∀ f g, f < g → g ≤ R 0 → 2 * qk R f ≤ qk R g := fun f g hfg hg => by
    obtain ⟨m1, m2⟩ := rt_mul v (u := f) (l := g) (by omega) hg
    have : 2 ≤ rt R f g := Nat.le_trans (by have := Nat.pow_le_pow_right (show 0 < 2 by omega) (show 1 ≤ g - f by omega); omega) m2
    rw [m1, Nat.mul_comm 2]
    exact Nat.mul_le_mul_left _ this
  refine ⟨b, hb, hb0, one, fun n hn => ?_, ?_⟩
  · have := q2 b a (by omega) (by omega)
    have c1 : smc R n a b = true := by
      simp only [smc, da, db, Bool.true_and, decide_eq_true_eq]
      rw [Nat.div_eq_of_lt (by omega), Nat.div_eq_of_lt hn]
    exact mstk_ge 2 (smk_ge2 c1 (self n a da) (by omega) (R 0 + 1) (by omega)) (R 0 + 1) (f := a) (by omega)
  · have inj : ∀ f g, f < g → g ≤ R 0 → dp R f = true → dp R g = true → ¬ qk R b / qk R f = qk R b / qk R g := by
      intro f g hfg hg hf hg2 e
      have qf := v.qk (f := f) (by omega)
      have qg := v.qk (f := g) hg
      have hqq := q2 f g hfg hg
      rcases l5 f (by omega) hf with y | y
      · have : f = a := by omega
        subst this
        rcases l5 g (by omega) hg2 with w | w <;> omega
      · have hfb : f ≤ b := by omega
        have hle : qk R f ≤ qk R b := by
          rcases Nat.lt_or_ge f b with u | u
          · have := q2 f b u (by omega); omega
          · have : f = b := by omega
            subst this; exact Nat.le_refl _
        have p1 : 1 ≤ qk R b / qk R f := Nat.div_pos hle (by omega)
        have p2 := Nat.div_mul_le_self (qk R b) (qk R g)
        have p3 := Nat.div_add_mod (qk R b) (qk R f)
        have p4 := Nat.mod_lt (qk R b) (show 0 < qk R f by omega)
        rw [← e] at p2
        have p5 : qk R b / qk R f * (2 * qk R f) ≤ qk R b / qk R f * qk R g := Nat.mul_le_mul_left _ hqq
        have p6 : qk R b / qk R f * (2 * qk R f) = 2 * (qk R f * (qk R b / qk R f)) := by rw [Nat.mul_left_comm, Nat.mul_comm (qk R b / qk R f)]
        have p7 : qk R f * 1 ≤ qk R f * (qk R b / qk R f) := Nat.mul_le_mul_left _ p1
        omega
    have le1 : mstk R (qk R b) (R 0 + 1) ≤ 1 := mstk_le1 (fun f hf => Nat.le_trans (smk_le1 (fun g hg hs => ?_) (R 0 + 1) (Nat.le_refl _)) (by split <;> omega)) (R 0 + 1) (Nat.le_refl _)
    · have := one (qk R b); omega
    · simp only [smc, Bool.and_eq_true, decide_eq_true_eq] at hs
      obtain ⟨⟨s1, s2⟩, s3⟩ := hs
      rcases Nat.lt_or_ge f g with z | z
      · exact absurd s3 (inj f g z hg s1 s2)
      · rcases Nat.lt_or_ge g f with y | y
        · exact absurd s3.symm (inj g f y hf s2 s1)
        · omega
set_option maxRecDepth 100000 in
theorem mAsk (v : VR R) {b : Nat} (hb : b < R 0) (s1 : ∀ n, 1 ≤ mstk R n (R 0 + 1)) (s2 : ∀ n, n < qk R b → 2 ≤ mstk R n (R 0 + 1)) (s3 : mstk R (qk R b) (R 0 + 1) = 1) (hq : qk R b ≤ 9999) : ∀ m i n (g : HH) (x : Int32) am, i + m = 10000 → m < n → MA g R N T → gI g 181 39 = nI am → am < 2 ^ 31 → (i ≤ qk R b → 2 ≤ am) → (qk R b < i → am = 1 ∧ x = nI (qk R b)) → ∃ g', lq2 (fX9_askOf_L11 181 (nI (DS R))) n x (nI i) g = some (nI (qk R b), g') ∧ gI g' 181 39 = nI 1 ∧ Keep PM g g' ∧ gI g' 181 11 = gI g 181 11 := by
  have vF := v.F
  intro m
  induction m with
  | zero =>
    intro i n g x am e hn Mg h39 ham p1 p2
    obtain ⟨n, rfl⟩ : ∃ q, n = q + 1 := ⟨n - 1, by omega⟩
    obtain ⟨a1, a2⟩ := p2 (by omega)
    subst a1 a2
    have n1 : 9999 < i := by omega
    refine ⟨g, ?_, h39, Keep.rfl, rfl⟩
    simp (disch := omega) only [lI, lJ, gd_1, bd_1, bv_1, nm_1, ixN, inbN, eqN, leN, ltN, eqL, leL, ltL, beqN, beqL, nI_add, pk_mul, lN_add, lN_mul, nI_l, lN_i, pk_div, pk_lDiv, pk_sub, lN_sub, remN, remL, neg1, neg2, negL, negL2, M1e, M1f, M1g, M1h, M1i, M1j, M2e, M2f, L1g, L1h, L1i, L1j, les_eq, les_e, les_n, les_m, lq2, fX9_askOf_L11, n1, if_true]
  | succ m ih =>
    intro i n g x am e hn Mg h39 ham p1 p2
    obtain ⟨n, rfl⟩ : ∃ q, n = q + 1 := ⟨n - 1, by omega⟩
    have n1 : ¬ 9999 < i := by omega
    have b1 := mstk_le R i (R 0 + 1)
    have ms := mMost (g := g) v Mg.2.1 (w := i) (by omega) (fun x4 h => if x4 < gI h 181 39 then lq2 (fX9_askOf_L11 181 (nI (DS R))) n (nI i) (nI i + 1) (sI h 181 39 x4) else lq2 (fX9_askOf_L11 181 (nI (DS R))) n x (nI i + 1) h) x (R 0 + 1) 0 FU (by omega) (by unfold FU; omega)
    have e9 : (9999 : Int32) = nI 9999 := rfl
    have hgo : lq2 (fX9_askOf_L11 181 (nI (DS R))) (n + 1) x (nI i) g = if mstk R i (R 0 + 1) < am then lq2 (fX9_askOf_L11 181 (nI (DS R))) n (nI i) (nI (i + 1)) (sI g 181 39 (nI (mstk R i (R 0 + 1)))) else lq2 (fX9_askOf_L11 181 (nI (DS R))) n x (nI (i + 1)) g := by
      simp only [lq2, fX9_askOf_L11, e9, ltN (show 9999 < 2 ^ 31 by omega) (show i < 2 ^ 31 by omega), n1, if_false]
      refine ms.trans ?_
      simp only [h39, ltN (show mstk R i (R 0 + 1) < 2 ^ 31 by omega) ham, nI_1]
    rw [hgo]
    have K : Keep PM g (sI g 181 39 (nI (mstk R i (R 0 + 1)))) := Keep.rfl.sI (by unfold PM; omega)
    by_cases c : mstk R i (R 0 + 1) < am
    · rw [if_pos c]
      have c2 : i ≤ qk R b := by
        rcases Nat.lt_or_ge (qk R b) i with z | z
        · have := (p2 z).1; have := s1 i; omega
        · exact z
      obtain ⟨g', i1, i2, i3, i4⟩ := ih (i + 1) n (sI g 181 39 (nI (mstk R i (R 0 + 1)))) (nI i) (mstk R i (R 0 + 1)) (by omega) (by omega) (Mg.keep K) (by rw [gI_sI, if_pos ⟨rfl, rfl⟩]) (by omega) (fun z => s2 i (by omega)) (fun z => by
        have : i = qk R b := by omega
        rw [this]; exact ⟨s3, rfl⟩)
      refine ⟨g', i1, i2, K.trans i3, i4.trans ?_⟩
      rw [gI_sI, if_neg (by omega)]
    · rw [if_neg c]
      obtain ⟨g', i1, i2, i3, i4⟩ := ih (i + 1) n g x am (by omega) (by omega) Mg h39 ham (fun z => p1 (by omega)) (fun z => by
        rcases Nat.lt_or_ge (qk R b) i with y | y
        · exact p2 y
        · have : i = qk R b := by omega
          have h9 := p1 y
          rw [this, s3] at c
          omega)
      exact ⟨g', i1, i2, i3, i4⟩
set_option maxRecDepth 100000 in
theorem askQ (v : VR R) {b : Nat} (hb : b < R 0) : qk R b ≤ 9999 := by
  have := qk_pow v b (by omega)
  have vF := v.F
  have h2 : 12 ^ b ≤ 12 ^ 3 := Nat.pow_le_pow_right (by omega) (by omega)
  exact Nat.le_trans this (Nat.le_trans h2 (by decide))
set_option maxRecDepth 100000 in
theorem mAskF (v : VR R) (h2 : 2 ≤ dcn R (R 0 + 1)) {b : Nat} (hb : (lw R (R 0 + 1)).2 = b + 1) {g : HH} (Mg : MA g R N T) : ∃ g', fX9_askOf 181 (nI (DS R)) g = some (nI (qk R b), g') ∧ gI g' 181 39 = nI 1 ∧ Keep PM g g' ∧ gI g' 181 11 = gI g 181 11 := by
  obtain ⟨b', hb', hb0, s1, s2, s3⟩ := few_spec v h2
  have : b' = b := by omega
  subst this
  have K : Keep PM g (sI g 181 39 (nI 1000000)) := Keep.rfl.sI (by unfold PM; omega)
  obtain ⟨g', i1, i2, i3, i4⟩ := mAsk v hb0 s1 s2 s3 (askQ v hb0) 9999 1 FU (sI g 181 39 (nI 1000000)) (-1) 1000000 (by omega) (by unfold FU; omega) (Mg.keep K) (by rw [gI_sI, if_pos ⟨rfl, rfl⟩]) (by omega) (fun _ => by omega) (fun z => by have := (v.qk (f := b') (by omega)).1; omega)
  exact ⟨g', i1, i2, K.trans i3, i4.trans (by rw [gI_sI, if_neg (by omega)])⟩
set_option maxRecDepth 100000 in
theorem cFewF (C : CA h d R N T) {b : Nat} (hb : (lw R (R 0 + 1)).2 = b + 1) (hb0 : b < R 0) : fX8_fewestAsked 0 (nI (DS R)) h = some (nI (qk R b), h) := by
  have v := C.2.2.2.2.1
  have vF := v.F
  have := cFew C (R 0 + 1) 0 FU (by omega) (by unfold FU; omega)
  rw [hb, show les M2 (b + 1) = nI b from rfl, cQuick C.2.2.2.1 v (by omega), bd_1] at this
  exact this
set_option maxRecDepth 100000 in
theorem oAsk (C : CA h d R N T) : OpQ h (fX8_ask 0 h) (fun h1 => fX9_ask 181 h1) (fun h1 => MA h1 R N T) := by
  have k := isKb_D C.2.1
  have v := C.2.2.2.2.1
  have vF := v.F
  have z1 : ¬ (1 : Nat) = 0 := by omega
  have z6 : ¬ (6 : Nat) = 0 := by omega
  have hl := DS_lt v
  have bb := bc_all (DS R) hl
  rw [pcs_dcn v] at bb
  have mo : ∀ g, fX9_ones (nI (DS R)) g = some (nI (dcn R (R 0 + 1)), g) := fun g => by rw [mOnes hl, pcs_dcn v]
  have dle : dcn R (R 0 + 1) < 2 ^ 31 := by
    have : ∀ i, dcn R i ≤ i := fun i => by
      induction i with
      | zero => exact Nat.le_refl _
      | succ i ih => unfold dcn; cases dp R i <;> simp <;> omega
    have := this (R 0 + 1); omega
  by_cases c : 2 ≤ dcn R (R 0 + 1)
  · obtain ⟨b, hb, hb0, s1, s2, s3⟩ := few_spec v c
    refine opg (nI (qk R b)) ?_ (fun h1 g Mg hg t0 => ?_)
    · simp (disch := omega) only [lI, lJ, gd_1, bd_1, bv_1, nm_1, ixN, inbN, eqN, leN, ltN, eqL, leL, ltL, beqN, beqL, nI_add, pk_mul, lN_add, lN_mul, nI_l, lN_i, pk_div, pk_lDiv, pk_sub, lN_sub, remN, remL, neg1, neg2, negL, negL2, M1e, M1f, M1g, M1h, M1i, M1j, M2e, M2f, L1g, L1h, L1i, L1j, les_eq, les_e, les_n, les_m, cond_true, cond_false, if_true, if_false, fX8_refuse, fX8_allow, fX8_allow_, Nat.not_lt_zero, Nat.reduceAdd, Nat.reduceLT, Nat.reduceLeDiff, Nat.reduceEqDiff, decide_false, decide_true, Bool.not_false, Bool.not_true, C.1, k, fX8_ask, fX8_whyNotAsk, C.2.2.1, z1, cDeepO C.2.2.2.1 C.2.1 v, bc_eq, bb, c, cFewF C hb hb0]
    · obtain ⟨g', i1, i2, i3, i4⟩ := mAskF v c hb Mg
      refine ⟨g', ?_, i3, i4.trans t0⟩
      simp (disch := omega) only [lI, lJ, gd_1, bd_1, bv_1, nm_1, ixN, inbN, eqN, leN, ltN, eqL, leL, ltL, beqN, beqL, nI_add, pk_mul, lN_add, lN_mul, nI_l, lN_i, pk_div, pk_lDiv, pk_sub, lN_sub, remN, remL, neg1, neg2, negL, negL2, M1e, M1f, M1g, M1h, M1i, M1j, M2e, M2f, L1g, L1h, L1i, L1j, les_eq, les_e, les_n, les_m, cond_true, cond_false, if_true, if_false, fX9_no, hg, Nat.not_lt_zero, Nat.reduceAdd, Nat.reduceLT, Nat.reduceLeDiff, Nat.reduceEqDiff, decide_false, decide_true, Bool.not_false, Bool.not_true, fX9_ask, fX9_askWhy, Mg.1, z1, mDeepO v Mg.2.1, mo, c, i1]
  · refine opr 6 (by omega) (M1) ?_ (fun h1 g Mg hg => ?_)
    · simp (disch := omega) only [lI, lJ, gd_1, bd_1, bv_1, nm_1, ixN, inbN, eqN, leN, ltN, eqL, leL, ltL, beqN, beqL, nI_add, pk_mul, lN_add, lN_mul, nI_l, lN_i, pk_div, pk_lDiv, pk_sub, lN_sub, remN, remL, neg1, neg2, negL, negL2, M1e, M1f, M1g, M1h, M1i, M1j, M2e, M2f, L1g, L1h, L1i, L1j, les_eq, les_e, les_n, les_m, cond_true, cond_false, if_true, if_false, fX8_refuse, fX8_allow, fX8_allow_, Nat.not_lt_zero, Nat.reduceAdd, Nat.reduceLT, Nat.reduceLeDiff, Nat.reduceEqDiff, decide_false, decide_true, Bool.not_false, Bool.not_true, C.1, k, fX8_ask, fX8_whyNotAsk, C.2.2.1, z1, cDeepO C.2.2.2.1 C.2.1 v, bc_eq, bb, c, z6]
    · simp (disch := omega) only [lI, lJ, gd_1, bd_1, bv_1, nm_1, ixN, inbN, eqN, leN, ltN, eqL, leL, ltL, beqN, beqL, nI_add, pk_mul, lN_add, lN_mul, nI_l, lN_i, pk_div, pk_lDiv, pk_sub, lN_sub, remN, remL, neg1, neg2, negL, negL2, M1e, M1f, M1g, M1h, M1i, M1j, M2e, M2f, L1g, L1h, L1i, L1j, les_eq, les_e, les_n, les_m, cond_true, cond_false, if_true, if_false, fX9_no, hg, Nat.not_lt_zero, Nat.reduceAdd, Nat.reduceLT, Nat.reduceLeDiff, Nat.reduceEqDiff, decide_false, decide_true, Bool.not_false, Bool.not_true, fX9_ask, fX9_askWhy, Mg.1, z1, mDeepO v Mg.2.1, mo, c, z6]
set_option maxRecDepth 100000 in
theorem oAskMost (C : CA h d R N T) : OpQ h (fX8_askMost 0 h) (fun h1 => fX9_askMost 181 h1) (fun h1 => MA h1 R N T) := by
  have k := isKb_D C.2.1
  have v := C.2.2.2.2.1
  have vF := v.F
  have z1 : ¬ (1 : Nat) = 0 := by omega
  have z6 : ¬ (6 : Nat) = 0 := by omega
  have hl := DS_lt v
  have bb := bc_all (DS R) hl
  rw [pcs_dcn v] at bb
  have mo : ∀ g, fX9_ones (nI (DS R)) g = some (nI (dcn R (R 0 + 1)), g) := fun g => by rw [mOnes hl, pcs_dcn v]
  have dle : dcn R (R 0 + 1) < 2 ^ 31 := by
    have : ∀ i, dcn R i ≤ i := fun i => by
      induction i with
      | zero => exact Nat.le_refl _
      | succ i ih => unfold dcn; cases dp R i <;> simp <;> omega
    have := this (R 0 + 1); omega
  by_cases c : 2 ≤ dcn R (R 0 + 1)
  · obtain ⟨b, hb, hb0, s1, s2, s3⟩ := few_spec v c
    have cm := cMost C (w := qk R b) (v.qk (f := b) (by omega)).2
    rw [s3] at cm
    refine opg (nI 1) ?_ (fun h1 g Mg hg t0 => ?_)
    · simp (disch := omega) only [lI, lJ, gd_1, bd_1, bv_1, nm_1, ixN, inbN, eqN, leN, ltN, eqL, leL, ltL, beqN, beqL, nI_add, pk_mul, lN_add, lN_mul, nI_l, lN_i, pk_div, pk_lDiv, pk_sub, lN_sub, remN, remL, neg1, neg2, negL, negL2, M1e, M1f, M1g, M1h, M1i, M1j, M2e, M2f, L1g, L1h, L1i, L1j, les_eq, les_e, les_n, les_m, cond_true, cond_false, if_true, if_false, fX8_refuse, fX8_allow, fX8_allow_, Nat.not_lt_zero, Nat.reduceAdd, Nat.reduceLT, Nat.reduceLeDiff, Nat.reduceEqDiff, decide_false, decide_true, Bool.not_false, Bool.not_true, C.1, k, fX8_askMost, fX8_whyNotAsk, C.2.2.1, z1, cDeepO C.2.2.2.1 C.2.1 v, bc_eq, bb, c, cFewF C hb hb0, cm]
    · obtain ⟨g', i1, i2, i3, i4⟩ := mAskF v c hb Mg
      refine ⟨g', ?_, i3, i4.trans t0⟩
      simp (disch := omega) only [lI, lJ, gd_1, bd_1, bv_1, nm_1, ixN, inbN, eqN, leN, ltN, eqL, leL, ltL, beqN, beqL, nI_add, pk_mul, lN_add, lN_mul, nI_l, lN_i, pk_div, pk_lDiv, pk_sub, lN_sub, remN, remL, neg1, neg2, negL, negL2, M1e, M1f, M1g, M1h, M1i, M1j, M2e, M2f, L1g, L1h, L1i, L1j, les_eq, les_e, les_n, les_m, cond_true, cond_false, if_true, if_false, fX9_no, hg, Nat.not_lt_zero, Nat.reduceAdd, Nat.reduceLT, Nat.reduceLeDiff, Nat.reduceEqDiff, decide_false, decide_true, Bool.not_false, Bool.not_true, fX9_askMost, fX9_askWhy, Mg.1, z1, mDeepO v Mg.2.1, mo, c, i1, i2]
  · refine opr 6 (by omega) (M1) ?_ (fun h1 g Mg hg => ?_)
    · simp (disch := omega) only [lI, lJ, gd_1, bd_1, bv_1, nm_1, ixN, inbN, eqN, leN, ltN, eqL, leL, ltL, beqN, beqL, nI_add, pk_mul, lN_add, lN_mul, nI_l, lN_i, pk_div, pk_lDiv, pk_sub, lN_sub, remN, remL, neg1, neg2, negL, negL2, M1e, M1f, M1g, M1h, M1i, M1j, M2e, M2f, L1g, L1h, L1i, L1j, les_eq, les_e, les_n, les_m, cond_true, cond_false, if_true, if_false, fX8_refuse, fX8_allow, fX8_allow_, Nat.not_lt_zero, Nat.reduceAdd, Nat.reduceLT, Nat.reduceLeDiff, Nat.reduceEqDiff, decide_false, decide_true, Bool.not_false, Bool.not_true, C.1, k, fX8_askMost, fX8_whyNotAsk, C.2.2.1, z1, cDeepO C.2.2.2.1 C.2.1 v, bc_eq, bb, c, z6]
    · simp (disch := omega) only [lI, lJ, gd_1, bd_1, bv_1, nm_1, ixN, inbN, eqN, leN, ltN, eqL, leL, ltL, beqN, beqL, nI_add, pk_mul, lN_add, lN_mul, nI_l, lN_i, pk_div, pk_lDiv, pk_sub, lN_sub, remN, remL, neg1, neg2, negL, negL2, M1e, M1f, M1g, M1h, M1i, M1j, M2e, M2f, L1g, L1h, L1i, L1j, les_eq, les_e, les_n, les_m, cond_true, cond_false, if_true, if_false, fX9_no, hg, Nat.not_lt_zero, Nat.reduceAdd, Nat.reduceLT, Nat.reduceLeDiff, Nat.reduceEqDiff, decide_false, decide_true, Bool.not_false, Bool.not_true, fX9_askMost, fX9_askWhy, Mg.1, z1, mDeepO v Mg.2.1, mo, c, z6]
end OPS
