/-! words -/
def SC (w i : Nat) : Nat := ((strb.getD w []).getD i 0).toInt.toNat
def SLn (w : Nat) : Nat := (strb.getD w []).length
def CW (w : Nat) : Nat := cwd (SC w) 0 (SLn w)
def WD (TP : Nat → Nat) (n e w : Nat) : Bool := decide (tK TP n e = 1 ∧ tC TP n e = CW w)
set_option maxRecDepth 100000 in
theorem strT : ∀ w, w < 58 → 1 ≤ (strb.getD w []).length ∧ (strb.getD w []).length ≤ 8 ∧ ∀ i, i < (strb.getD w []).length → (strb.getD w []).getD i 0 = nI (((strb.getD w []).getD i 0).toInt.toNat) ∧ 97 ≤ ((strb.getD w []).getD i 0).toInt.toNat ∧ ((strb.getD w []).getD i 0).toInt.toNat ≤ 122 := by decide +kernel
set_option maxRecDepth 100000 in
theorem SCt {w i : Nat} (hw : w < 58) (hi : i < SLn w) : (strb.getD w []).getD i 0 = nI (SC w i) ∧ 97 ≤ SC w i ∧ SC w i ≤ 122 := (strT w hw).2.2 i hi
set_option maxRecDepth 100000 in
theorem CWlt {w : Nat} (hw : w < 58) : CW w < 2 ^ 63 := by
  have h1 := (strT w hw).2.1
  have h2 : 2 * CW w < 256 ^ SLn w := cwd_lt (SLn w) (fun i hi => by rw [Nat.zero_add]; have := SCt hw hi; omega)
  have h3 : 256 ^ SLn w ≤ 256 ^ 8 := Nat.pow_le_pow_right (by omega) h1
  have h4 : 256 ^ 8 = 2 ^ 64 := by decide
  omega
section WRD
variable {h : HH} {TP : Nat → Nat} {n e : Nat}
set_option maxRecDepth 100000 in
theorem wF (he : e ≤ n) (k1 : tK TP n e = 1) : 1 ≤ tN TP n e ∧ tN TP n e ≤ 8 ∧ (∀ j, j < tN TP n e → 97 ≤ TP (tA TP n e + j) ∧ TP (tA TP n e + j) ≤ 122) ∧ tC TP n e < 2 ^ 63 ∧ tE TP n e = tW TP n e := by
  have hA := tA_le (TP := TP) he
  have hW := tW_le (TP := TP) he
  have key : tA TP n e < n ∧ isL (TP (tA TP n e)) = true ∧ tW TP n e - tA TP n e ≤ 8 ∧ tE TP n e = tW TP n e := by
    unfold tK at k1
    unfold tE
    by_cases c : n ≤ tA TP n e
    · rw [if_pos c] at k1; omega
    · rw [if_neg c] at k1 ⊢
      by_cases c1 : TP (tA TP n e) = 59
      · rw [if_pos c1] at k1; omega
      · rw [if_neg c1] at k1 ⊢
        by_cases c2 : TP (tA TP n e) = 44
        · rw [if_pos c2] at k1; omega
        · rw [if_neg c2] at k1 ⊢
          by_cases c3 : isL (TP (tA TP n e)) = true
          · rw [if_pos c3] at k1 ⊢
            refine ⟨by omega, c3, ?_, rfl⟩
            by_cases c4 : tW TP n e - tA TP n e ≤ 8
            · exact c4
            · rw [if_neg c4] at k1; omega
          · rw [if_neg c3] at k1
            split at k1
            · split at k1 <;> omega
            · omega
  obtain ⟨q1, q2, q3, q4⟩ := key
  have q5 : tA TP n e + 1 ≤ tW TP n e := by
    obtain ⟨m, rfl⟩ : ∃ m, n = m + 1 := ⟨n - 1, by omega⟩
    have e1 : tW TP (m + 1) e = rn TP (m + 1) isL m (tA TP (m + 1) e + 1) := rn_step q1 q2
    have := rn_le (TP := TP) (P := isL) m (tA TP (m + 1) e + 1) (show tA TP (m + 1) e + 1 ≤ m + 1 by omega)
    omega
  have q6 : ∀ j, j < tN TP n e → 97 ≤ TP (tA TP n e + j) ∧ TP (tA TP n e + j) ≤ 122 := fun j hj => by
    unfold tN at hj
    exact of_decide_eq_true (rn_all (TP := TP) (P := isL) n (tA TP n e) (tA TP n e + j) (by omega) (show tA TP n e + j < tW TP n e by omega))
  refine ⟨by unfold tN; omega, q3, q6, ?_, q4⟩
  have h2 : 2 * tC TP n e < 256 ^ tN TP n e := cwd_lt _ (fun i hi => by have := q6 i hi; omega)
  have h3 : 256 ^ tN TP n e ≤ 256 ^ 8 := Nat.pow_le_pow_right (by omega) q3
  have h4 : 256 ^ 8 = 2 ^ 64 := by decide
  omega
set_option maxRecDepth 100000 in
theorem vF (he : e ≤ n) (k1 : tK TP n e = 2) : tV TP n e < 10000 := by
  have hA := tA_le (TP := TP) he
  have hG := tG_le (TP := TP) he
  have key : tG TP n e - tA TP n e ≤ 4 := by
    unfold tK at k1
    by_cases c : n ≤ tA TP n e
    · rw [if_pos c] at k1; omega
    · rw [if_neg c] at k1
      by_cases c1 : TP (tA TP n e) = 59
      · rw [if_pos c1] at k1; omega
      · rw [if_neg c1] at k1
        by_cases c2 : TP (tA TP n e) = 44
        · rw [if_pos c2] at k1; omega
        · rw [if_neg c2] at k1
          by_cases c3 : isL (TP (tA TP n e)) = true
          · rw [if_pos c3] at k1
            split at k1 <;> omega
          · rw [if_neg c3] at k1
            by_cases c5 : isG (TP (tA TP n e)) = true
            · rw [if_pos c5] at k1
              by_cases c4 : tG TP n e - tA TP n e ≤ 4
              · exact c4
              · rw [if_neg c4] at k1; omega
            · rw [if_neg c5] at k1; omega
  have h2 : tV TP n e < 10 ^ (tG TP n e - tA TP n e) := dgv_lt _ (fun i hi => of_decide_eq_true (rn_all (TP := TP) (P := isG) n (tA TP n e) (tA TP n e + i) (by omega) (show tA TP n e + i < tG TP n e by omega)))
  have h3 : 10 ^ (tG TP n e - tA TP n e) ≤ 10 ^ 4 := Nat.pow_le_pow_right (by omega) key
  omega
/-! a token takes a sign -/
set_option maxRecDepth 100000 in
theorem tE_gt (he : e ≤ n) (k5 : tK TP n e ≠ 5) : tA TP n e < tE TP n e := by
  have hA := tA_le (TP := TP) he
  unfold tK at k5
  unfold tE
  by_cases c : n ≤ tA TP n e
  · rw [if_pos c] at k5; omega
  · rw [if_neg c]
    obtain ⟨m, hm⟩ : ∃ m, n = m + 1 := ⟨n - 1, by omega⟩
    have step : ∀ P : Nat → Bool, P (TP (tA TP n e)) = true → tA TP n e < rn TP n P n (tA TP n e) := fun P hp => by
      have e1 : rn TP n P n (tA TP n e) = rn TP n P m (tA TP n e + 1) := (congrArg (fun q => rn TP n P q (tA TP n e)) hm).trans (rn_step (by omega) hp)
      have := rn_le (TP := TP) (P := P) m (tA TP n e + 1) (show tA TP n e + 1 ≤ n by omega)
      omega
    by_cases c1 : TP (tA TP n e) = 59
    · rw [if_pos c1]; omega
    · rw [if_neg c1]
      by_cases c2 : TP (tA TP n e) = 44
      · rw [if_pos c2]; omega
      · rw [if_neg c2]
        by_cases c3 : isL (TP (tA TP n e)) = true
        · rw [if_pos c3]; exact step isL c3
        · rw [if_neg c3]
          by_cases c5 : isG (TP (tA TP n e)) = true
          · rw [if_pos c5]; exact step isG c5
          · rw [if_neg c5]; omega
set_option maxRecDepth 100000 in
theorem cSpL {w : Nat} (hw : w < 58) {c : Nat} (hc : c < 2 ^ 63) (h12 : gL h 2 12 = lN c) : ∀ m i f, i + m = SLn w → m < f → lq2 (fX5_spells_L15 2 w) f (lN (cwd (SC w) 0 i)) (nI i) h = some (decide (c = CW w), h) := by
  have h8 : SLn w ≤ 8 := (strT w hw).2.1
  have el : fJ0_length_8abf5 w h = some (nI (SLn w), h) := rfl
  intro m
  induction m with
  | zero =>
    intro i f h1 hf
    obtain ⟨f, rfl⟩ : ∃ q, f = q + 1 := ⟨f - 1, by omega⟩
    have ei : i = SLn w := by omega
    subst ei
    have ec : cwd (SC w) 0 (SLn w) = CW w := rfl
    have lt := CWlt hw
    have le : (nI (SLn w) ≤ nI (SLn w)) = True := by rw [leN (by omega) (by omega)]; exact eq_true (Nat.le_refl _)
    by_cases z : c = CW w
    · simp only [lq2, fX5_spells_L15, el, bd_1, le, if_true, h12, ec, ← z, decide_true]
    · have z' : (lN (CW w) = lN c) = False := by rw [eqL lt hc]; exact eq_false (fun q => z q.symm)
      simp only [lq2, fX5_spells_L15, el, bd_1, le, if_true, h12, ec, z', if_false, decide_eq_false z]
  | succ m ih =>
    intro i f h1 hf
    obtain ⟨f, rfl⟩ : ∃ q, f = q + 1 := ⟨f - 1, by omega⟩
    have c1 : ¬ SLn w ≤ i := by omega
    obtain ⟨s1, s2, s3⟩ := SCt hw (show i < SLn w by omega)
    have ea : fJ0_charAt_5068e w (nI i) h = some (nI (SC w i), h) := by
      unfold fJ0_charAt_5068e
      rw [show inb (nI i) (strb.getD w []).length = true from inbN (show i < SLn w by omega) (show SLn w < 2 ^ 31 by omega), gd_1, ixN (by omega), s1]
    rw [← ih (i + 1) f (by omega) (by omega)]
    show fX5_spells_L15 2 w (lq2 (fX5_spells_L15 2 w) f) (lN (cwd (SC w) 0 i)) (nI i) h = _
    generalize lq2 (fX5_spells_L15 2 w) f = sf
    unfold fX5_spells_L15
    rw [el, bd_1, if_neg (by rw [leN (by omega) (by omega)]; exact c1), ea, bd_1, nm_1, sh64, nI_l (by omega), or64 (by omega)]
    show sf (lN (cwd (SC w) 0 i * 256 + SC w i)) (nI i + nI 1) h = sf (lN (cwd (SC w) 0 i * 256 + SC w (0 + i))) (nI (i + 1)) h
    rw [Nat.zero_add, nI_add]
set_option maxRecDepth 100000 in
theorem cSpell {w : Nat} (hw : w < 58) (he : e ≤ n) (T1 : TKc h TP n e) : fX5_spells 2 w h = some (WD TP n e w, h) := by
  obtain ⟨-, -, t3, -, t5⟩ := T1
  have kb : tK TP n e ≤ 5 := by
    unfold tK
    (repeat' split) <;> omega
  unfold WD
  by_cases c : tK TP n e = 1
  · have hc := (wF he c).2.2.2.1
    have := cSpL hw hc (t5 c) (SLn w) 0 FU (by omega) (by have h8 : SLn w ≤ 8 := (strT w hw).2.1; unfold FU; omega)
    have e0 : lq2 (fX5_spells_L15 2 w) FU (lN 0) (nI 0) h = some (decide (tC TP n e = CW w), h) := this
    simp (disch := omega) only [lI, lJ, fX5_spells, t3, eqN, eq_true c, if_true, e0, true_and]
  · rw [decide_eq_false (fun z => c z.1)]
    simp (disch := omega) only [lI, fX5_spells, t3, eqN, c, if_false]
set_option maxRecDepth 100000 in
theorem mIsL {w a N : Nat} (hw : w < 58) (hN : N = SLn w) (hTP : ∀ j, j < N → TP (a + j) < 256) (h8 : gI h 181 8 = nI N) (hl : ∀ j, j < N → gI h 183 j = nI (TP (a + j))) : ∀ m i f b, i + m = N → m < f → ∃ r, lq2 (fX9_isWord_L32 181 w) f b (nI i) h = some (r, h) ∧ (r = true ↔ b = true ∧ ∀ j, i ≤ j → j < N → TP (a + j) = SC w j) := by
  have h88 : SLn w ≤ 8 := (strT w hw).2.1
  intro m
  induction m with
  | zero =>
    intro i f b h1 hf
    obtain ⟨f, rfl⟩ : ∃ q, f = q + 1 := ⟨f - 1, by omega⟩
    have c1 : N ≤ i := by omega
    refine ⟨b, ?_, fun z => ⟨z, fun j hj1 hj2 => by omega⟩, fun z => z.1⟩
    simp (disch := omega) only [lq2, fX9_isWord_L32, h8, leN, c1, if_true]
  | succ m ih =>
    intro i f b h1 hf
    obtain ⟨f, rfl⟩ : ∃ q, f = q + 1 := ⟨f - 1, by omega⟩
    have c1 : ¬ N ≤ i := by omega
    have ci : i < N := by omega
    cases b with
    | false =>
      obtain ⟨r, e1, e2⟩ := ih (i + 1) f false (by omega) (by omega)
      refine ⟨r, ?_, fun z => absurd (e2.1 z).1 (fun q => by cases q), fun z => absurd z.1 (fun q => by cases q)⟩
      rw [← e1]
      simp (disch := omega) only [lI, lq2, fX9_isWord_L32, h8, leN, c1, if_false, cond_false, nI_add]
    | true =>
      obtain ⟨s1, s2, s3⟩ := SCt hw (show i < SLn w by omega)
      have ea : fJ0_charAt_5068e w (nI i) h = some (nI (SC w i), h) := by
        unfold fJ0_charAt_5068e
        rw [show inb (nI i) (strb.getD w []).length = true from inbN (show i < SLn w by omega) (show SLn w < 2 ^ 31 by omega), gd_1, ixN (by omega), s1]
      have hb := hTP i ci
      by_cases z : TP (a + i) = SC w i
      · obtain ⟨r, e1, e2⟩ := ih (i + 1) f true (by omega) (by omega)
        refine ⟨r, ?_, fun q => ⟨rfl, fun j hj1 hj2 => ?_⟩, fun q => e2.2 ⟨rfl, fun j hj1 hj2 => q.2 j (by omega) hj2⟩⟩
        · rw [← e1]
          simp (disch := omega) only [lI, lq2, fX9_isWord_L32, h8, leN, c1, if_false, cond_true, gd_1, inbN, ixN, Nat.reduceAdd, ea, bd_1, hl i ci, eqN, eq_true z, if_true, nI_add]
        · by_cases q2 : j = i
          · subst q2; exact z
          · exact (e2.1 q).2 j (by omega) hj2
      · obtain ⟨r, e1, e2⟩ := ih (i + 1) f false (by omega) (by omega)
        refine ⟨r, ?_, fun q => absurd (e2.1 q).1 (fun y => by cases y), fun q => absurd (q.2 i (Nat.le_refl _) ci) z⟩
        rw [← e1]
        simp (disch := omega) only [lI, lq2, fX9_isWord_L32, h8, leN, c1, if_false, cond_true, gd_1, inbN, ixN, Nat.reduceAdd, ea, bd_1, hl i ci, eqN, z, nI_add]
set_option maxRecDepth 100000 in
theorem mIsW {w : Nat} (hw : w < 58) (he : e ≤ n) (T1 : TKm h TP n e) (h13 : gI h 181 13 = nI 0) : fX9_isWord 181 w h = some (WD TP n e w, h) := by
  obtain ⟨-, -, t3, -, t5⟩ := T1
  have kb : tK TP n e ≤ 5 := by
    unfold tK
    (repeat' split) <;> omega
  have h88 : SLn w ≤ 8 := (strT w hw).2.1
  have el : fJ0_length_8abf5 w h = some (nI (SLn w), h) := rfl
  have zz : (nI 0 = nI 0) = True := eq_self _
  unfold WD
  by_cases c : tK TP n e = 1
  · obtain ⟨w1, w2, w3, w4, w5⟩ := wF he c
    obtain ⟨u1, u2⟩ := t5 c
    have g6 : gI h 181 6 = nI 2 := by rw [t3, c]; rfl
    have z2 : (nI 2 = nI 2) = True := eq_self _
    have inj : tC TP n e = CW w → tN TP n e = SLn w ∧ ∀ i, i < tN TP n e → TP (tA TP n e + i) = SC w i := fun q => by
      obtain ⟨r1, r2⟩ := cwd_inj (f := TP) (g := SC w) (a := tA TP n e) (b := 0) (tN TP n e) (SLn w) (fun i hi => by have := w3 i hi; omega) (fun i hi => by rw [Nat.zero_add]; have := SCt hw hi; omega) q
      exact ⟨r1, fun i hi => by have := r2 i hi; rwa [Nat.zero_add] at this⟩
    by_cases c2 : tN TP n e = SLn w
    · obtain ⟨r, e1, e2⟩ := mIsL (h := h) (TP := TP) (a := tA TP n e) hw c2 (fun j hj => by have := w3 j hj; omega) u1 u2 (tN TP n e) 0 FU true (by omega) (by unfold FU; omega)
      have er : decide (tK TP n e = 1 ∧ tC TP n e = CW w) = r := by
        cases r with
        | true =>
          refine decide_eq_true ⟨c, ?_⟩
          have q := (e2.1 rfl).2
          have cc : ∀ k, k ≤ tN TP n e → cwd TP (tA TP n e) k = cwd (SC w) 0 k := by
            intro k
            induction k with
            | zero => intro _; rfl
            | succ k ih =>
              intro hk
              show cwd TP (tA TP n e) k * 256 + TP (tA TP n e + k) = cwd (SC w) 0 k * 256 + SC w (0 + k)
              rw [ih (by omega), q k (by omega) (by omega), Nat.zero_add]
          show cwd TP (tA TP n e) (tN TP n e) = cwd (SC w) 0 (SLn w)
          rw [cc _ (Nat.le_refl _), c2]
        | false =>
          refine decide_eq_false (fun z => ?_)
          have := e2.2 ⟨rfl, fun j _ hj => (inj z.2).2 j hj⟩
          cases this
      rw [er, ← e1]
      simp (disch := omega) only [lI, fX9_isWord, h13, zz, if_true, g6, z2, el, bd_1, u1, eqN, eq_true c2]
    · rw [decide_eq_false (fun z => c2 (inj z.2).1)]
      simp (disch := omega) only [lI, fX9_isWord, h13, zz, if_true, g6, z2, el, bd_1, u1, eqN, c2, if_false]
  · rw [decide_eq_false (fun z => c z.1)]
    have n2 : ¬ tm (tK TP n e) = 2 := by
      unfold tm
      (repeat' split) <;> omega
    have lt : tm (tK TP n e) < 100 := by
      unfold tm
      (repeat' split) <;> omega
    simp (disch := omega) only [lI, fX9_isWord, h13, zz, if_true, t3, eqN, n2, if_false]
end WRD
/-! the words of the class, of the model -/
set_option maxRecDepth 100000 in
theorem CWe : CW 0 = CW 29 ∧ CW 1 = CW 33 ∧ CW 2 = CW 34 ∧ CW 3 = CW 35 ∧ CW 4 = CW 36 ∧ CW 5 = CW 37 ∧ CW 6 = CW 38 ∧ CW 7 = CW 39 ∧ CW 8 = CW 40 ∧ CW 9 = CW 41 ∧ CW 10 = CW 42 ∧ CW 11 = CW 43 ∧ CW 12 = CW 30 ∧ CW 13 = CW 31 ∧ CW 14 = CW 32 ∧ CW 15 = CW 44 ∧ CW 16 = CW 45 ∧ CW 17 = CW 46 ∧ CW 18 = CW 47 ∧ CW 19 = CW 48 ∧ CW 20 = CW 49 ∧ CW 21 = CW 50 ∧ CW 22 = CW 51 ∧ CW 23 = CW 52 ∧ CW 24 = CW 53 ∧ CW 25 = CW 54 ∧ CW 26 = CW 55 ∧ CW 27 = CW 56 ∧ CW 28 = CW 57 := by decide +kernel
/-! no two words of the class are alike -/
set_option maxRecDepth 100000 in
theorem CWn : ∀ i, i < 29 → ∀ j, j < 29 → CW i = CW j → i = j := by decide +kernel
