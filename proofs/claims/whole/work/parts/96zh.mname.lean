/-! the model's names -/
def NML (F : Nat → Nat) : Prop := ∀ m, m < 14 → F (190 + m) ≤ 8 ∧ ∀ j, j < F (190 + m) → 97 ≤ F (204 + 8 * m + j) ∧ F (204 + 8 * m + j) ≤ 122
set_option maxRecDepth 100000 in
theorem NML.upd {F : Nat → Nat} {i v : Nat} (N : NML F) (hi : i < 190) : NML (fu F i v) := fun m hm => by
  rw [fuN _ (by omega)]
  refine ⟨(N m hm).1, fun j hj => ?_⟩
  rw [fuN _ (by omega)]
  exact (N m hm).2 j hj
def cNm (vm : Int32) (K : HH → Option HH) : HH → Option HH := fun g => bv (fX9_newName 181 vm g) K
def cHp (K : Int32 → HH → Option HH) : HH → Option HH := fun g => bd (fX9_headPassed 181 g) K
def cSp (K : Int32 → HH → Option HH) : HH → Option HH := fun g => bd (fX9_sleeperPassed 181 g) K
def cK2 (K : Int32 → HH → Option HH) (s : Int32) : HH → Option HH := fun h => if (gI h 181 13) = 0 then bv (fX9_next 181 h) (fun h109 => K s h109) else some h
def cK1 (K : Int32 → HH → Option HH) (s : Int32) : HH → Option HH := fun h => if 0 ≤ s then cK2 K s h else bv (fX9_wrong 181 1 (gI h 181 4) h) (fun h97 => cK2 K s h97)
def cKd (K : Int32 → HH → Option HH) : HH → Option HH := fun h => bd (fX9_isWord 181 44 h) (fun r33 h33 => bif r33 then cK1 K 0 h33 else bd (fX9_isWord 181 45 h33) (fun r47 h47 => bif r47 then cK1 K 1 h47 else bd (fX9_isWord 181 46 h47) (fun r61 h61 => bif r61 then cK1 K 2 h61 else bd (fX9_isWord 181 47 h61) (fun r75 h75 => bif r75 then cK1 K 3 h75 else cK1 K (-1) h75))))
set_option maxRecDepth 100000 in
theorem orB {α : Type} {a b : Bool} {x y : α} : (bif a then x else (bif b then x else y)) = (bif (a || b) then x else y) := by cases a <;> rfl
section MNM
variable {TP : Nat → Nat} {n e : Nat} {F : Nat → Nat} {g : HH}
set_option maxRecDepth 100000 in
theorem LWm : LW TP n e = (WD TP n e 29 || WD TP n e 33 || WD TP n e 34 || WD TP n e 35 || WD TP n e 36 || WD TP n e 37 || WD TP n e 38 || WD TP n e 39 || WD TP n e 40 || WD TP n e 41 || WD TP n e 42 || WD TP n e 43) := by
  have c : ∀ w w', CW w = CW w' → WD TP n e w = WD TP n e w' := fun w w' q => by unfold WD; rw [q]
  obtain ⟨c0, c1, c2, c3, c4, c5, c6, c7, c8, c9, c10, c11, -⟩ := CWe
  unfold LW
  rw [c 0 29 c0, c 1 33 c1, c 2 34 c2, c 3 35 c3, c 4 36 c4, c 5 37 c5, c 6 38 c6, c 7 39 c7, c 8 40 c8, c 9 41 c9, c 10 42 c10, c 11 43 c11]
set_option maxRecDepth 100000 in
theorem mMust (M : MS TP n g F e) : (nme TP n e = true → fX9_mustName 181 g = some g) ∧ (nme TP n e = false → fX9_mustName 181 g = some (flt g 1 (tA TP n e))) := by
  obtain ⟨kb, -, k2, -⟩ := tmk (kbk (TP := TP) (n := n) (e := e))
  have iw : ∀ w, w < 58 → fX9_isWord 181 w g = some (WD TP n e w, g) := fun w hw => mIsW hw M.2.2.2.2.1 M.2.1 M.2.2.1
  have t3 := M.2.1.2.2.1
  have w1 := wr_ok (g := g) (q := 1) M.2.2.1 (vq := nI 1) rfl M.2.1.1
  have ii : ∀ x : Option HH, (if gI g 181 6 = nI 2 then x else x) = x := fun x => by split <;> rfl
  have key : fX9_mustName 181 g = bif LW TP n e then some (flt g 1 (tA TP n e)) else (if gI g 181 6 = nI 2 then some g else some (flt g 1 (tA TP n e))) := by
    rw [LWm]
    simp only [lI, fX9_mustName, iw _ (show 29 < 58 by omega), iw _ (show 33 < 58 by omega), iw _ (show 34 < 58 by omega), iw _ (show 35 < 58 by omega), iw _ (show 36 < 58 by omega), iw _ (show 37 < 58 by omega), iw _ (show 38 < 58 by omega), iw _ (show 39 < 58 by omega), iw _ (show 40 < 58 by omega), iw _ (show 41 < 58 by omega), iw _ (show 42 < 58 by omega), iw _ (show 43 < 58 by omega), bd_1, w1, bv_1, ii, orB, Bool.or_assoc]
  rw [key, t3]
  unfold nme
  cases LW TP n e with
  | true => exact ⟨fun z => (by rw [Bool.not_true, Bool.and_false] at z; cases z), fun _ => rfl⟩
  | false =>
    rw [cond_false, Bool.not_false, Bool.and_true]
    constructor
    · intro z
      have k := k2.2 (of_decide_eq_true z)
      rw [k, if_pos rfl]
    · intro z
      have k : ¬ tm (tK TP n e) = 2 := fun y => of_decide_eq_false z (k2.1 y)
      rw [if_neg (by rw [eqN (by omega) (by omega)]; exact k)]
/-! letters of a name against those of the token -/
set_option maxRecDepth 100000 in
theorem mF46 {m a N : Nat} (R : FR g F) (hm : m < 14) (h8 : gI g 181 8 = nI N) (hN : N ≤ 8) (hl : ∀ j, j < N → gI g 183 j = nI (TP (a + j))) (hT : ∀ j, j < N → TP (a + j) < 256) (hF : ∀ j, j < N → F (204 + 8 * m + j) < 256) : ∀ q i f, i + q = N → q + 1 < f → ∃ r, (∀ K, lq2 (fX9_find_L46 K 181 (nI m)) f true (nI i) g = K r g) ∧ (r = true ↔ ∀ j, i ≤ j → j < N → F (204 + 8 * m + j) = TP (a + j)) := by
  intro q
  induction q with
  | zero =>
    intro i f h1 hf
    obtain ⟨f, rfl⟩ : ∃ q, f = q + 1 := ⟨f - 1, by omega⟩
    have c1 : N ≤ i := by omega
    refine ⟨true, fun K => ?_, fun _ j _ _ => by omega, fun _ => rfl⟩
    simp (disch := omega) only [lq2, fX9_find_L46, h8, leN, c1, if_true]
  | succ q ih =>
    intro i f h1 hf
    obtain ⟨f, rfl⟩ : ∃ q, f = q + 1 := ⟨f - 1, by omega⟩
    have c1 : ¬ N ≤ i := by omega
    have ci : i < N := by omega
    have r1 := R (204 + 8 * m + i) (by omega)
    have t1 := hT i ci
    have f1 := hF i ci
    by_cases z : F (204 + 8 * m + i) = TP (a + i)
    · obtain ⟨r, e1, e2⟩ := ih (i + 1) f (by omega) (by omega)
      refine ⟨r, fun K => ?_, fun y j j1 j2 => ?_, fun y => e2.2 (fun j j1 j2 => y j (by omega) j2)⟩
      · rw [← e1 K]
        simp (disch := omega) only [lI, lq2, fX9_find_L46, h8, leN, c1, if_false, cond_true, gd_1, pk_mul, nI_add, inbN, ixN, Nat.reduceAdd, r1, hl i ci, eqN, eq_true z, if_true]
      · by_cases q2 : j = i
        · subst q2; exact z
        · exact e2.1 y j (by omega) j2
    · refine ⟨false, fun K => ?_, ⟨fun y => (by cases y), fun y => absurd (y i (Nat.le_refl _) ci) z⟩⟩
      obtain ⟨f, rfl⟩ : ∃ q, f = q + 1 := ⟨f - 1, by omega⟩
      by_cases c2 : N ≤ i + 1
      · simp (disch := omega) only [lI, lq2, fX9_find_L46, h8, leN, c1, if_false, cond_true, gd_1, pk_mul, nI_add, inbN, ixN, Nat.reduceAdd, r1, hl i ci, eqN, z, c2, if_true]
      · simp (disch := omega) only [lI, lq2, fX9_find_L46, h8, leN, c1, if_false, cond_true, cond_false, gd_1, pk_mul, nI_add, inbN, ixN, Nat.reduceAdd, r1, hl i ci, eqN, z, c2]
set_option maxRecDepth 100000 in
theorem mF46f {vm : Int32} {K : Bool → HH → Option (Int32 × HH)} {f : Nat} {vi : Int32} : lq2 (fX9_find_L46 K 181 vm) (f + 1) false vi g = K false g := by
  simp only [lq2, fX9_find_L46, cond_false]
  split <;> rfl
set_option maxRecDepth 100000 in
theorem mFind (M : MS TP n g F e) (k1 : tK TP n e = 1) (N : NML F) : fX9_find 181 g = some (if FD TP n F e = 14 then M1 else nI (FD TP n F e), g) := by
  obtain ⟨w1, w2, w3, w4, w5⟩ := wF M.2.2.2.2.1 k1
  obtain ⟨u1, u2⟩ := M.2.1.2.2.2.2 k1
  have R := M.2.2.2.1
  have loop : ∀ f i fu', i + f = 14 → f < fu' → lq1 (fX9_find_L2 181) fu' (nI i) g = some (if fd F (tC TP n e) f i = 14 then M1 else nI (fd F (tC TP n e) f i), g) := by
    intro f
    induction f with
    | zero =>
      intro i fu' h1 h2
      obtain ⟨fu', rfl⟩ : ∃ q, fu' = q + 1 := ⟨fu' - 1, by omega⟩
      have i14 : i = 14 := by omega
      subst i14
      rfl
    | succ f ih =>
      intro i fu' h1 h2
      obtain ⟨fu', rfl⟩ : ∃ q, fu' = q + 1 := ⟨fu' - 1, by omega⟩
      have c1 : ¬ 14 ≤ i := by omega
      have r1 := R (190 + i) (by omega)
      obtain ⟨s8, sl⟩ := N i (by omega)
      have st : fd F (tC TP n e) (f + 1) i = if 0 < F (190 + i) ∧ nc F i = tC TP n e then i else fd F (tC TP n e) f (i + 1) := rfl
      have nx := ih (i + 1) fu' (by omega) (by omega)
      have ue : lq1 (fX9_find_L2 181) (fu' + 1) (nI i) g = fX9_find_L2 181 (lq1 (fX9_find_L2 181) fu') (nI i) g := rfl
      rw [ue]
      generalize lq1 (fX9_find_L2 181) fu' = sf at nx
      have FUe : FU = (FU - 1) + 1 := by unfold FU; omega
      have inj : nc F i = tC TP n e → F (190 + i) = tN TP n e ∧ ∀ j, j < F (190 + i) → F (204 + 8 * i + j) = TP (tA TP n e + j) := fun q =>
        cwd_inj (f := F) (g := TP) (a := 204 + 8 * i) (b := tA TP n e) (F (190 + i)) (tN TP n e) (fun j hj => by have := sl j hj; omega) (fun j hj => by have := w3 j hj; omega) q
      have go : ∀ K : Bool → HH → Option (Int32 × HH), lq2 (fX9_find_L46 K 181 (nI i)) FU false (nI 0) g = K false g := fun K => by rw [FUe]; exact mF46f
      by_cases z0 : F (190 + i) = 0
      · rw [st.trans (if_neg (fun q => by omega)), ← nx]
        have y : F (190 + i) ≤ 0 := by omega
        simp (disch := omega) only [lI, fX9_find_L2, leN, c1, if_false, gd_1, nI_add, inbN, ixN, Nat.reduceAdd, r1, eq_true y, if_true, go, cond_false]
      · have y : ¬ F (190 + i) ≤ 0 := by omega
        by_cases zN : F (190 + i) = tN TP n e
        · obtain ⟨r, e1, e2⟩ := mF46 (TP := TP) (a := tA TP n e) (m := i) (N := tN TP n e) R (by omega) u1 w2 u2 (fun j hj => by have := w3 j hj; omega) (fun j hj => by have := sl j (by omega); omega) (tN TP n e) 0 FU (by omega) (by unfold FU; omega)
          have er : r = true ↔ nc F i = tC TP n e := by
            constructor
            · intro q
              have q2 := e2.1 q
              unfold nc tC
              rw [zN]
              exact cwd_cg _ (fun j hj => q2 j (by omega) hj)
            · intro q
              exact e2.2 (fun j _ hj => (inj q).2 j (by omega))
          cases r with
          | true =>
            rw [st.trans (if_pos ⟨by omega, er.1 rfl⟩), if_neg (show ¬ i = 14 by omega)]
            simp (disch := omega) only [lI, fX9_find_L2, leN, c1, if_false, gd_1, nI_add, inbN, ixN, Nat.reduceAdd, r1, y, u1, eqN, eq_true zN, if_true, e1, cond_true]
          | false =>
            rw [st.trans (if_neg (fun q => by have := er.2 q.2; cases this)), ← nx]
            simp (disch := omega) only [lI, fX9_find_L2, leN, c1, if_false, gd_1, nI_add, inbN, ixN, Nat.reduceAdd, r1, y, u1, eqN, eq_true zN, if_true, e1, cond_false]
        · rw [st.trans (if_neg (fun q => zN (inj q.2).1)), ← nx]
          simp (disch := omega) only [lI, fX9_find_L2, leN, c1, if_false, gd_1, nI_add, inbN, ixN, Nat.reduceAdd, r1, y, u1, eqN, zN, go, cond_false]
  exact loop 14 0 FU (by omega) (by unfold FU; omega)
set_option maxRecDepth 100000 in
theorem mNamed_no {vl vh : Int32} (h13 : gI g 181 13 = nI 1) : fX9_named 181 vl vh g = some (vl, g) := by
  simp only [lI, fX9_named, h13, z10, Nat.one_ne_zero, if_false]
set_option maxRecDepth 100000 in
theorem mNamed (M : MS TP n g F e) (N : NML F) {lo hi : Nat} (hl : lo ≤ 14) (hh : hi < 14) : (nme TP n e = true → lo ≤ FD TP n F e → FD TP n F e ≤ hi → fX9_named 181 (nI lo) (nI hi) g = some (nI (FD TP n F e), g)) ∧ (nme TP n e = true → ¬ (lo ≤ FD TP n F e ∧ FD TP n F e ≤ hi) → fX9_named 181 (nI lo) (nI hi) g = some (nI lo, flt g 2 (tA TP n e))) ∧ (nme TP n e = false → fX9_named 181 (nI lo) (nI hi) g = some (nI lo, flt g 1 (tA TP n e))) := by
  obtain ⟨m1, m2⟩ := mMust M
  have h13 := M.2.2.1
  have f13 : ∀ q p, gI (flt g q p) 181 13 = nI 1 := fun q p => flt_F.1
  have w2 := wr_ok (g := g) (q := 2) h13 (vq := nI 2) rfl M.2.1.1
  have k1 : nme TP n e = true → tK TP n e = 1 := fun z => by
    unfold nme at z
    rw [Bool.and_eq_true] at z
    exact of_decide_eq_true z.1
  refine ⟨fun z h1 h2 => ?_, fun z h1 => ?_, fun z => ?_⟩
  · have fi := mFind M (k1 z) N
    rw [if_neg (by omega)] at fi
    have wi : fX9_within (nI (FD TP n F e)) (nI lo) (nI hi) g = some (true, g) := wit3 h1 h2 (by omega)
    simp only [lI, fX9_named, h13, z00, if_true, m1 z, bv_1, fi, bd_1, wi, cond_true]
  · have fi := mFind M (k1 z) N
    obtain ⟨g1, g2, g3, g4⟩ := fd_sp F (tC TP n e) 14 0
    have le : FD TP n F e ≤ 14 := by unfold FD; omega
    have wi : ∀ r, r = (if FD TP n F e = 14 then M1 else nI (FD TP n F e)) → lo ≤ 14 → fX9_within r (nI lo) (nI hi) g = some (false, g) := by
      intro r er hl
      by_cases y : FD TP n F e = 14
      · rw [if_pos y] at er
        subst er
        have : (M1 < nI lo) = True := by
          rw [Int32.lt_iff_toInt_lt, M1_toInt, nI_toInt (by omega)]
          exact eq_true (by omega)
        simp only [fX9_within, this, if_true]
      · rw [if_neg y] at er
        subst er
        by_cases a1 : FD TP n F e < lo
        · simp (disch := omega) only [fX9_within, ltN, a1, if_true]
        · have a2 : hi < FD TP n F e := by omega
          simp (disch := omega) only [fX9_within, ltN, a1, if_false, a2, if_true]
    simp only [lI, fX9_named, h13, z00, if_true, m1 z, bv_1, fi, bd_1, wi _ rfl hl, cond_false, w2, f13, z10, Nat.one_ne_zero, if_false]
  · simp only [lI, fX9_named, h13, z00, if_true, m2 z, bv_1, f13, z10, Nat.one_ne_zero, if_false]
end MNM
