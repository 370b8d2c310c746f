/-! the model's rules of names and kinds -/
section MRL
variable {TP : Nat → Nat} {n e : Nat} {F : Nat → Nat} {g : HH}
set_option maxRecDepth 100000 in
theorem jHp {k : Nat → Out} {K : Int32 → HH → Option HH} (H : HT TP n) (N : NML F) (J : ∀ v, v ≤ 2 → JJ TP n F (tE TP n e) (k v) (K (nI v))) : JJ TP n F e (sTd TP n F 0 2 e k) (cHp K) := by
  have f13 : ∀ (g : HH) q p, gI (flt g q p) 181 13 = nI 1 := fun g q p => flt_F.1
  refine ⟨fun g M => ?_, fun g h13 => ?_⟩
  · obtain ⟨a1, a2, a3⟩ := mNamed M N (lo := 0) (hi := 2) (by omega) (by omega)
    unfold sTd
    show MO TP n g _ (bd (fX9_headPassed 181 g) K)
    cases z : nme TP n e with
    | true =>
      rw [if_pos rfl]
      by_cases y : 0 ≤ FD TP n F e ∧ FD TP n F e ≤ 2
      · obtain ⟨g', e1, m1, k1⟩ := M.nx H
        have e2 : fX9_headPassed 181 g = some (nI (FD TP n F e), g') := by simp only [lI, fX9_headPassed, a1 z y.1 y.2, bd_1, M.2.2.1, z00, if_true, e1, bv_1]
        rw [if_pos y, e2, bd_1]
        exact ((J _ y.2).1 g' m1).tr k1
      · have e2 : fX9_headPassed 181 g = some (nI 0, flt g 2 (tA TP n e)) := by simp only [lI, fX9_headPassed, a2 z y, bd_1, f13, z10, Nat.one_ne_zero, if_false]
        rw [if_neg y, e2, bd_1]
        exact (J 0 (by omega)).2.flt
    | false =>
      have e2 : fX9_headPassed 181 g = some (nI 0, flt g 1 (tA TP n e)) := by simp only [lI, fX9_headPassed, a3 z, bd_1, f13, z10, Nat.one_ne_zero, if_false]
      rw [if_neg (fun z => by cases z), e2, bd_1]
      exact (J 0 (by omega)).2.flt
  · obtain ⟨g', a1, a2⟩ := (J 0 (by omega)).2 g h13
    refine ⟨g', ?_, a2⟩
    show bd (fX9_headPassed 181 g) K = _
    have e2 : fX9_headPassed 181 g = some (nI 0, g) := by simp only [lI, fX9_headPassed, mNamed_no h13, bd_1, h13, z10, Nat.one_ne_zero, if_false]
    rw [e2, bd_1, a1]
set_option maxRecDepth 100000 in
theorem mSh (M : MS TP n g F e) (N : NML F) : (nme TP n e = true → 3 ≤ FD TP n F e → FD TP n F e ≤ 7 → fX9_sleeperHere 181 g = some (nI (FD TP n F e - 3), g)) ∧ (nme TP n e = true → ¬ (3 ≤ FD TP n F e ∧ FD TP n F e ≤ 7) → fX9_sleeperHere 181 g = some (nI 0, flt g 2 (tA TP n e))) ∧ (nme TP n e = false → fX9_sleeperHere 181 g = some (nI 0, flt g 1 (tA TP n e))) := by
  obtain ⟨a1, a2, a3⟩ := mNamed M N (lo := 3) (hi := 7) (by omega) (by omega)
  have z : nI 3 - nI 3 = nI 0 := pk_sub (Nat.le_refl 3)
  refine ⟨fun y h1 h2 => ?_, fun y h1 => ?_, fun y => ?_⟩
  · simp only [lI, fX9_sleeperHere, a1 y h1 h2, bd_1, pk_sub h1]
  · simp only [lI, fX9_sleeperHere, a2 y h1, bd_1, z]
  · simp only [lI, fX9_sleeperHere, a3 y, bd_1, z]
set_option maxRecDepth 100000 in
theorem mSh_no (h13 : gI g 181 13 = nI 1) : fX9_sleeperHere 181 g = some (nI 0, g) := by
  have z : nI 3 - nI 3 = nI 0 := pk_sub (Nat.le_refl 3)
  simp only [lI, fX9_sleeperHere, mNamed_no h13, bd_1, z]
set_option maxRecDepth 100000 in
theorem jSp {k : Nat → Out} {K : Int32 → HH → Option HH} (H : HT TP n) (N : NML F) (J : ∀ v, v ≤ 4 → JJ TP n F (tE TP n e) (k v) (K (nI v))) : JJ TP n F e (sTd TP n F 3 7 e k) (cSp K) := by
  have f13 : ∀ (g : HH) q p, gI (flt g q p) 181 13 = nI 1 := fun g q p => flt_F.1
  refine ⟨fun g M => ?_, fun g h13 => ?_⟩
  · obtain ⟨a1, a2, a3⟩ := mSh M N
    unfold sTd
    show MO TP n g _ (bd (fX9_sleeperPassed 181 g) K)
    cases z : nme TP n e with
    | true =>
      rw [if_pos rfl]
      by_cases y : 3 ≤ FD TP n F e ∧ FD TP n F e ≤ 7
      · obtain ⟨g', e1, m1, k1⟩ := M.nx H
        have e2 : fX9_sleeperPassed 181 g = some (nI (FD TP n F e - 3), g') := by simp only [lI, fX9_sleeperPassed, a1 z y.1 y.2, bd_1, M.2.2.1, z00, if_true, e1, bv_1]
        rw [if_pos y, e2, bd_1]
        exact ((J _ (by omega)).1 g' m1).tr k1
      · have e2 : fX9_sleeperPassed 181 g = some (nI 0, flt g 2 (tA TP n e)) := by simp only [lI, fX9_sleeperPassed, a2 z y, bd_1, f13, z10, Nat.one_ne_zero, if_false]
        rw [if_neg y, e2, bd_1]
        exact (J 0 (by omega)).2.flt
    | false =>
      have e2 : fX9_sleeperPassed 181 g = some (nI 0, flt g 1 (tA TP n e)) := by simp only [lI, fX9_sleeperPassed, a3 z, bd_1, f13, z10, Nat.one_ne_zero, if_false]
      rw [if_neg (fun z => by cases z), e2, bd_1]
      exact (J 0 (by omega)).2.flt
  · obtain ⟨g', a1, a2⟩ := (J 0 (by omega)).2 g h13
    refine ⟨g', ?_, a2⟩
    show bd (fX9_sleeperPassed 181 g) K = _
    have e2 : fX9_sleeperPassed 181 g = some (nI 0, g) := by simp only [lI, fX9_sleeperPassed, mSh_no h13, bd_1, h13, z10, Nat.one_ne_zero, if_false]
    rw [e2, bd_1, a1]
set_option maxRecDepth 100000 in
theorem mN45 {m : Nat} (H : HT TP n) (hm : m < 14) (k1 : tK TP n e = 1) : ∀ q i f g, i + q = tN TP n e → q < f → MS TP n g (wn TP n F m e i) e → ∃ g', lq1 (fX9_newName_L45 181 (nI m)) f (nI i) g = some g' ∧ MS TP n g' (addN TP n F m e) (tE TP n e) ∧ Keep PMd g g' := by
  intro q
  induction q with
  | zero =>
    intro i f g h1 hf M
    obtain ⟨f, rfl⟩ : ∃ q, f = q + 1 := ⟨f - 1, by omega⟩
    obtain ⟨w1, w2, w3, w4, w5⟩ := wF M.2.2.2.2.1 k1
    obtain ⟨u1, u2⟩ := M.2.1.2.2.2.2 k1
    have ei : i = tN TP n e := by omega
    subst ei
    have M2 : MS TP n (sI g 185 (190 + m) (nI (tN TP n e))) (addN TP n F m e) e := M.wr
    obtain ⟨g', e1, m1, K1⟩ := M2.nx H
    refine ⟨g', ?_, m1, wrK.trans K1⟩
    have c : tN TP n e ≤ tN TP n e := Nat.le_refl _
    simp (disch := omega) only [lI, lq1, fX9_newName_L45, u1, leN, eq_true c, if_true, nI_add, inbN, ixN, gd_1, Nat.reduceAdd, e1, bv_1]
  | succ q ih =>
    intro i f g h1 hf M
    obtain ⟨f, rfl⟩ : ∃ q, f = q + 1 := ⟨f - 1, by omega⟩
    obtain ⟨w1, w2, w3, w4, w5⟩ := wF M.2.2.2.2.1 k1
    obtain ⟨u1, u2⟩ := M.2.1.2.2.2.2 k1
    have c : ¬ tN TP n e ≤ i := by omega
    have M2 : MS TP n (sI g 185 (204 + 8 * m + i) (nI (TP (tA TP n e + i)))) (wn TP n F m e (i + 1)) e := M.wr
    obtain ⟨g', e1, m1, K1⟩ := ih (i + 1) f _ (by omega) (by omega) M2
    refine ⟨g', ?_, m1, wrK.trans K1⟩
    rw [← e1]
    simp (disch := omega) only [lI, lq1, fX9_newName_L45, u1, leN, c, if_false, pk_mul, nI_add, inbN, ixN, gd_1, Nat.reduceAdd, u2 i (show i < tN TP n e by omega)]
set_option maxRecDepth 100000 in
theorem jNm {m : Nat} {vm : Int32} {k : (Nat → Nat) → Nat → Out} {K : HH → Option HH} (H : HT TP n) (N : NML F) (hm : m < 14) (em : vm = nI m) (J : JJ TP n (addN TP n F m e) (tE TP n e) (k (addN TP n F m e) (tE TP n e)) K) : JJ TP n F e (sNm TP n F m e k) (cNm vm K) := by
  subst em
  have f13 : ∀ (g : HH) q p, gI (flt g q p) 181 13 = nI 1 := fun g q p => flt_F.1
  refine ⟨fun g M => ?_, fun g h13 => ?_⟩
  · obtain ⟨a1, a2⟩ := mMust M
    have h13 := M.2.2.1
    have w3 := wr_ok (g := g) (q := 3) h13 (vq := nI 3) rfl M.2.1.1
    unfold sNm
    show MO TP n g _ (bv (fX9_newName 181 (nI m) g) K)
    cases z : nme TP n e with
    | true =>
      have k1 : tK TP n e = 1 := by
        unfold nme at z
        rw [Bool.and_eq_true] at z
        exact of_decide_eq_true z.1
      have fi := mFind M k1 N
      rw [if_pos rfl]
      by_cases y : FD TP n F e = 14
      · rw [if_pos y] at fi
        have neg : (M1 < nI 0) = True := by decide +kernel
        obtain ⟨g', e1, m1, K1⟩ := mN45 (F := F) H hm k1 (tN TP n e) 0 FU g (by omega) (by have := wF M.2.2.2.2.1 k1; unfold FU; omega) M
        have e2 : fX9_newName 181 (nI m) g = some g' := by simp only [lI, fX9_newName, h13, z00, if_true, a1 z, bv_1, fi, bd_1, neg, e1]
        rw [if_pos y, e2, bv_1]
        exact (J.1 g' m1).tr K1
      · rw [if_neg y] at fi
        obtain ⟨g1, g2, g3, g4⟩ := fd_sp F (tC TP n e) 14 0
        have le : FD TP n F e ≤ 14 := by unfold FD; omega
        have pos : (nI (FD TP n F e) < nI 0) = False := by rw [ltN (by omega) (by omega)]; exact eq_false (by omega)
        have e2 : fX9_newName 181 (nI m) g = some (flt g 3 (tA TP n e)) := by simp only [lI, fX9_newName, h13, z00, if_true, a1 z, bv_1, fi, bd_1, pos, if_false, w3, f13, z10, Nat.one_ne_zero]
        rw [if_neg y, e2, bv_1]
        exact J.2.flt
    | false =>
      have e2 : fX9_newName 181 (nI m) g = some (flt g 1 (tA TP n e)) := by simp only [lI, fX9_newName, h13, z00, if_true, a2 z, bv_1, f13, z10, Nat.one_ne_zero, if_false]
      rw [if_neg (fun z => by cases z), e2, bv_1]
      exact J.2.flt
  · obtain ⟨g', a1, a2⟩ := J.2 g h13
    refine ⟨g', ?_, a2⟩
    show bv (fX9_newName 181 (nI m) g) K = _
    have e2 : fX9_newName 181 (nI m) g = some g := by simp only [lI, fX9_newName, h13, z10, Nat.one_ne_zero, if_false]
    rw [e2, bv_1, a1]
set_option maxRecDepth 100000 in
theorem mIsW_no {w : Nat} (h13 : gI g 181 13 = nI 1) : fX9_isWord 181 w g = some (false, g) := by
  simp only [lI, fX9_isWord, h13, z10, Nat.one_ne_zero, if_false]
set_option maxRecDepth 100000 in
theorem jKd {k : Nat → Nat → Out} {K : Int32 → HH → Option HH} (H : HT TP n) (J : ∀ kd, kd ≤ 3 → JJ TP n F (tE TP n e) (k kd (tE TP n e)) (K (nI kd))) : JJ TP n F e (sKd TP n e k) (cKd K) := by
  obtain ⟨-, -, -, -, -, -, -, -, -, -, -, -, -, -, -, c15, c16, c17, c18, -⟩ := CWe
  have eW : ∀ w w', CW w = CW w' → WD TP n e w = WD TP n e w' := fun w w' q => by unfold WD; rw [q]
  have m1 : (nI 0 ≤ M1) = False := by decide +kernel
  refine ⟨fun g M => ?_, fun g h13 => ?_⟩
  · have iw : ∀ w, w < 58 → fX9_isWord 181 w g = some (WD TP n e w, g) := fun w hw => mIsW hw M.2.2.2.2.1 M.2.1 M.2.2.1
    have h13 := M.2.2.1
    have w1 := wr_ok (g := g) (q := 1) h13 (vq := nI 1) rfl M.2.1.1
    obtain ⟨g', e1, n1, K1⟩ := M.nx H
    have b : ∀ kd, kd ≤ 3 → MO TP n g (k kd (tE TP n e)) (cK1 K (nI kd) g) := fun kd hk => by
      have e2 : cK1 K (nI kd) g = K (nI kd) g' := by
        unfold cK1 cK2
        rw [if_pos (show (0 : Int32) ≤ nI kd by show nI 0 ≤ nI kd; rw [leN (by omega) (by omega)]; omega), h13, if_pos (show nI 0 = (0 : Int32) from rfl), e1, bv_1]
      rw [e2]
      exact ((J kd hk).1 g' n1).tr K1
    unfold sKd
    rw [eW 15 44 c15, eW 16 45 c16, eW 17 46 c17, eW 18 47 c18]
    unfold cKd
    rw [iw 44 (by omega), bd_1]
    cases WD TP n e 44 with
    | true => rw [if_pos rfl, cond_true]; exact b 0 (by omega)
    | false =>
      rw [if_neg (fun z => by cases z), cond_false, iw 45 (by omega), bd_1]
      cases WD TP n e 45 with
      | true => rw [if_pos rfl, cond_true]; exact b 1 (by omega)
      | false =>
        rw [if_neg (fun z => by cases z), cond_false, iw 46 (by omega), bd_1]
        cases WD TP n e 46 with
        | true => rw [if_pos rfl, cond_true]; exact b 2 (by omega)
        | false =>
          rw [if_neg (fun z => by cases z), cond_false, iw 47 (by omega), bd_1]
          cases WD TP n e 47 with
          | true => rw [if_pos rfl, cond_true]; exact b 3 (by omega)
          | false =>
            rw [if_neg (fun z => by cases z), cond_false]
            have e2 : cK1 K (-1) g = some (flt g 1 (tA TP n e)) := by
              have x1 : (0 : Int32) = nI 0 := rfl
              have x2 : (-1 : Int32) = M1 := by decide +kernel
              unfold cK1 cK2
              rw [x2, if_neg (show ¬ (0 : Int32) ≤ M1 by decide +kernel), show (1 : Int32) = nI 1 from rfl, w1, bv_1, (flt_F (g := g) (q := 1) (p := tA TP n e)).1, if_neg (show ¬ nI 1 = (0 : Int32) by decide +kernel)]
            rw [e2]
            exact ⟨_, rfl, flt_F, flt_K⟩
  · refine ⟨g, ?_, Keep.rfl⟩
    have x2 : (-1 : Int32) = M1 := by decide +kernel
    unfold cKd
    rw [mIsW_no h13, bd_1, cond_false, mIsW_no h13, bd_1, cond_false, mIsW_no h13, bd_1, cond_false, mIsW_no h13, bd_1, cond_false]
    unfold cK1 cK2
    rw [x2, if_neg (show ¬ (0 : Int32) ≤ M1 by decide +kernel), wr_no h13, bv_1, h13, if_neg (show ¬ nI 1 = (0 : Int32) by decide +kernel)]
end MRL
