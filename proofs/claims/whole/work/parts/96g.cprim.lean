/-! the class's steps of reading -/
def srt (m : Nat) : Nat := if m < 3 then 0 else if m < 8 then 1 else 2
def nmb (m : Nat) : Nat := if m < 3 then m else if m < 8 then m - 3 else m - 8
/-- the class's names, c of them -/
def CN (h : HH) (F : Nat → Nat) (c : Nat) : Prop := gI h 2 3 = nI c ∧ c ≤ 14 ∧ ∃ φ : Nat → Nat, (∀ i, i < c → φ i < 14 ∧ 0 < F (190 + φ i) ∧ gL h 3 i = lN (nc F (φ i)) ∧ gI h 4 i = nI (srt (φ i)) ∧ gI h 5 i = nI (nmb (φ i))) ∧ ∀ m, m < 14 → 0 < F (190 + m) → ∃ i, i < c ∧ φ i = m
def PNm (b k : Nat) : Prop := (b = 2 ∧ k = 3) ∨ (3 ≤ b ∧ b ≤ 5)
/-- all but the token and the fault -/
def PFk (b k : Nat) : Prop := ¬ (b = 2 ∧ 7 ≤ k ∧ k ≤ 12)
def CS (h : HH) (TP : Nat → Nat) (n d e : Nat) : Prop := CT h TP n ∧ TKc h TP n e ∧ gR h 2 6 = d ∧ e ≤ n
section CPR
variable {h : HH} {TP : Nat → Nat} {n d e : Nat}
set_option maxRecDepth 100000 in
theorem CN.keep {h h' : HH} {F : Nat → Nat} {c : Nat} (C : CN h F c) (K : Keep PNm h h') : CN h' F c := by
  obtain ⟨c1, c2, φ, c3, c4⟩ := C
  refine ⟨(K 2 3 (by unfold PNm; omega)).1.trans c1, c2, φ, fun i hi => ?_, c4⟩
  obtain ⟨a1, a2, a3, a4, a5⟩ := c3 i hi
  exact ⟨a1, a2, (K 3 i (by unfold PNm; omega)).2.1.trans a3, (K 4 i (by unfold PNm; omega)).1.trans a4, (K 5 i (by unfold PNm; omega)).1.trans a5⟩
set_option maxRecDepth 100000 in
theorem kfk {h' : HH} (K : Keep PTk h h') : Keep PFk h h' := K.mono (fun b k hp => by unfold PFk at hp; unfold PTk; omega)
set_option maxRecDepth 100000 in
theorem CS.nx (H : HT TP n) (C : CS h TP n d e) : ∃ h', fX5_next 2 h = some h' ∧ CS h' TP n d (tE TP n e) ∧ Keep PTk h h' := by
  obtain ⟨C1, T1, r6, he⟩ := C
  have hE := tE_le (TP := TP) he
  obtain ⟨h', e1, t1, K⟩ := cNxt H C1 hE.2.1 T1.2.1
  exact ⟨h', e1, ⟨C1.tk K, t1, (K 2 6 (by unfold PTk; omega)).2.2.trans r6, hE.2.1⟩, K⟩
set_option maxRecDepth 100000 in
theorem CS.kf {h' : HH} (C : CS h TP n d e) (K : Keep (fun b k => b = 1 ∨ (b = 2 ∧ (4 ≤ k ∧ k ≠ 7))) h h') : CS h' TP n d e := by
  obtain ⟨C1, ⟨t1, t2, t3, t4, t5⟩, r6, he⟩ := C
  refine ⟨C1.keep (K.mono (fun b k hp => by omega)), ⟨(K 2 8 (by omega)).1.trans t1, (K 2 9 (by omega)).1.trans t2, (K 2 10 (by omega)).1.trans t3, fun z => (K 2 11 (by omega)).1.trans (t4 z), fun z => (K 2 12 (by omega)).2.1.trans (t5 z)⟩, (K 2 6 (by omega)).2.2.trans r6, he⟩
set_option maxRecDepth 100000 in
theorem cFl (C : CS h TP n d e) (q : Nat) : fX5_fail 2 (nI q) h = some (false, sI h 2 7 (nI q)) ∧ gI (sI h 2 7 (nI q)) 2 7 = nI q ∧ gI (sI h 2 7 (nI q)) 2 8 = nI (tA TP n e) ∧ Keep PFk h (sI h 2 7 (nI q)) := by
  refine ⟨rfl, gIs _ _ _ _, ?_, Keep.sI Keep.rfl (fun z => z ⟨rfl, by omega, by omega⟩)⟩
  rw [gIk (by omega)]; exact C.2.1.1
/-! a word, or the fault 1 -/
set_option maxRecDepth 100000 in
theorem cWord (H : HT TP n) (C : CS h TP n d e) {w : Nat} (hw : w < 58) : (WD TP n e w = true → ∃ h', fX5_word 2 w h = some (true, h') ∧ CS h' TP n d (tE TP n e) ∧ Keep PFk h h') ∧ (WD TP n e w = false → ∃ h', fX5_word 2 w h = some (false, h') ∧ gI h' 2 7 = nI 1 ∧ gI h' 2 8 = nI (tA TP n e) ∧ Keep PFk h h') := by
  have s1 := cSpell hw C.2.2.2 C.2.1
  constructor
  · intro z
    rw [z] at s1
    obtain ⟨h', e1, c1, K⟩ := C.nx H
    refine ⟨h', ?_, c1, K.mono (fun b k hp => by unfold PFk at hp; unfold PTk; omega)⟩
    simp only [fX5_word, s1, bd_1, cond_true, e1, bv_1]
  · intro z
    rw [z] at s1
    obtain ⟨f1, f2, f3, f4⟩ := cFl C 1
    refine ⟨_, ?_, f2, f3, f4⟩
    simp only [lI, fX5_word, s1, bd_1, cond_false, f1]
/-! a whole within bounds, or the fault 1, or 4 -/
set_option maxRecDepth 100000 in
theorem cWhole (C : CS h TP n d e) {lo hi : Nat} (hlo : lo < 10000) (hhi : hi < 10000) : (tK TP n e = 2 → lo ≤ tV TP n e → tV TP n e ≤ hi → fX5_isWhole 2 (nI lo) (nI hi) h = some (true, h)) ∧ (tK TP n e = 2 → ¬ (lo ≤ tV TP n e ∧ tV TP n e ≤ hi) → fX5_isWhole 2 (nI lo) (nI hi) h = some (false, sI h 2 7 (nI 4))) ∧ (tK TP n e ≠ 2 → fX5_isWhole 2 (nI lo) (nI hi) h = some (false, sI h 2 7 (nI 1))) := by
  have kb := kbk (TP := TP) (n := n) (e := e)
  obtain ⟨-, -, t3, t4, -⟩ := C.2.1
  have f4 := (cFl C 4).1
  have f1 := (cFl C 1).1
  refine ⟨fun k h1 h2 => ?_, fun k h1 => ?_, fun k => ?_⟩
  · have v := vF C.2.2.2 k
    have a1 : ¬ tV TP n e < lo := by omega
    simp (disch := omega) only [lI, fX5_isWhole, t3, eqN, eq_true k, if_true, t4 k, ltN, a1, if_false, leN, h2]
  · have v := vF C.2.2.2 k
    by_cases a1 : tV TP n e < lo
    · simp (disch := omega) only [lI, fX5_isWhole, t3, eqN, eq_true k, if_true, t4 k, ltN, a1, f4, bd_1, cond_false]
    · have a2 : ¬ tV TP n e ≤ hi := by omega
      simp (disch := omega) only [lI, fX5_isWhole, t3, eqN, eq_true k, if_true, t4 k, ltN, a1, if_false, leN, a2, f4, bd_1, cond_false]
  · simp (disch := omega) only [lI, fX5_isWhole, t3, eqN, k, if_false, f1, bd_1]
set_option maxRecDepth 100000 in
theorem cLW (C : CS h TP n d e) : fX5_isLineWord 2 h = some (LW TP n e, h) := by
  have s : ∀ w, w < 58 → fX5_spells 2 w h = some (WD TP n e w, h) := fun w hw => cSpell hw C.2.2.2 C.2.1
  unfold LW
  rw [fX5_isLineWord, s 0 (by omega), bd_1]
  cases WD TP n e 0 with
  | true => simp only [cond_true, Bool.true_or]
  | false =>
    rw [cond_false, s 1 (by omega), bd_1]
    cases WD TP n e 1 with
    | true => simp only [cond_true, Bool.true_or, Bool.or_true]
    | false =>
      rw [cond_false, s 2 (by omega), bd_1]
      cases WD TP n e 2 with
      | true => simp only [cond_true, Bool.true_or, Bool.or_true]
      | false =>
        rw [cond_false, s 3 (by omega), bd_1]
        cases WD TP n e 3 with
        | true => simp only [cond_true, Bool.true_or, Bool.or_true]
        | false =>
          rw [cond_false, s 4 (by omega), bd_1]
          cases WD TP n e 4 with
          | true => simp only [cond_true, Bool.true_or, Bool.or_true]
          | false =>
            rw [cond_false, s 5 (by omega), bd_1]
            cases WD TP n e 5 with
            | true => simp only [cond_true, Bool.true_or, Bool.or_true]
            | false =>
              rw [cond_false, s 6 (by omega), bd_1]
              cases WD TP n e 6 with
              | true => simp only [cond_true, Bool.true_or, Bool.or_true]
              | false =>
                rw [cond_false, s 7 (by omega), bd_1]
                cases WD TP n e 7 with
                | true => simp only [cond_true, Bool.true_or, Bool.or_true]
                | false =>
                  rw [cond_false, s 8 (by omega), bd_1]
                  cases WD TP n e 8 with
                  | true => simp only [cond_true, Bool.true_or, Bool.or_true]
                  | false =>
                    rw [cond_false, s 9 (by omega), bd_1]
                    cases WD TP n e 9 with
                    | true => simp only [cond_true, Bool.true_or, Bool.or_true]
                    | false =>
                      rw [cond_false, s 10 (by omega), bd_1]
                      cases WD TP n e 10 with
                      | true => simp only [cond_true, Bool.true_or, Bool.or_true]
                      | false =>
                        rw [cond_false, s 11 (by omega), bd_1]
                        cases WD TP n e 11 with
                        | true => simp only [cond_true, Bool.true_or, Bool.or_true]
                        | false => simp only [cond_false, Bool.or_false]
/-! the place of a name in the class's list -/
set_option maxRecDepth 100000 in
theorem cIx {F : Nat → Nat} {c : Nat} (N : NMK F) (C : CN h F c) {v : Nat} (hv : v < 2 ^ 63) (h12 : gL h 2 12 = lN v) : ∀ m i f, i + m = c → m < f → (∃ j, i ≤ j ∧ j < c ∧ lq1 (fX5_nameIndex_L2 2) f (nI i) h = some (nI j, h) ∧ gL h 3 j = lN v) ∨ (lq1 (fX5_nameIndex_L2 2) f (nI i) h = some (M1, h) ∧ ∀ j, i ≤ j → j < c → gL h 3 j ≠ lN v) := by
  obtain ⟨c1, c2, φ, c3, -⟩ := C
  intro m
  induction m with
  | zero =>
    intro i f h1 hf
    obtain ⟨f, rfl⟩ : ∃ q, f = q + 1 := ⟨f - 1, by omega⟩
    right
    have z : c ≤ i := by omega
    refine ⟨?_, fun j a b => by omega⟩
    simp (disch := omega) only [lI, neg1, lq1, fX5_nameIndex_L2, c1, leN, z, if_true]
  | succ m ih =>
    intro i f h1 hf
    obtain ⟨f, rfl⟩ : ∃ q, f = q + 1 := ⟨f - 1, by omega⟩
    have z1 : ¬ c ≤ i := by omega
    have z2 : ¬ 14 ≤ i := by omega
    obtain ⟨a1, a2, a3, a4, a5⟩ := c3 i (by omega)
    have lt := nc_lt N a1
    by_cases q : nc F (φ i) = v
    · left
      refine ⟨i, Nat.le_refl _, by omega, ?_, by rw [a3, q]⟩
      simp (disch := omega) only [lI, lq1, fX5_nameIndex_L2, c1, leN, z1, z2, if_false, gd_1, inbN, ixN, Nat.reduceAdd, a3, h12, eqL, eq_true q, if_true]
    · have st : lq1 (fX5_nameIndex_L2 2) (f + 1) (nI i) h = lq1 (fX5_nameIndex_L2 2) f (nI (i + 1)) h := by
        simp (disch := omega) only [lI, lq1, fX5_nameIndex_L2, c1, leN, z1, z2, if_false, gd_1, inbN, ixN, Nat.reduceAdd, a3, h12, eqL, q, nI_add]
      rw [st]
      rcases ih (i + 1) f (by omega) (by omega) with ⟨j, b1, b2, b3, b4⟩ | ⟨b1, b2⟩
      · exact Or.inl ⟨j, by omega, b2, b3, b4⟩
      · refine Or.inr ⟨b1, fun j b3 b4 => ?_⟩
        by_cases y : j = i
        · subst y; rw [a3]; intro x; rw [eqL lt hv] at x; exact q x
        · exact b2 j (by omega) b4
/-! found in the list as among the told numbers -/
set_option maxRecDepth 100000 in
theorem cFind {F : Nat → Nat} {c : Nat} (N : NMK F) (S : CS h TP n d e) (k1 : tK TP n e = 1) (C : CN h F c) : (FD TP n F e = 14 ∧ fX5_nameIndex 2 h = some (M1, h)) ∨ (FD TP n F e < 14 ∧ ∃ j, j < c ∧ fX5_nameIndex 2 h = some (nI j, h) ∧ gI h 4 j = nI (srt (FD TP n F e)) ∧ gI h 5 j = nI (nmb (FD TP n F e))) := by
  have hv := (wF S.2.2.2 k1).2.2.2.1
  have h12 := S.2.1.2.2.2.2 k1
  obtain ⟨g1, g2, g3, g4⟩ := fd_sp F (tC TP n e) 14 0
  have CC := C
  obtain ⟨c1, c2, φ, c3, c4⟩ := C
  have e0 : fX5_nameIndex 2 h = lq1 (fX5_nameIndex_L2 2) FU (nI 0) h := rfl
  rcases cIx N CC hv h12 c 0 FU (by omega) (by unfold FU; omega) with ⟨j, b1, b2, b3, b4⟩ | ⟨b1, b2⟩
  · right
    obtain ⟨a1, a2, a3, a4, a5⟩ := c3 j b2
    have lt := nc_lt N a1
    have q : nc F (φ j) = tC TP n e := by rw [a3, eqL lt hv] at b4; exact b4
    have le : fd F (tC TP n e) 14 0 ≤ φ j := by
      rcases Nat.lt_or_ge (φ j) (fd F (tC TP n e) 14 0) with z | z
      · exact absurd ⟨a2, q⟩ (g3 (φ j) (by omega) z)
      · exact z
    have lt14 : fd F (tC TP n e) 14 0 < 14 := by omega
    obtain ⟨y1, y2⟩ := g4 (by omega)
    have eq : fd F (tC TP n e) 14 0 = φ j := N.2.2.2.2 _ _ lt14 a1 y1 (y2.trans q.symm)
    have eF : FD TP n F e = φ j := eq
    exact ⟨by rw [eF]; exact a1, j, b2, e0.trans b3, by rw [eF]; exact a4, by rw [eF]; exact a5⟩
  · left
    refine ⟨?_, e0.trans b1⟩
    rcases Nat.lt_or_ge (fd F (tC TP n e) 14 0) 14 with z | z
    · exfalso
      obtain ⟨y1, y2⟩ := g4 (by omega)
      obtain ⟨i, i1, i2⟩ := c4 _ z y1
      refine b2 i (by omega) i1 ?_
      rw [(c3 i i1).2.2.1, i2, y2]
    · show fd F (tC TP n e) 14 0 = 14
      omega
/-! a told name -/
set_option maxRecDepth 100000 in
theorem cTol {F : Nat → Nat} {c s lo hi : Nat} (N : NMK F) (S : CS h TP n d e) (C : CN h F c) (hs : (s = 0 ∧ lo = 0 ∧ hi = 2) ∨ (s = 1 ∧ lo = 3 ∧ hi = 7)) : (nme TP n e = true → lo ≤ FD TP n F e → FD TP n F e ≤ hi → fX5_isTold 2 (nI s) h = some (true, sI h 2 11 (nI (FD TP n F e - lo)))) ∧ (nme TP n e = true → ¬ (lo ≤ FD TP n F e ∧ FD TP n F e ≤ hi) → fX5_isTold 2 (nI s) h = some (false, sI h 2 7 (nI 2))) ∧ (nme TP n e = false → fX5_isTold 2 (nI s) h = some (false, sI h 2 7 (nI 1))) := by
  have kb := kbk (TP := TP) (n := n) (e := e)
  have t3 := S.2.1.2.2.1
  have lw := cLW S
  have f2 := (cFl S 2).1
  have f1 := (cFl S 1).1
  have c2 := C.2.1
  have pos : ∀ j : Nat, j < 14 → (nI j < nI 0) = False := fun j hj => by rw [ltN (by omega) (by omega)]; exact eq_false (by omega)
  have neg : (M1 < nI 0) = True := by decide +kernel
  have split2 : nme TP n e = true → tK TP n e = 1 ∧ LW TP n e = false := fun z => by
    unfold nme at z
    rw [Bool.and_eq_true, Bool.not_eq_true'] at z
    exact ⟨of_decide_eq_true z.1, z.2⟩
  refine ⟨fun z h1 h2 => ?_, fun z h1 => ?_, fun z => ?_⟩
  · obtain ⟨k1, l1⟩ := split2 z
    rw [l1] at lw
    rcases cFind N S k1 C with ⟨q, -⟩ | ⟨q, j, j1, j2, j3, j4⟩
    · omega
    · have es : srt (FD TP n F e) = s := by unfold srt; (repeat' split) <;> omega
      have en : nmb (FD TP n F e) = FD TP n F e - lo := by unfold nmb; (repeat' split) <;> omega
      rw [es] at j3
      rw [en] at j4
      simp (disch := omega) only [lI, fX5_isTold, t3, eqN, eq_true k1, if_true, lw, bd_1, cond_false, j2, pos, if_false, gd_1, inbN, ixN, Nat.reduceAdd, j3, j4]
  · obtain ⟨k1, l1⟩ := split2 z
    rw [l1] at lw
    rcases cFind N S k1 C with ⟨q, j2⟩ | ⟨q, j, j1, j2, j3, j4⟩
    · simp (disch := omega) only [lI, fX5_isTold, t3, eqN, eq_true k1, if_true, lw, bd_1, cond_false, j2, neg, f2]
    · have es : ¬ srt (FD TP n F e) = s := by unfold srt; (repeat' split) <;> omega
      have lt : srt (FD TP n F e) < 3 := by unfold srt; (repeat' split) <;> omega
      simp (disch := omega) only [lI, fX5_isTold, t3, eqN, eq_true k1, if_true, lw, bd_1, cond_false, j2, pos, if_false, gd_1, inbN, ixN, Nat.reduceAdd, j3, es, f2]
  · by_cases k1 : tK TP n e = 1
    · have l1 : LW TP n e = true := by
        unfold nme at z
        rw [decide_eq_true k1, Bool.true_and] at z
        cases y : LW TP n e with
        | true => rfl
        | false => rw [y] at z; cases z
      rw [l1] at lw
      simp (disch := omega) only [lI, fX5_isTold, t3, eqN, eq_true k1, if_true, lw, bd_1, cond_true, f1]
    · simp (disch := omega) only [lI, fX5_isTold, t3, eqN, k1, if_false, bd_1, f1]
end CPR
