/-! a new name; rows -/
def PFN (b k : Nat) : Prop := ¬ (b = 2 ∧ (k = 3 ∨ (7 ≤ k ∧ k ≤ 12))) ∧ ¬ (3 ≤ b ∧ b ≤ 5)
section ADN
variable {TP : Nat → Nat} {n e : Nat} {F : Nat → Nat} {m : Nat}
set_option maxRecDepth 100000 in
theorem addN_lo {k : Nat} (hk : k < 190) : addN TP n F m e k = F k := by
  unfold addN
  rw [fuN _ (by omega), wn_at, if_neg (by omega)]
set_option maxRecDepth 100000 in
theorem addN_sz {k : Nat} (hk : k < 14) : addN TP n F m e (190 + k) = if k = m then tN TP n e else F (190 + k) := by
  unfold addN
  by_cases z : k = m
  · rw [if_pos z, z, fuS]
  · rw [if_neg z, fuN _ (by omega), wn_at, if_neg (by omega)]
set_option maxRecDepth 100000 in
theorem addN_lt (hm : m < 14) (h8 : tN TP n e ≤ 8) {k j : Nat} (hj : j < 8) : addN TP n F m e (204 + 8 * k + j) = if k = m ∧ j < tN TP n e then TP (tA TP n e + j) else F (204 + 8 * k + j) := by
  unfold addN
  rw [fuN _ (by omega), wn_at]
  by_cases z : k = m ∧ j < tN TP n e
  · rw [if_pos z, if_pos (by omega), show 204 + 8 * k + j - (204 + 8 * m) = j by omega]
  · rw [if_neg z, if_neg (by omega)]
set_option maxRecDepth 100000 in
theorem addN_nc (hm : m < 14) (h8 : tN TP n e ≤ 8) (N : ∀ q, q < 14 → F (190 + q) ≤ 8) {k : Nat} (hk : k < 14) : nc (addN TP n F m e) k = if k = m then tC TP n e else nc F k := by
  unfold nc
  rw [addN_sz hk]
  by_cases z : k = m
  · rw [if_pos z, if_pos z]
    exact cwd_cg _ (fun j hj => by rw [addN_lt hm h8 (by omega), if_pos ⟨z, hj⟩])
  · rw [if_neg z, if_neg z]
    have := N k hk
    exact cwd_cg _ (fun j hj => by rw [addN_lt hm h8 (by omega), if_neg (fun q => z q.1)])
end ADN
section CNW
variable {h : HH} {TP : Nat → Nat} {n d e : Nat}
set_option maxRecDepth 100000 in
theorem kFF {h h' : HH} (K : Keep PFk h h') : Keep PFN h h' := K.mono (fun b k hp => by unfold PFN at hp; unfold PFk; omega)
set_option maxRecDepth 100000 in
theorem cNew {F : Nat → Nat} {c m : Nat} (H : HT TP n) (N : NMK F) (S : CS h TP n d e) (C : CN h F c) (hc : c < 14) (hm : m < 14) (h0 : F (190 + m) = 0) : (nme TP n e = true → FD TP n F e = 14 → ∃ h', fX5_newName 2 (nI (srt m)) (nI (nmb m)) h = some (true, h') ∧ CS h' TP n d (tE TP n e) ∧ CN h' (addN TP n F m e) (c + 1) ∧ Keep PFN h h') ∧ (nme TP n e = true → FD TP n F e ≠ 14 → fX5_newName 2 (nI (srt m)) (nI (nmb m)) h = some (false, sI h 2 7 (nI 3))) ∧ (nme TP n e = false → fX5_newName 2 (nI (srt m)) (nI (nmb m)) h = some (false, sI h 2 7 (nI 1))) := by
  have kb := kbk (TP := TP) (n := n) (e := e)
  have t3 := S.2.1.2.2.1
  have lw := cLW S
  have f3 := (cFl S 3).1
  have f1 := (cFl S 1).1
  have c1 := C.1
  have pos : ∀ j : Nat, j < 14 → (nI j < nI 0) = False := fun j hj => by rw [ltN (by omega) (by omega)]; exact eq_false (by omega)
  have neg : (M1 < nI 0) = True := by decide +kernel
  have split2 : nme TP n e = true → tK TP n e = 1 ∧ LW TP n e = false := fun z => by
    unfold nme at z
    rw [Bool.and_eq_true, Bool.not_eq_true'] at z
    exact ⟨of_decide_eq_true z.1, z.2⟩
  refine ⟨fun z h1 => ?_, fun z h1 => ?_, fun z => ?_⟩
  · obtain ⟨k1, l1⟩ := split2 z
    rw [l1] at lw
    obtain ⟨w1, w2, w3, w4, w5⟩ := wF S.2.2.2 k1
    have h12 := S.2.1.2.2.2.2 k1
    have j2 : fX5_nameIndex 2 h = some (M1, h) := by
      rcases cFind N S k1 C with ⟨q, j2⟩ | ⟨q, -⟩
      · exact j2
      · omega
    have c14 : ¬ 14 ≤ c := by omega
    have S2 : CS (sI (sI (sI (sL h 3 c (gL h 2 12)) 4 c (nI (srt m))) 5 c (nI (nmb m))) 2 3 (nI (c + 1))) TP n d e := S.kf (Keep.sI (Keep.sI (Keep.sI (Keep.sL Keep.rfl (by omega)) (by omega)) (by omega)) (by omega))
    have C2 : CN (sI (sI (sI (sL h 3 c (gL h 2 12)) 4 c (nI (srt m))) 5 c (nI (nmb m))) 2 3 (nI (c + 1))) (addN TP n F m e) (c + 1) := by
      obtain ⟨-, -, φ, c3, c4⟩ := C
      have N1 : ∀ q, q < 14 → F (190 + q) ≤ 8 := fun q hq => (N.1 q hq).1
      refine ⟨gIs _ _ _ _, by omega, fun i => if i = c then m else φ i, fun i hi => ?_, fun q hq hz => ?_⟩
      · by_cases y : i = c
        · subst y
          simp only [if_true]
          refine ⟨hm, by rw [addN_sz hm, if_pos rfl]; omega, ?_, ?_, ?_⟩
          · rw [gL_sI, gL_sI, gL_sI, gLs, h12, addN_nc hm w2 N1 hm, if_pos rfl]
          · rw [gIa (by omega), gIa (by omega), gIs]
          · rw [gIa (by omega), gIs]
        · simp only [if_neg y]
          obtain ⟨a1, a2, a3, a4, a5⟩ := c3 i (by omega)
          have nm : φ i ≠ m := fun x => by rw [x, h0] at a2; omega
          refine ⟨a1, by rw [addN_sz a1, if_neg nm]; exact a2, ?_, ?_, ?_⟩
          · rw [gL_sI, gL_sI, gL_sI, gL_sL, if_neg (by omega), a3, addN_nc hm w2 N1 a1, if_neg nm]
          · rw [gIa (by omega), gIa (by omega), gIk y, gI_sL]; exact a4
          · rw [gIa (by omega), gIk y, gIa (by omega), gI_sL]; exact a5
      · by_cases y : q = m
        · exact ⟨c, by omega, by simp only [if_true]; exact y.symm⟩
        · rw [addN_sz hq, if_neg y] at hz
          obtain ⟨i, i1, i2⟩ := c4 q hq hz
          exact ⟨i, by omega, by simp only [if_neg (show ¬ i = c by omega)]; exact i2⟩
    obtain ⟨h', e1, S3, K3⟩ := S2.nx H
    have K2 : Keep PFN h (sI (sI (sI (sL h 3 c (gL h 2 12)) 4 c (nI (srt m))) 5 c (nI (nmb m))) 2 3 (nI (c + 1))) := Keep.sI (Keep.sI (Keep.sI (Keep.sL Keep.rfl (fun z => z.2 (by omega))) (fun z => z.2 (by omega))) (fun z => z.2 (by omega))) (fun z => z.1 (by omega))
    refine ⟨h', ?_, S3, C2.keep (K3.mono (fun b k hp => by unfold PNm at hp; unfold PTk; omega)), K2.trans (K3.mono (fun b k hp => by unfold PFN at hp; unfold PTk; omega))⟩
    rw [← bv_1 (f := fun h87 => some (true, h87)), ← e1]
    simp (disch := omega) only [lI, fX5_newName, t3, eqN, eq_true k1, if_true, lw, bd_1, cond_false, j2, neg, c1, leN, c14, if_false, gd_1, inbN, ixN, Nat.reduceAdd, gI_sL, gIa, nm_1, nI_add]
  · obtain ⟨k1, l1⟩ := split2 z
    rw [l1] at lw
    rcases cFind N S k1 C with ⟨q, j2⟩ | ⟨q, j, j1, j2, j3, j4⟩
    · exact absurd q h1
    · simp (disch := omega) only [lI, fX5_newName, t3, eqN, eq_true k1, if_true, lw, bd_1, cond_false, j2, pos, if_false, f3]
  · by_cases k1 : tK TP n e = 1
    · have l1 : LW TP n e = true := by
        unfold nme at z
        rw [decide_eq_true k1, Bool.true_and] at z
        cases y : LW TP n e with
        | true => rfl
        | false => rw [y] at z; cases z
      rw [l1] at lw
      simp (disch := omega) only [lI, fX5_newName, t3, eqN, eq_true k1, if_true, lw, bd_1, cond_true, f1]
    · simp (disch := omega) only [lI, fX5_newName, t3, eqN, k1, if_false, bd_1, f1]
/-- a row m at w is being written -/
def RW (h1 h : HH) (w c m : Nat) (vs : Nat → Int32) : Prop := Keep (fun b k => PFN b k ∧ ¬ (b = w ∧ k = 3) ∧ ¬ (b = w + 1 ∧ m * c ≤ k ∧ k < m * c + c)) h1 h ∧ gI h w 3 = nI (m + 1) ∧ gI h w 1 = nI c ∧ ∀ j, j < c → gI h (w + 1) (m * c + j) = vs j
set_option maxRecDepth 100000 in
theorem RW.k {h1 h h' : HH} {w c m : Nat} {vs : Nat → Int32} (R : RW h1 h w c m vs) (K : Keep PFN h h') (hw : 6 ≤ w) : RW h1 h' w c m vs := by
  obtain ⟨r1, r2, r3, r4⟩ := R
  exact ⟨r1.trans (K.mono (fun b k hp => hp.1)), (K w 3 (by unfold PFN; omega)).1.trans r2, (K w 1 (by unfold PFN; omega)).1.trans r3, fun j hj => (K (w + 1) _ (by unfold PFN; omega)).1.trans (r4 j hj)⟩
set_option maxRecDepth 100000 in
theorem putR {h1 h : HH} {w c m q : Nat} {vs : Nat → Int32} (R : RW h1 h w c m vs) (hw : 6 ≤ w) {j : Nat} (hj : j < c) (hl : ln (w + 1) = q) (hq : m * c + c ≤ q) (h9 : q < 1000) (hm : m < 100) (v : Int32) : ∃ h', fX7_put w (nI j) v h = some h' ∧ RW h1 h' w c m (fun i => if i = j then v else vs i) ∧ h' = sI h (w + 1) (m * c + j) v := by
  obtain ⟨r1, r2, r3, r4⟩ := R
  have c1000 : c < 1000 := by omega
  refine ⟨_, ?_, ⟨Keep.sI r1 (fun z => z.2.2 ⟨rfl, by omega, by omega⟩), by rw [gIa (by omega)]; exact r2, by rw [gIa (by omega)]; exact r3, fun i hi => ?_⟩, rfl⟩
  · have e1 : nI (m + 1) - nI 1 = nI m := pk_sub (show 1 ≤ m + 1 by omega)
    have a1 : ¬ m + 1 ≤ m := by omega
    have a2 : ¬ c ≤ j := by omega
    have a3 : ¬ m < 0 := by omega
    have a4 : ¬ j < 0 := by omega
    have b1 : inb (nI (m * c + j)) q = true := inbN (by omega) (by omega)
    simp (disch := omega) only [lI, fX7_put, fX7_putAt, r2, e1, ltN, a3, a4, leN, a1, a2, if_false, r3, pk_mul, nI_add, hl, b1, gd_1, ixN, bv_1]
  · show _ = if i = j then v else vs i
    by_cases y : i = j
    · subst y; rw [gIs, if_pos rfl]
    · rw [gIk (by omega), if_neg y]; exact r4 i hi
/-! a row is added, and the line's word is passed -/
set_option maxRecDepth 100000 in
theorem cAdd (H : HT TP n) (S : CS h TP n d e) {w c r m : Nat} (hw : 6 ≤ w) (hc : c < 10) (hr : r < 100) (g0 : gI h w 0 = nI r) (g1 : gI h w 1 = nI c) (g3 : gI h w 3 = nI m) (hl : ln (w + 1) = r * c) (h9 : r * c < 1000) (hm : m ≤ r) : (m < r → ∃ h', fX5_addRow 2 w h = some (true, h') ∧ CS h' TP n d (tE TP n e) ∧ RW h h' w c m (fun _ => nI 0) ∧ Keep PNm h h') ∧ (m = r → fX5_addRow 2 w h = some (false, sI h 2 7 (nI 5))) := by
  constructor
  · intro lt
    have hq : m * c + c ≤ r * c := by
      have := Nat.mul_le_mul_right c (show m + 1 ≤ r by omega)
      rw [Nat.succ_mul] at this; exact this
    have loop : ∀ q i f (g : HH), i + q = c → q < f → (∀ vs : Nat → Int32, (∀ j, j < i → vs j = nI 0) → RW h g w c m vs → ∃ g', lq1 (fX7_add_L19 w) f (nI i) g = some g' ∧ RW h g' w c m (fun _ => nI 0) ∧ Keep PNm g g' ∧ Keep (fun b _ => b = 1 ∨ b = 2) g g') := by
      intro q
      induction q with
      | zero =>
        intro i f g h1 hf vs hv R
        obtain ⟨f, rfl⟩ : ∃ q, f = q + 1 := ⟨f - 1, by omega⟩
        have z : c ≤ i := by omega
        refine ⟨g, ?_, ⟨R.1, R.2.1, R.2.2.1, fun j hj => (R.2.2.2 j hj).trans (hv j (by omega))⟩, Keep.rfl, Keep.rfl⟩
        simp (disch := omega) only [lq1, fX7_add_L19, R.2.2.1, leN, z, if_true]
      | succ q ih =>
        intro i f g h1 hf vs hv R
        obtain ⟨f, rfl⟩ : ∃ q, f = q + 1 := ⟨f - 1, by omega⟩
        have z : ¬ c ≤ i := by omega
        obtain ⟨g2, p1, p2, p3⟩ := putR R hw (show i < c by omega) hl hq h9 (by omega) (nI 0)
        obtain ⟨g', q1, q2, q3, q4⟩ := ih (i + 1) f g2 (by omega) (by omega) _ (fun j hj => by
          show (if j = i then nI 0 else vs j) = nI 0
          by_cases y : j = i
          · rw [if_pos y]
          · rw [if_neg y]; exact hv j (by omega)) p2
        refine ⟨g', ?_, q2, ?_, ?_⟩
        · rw [← q1]
          simp (disch := omega) only [lI, lq1, fX7_add_L19, R.2.2.1, leN, z, if_false, p1, bv_1, nI_add]
        · refine Keep.trans ?_ q3
          rw [p3]; exact Keep.sI Keep.rfl (fun z => by unfold PNm at z; omega)
        · refine Keep.trans ?_ q4
          rw [p3]; exact Keep.sI Keep.rfl (fun z => by omega)
    have R0 : RW h (sI h w 3 (nI (m + 1))) w c m (fun j => gI h (w + 1) (m * c + j)) := ⟨Keep.sI Keep.rfl (fun z => z.2.1 ⟨rfl, rfl⟩), gIs _ _ _ _, by rw [gIk (by omega)]; exact g1, fun j hj => by rw [gIa (by omega)]⟩
    obtain ⟨g', q1, q2, q3, q4⟩ := loop c 0 FU _ (by omega) (by unfold FU; omega) _ (fun j hj => by omega) R0
    have K1 : Keep PNm h (sI h w 3 (nI (m + 1))) := Keep.sI Keep.rfl (fun z => by unfold PNm at z; omega)
    have K2 : Keep (fun b _ => b = 1 ∨ b = 2) h (sI h w 3 (nI (m + 1))) := Keep.sI Keep.rfl (fun z => by omega)
    have Sg : CS g' TP n d e := S.kf ((K2.trans q4).mono (fun b k hp => by omega))
    obtain ⟨h', e1, S3, K3⟩ := Sg.nx H
    refine ⟨h', ?_, S3, q2.k (K3.mono (fun b k hp => by unfold PFN at hp; unfold PTk; omega)) hw, (K1.trans q3).trans (K3.mono (fun b k hp => by unfold PNm at hp; unfold PTk; omega))⟩
    simp (disch := omega) only [lI, fX5_addRow, fX7_isFull, g3, g0, ltN, eq_true lt, if_true, bd_1, cond_false, fX7_add, nI_add, q1, bv_1, e1]
  · intro eq
    have z : ¬ m < r := by omega
    have f5 := (cFl S 5).1
    simp (disch := omega) only [lI, fX5_addRow, fX7_isFull, g3, g0, ltN, z, if_false, bd_1, cond_true, f5]
/-! the number of the token goes to the row -/
set_option maxRecDepth 100000 in
theorem cTak (H : HT TP n) (S : CS h TP n d e) {h1 : HH} {w c m q v : Nat} {vs : Nat → Int32} (R : RW h1 h w c m vs) (hw : 6 ≤ w) {j : Nat} (hj : j < c) (hl : ln (w + 1) = q) (hq : m * c + c ≤ q) (h9 : q < 1000) (hm : m < 100) (h11 : gI h 2 11 = nI v) : ∃ h', fX5_take 2 w (nI j) h = some (true, h') ∧ CS h' TP n d (tE TP n e) ∧ RW h1 h' w c m (fun i => if i = j then nI v else vs i) ∧ Keep PNm h h' := by
  obtain ⟨h2, p1, p2, p3⟩ := putR R hw hj hl hq h9 hm (nI v)
  have K2 : Keep (fun b _ => b = 1 ∨ b = 2) h h2 := by rw [p3]; exact Keep.sI Keep.rfl (fun z => by omega)
  have K3 : Keep PNm h h2 := by rw [p3]; exact Keep.sI Keep.rfl (fun z => by unfold PNm at z; omega)
  obtain ⟨h', e1, S3, K4⟩ := (S.kf (K2.mono (fun b k hp => by omega))).nx H
  refine ⟨h', ?_, S3, p2.k (K4.mono (fun b k hp => by unfold PFN at hp; unfold PTk; omega)) hw, K3.trans (K4.mono (fun b k hp => by unfold PNm at hp; unfold PTk; omega))⟩
  simp only [fX5_take, h11, p1, bv_1, e1]
end CNW
