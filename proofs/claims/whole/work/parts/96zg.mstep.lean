/-! the model's steps of reading -/
def FR (g : HH) (F : Nat → Nat) : Prop := ∀ k, k < 316 → gI g 185 k = nI (F k)
def MS (TP : Nat → Nat) (n : Nat) (g : HH) (F : Nat → Nat) (e : Nat) : Prop := MT g TP n ∧ TKm g TP n e ∧ gI g 181 13 = nI 0 ∧ FR g F ∧ e ≤ n ∧ gI g 181 9 = nI 0
/-- a fault is told -/
def FLT (g : HH) (q p : Nat) : Prop := gI g 181 13 = nI 1 ∧ gI g 181 9 = nI q ∧ gI g 181 10 = nI p
def PMd (b k : Nat) : Prop := ¬ (b = 181 ∧ ((4 ≤ k ∧ k ≤ 10) ∨ k = 13)) ∧ b ≠ 183 ∧ b ≠ 185
def MO (TP : Nat → Nat) (n : Nat) (g0 : HH) (o : Out) (r : Option HH) : Prop := o.el (fun q p => ∃ g', r = some g' ∧ FLT g' q p ∧ Keep PMd g0 g') (fun F e => ∃ g', r = some g' ∧ MS TP n g' F e ∧ Keep PMd g0 g')
/-- once a fault is told nothing more is told -/
def Abs (X : HH → Option HH) : Prop := ∀ g, gI g 181 13 = nI 1 → ∃ g', X g = some g' ∧ Keep (fun b _ => b ≠ 185) g g'
def JJ (TP : Nat → Nat) (n : Nat) (F : Nat → Nat) (e : Nat) (o : Out) (X : HH → Option HH) : Prop := (∀ g, MS TP n g F e → MO TP n g o (X g)) ∧ Abs X
def flt (g : HH) (q p : Nat) : HH := sI (sI (sI g 181 13 (nI 1)) 181 9 (nI q)) 181 10 (nI p)
def cWr (vi v : Int32) (K : HH → Option HH) : HH → Option HH := fun g => gd (inb vi 316) (K (sI g 185 (ix vi) v))
def cG (vi : Int32) (K : HH → Option HH) : HH → Option HH := fun g => gd (inb vi 316) (K g)
def cNu (lo hi : Int32) (K : Int32 → HH → Option HH) : HH → Option HH := fun g => bd (fX9_number 181 lo hi g) K
def cAf (w : Nat) (lo : Int32) (Hx : HH → Int32) (K : Int32 → HH → Option HH) : HH → Option HH := fun g => bd (fX9_after 181 w lo (Hx g) g) K
def cInc (c : Int32) : HH → Option HH := fun g => if gI g 181 13 = 0 then gd (inb c 316) (gd (inb c 316) (some (sI g 185 (ix c) (gI g 185 (ix c) + 1)))) else some g
section MST
variable {TP : Nat → Nat} {n e : Nat} {F : Nat → Nat} {g g0 g1 : HH}
set_option maxRecDepth 100000 in
theorem z10 : (nI 1 = nI 0) = False := by decide +kernel
set_option maxRecDepth 100000 in
theorem z00 : (nI 0 = nI 0) = True := eq_self _
set_option maxRecDepth 100000 in
theorem MO.tr {o : Out} {r : Option HH} (C : MO TP n g1 o r) (K : Keep PMd g0 g1) : MO TP n g0 o r := by
  rcases o.cs with ⟨q, p, rfl⟩ | ⟨F, e, rfl⟩
  · obtain ⟨g', a1, a2, a3⟩ := C
    exact ⟨g', a1, a2, K.trans a3⟩
  · obtain ⟨g', a1, a2, a3⟩ := C
    exact ⟨g', a1, a2, K.trans a3⟩
set_option maxRecDepth 100000 in
theorem k185 {h h' : HH} (K : Keep (fun b _ => b ≠ 185) h h') : Keep PMd h h' := K.mono (fun b k hp => hp.2.2)
set_option maxRecDepth 100000 in
theorem FLT.k {q p : Nat} (f : FLT g q p) (K : Keep (fun b _ => b ≠ 185) g g1) : FLT g1 q p := ⟨(K 181 13 (by omega)).1.trans f.1, (K 181 9 (by omega)).1.trans f.2.1, (K 181 10 (by omega)).1.trans f.2.2⟩
set_option maxRecDepth 100000 in
theorem Abs.bad {X : HH → Option HH} (A : Abs X) {q p : Nat} (f : FLT g q p) : MO TP n g (.bad q p) (X g) := by
  obtain ⟨g', a1, a2⟩ := A g f.1
  exact ⟨g', a1, f.k a2, k185 a2⟩
set_option maxRecDepth 100000 in
theorem flt_F {q p : Nat} : FLT (flt g q p) q p := by
  unfold flt
  refine ⟨?_, ?_, ?_⟩
  · rw [gIk (by omega), gIk (by omega), gIs]
  · rw [gIk (by omega), gIs]
  · rw [gIs]
set_option maxRecDepth 100000 in
theorem flt_K {q p : Nat} : Keep PMd g (flt g q p) := by
  unfold flt
  exact Keep.sI (Keep.sI (Keep.sI Keep.rfl (fun z => z.1 ⟨rfl, by omega⟩)) (fun z => z.1 ⟨rfl, by omega⟩)) (fun z => z.1 ⟨rfl, by omega⟩)
set_option maxRecDepth 100000 in
theorem Abs.flt {X : HH → Option HH} (A : Abs X) {q p : Nat} : MO TP n g (.bad q p) (X (flt g q p)) := (A.bad flt_F).tr flt_K
set_option maxRecDepth 100000 in
theorem wr_ok {q p : Nat} {vq vp : Int32} (h13 : gI g 181 13 = nI 0) (eq : vq = nI q) (ep : vp = nI p) : fX9_wrong 181 vq vp g = some (flt g q p) := by
  subst eq ep
  simp only [lI, fX9_wrong, h13, z00, if_true, nm_1]
  rfl
set_option maxRecDepth 100000 in
theorem wr_no {vq vp : Int32} (h13 : gI g 181 13 = nI 1) : fX9_wrong 181 vq vp g = some g := by
  simp only [lI, fX9_wrong, h13, z10, Nat.one_ne_zero, if_false]
set_option maxRecDepth 100000 in
theorem MS.nx (H : HT TP n) (M : MS TP n g F e) : ∃ g', fX9_next 181 g = some g' ∧ MS TP n g' F (tE TP n e) ∧ Keep PMd g g' := by
  obtain ⟨C, T1, h13, R, he, h9⟩ := M
  have hE := tE_le (TP := TP) he
  obtain ⟨g', e1, t1, K⟩ := mNxt H C hE.2.1 T1.2.1
  exact ⟨g', e1, ⟨C.tk K, t1, (K 181 13 (by unfold PTm; omega)).1.trans h13, fun k hk => (K 185 k (by unfold PTm; omega)).1.trans (R k hk), hE.2.1, (K 181 9 (by unfold PTm; omega)).1.trans h9⟩, K.mono (fun b k hp => by unfold PMd at hp; unfold PTm; omega)⟩
set_option maxRecDepth 100000 in
theorem MS.wr {i v : Nat} (M : MS TP n g F e) : MS TP n (sI g 185 i (nI v)) (fu F i v) e := by
  obtain ⟨⟨C1, C2⟩, ⟨t1, t2, t3, t4, t5⟩, h13, R, he, h9⟩ := M
  refine ⟨⟨(gIa (by omega)).trans C1, fun k hk => (gIa (by omega)).trans (C2 k hk)⟩, ⟨(gIa (by omega)).trans t1, (gIa (by omega)).trans t2, (gIa (by omega)).trans t3, fun z => (gIa (by omega)).trans (t4 z), fun z => ⟨(gIa (by omega)).trans (t5 z).1, fun j hj => (gIa (by omega)).trans ((t5 z).2 j hj)⟩⟩, (gIa (by omega)).trans h13, fun k hk => ?_, he, (gIa (by omega)).trans h9⟩
  by_cases z : k = i
  · subst z; rw [gIs, fuS]
  · rw [gIk z, fuN _ z]; exact R k hk
set_option maxRecDepth 100000 in
theorem wrK {i : Nat} {v : Int32} : Keep PMd g (sI g 185 i v) := Keep.sI Keep.rfl (fun z => z.2.2 rfl)
set_option maxRecDepth 100000 in
theorem MS.cg {G : Nat → Nat} (M : MS TP n g F e) (hG : ∀ k, k < 316 → G k = F k) : MS TP n g G e := ⟨M.1, M.2.1, M.2.2.1, fun k hk => by rw [hG k hk]; exact M.2.2.2.1 k hk, M.2.2.2.2⟩
set_option maxRecDepth 100000 in
theorem tmk {k : Nat} (hk : k ≤ 5) : tm k < 100 ∧ (tm k = 3 ↔ k = 2) ∧ (tm k = 2 ↔ k = 1) ∧ (tm k = 44 ↔ k = 4) ∧ (tm k = 59 ↔ k = 3) ∧ (tm k = 0 ↔ k = 5) := by
  unfold tm
  (repeat' split) <;> omega
set_option maxRecDepth 100000 in
theorem jWr {i v : Nat} {vi vv : Int32} {o : Out} {K : HH → Option HH} (hi : i < 316) (ei : vi = nI i) (ev : vv = nI v) (J : JJ TP n (fu F i v) e o K) : JJ TP n F e o (cWr vi vv K) := by
  subst ei ev
  have b1 : inb (nI i) 316 = true := inbN hi (by omega)
  have b2 : ix (nI i) = i := ixN (by omega)
  refine ⟨fun g M => ?_, fun g h13 => ?_⟩
  · show MO TP n g o (gd (inb (nI i) 316) (K (sI g 185 (ix (nI i)) (nI v))))
    rw [b1, gd_1, b2]
    exact (J.1 _ M.wr).tr wrK
  · obtain ⟨g', a1, a2⟩ := J.2 (sI g 185 i (nI v)) ((gIa (by omega)).trans h13)
    refine ⟨g', ?_, Keep.trans (Keep.sI Keep.rfl (by omega)) a2⟩
    show gd (inb (nI i) 316) (K (sI g 185 (ix (nI i)) (nI v))) = _
    rw [b1, gd_1, b2, a1]
set_option maxRecDepth 100000 in
theorem jG {i : Nat} {vi : Int32} {o : Out} {K : HH → Option HH} (hi : i < 316) (ei : vi = nI i) (J : JJ TP n F e o K) : JJ TP n F e o (cG vi K) := by
  subst ei
  have b1 : inb (nI i) 316 = true := inbN hi (by omega)
  refine ⟨fun g M => ?_, fun g h13 => ?_⟩
  · show MO TP n g o (gd (inb (nI i) 316) (K g))
    rw [b1, gd_1]; exact J.1 g M
  · obtain ⟨g', a1, a2⟩ := J.2 g h13
    refine ⟨g', ?_, a2⟩
    show gd (inb (nI i) 316) (K g) = _
    rw [b1, gd_1, a1]
set_option maxRecDepth 100000 in
theorem jInc {i : Nat} {vi : Int32} {o : Out} (hi : i < 316) (ei : vi = nI i) (eo : o = .ok (fu F i (F i + 1)) e) : JJ TP n F e o (cInc vi) := by
  subst ei eo
  have b1 : inb (nI i) 316 = true := inbN hi (by omega)
  have b2 : ix (nI i) = i := ixN (by omega)
  refine ⟨fun g M => ?_, fun g h13 => ?_⟩
  · refine ⟨sI g 185 i (nI (F i + 1)), ?_, M.wr, wrK⟩
    show (if gI g 181 13 = nI 0 then gd (inb (nI i) 316) (gd (inb (nI i) 316) (some (sI g 185 (ix (nI i)) (gI g 185 (ix (nI i)) + nI 1)))) else some g) = _
    rw [M.2.2.1, if_pos rfl, b1, gd_1, gd_1, b2, M.2.2.2.1 i hi, nI_add]
  · refine ⟨g, ?_, Keep.rfl⟩
    show (if gI g 181 13 = nI 0 then gd (inb (nI i) 316) (gd (inb (nI i) 316) (some (sI g 185 (ix (nI i)) (gI g 185 (ix (nI i)) + nI 1)))) else some g) = _
    rw [h13, if_neg (fun z => by rw [z10] at z; exact z)]
/-! a word that must stand -/
set_option maxRecDepth 100000 in
theorem jW {w w' : Nat} {k : Nat → Out} {K : HH → Option HH} (H : HT TP n) (hw : w' < 58) (ew : CW w = CW w') (J : JJ TP n F (tE TP n e) (k (tE TP n e)) K) : JJ TP n F e (sW TP n w e k) (fun g => bv (fX9_must 181 w' g) K) := by
  have eW : WD TP n e w = WD TP n e w' := by unfold WD; rw [ew]
  refine ⟨fun g M => ?_, fun g h13 => ?_⟩
  · have iw := mIsW hw M.2.2.2.2.1 M.2.1 M.2.2.1
    unfold sW
    rw [eW]
    cases z : WD TP n e w' with
    | true =>
      rw [z] at iw
      obtain ⟨g', e1, m1, k1⟩ := M.nx H
      have e2 : fX9_must 181 w' g = some g' := by simp only [lI, fX9_must, fX9_takesWord, M.2.2.1, z00, if_true, iw, bd_1, cond_true, e1, bv_1]
      rw [if_pos rfl]
      show MO TP n g _ (bv (fX9_must 181 w' g) K)
      rw [e2, bv_1]
      exact (J.1 g' m1).tr k1
    | false =>
      rw [z] at iw
      have w1 := wr_ok (g := g) (q := 1) M.2.2.1 (vq := nI 1) rfl M.2.1.1
      have e2 : fX9_must 181 w' g = some (flt g 1 (tA TP n e)) := by simp only [lI, fX9_must, fX9_takesWord, M.2.2.1, z00, if_true, iw, bd_1, cond_false, w1, bv_1]
      rw [if_neg (fun z => by cases z)]
      show MO TP n g _ (bv (fX9_must 181 w' g) K)
      rw [e2, bv_1]
      exact J.2.flt
  · have e2 : fX9_must 181 w' g = some g := by simp only [lI, fX9_must, h13, z10, Nat.one_ne_zero, if_false]
    obtain ⟨g', a1, a2⟩ := J.2 g h13
    exact ⟨g', by show bv (fX9_must 181 w' g) K = _; rw [e2, bv_1, a1], a2⟩
set_option maxRecDepth 100000 in
theorem mNh (M : MS TP n g F e) {lo hi : Nat} (hlo : lo < 10000) (hhi : hi < 10000) : (tK TP n e = 2 → lo ≤ tV TP n e → tV TP n e ≤ hi → fX9_numberHere 181 (nI lo) (nI hi) g = some (nI (tV TP n e), g)) ∧ (tK TP n e = 2 → ¬ (lo ≤ tV TP n e ∧ tV TP n e ≤ hi) → fX9_numberHere 181 (nI lo) (nI hi) g = some (nI lo, flt g 4 (tA TP n e))) ∧ (tK TP n e ≠ 2 → fX9_numberHere 181 (nI lo) (nI hi) g = some (nI lo, flt g 1 (tA TP n e))) := by
  obtain ⟨kb, k3, -⟩ := tmk (kbk (TP := TP) (n := n) (e := e))
  obtain ⟨C, ⟨t1, t2, t3, t4, t5⟩, h13, R, he, h9⟩ := M
  have f13 : ∀ q p, gI (flt g q p) 181 13 = nI 1 := fun q p => flt_F.1
  have w4 := wr_ok (g := g) (q := 4) h13 (vq := nI 4) rfl t1
  have w1 := wr_ok (g := g) (q := 1) h13 (vq := nI 1) rfl t1
  refine ⟨fun k h1 h2 => ?_, fun k h1 => ?_, fun k => ?_⟩
  · have v := vF he k
    have y := k3.2 k
    have wi : fX9_within (nI (tV TP n e)) (nI lo) (nI hi) g = some (true, g) := wit3 h1 h2 (by omega)
    simp (disch := omega) only [lI, fX9_numberHere, h13, z00, if_true, t3, eqN, eq_true y, t4 k, wi, bd_1, cond_true]
  · have v := vF he k
    have y := k3.2 k
    have wi : fX9_within (nI (tV TP n e)) (nI lo) (nI hi) g = some (false, g) := by
      by_cases a1 : tV TP n e < lo
      · simp (disch := omega) only [fX9_within, ltN, a1, if_true]
      · have a2 : hi < tV TP n e := by omega
        simp (disch := omega) only [fX9_within, ltN, a1, if_false, a2, if_true]
    simp (disch := omega) only [lI, fX9_numberHere, h13, z00, if_true, t3, eqN, eq_true y, t4 k, wi, bd_1, cond_false, w4, bv_1, f13, z10, Nat.one_ne_zero, if_false]
  · have y : ¬ tm (tK TP n e) = 3 := fun z => k (k3.1 z)
    simp (disch := omega) only [lI, fX9_numberHere, h13, z00, if_true, t3, eqN, y, if_false, w1, bv_1, f13, z10, Nat.one_ne_zero]
set_option maxRecDepth 100000 in
theorem mNh_no {vl vh : Int32} (h13 : gI g 181 13 = nI 1) : fX9_numberHere 181 vl vh g = some (vl, g) := by
  simp only [lI, fX9_numberHere, h13, z10, Nat.one_ne_zero, if_false]
set_option maxRecDepth 100000 in
theorem mNu_no {vl vh : Int32} (h13 : gI g 181 13 = nI 1) : fX9_number 181 vl vh g = some (vl, g) := by
  simp only [lI, fX9_number, mNh_no h13, bd_1, h13, z10, Nat.one_ne_zero, if_false]
set_option maxRecDepth 100000 in
theorem jN {lo hi : Nat} {vl vh : Int32} {k : Nat → Nat → Out} {K : Int32 → HH → Option HH} (H : HT TP n) (lh : lo ≤ hi) (hhi : hi < 10000) (el : vl = nI lo) (eh : vh = nI hi) (J : ∀ v, lo ≤ v → v ≤ hi → JJ TP n F (tE TP n e) (k v (tE TP n e)) (K (nI v))) : JJ TP n F e (sN TP n lo hi e k) (cNu vl vh K) := by
  subst el eh
  refine ⟨fun g M => ?_, fun g h13 => ?_⟩
  · obtain ⟨a1, a2, a3⟩ := mNh M (lo := lo) (hi := hi) (by omega) hhi
    have f13 : ∀ q p, gI (flt g q p) 181 13 = nI 1 := fun q p => flt_F.1
    unfold sN
    show MO TP n g _ (bd (fX9_number 181 (nI lo) (nI hi) g) K)
    by_cases z : tK TP n e = 2
    · rw [if_pos z]
      by_cases y : lo ≤ tV TP n e ∧ tV TP n e ≤ hi
      · obtain ⟨g', e1, m1, k1⟩ := M.nx H
        have e2 : fX9_number 181 (nI lo) (nI hi) g = some (nI (tV TP n e), g') := by simp only [lI, fX9_number, a1 z y.1 y.2, bd_1, M.2.2.1, z00, if_true, e1, bv_1]
        rw [if_pos y, e2, bd_1]
        exact ((J _ y.1 y.2).1 g' m1).tr k1
      · have e2 : fX9_number 181 (nI lo) (nI hi) g = some (nI lo, flt g 4 (tA TP n e)) := by simp only [lI, fX9_number, a2 z y, bd_1, f13, z10, Nat.one_ne_zero, if_false]
        rw [if_neg y, e2, bd_1]
        exact (J lo (Nat.le_refl _) lh).2.flt
    · have e2 : fX9_number 181 (nI lo) (nI hi) g = some (nI lo, flt g 1 (tA TP n e)) := by simp only [lI, fX9_number, a3 z, bd_1, f13, z10, Nat.one_ne_zero, if_false]
      rw [if_neg z, e2, bd_1]
      exact (J lo (Nat.le_refl _) lh).2.flt
  · obtain ⟨g', a1, a2⟩ := (J lo (Nat.le_refl _) lh).2 g h13
    exact ⟨g', by show bd (fX9_number 181 (nI lo) (nI hi) g) K = _; rw [mNu_no h13, bd_1, a1], a2⟩
set_option maxRecDepth 100000 in
theorem bd_bv {α : Type} {x : Option HH} {f : HH → Option (α × HH)} {K : α → HH → Option HH} : bd (bv x f) K = bv x (fun h => bd (f h) K) := by
  cases x <;> rfl
set_option maxRecDepth 100000 in
theorem bd_id {α : Type} {x : Option (α × HH)} {K : α → HH → Option HH} : bd (bd x (fun r h => some (r, h))) K = bd x K := by
  cases x <;> rfl
set_option maxRecDepth 100000 in
theorem jA {w w' lo hi : Nat} {vl : Int32} {Hx : HH → Int32} {k : Nat → Nat → Out} {K : Int32 → HH → Option HH} (H : HT TP n) (hw : w' < 58) (ew : CW w = CW w') (lh : lo ≤ hi) (hhi : hi < 10000) (el : vl = nI lo) (eh : ∀ g, MS TP n g F e → Hx g = nI hi) (J : ∀ v e2, lo ≤ v → v ≤ hi → e2 = tE TP n (tE TP n e) → JJ TP n F e2 (k v e2) (K (nI v))) : JJ TP n F e (sA TP n w lo hi e k) (cAf w' vl Hx K) := by
  subst el
  have J2 := jW (w := w) (w' := w') (F := F) (e := e) (k := fun e1 => sN TP n lo hi e1 k) (K := cNu (nI lo) (nI hi) K) H hw ew (jN H lh hhi rfl rfl (fun v h1 h2 => J v _ h1 h2 rfl))
  have ee : ∀ g vh, bd (fX9_after 181 w' (nI lo) vh g) K = bv (fX9_must 181 w' g) (cNu (nI lo) vh K) := fun g vh => by
    unfold fX9_after
    rw [bd_bv]
    cases fX9_must 181 w' g with
    | none => rfl
    | some g2 => exact bd_id
  refine ⟨fun g M => ?_, fun g h13 => ?_⟩
  · show MO TP n g _ (bd (fX9_after 181 w' (nI lo) (Hx g) g) K)
    rw [eh g M, ee]
    exact J2.1 g M
  · have e2 : fX9_must 181 w' g = some g := by simp only [lI, fX9_must, h13, z10, Nat.one_ne_zero, if_false]
    obtain ⟨g', a1, a2⟩ := (J lo _ (Nat.le_refl _) lh rfl).2 g h13
    refine ⟨g', ?_, a2⟩
    show bd (fX9_after 181 w' (nI lo) (Hx g) g) K = _
    rw [ee, e2, bv_1]
    show bd (fX9_number 181 (nI lo) (Hx g) g) K = _
    rw [mNu_no h13, bd_1, a1]
end MST
