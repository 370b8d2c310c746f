/-! the class's tokens; the model's -/
def HT (TP : Nat → Nat) (n : Nat) : Prop := n ≤ 1000 ∧ ∀ k, k < n → TP k < 256
def CT (h : HH) (TP : Nat → Nat) (n : Nat) : Prop := gR h 2 4 = 1 ∧ gI h 2 5 = nI n ∧ ∀ k, k < n → gI h 1 k &&& nI 255 = nI (TP k)
def MT (g : HH) (TP : Nat → Nat) (n : Nat) : Prop := gI g 181 3 = nI n ∧ ∀ k, k < n → gI g 182 k = nI (TP k)
def TKc (h : HH) (TP : Nat → Nat) (n e : Nat) : Prop := gI h 2 8 = nI (tA TP n e) ∧ gI h 2 9 = nI (tE TP n e) ∧ gI h 2 10 = nI (tK TP n e) ∧ (tK TP n e = 2 → gI h 2 11 = nI (tV TP n e)) ∧ (tK TP n e = 1 → gL h 2 12 = lN (tC TP n e))
def tm (k : Nat) : Nat := if k = 0 then 1 else if k = 1 then 2 else if k = 2 then 3 else if k = 3 then 59 else if k = 4 then 44 else 0
def TKm (g : HH) (TP : Nat → Nat) (n e : Nat) : Prop := gI g 181 4 = nI (tA TP n e) ∧ gI g 181 5 = nI (tE TP n e) ∧ gI g 181 6 = nI (tm (tK TP n e)) ∧ (tK TP n e = 2 → gI g 181 7 = nI (tV TP n e)) ∧ (tK TP n e = 1 → gI g 181 8 = nI (tN TP n e) ∧ ∀ j, j < tN TP n e → gI g 183 j = nI (TP (tA TP n e + j)))
def PTk (b k : Nat) : Prop := ¬ (b = 2 ∧ 8 ≤ k ∧ k ≤ 12)
def PTm (b k : Nat) : Prop := ¬ (b = 181 ∧ 4 ≤ k ∧ k ≤ 8) ∧ b ≠ 183
def byv (TP : Nat → Nat) (n k : Nat) : Int32 := if k < n then nI (TP k) else M1
section CTK
variable {h : HH} {TP : Nat → Nat} {n : Nat}
set_option maxRecDepth 100000 in
theorem CT.keep {h h' : HH} (C : CT h TP n) (K : Keep (fun b k => b = 1 ∨ (b = 2 ∧ (k = 4 ∨ k = 5))) h h') : CT h' TP n := ⟨(K 2 4 (by omega)).2.2.trans C.1, (K 2 5 (by omega)).1.trans C.2.1, fun k hk => by rw [(K 1 k (by omega)).1]; exact C.2.2 k hk⟩
set_option maxRecDepth 100000 in
theorem MT.keep {h h' : HH} (C : MT h TP n) (K : Keep (fun b k => b = 182 ∨ (b = 181 ∧ k = 3)) h h') : MT h' TP n := ⟨(K 181 3 (by omega)).1.trans C.1, fun k hk => by rw [(K 182 k (by omega)).1]; exact C.2 k hk⟩
set_option maxRecDepth 100000 in
theorem kb10 : isKb 10 1 = true ∧ ln 1 = 1000 := by decide +kernel
set_option maxRecDepth 100000 in
theorem cByte (H : HT TP n) (C : CT h TP n) {k : Nat} (hk : k ≤ 2000) : fX5_byteAt 2 (nI k) h = some (byv TP n k, h) := by
  obtain ⟨k1, k2⟩ := kb10
  have hn := H.1
  have e1000 : Int32.ofNat 1000 = nI 1000 := rfl
  unfold byv
  by_cases c : k < n
  · have c1 : ¬ n ≤ k := by omega
    have c2 : k < 1000 := by omega
    rw [if_pos c]
    simp (disch := omega) only [lI, gd_1, inbN, ixN, fX5_byteAt, ltN, Nat.not_lt_zero, if_false, C.2.1, leN, c1, C.1, k1, e1000, c2, if_true, k2, C.2.2 k c]
  · have c1 : n ≤ k := by omega
    rw [if_neg c]
    simp (disch := omega) only [lI, neg1, fX5_byteAt, ltN, Nat.not_lt_zero, if_false, C.2.1, leN, c1, if_true]
set_option maxRecDepth 100000 in
theorem mLook (H : HT TP n) (C : MT h TP n) {k : Nat} (hk : k ≤ 2000) : fX9_look 181 (nI k) h = some (byv TP n k, h) := by
  have hn := H.1
  unfold byv
  by_cases c : k < n
  · have c1 : ¬ n ≤ k := by omega
    rw [if_pos c]
    simp (disch := omega) only [lI, gd_1, inbN, ixN, fX9_look, C.1, leN, c1, if_false, Nat.reduceAdd, C.2 k c]
  · have c1 : n ≤ k := by omega
    rw [if_neg c]
    simp (disch := omega) only [lI, neg1, fX9_look, C.1, leN, c1, if_true]
set_option maxRecDepth 100000 in
theorem cLet (c : Nat) (hc : c < 256) : fX5_isLetter (nI c) h = some (isL c, h) ∧ fX9_isSmall (nI c) h = some (isL c, h) ∧ fX5_isDigit (nI c) h = some (isG c, h) ∧ fX9_isDigit (nI c) h = some (isG c, h) := by
  unfold isL isG
  refine ⟨?_, ?_, ?_, ?_⟩
  · by_cases c1 : c < 97
    · rw [decide_eq_false (by omega)]; simp (disch := omega) only [lI, fX5_isLetter, ltN, c1, if_true]
    · by_cases c2 : 122 < c
      · rw [decide_eq_false (by omega)]; simp (disch := omega) only [lI, fX5_isLetter, ltN, c1, c2, if_true, if_false]
      · rw [decide_eq_true (by omega)]; simp (disch := omega) only [lI, fX5_isLetter, ltN, c1, c2, if_false]
  · by_cases c1 : c < 97
    · rw [decide_eq_false (by omega)]; simp (disch := omega) only [lI, fX9_isSmall, ltN, c1, if_true]
    · by_cases c2 : 122 < c
      · rw [decide_eq_false (by omega)]; simp (disch := omega) only [lI, fX9_isSmall, ltN, c1, c2, if_true, if_false]
      · rw [decide_eq_true (by omega)]; simp (disch := omega) only [lI, fX9_isSmall, ltN, c1, c2, if_false]
  · by_cases c1 : c < 48
    · rw [decide_eq_false (by omega)]; simp (disch := omega) only [lI, fX5_isDigit, ltN, c1, if_true]
    · by_cases c2 : 57 < c
      · rw [decide_eq_false (by omega)]; simp (disch := omega) only [lI, fX5_isDigit, ltN, c1, c2, if_true, if_false]
      · rw [decide_eq_true (by omega)]; simp (disch := omega) only [lI, fX5_isDigit, ltN, c1, c2, if_false]
  · by_cases c1 : c < 48
    · rw [decide_eq_false (by omega)]; simp (disch := omega) only [lI, fX9_isDigit, ltN, c1, if_true]
    · by_cases c2 : 57 < c
      · rw [decide_eq_false (by omega)]; simp (disch := omega) only [lI, fX9_isDigit, ltN, c1, c2, if_true, if_false]
      · rw [decide_eq_true (by omega)]; simp (disch := omega) only [lI, fX9_isDigit, ltN, c1, c2, if_false]
set_option maxRecDepth 100000 in
theorem mM1 : fX9_isSmall M1 h = some (false, h) ∧ fX9_isDigit M1 h = some (false, h) := by
  have a1 : (M1 < nI 97) = True := by decide +kernel
  have a2 : (M1 < nI 48) = True := by decide +kernel
  constructor
  · simp only [lI, fX9_isSmall, a1, if_true]
  · simp only [lI, fX9_isDigit, a2, if_true]
set_option maxRecDepth 100000 in
theorem ktk1 {h h' : HH} (K : Keep PTk h h') {k : Nat} {v : Int32} (h1 : 8 ≤ k) (h2 : k ≤ 12) : Keep PTk h (sI h' 2 k v) := Keep.sI K (fun z => z ⟨rfl, h1, h2⟩)
set_option maxRecDepth 100000 in
theorem ktk2 {h h' : HH} (K : Keep PTk h h') {k : Nat} {v : Int64} (h1 : 8 ≤ k) (h2 : k ≤ 12) : Keep PTk h (sL h' 2 k v) := Keep.sL K (fun z => z ⟨rfl, h1, h2⟩)
set_option maxRecDepth 100000 in
theorem CT.tk {h h' : HH} (C : CT h TP n) (K : Keep PTk h h') : CT h' TP n := C.keep (K.mono (fun x k hp => by unfold PTk; omega))
/-! blanks -/
set_option maxRecDepth 100000 in
theorem cBl (H : HT TP n) (C : CT h TP n) (kk : HH → Option HH) : ∀ m i f (g : HH), n ≤ i + m → i ≤ n → m < f → Keep PTk h g → gI g 2 8 = nI i → ∃ g', lq1 (fX5_next_L13 kk 2) f (nI i) g = kk g' ∧ gI g' 2 8 = nI (rn TP n (fun c => decide (c = 32)) m i) ∧ Keep PTk h g' := by
  have hn := H.1
  intro m
  induction m with
  | zero =>
    intro i f g h1 h2 hf K g8
    obtain ⟨f, rfl⟩ : ∃ q, f = q + 1 := ⟨f - 1, by omega⟩
    have c1 : n ≤ i := by omega
    have Cg := C.tk K
    refine ⟨g, ?_, g8, K⟩
    simp (disch := omega) only [lq1, fX5_next_L13, Cg.2.1, leN, c1, if_true]
  | succ m ih =>
    intro i f g h1 h2 hf K g8
    obtain ⟨f, rfl⟩ : ∃ q, f = q + 1 := ⟨f - 1, by omega⟩
    have Cg := C.tk K
    have er : rn TP n (fun c => decide (c = 32)) (m + 1) i = if i < n ∧ (decide (TP i = 32)) = true then rn TP n (fun c => decide (c = 32)) m (i + 1) else i := rfl
    rw [er]
    by_cases c : i < n
    · have c1 : ¬ n ≤ i := by omega
      have hb := H.2 i c
      have cb := cByte H Cg (k := i) (by omega)
      unfold byv at cb
      rw [if_pos c] at cb
      by_cases c2 : TP i = 32
      · rw [if_pos ⟨c, decide_eq_true c2⟩]
        obtain ⟨g', e', r'⟩ := ih (i + 1) f (sI g 2 8 (nI (i + 1))) (by omega) (by omega) (by omega) (ktk1 K (by omega) (by omega)) (gIs _ _ _ _)
        refine ⟨g', ?_, r'⟩
        rw [← e']
        simp (disch := omega) only [lI, bd_1, nI_add, lq1, fX5_next_L13, Cg.2.1, leN, c1, if_false, cb, eqN, eq_true c2, if_true]
      · rw [if_neg (fun z => c2 (of_decide_eq_true z.2))]
        refine ⟨g, ?_, g8, K⟩
        simp (disch := omega) only [lI, bd_1, lq1, fX5_next_L13, Cg.2.1, leN, c1, if_false, cb, eqN, c2]
    · have c1 : n ≤ i := by omega
      rw [if_neg (fun z => c z.1)]
      refine ⟨g, ?_, g8, K⟩
      simp (disch := omega) only [lq1, fX5_next_L13, Cg.2.1, leN, c1, if_true]
set_option maxRecDepth 100000 in
theorem cWo (H : HT TP n) (C : CT h TP n) (kk : HH → Option HH) {a : Nat} (ha : a ≤ n) : ∀ m i f (g : HH), n ≤ i + m → a ≤ i → i ≤ n → m < f → Keep PTk h g → gI g 2 8 = nI a → gI g 2 9 = nI i → (i - a ≤ 8 → gL g 2 12 = lN (cwd TP a (i - a))) → ∃ g', lq1 (fX5_nextWord_L18 kk 2) f (nI i) g = kk g' ∧ gI g' 2 8 = nI a ∧ gI g' 2 9 = nI (rn TP n isL m i) ∧ (rn TP n isL m i - a ≤ 8 → gL g' 2 12 = lN (cwd TP a (rn TP n isL m i - a))) ∧ Keep PTk h g' := by
  have hn := H.1
  intro m
  induction m with
  | zero =>
    intro i f g h1 h0 h2 hf K g8 g9 g12
    obtain ⟨f, rfl⟩ : ∃ q, f = q + 1 := ⟨f - 1, by omega⟩
    have c1 : n ≤ i := by omega
    have Cg := C.tk K
    refine ⟨g, ?_, g8, g9, g12, K⟩
    simp (disch := omega) only [lq1, fX5_nextWord_L18, Cg.2.1, leN, c1, if_true]
  | succ m ih =>
    intro i f g h1 h0 h2 hf K g8 g9 g12
    obtain ⟨f, rfl⟩ : ∃ q, f = q + 1 := ⟨f - 1, by omega⟩
    have Cg := C.tk K
    have er : rn TP n isL (m + 1) i = if i < n ∧ isL (TP i) = true then rn TP n isL m (i + 1) else i := rfl
    rw [er]
    by_cases c : i < n
    · have c1 : ¬ n ≤ i := by omega
      have hb := H.2 i c
      have cb := cByte H Cg (k := i) (by omega)
      unfold byv at cb
      rw [if_pos c] at cb
      have cl := (cLet (h := g) (TP i) hb).1
      cases hl : isL (TP i) with
      | true =>
        rw [hl] at cl
        rw [if_pos ⟨c, rfl⟩]
        obtain ⟨g', e', r'⟩ := ih (i + 1) f (sI (sL g 2 12 ((gL g 2 12 <<< ((8 : Int32).toInt64 &&& 63)) ||| lN (TP i))) 2 9 (nI (i + 1))) (by omega) (by omega) (by omega) (by omega) (ktk1 (ktk2 K (by omega) (by omega)) (by omega) (by omega)) (by rw [gIk (by omega), gI_sL]; exact g8) (gIs _ _ _ _) (fun z => by
          rw [gL_sI, gLs, g12 (by omega), sh64, or64 hb, show i + 1 - a = (i - a) + 1 by omega]
          show _ = lN (cwd TP a (i - a) * 256 + TP (a + (i - a)))
          rw [show a + (i - a) = i by omega])
        refine ⟨g', ?_, r'⟩
        rw [← e']
        show fX5_nextWord_L18 kk 2 (lq1 (fX5_nextWord_L18 kk 2) f) (nI i) g = _
        generalize lq1 (fX5_nextWord_L18 kk 2) f = sf
        unfold fX5_nextWord_L18
        rw [Cg.2.1, if_neg (by rw [leN (by omega) (by omega)]; exact c1)]
        simp (disch := omega) only [bd_1, cb, cl, cond_true, nm_1, nI_l]
        rw [← nI_add]
        rfl
      | false =>
        rw [hl] at cl
        rw [if_neg (fun z => by cases z.2)]
        refine ⟨g, ?_, g8, g9, g12, K⟩
        simp (disch := omega) only [bd_1, lq1, fX5_nextWord_L18, Cg.2.1, leN, c1, if_false, cb, cl, cond_false]
    · have c1 : n ≤ i := by omega
      rw [if_neg (fun z => c z.1)]
      refine ⟨g, ?_, g8, g9, g12, K⟩
      simp (disch := omega) only [lq1, fX5_nextWord_L18, Cg.2.1, leN, c1, if_true]
set_option maxRecDepth 100000 in
theorem cWh (H : HT TP n) (C : CT h TP n) (kk : HH → Option HH) {a : Nat} (ha : a ≤ n) : ∀ m i f (g : HH), n ≤ i + m → a ≤ i → i ≤ n → m < f → Keep PTk h g → gI g 2 8 = nI a → gI g 2 9 = nI i → gI g 2 11 = nI (dgv TP a (i - a)) → ∃ g', lq1 (fX5_nextWhole_L18 kk 2) f (nI i) g = kk g' ∧ gI g' 2 8 = nI a ∧ gI g' 2 9 = nI (rn TP n isG m i) ∧ gI g' 2 11 = nI (dgv TP a (rn TP n isG m i - a)) ∧ Keep PTk h g' := by
  have hn := H.1
  intro m
  induction m with
  | zero =>
    intro i f g h1 h0 h2 hf K g8 g9 g11
    obtain ⟨f, rfl⟩ : ∃ q, f = q + 1 := ⟨f - 1, by omega⟩
    have c1 : n ≤ i := by omega
    have Cg := C.tk K
    refine ⟨g, ?_, g8, g9, g11, K⟩
    simp (disch := omega) only [lq1, fX5_nextWhole_L18, Cg.2.1, leN, c1, if_true]
  | succ m ih =>
    intro i f g h1 h0 h2 hf K g8 g9 g11
    obtain ⟨f, rfl⟩ : ∃ q, f = q + 1 := ⟨f - 1, by omega⟩
    have Cg := C.tk K
    have er : rn TP n isG (m + 1) i = if i < n ∧ isG (TP i) = true then rn TP n isG m (i + 1) else i := rfl
    rw [er]
    by_cases c : i < n
    · have c1 : ¬ n ≤ i := by omega
      have hb := H.2 i c
      have cb := cByte H Cg (k := i) (by omega)
      unfold byv at cb
      rw [if_pos c] at cb
      have cl := (cLet (h := g) (TP i) hb).2.2.1
      cases hl : isG (TP i) with
      | true =>
        rw [hl] at cl
        have h48 := of_decide_eq_true hl
        rw [if_pos ⟨c, rfl⟩]
        obtain ⟨g', e', r'⟩ := ih (i + 1) f (sI (sI g 2 11 (nI (dgv TP a (i - a) * 10 + TP i - 48))) 2 9 (nI (i + 1))) (by omega) (by omega) (by omega) (by omega) (ktk1 (ktk1 K (by omega) (by omega)) (by omega) (by omega)) (by rw [gIk (by omega), gIk (by omega)]; exact g8) (gIs _ _ _ _) (by
          rw [gIk (by omega), gIs, show i + 1 - a = (i - a) + 1 by omega]
          show _ = nI (10 * dgv TP a (i - a) + (TP (a + (i - a)) - 48))
          rw [show a + (i - a) = i by omega]
          congr 1; omega)
        refine ⟨g', ?_, r'⟩
        rw [← e']
        simp (disch := omega) only [lI, bd_1, nm_1, pk_mul, nI_add, pk_sub, lq1, fX5_nextWhole_L18, Cg.2.1, leN, c1, if_false, cb, cl, cond_true, g11]
      | false =>
        rw [hl] at cl
        rw [if_neg (fun z => by cases z.2)]
        refine ⟨g, ?_, g8, g9, g11, K⟩
        simp (disch := omega) only [bd_1, lq1, fX5_nextWhole_L18, Cg.2.1, leN, c1, if_false, cb, cl, cond_false]
    · have c1 : n ≤ i := by omega
      rw [if_neg (fun z => c z.1)]
      refine ⟨g, ?_, g8, g9, g11, K⟩
      simp (disch := omega) only [lq1, fX5_nextWhole_L18, Cg.2.1, leN, c1, if_true]
set_option maxRecDepth 100000 in
theorem cNxt (H : HT TP n) (C : CT h TP n) {x : Nat} (hx : x ≤ n) (h9 : gI h 2 9 = nI x) : ∃ h', fX5_next 2 h = some h' ∧ TKc h' TP n x ∧ Keep PTk h h' := by
  have hn := H.1
  have hA := tA_le (TP := TP) hx
  have hW := tW_le (TP := TP) hx
  have hG := tG_le (TP := TP) hx
  -- behind the blanks
  have tail : ∀ g : HH, Keep PTk h g → gI g 2 8 = nI (tA TP n x) → ∃ h', (bd (fX5_byteAt 2 (gI g 2 8) g) (fun r49 h49 => if nI 0 ≤ r49 then (if r49 = nI 59 then nm (sI (sI h49 2 9 (gI h49 2 8 + nI 1)) 2 10 (nI 3)) (fun g3 => some g3) else if r49 = nI 44 then nm (sI (sI h49 2 9 (gI h49 2 8 + nI 1)) 2 10 (nI 4)) (fun g2 => some g2) else bd (fX5_isLetter r49 (sI h49 2 9 (gI h49 2 8 + nI 1))) (fun r112 h112 => bif r112 then bv (fX5_nextWord 2 h112) (fun h119 => some h119) else bd (fX5_isDigit r49 h112) (fun r126 h126 => bif r126 then bv (fX5_nextWhole 2 h126) (fun h133 => some h133) else some (sI h126 2 10 (nI 0))))) else nm (sI (sI h49 2 9 (gI h49 2 8 + nI 1)) 2 10 (nI 5)) (fun g4 => some (sI g4 2 9 (gI g4 2 5))))) = some h' ∧ TKc h' TP n x ∧ Keep PTk h h' := by
    intro g K g8
    have Cg := C.tk K
    have cb := cByte H Cg (k := tA TP n x) (by omega)
    unfold byv at cb
    by_cases c : n ≤ tA TP n x
    · rw [if_neg (by omega)] at cb
      have m0 : (nI 0 ≤ M1) = False := by decide +kernel
      have tk : tK TP n x = 5 := if_pos c
      have te : tE TP n x = n := if_pos c
      have g5 : gI (sI (sI g 2 9 (nI (tA TP n x + 1))) 2 10 (nI 5)) 2 5 = nI n := by rw [gIk (by omega), gIk (by omega)]; exact Cg.2.1
      refine ⟨sI (sI (sI g 2 9 (nI (tA TP n x + 1))) 2 10 (nI 5)) 2 9 (nI n), ?_, ⟨?_, ?_, ?_, fun z => by omega, fun z => by omega⟩, ktk1 (ktk1 (ktk1 K (by omega) (by omega)) (by omega) (by omega)) (by omega) (by omega)⟩
      · simp only [g8, cb, bd_1, m0, if_false, nm_1, nI_add, g5]
      · simp (disch := omega) only [gIk]; exact g8
      · rw [gIs, te]
      · rw [gIk (by omega), gIs, tk]
    · rw [if_pos (by omega)] at cb
      have hb := H.2 (tA TP n x) (by omega)
      have p0 : (nI 0 ≤ nI (TP (tA TP n x))) = True := by rw [leN (by omega) (by omega)]; exact eq_true (Nat.zero_le _)
      obtain ⟨cl1, -, cl3, -⟩ := cLet (h := sI g 2 9 (nI (tA TP n x + 1))) (TP (tA TP n x)) hb
      have uK : tK TP n x = if TP (tA TP n x) = 59 then 3 else if TP (tA TP n x) = 44 then 4 else if isL (TP (tA TP n x)) = true then (if tW TP n x - tA TP n x ≤ 8 then 1 else 0) else if isG (TP (tA TP n x)) = true then (if tG TP n x - tA TP n x ≤ 4 then 2 else 0) else 0 := if_neg c
      have uE : tE TP n x = if TP (tA TP n x) = 59 then tA TP n x + 1 else if TP (tA TP n x) = 44 then tA TP n x + 1 else if isL (TP (tA TP n x)) = true then tW TP n x else if isG (TP (tA TP n x)) = true then tG TP n x else tA TP n x + 1 := if_neg c
      by_cases c1 : TP (tA TP n x) = 59
      · rw [if_pos c1] at uK uE
        refine ⟨sI (sI g 2 9 (nI (tA TP n x + 1))) 2 10 (nI 3), ?_, ⟨?_, ?_, ?_, fun z => by omega, fun z => by omega⟩, ktk1 (ktk1 K (by omega) (by omega)) (by omega) (by omega)⟩
        · simp (disch := omega) only [g8, cb, bd_1, p0, if_true, eqN, eq_true c1, nm_1, nI_add]
        · simp (disch := omega) only [gIk]; exact g8
        · rw [gIk (by omega), gIs, uE]
        · rw [gIs, uK]
      · rw [if_neg c1] at uK uE
        by_cases c2 : TP (tA TP n x) = 44
        · rw [if_pos c2] at uK uE
          refine ⟨sI (sI g 2 9 (nI (tA TP n x + 1))) 2 10 (nI 4), ?_, ⟨?_, ?_, ?_, fun z => by omega, fun z => by omega⟩, ktk1 (ktk1 K (by omega) (by omega)) (by omega) (by omega)⟩
          · simp (disch := omega) only [g8, cb, bd_1, p0, if_true, eqN, c1, if_false, eq_true c2, nm_1, nI_add]
          · simp (disch := omega) only [gIk]; exact g8
          · rw [gIk (by omega), gIs, uE]
          · rw [gIs, uK]
        · rw [if_neg c2] at uK uE
          have Kw : Keep PTk h (sI g 2 9 (nI (tA TP n x + 1))) := ktk1 K (by omega) (by omega)
          have g8w : gI (sI g 2 9 (nI (tA TP n x + 1))) 2 8 = nI (tA TP n x) := by rw [gIk (by omega)]; exact g8
          cases hl : isL (TP (tA TP n x)) with
          | true =>
            rw [hl, if_pos rfl] at uK uE
            rw [hl] at cl1
            obtain ⟨g2, e2, a8, a9, a12, K2⟩ := cWo H C (fun h => if nI 8 < gI h 2 9 - gI h 2 8 then some (sI h 2 10 (nI 0)) else some (sI h 2 10 (nI 1))) hA.2 n (tA TP n x) FU (sI (sL (sI g 2 9 (nI (tA TP n x + 1))) 2 12 (lN 0)) 2 9 (nI (tA TP n x))) (by omega) (Nat.le_refl _) hA.2 (by unfold FU; omega) (ktk1 (ktk2 Kw (by omega) (by omega)) (by omega) (by omega)) (by rw [gIk (by omega), gI_sL]; exact g8w) (gIs _ _ _ _) (fun _ => by rw [gL_sI, gLs, Nat.sub_self]; rfl)
            have a9' : gI g2 2 9 = nI (tW TP n x) := a9
            have es : nI (tW TP n x) - nI (tA TP n x) = nI (tW TP n x - tA TP n x) := pk_sub hW.1
            have wl : fX5_nextWord 2 (sI g 2 9 (nI (tA TP n x + 1))) = (if nI 8 < nI (tW TP n x - tA TP n x) then some (sI g2 2 10 (nI 0)) else some (sI g2 2 10 (nI 1))) := by
              simp only [lI, lJ, nm_1, fX5_nextWord, gI_sL, g8w, gIk (show 8 ≠ 9 by omega)]
              refine e2.trans ?_
              show (if nI 8 < gI g2 2 9 - gI g2 2 8 then some (sI g2 2 10 (nI 0)) else some (sI g2 2 10 (nI 1))) = _
              rw [a9', a8, es]
            by_cases c3 : tW TP n x - tA TP n x ≤ 8
            · rw [if_pos c3] at uK
              rw [if_neg (by rw [ltN (by omega) (by omega)]; omega)] at wl
              refine ⟨sI g2 2 10 (nI 1), ?_, ⟨?_, ?_, ?_, fun z => by omega, fun z => ?_⟩, ktk1 K2 (by omega) (by omega)⟩
              · simp (disch := omega) only [g8, cb, bd_1, bv_1, p0, if_true, eqN, c1, c2, if_false, nI_add, cl1, cond_true, wl]
              · rw [gIk (by omega)]; exact a8
              · rw [gIk (by omega), uE]; exact a9'
              · rw [gIs, uK]
              · rw [gL_sI]; exact a12 c3
            · rw [if_neg c3] at uK
              rw [if_pos (by rw [ltN (by omega) (by omega)]; omega)] at wl
              refine ⟨sI g2 2 10 (nI 0), ?_, ⟨?_, ?_, ?_, fun z => by omega, fun z => by omega⟩, ktk1 K2 (by omega) (by omega)⟩
              · simp (disch := omega) only [g8, cb, bd_1, bv_1, p0, if_true, eqN, c1, c2, if_false, nI_add, cl1, cond_true, wl]
              · rw [gIk (by omega)]; exact a8
              · rw [gIk (by omega), uE]; exact a9'
              · rw [gIs, uK]
          | false =>
            rw [hl, if_neg (fun z => by cases z)] at uK uE
            rw [hl] at cl1
            cases hd : isG (TP (tA TP n x)) with
            | true =>
              rw [hd, if_pos rfl] at uK uE
              rw [hd] at cl3
              obtain ⟨g2, e2, a8, a9, a11, K2⟩ := cWh H C (fun h => if nI 4 < gI h 2 9 - gI h 2 8 then some (sI h 2 10 (nI 0)) else some (sI h 2 10 (nI 2))) hA.2 n (tA TP n x) FU (sI (sI (sI g 2 9 (nI (tA TP n x + 1))) 2 11 (nI 0)) 2 9 (nI (tA TP n x))) (by omega) (Nat.le_refl _) hA.2 (by unfold FU; omega) (ktk1 (ktk1 Kw (by omega) (by omega)) (by omega) (by omega)) (by rw [gIk (by omega), gIk (by omega)]; exact g8w) (gIs _ _ _ _) (by rw [gIk (by omega), gIs, Nat.sub_self]; rfl)
              have a9' : gI g2 2 9 = nI (tG TP n x) := a9
              have es : nI (tG TP n x) - nI (tA TP n x) = nI (tG TP n x - tA TP n x) := pk_sub hG.1
              have wl : fX5_nextWhole 2 (sI g 2 9 (nI (tA TP n x + 1))) = (if nI 4 < nI (tG TP n x - tA TP n x) then some (sI g2 2 10 (nI 0)) else some (sI g2 2 10 (nI 2))) := by
                simp only [lI, nm_1, fX5_nextWhole, g8w, gIk (show 8 ≠ 9 by omega), gIk (show 8 ≠ 11 by omega)]
                refine e2.trans ?_
                show (if nI 4 < gI g2 2 9 - gI g2 2 8 then some (sI g2 2 10 (nI 0)) else some (sI g2 2 10 (nI 2))) = _
                rw [a9', a8, es]
              by_cases c3 : tG TP n x - tA TP n x ≤ 4
              · rw [if_pos c3] at uK
                rw [if_neg (by rw [ltN (by omega) (by omega)]; omega)] at wl
                refine ⟨sI g2 2 10 (nI 2), ?_, ⟨?_, ?_, ?_, fun z => ?_, fun z => by omega⟩, ktk1 K2 (by omega) (by omega)⟩
                · simp (disch := omega) only [g8, cb, bd_1, bv_1, p0, if_true, eqN, c1, c2, if_false, nI_add, cl1, cond_false, cl3, cond_true, wl]
                · rw [gIk (by omega)]; exact a8
                · rw [gIk (by omega), uE]; exact a9'
                · rw [gIs, uK]
                · rw [gIk (by omega)]; exact a11
              · rw [if_neg c3] at uK
                rw [if_pos (by rw [ltN (by omega) (by omega)]; omega)] at wl
                refine ⟨sI g2 2 10 (nI 0), ?_, ⟨?_, ?_, ?_, fun z => by omega, fun z => by omega⟩, ktk1 K2 (by omega) (by omega)⟩
                · simp (disch := omega) only [g8, cb, bd_1, bv_1, p0, if_true, eqN, c1, c2, if_false, nI_add, cl1, cond_false, cl3, cond_true, wl]
                · rw [gIk (by omega)]; exact a8
                · rw [gIk (by omega), uE]; exact a9'
                · rw [gIs, uK]
            | false =>
              rw [hd, if_neg (fun z => by cases z)] at uK uE
              rw [hd] at cl3
              refine ⟨sI (sI g 2 9 (nI (tA TP n x + 1))) 2 10 (nI 0), ?_, ⟨?_, ?_, ?_, fun z => by omega, fun z => by omega⟩, ktk1 Kw (by omega) (by omega)⟩
              · simp (disch := omega) only [g8, cb, bd_1, bv_1, p0, if_true, eqN, c1, c2, if_false, nI_add, cl1, cond_false, cl3]
              · rw [gIk (by omega)]; exact g8w
              · rw [gIk (by omega), gIs, uE]
              · rw [gIs, uK]
  have K0 : Keep PTk h (sI h 2 8 (nI x)) := ktk1 Keep.rfl (by omega) (by omega)
  obtain ⟨g1, e1, a8, K1⟩ := cBl H C (fun g => bd (fX5_byteAt 2 (gI g 2 8) g) (fun r49 h49 => if nI 0 ≤ r49 then (if r49 = nI 59 then nm (sI (sI h49 2 9 (gI h49 2 8 + nI 1)) 2 10 (nI 3)) (fun g3 => some g3) else if r49 = nI 44 then nm (sI (sI h49 2 9 (gI h49 2 8 + nI 1)) 2 10 (nI 4)) (fun g2 => some g2) else bd (fX5_isLetter r49 (sI h49 2 9 (gI h49 2 8 + nI 1))) (fun r112 h112 => bif r112 then bv (fX5_nextWord 2 h112) (fun h119 => some h119) else bd (fX5_isDigit r49 h112) (fun r126 h126 => bif r126 then bv (fX5_nextWhole 2 h126) (fun h133 => some h133) else some (sI h126 2 10 (nI 0))))) else nm (sI (sI h49 2 9 (gI h49 2 8 + nI 1)) 2 10 (nI 5)) (fun g4 => some (sI g4 2 9 (gI g4 2 5))))) n x FU (sI h 2 8 (nI x)) (by omega) hx (by unfold FU; omega) K0 (gIs _ _ _ _)
  obtain ⟨h', e2, r2⟩ := tail g1 K1 a8
  refine ⟨h', ?_, r2⟩
  simp only [lI, nm_1, fX5_next, h9, gIs]
  exact e1.trans e2
end CTK
