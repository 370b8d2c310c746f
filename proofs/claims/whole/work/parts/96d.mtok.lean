/-! the model's tokens -/
section MTK
variable {h : HH} {TP : Nat → Nat} {n : Nat}
set_option maxRecDepth 100000 in
theorem ktm1 {h h' : HH} (K : Keep PTm h h') {k : Nat} {v : Int32} (h1 : 4 ≤ k) (h2 : k ≤ 8) : Keep PTm h (sI h' 181 k v) := Keep.sI K (fun z => z.1 ⟨rfl, h1, h2⟩)
set_option maxRecDepth 100000 in
theorem ktm2 {h h' : HH} (K : Keep PTm h h') {k : Nat} {v : Int32} : Keep PTm h (sI h' 183 k v) := Keep.sI K (fun z => z.2 rfl)
set_option maxRecDepth 100000 in
theorem MT.tk {h h' : HH} (C : MT h TP n) (K : Keep PTm h h') : MT h' TP n := C.keep (K.mono (fun x k hp => by unfold PTm; omega))
set_option maxRecDepth 100000 in
theorem mBl (H : HT TP n) (C : MT h TP n) (kk : Int32 → HH → Option HH) : ∀ m i f, n ≤ i + m → i ≤ n → m < f → lq1 (fX9_next_L5 kk 181) f (nI i) h = kk (nI (rn TP n (fun c => decide (c = 32)) m i)) h := by
  have hn := H.1
  have m32 : (M1 = nI 32) = False := by decide +kernel
  intro m
  induction m with
  | zero =>
    intro i f h1 h2 hf
    obtain ⟨f, rfl⟩ : ∃ q, f = q + 1 := ⟨f - 1, by omega⟩
    have cb := mLook H C (k := i) (by omega)
    unfold byv at cb
    rw [if_neg (show ¬ i < n by omega)] at cb
    simp only [lI, lq1, fX9_next_L5, cb, bd_1, m32, if_false]
    rfl
  | succ m ih =>
    intro i f h1 h2 hf
    obtain ⟨f, rfl⟩ : ∃ q, f = q + 1 := ⟨f - 1, by omega⟩
    have er : rn TP n (fun c => decide (c = 32)) (m + 1) i = if i < n ∧ (decide (TP i = 32)) = true then rn TP n (fun c => decide (c = 32)) m (i + 1) else i := rfl
    rw [er]
    have cb := mLook H C (k := i) (by omega)
    unfold byv at cb
    by_cases c : i < n
    · have hb := H.2 i c
      rw [if_pos c] at cb
      by_cases c2 : TP i = 32
      · rw [if_pos ⟨c, decide_eq_true c2⟩, ← ih (i + 1) f (by omega) (by omega) (by omega)]
        simp (disch := omega) only [lI, bd_1, nI_add, lq1, fX9_next_L5, cb, eqN, eq_true c2, if_true]
      · rw [if_neg (fun z => c2 (of_decide_eq_true z.2))]
        simp (disch := omega) only [lI, bd_1, lq1, fX9_next_L5, cb, eqN, c2, if_false]
    · rw [if_neg c] at cb
      rw [if_neg (fun z => c z.1)]
      simp only [lI, lq1, fX9_next_L5, cb, bd_1, m32, if_false]
set_option maxRecDepth 100000 in
theorem mWo (H : HT TP n) (C : MT h TP n) {a : Nat} (ha : a ≤ n) : ∀ m i f (g : HH), n ≤ i + m → a ≤ i → i ≤ n → m < f → Keep PTm h g → gI g 181 4 = nI a → gI g 181 8 = nI (i - a) → (∀ j, j < i - a → j < 8 → gI g 183 j = nI (TP (a + j))) → ∃ g', (∀ kk, lq1 (fX9_next_L67 kk 181) f (nI i) g = kk (nI (rn TP n isL m i)) g') ∧ gI g' 181 4 = nI a ∧ gI g' 181 8 = nI (rn TP n isL m i - a) ∧ (∀ j, j < rn TP n isL m i - a → j < 8 → gI g' 183 j = nI (TP (a + j))) ∧ Keep PTm h g' := by
  have hn := H.1
  intro m
  induction m with
  | zero =>
    intro i f g h1 h0 h2 hf K g4 g8 gl
    obtain ⟨f, rfl⟩ : ∃ q, f = q + 1 := ⟨f - 1, by omega⟩
    have Cg := C.tk K
    have cb := mLook H Cg (k := i) (by omega)
    unfold byv at cb
    rw [if_neg (show ¬ i < n by omega)] at cb
    refine ⟨g, fun kk => ?_, g4, g8, gl, K⟩
    simp only [lq1, fX9_next_L67, cb, bd_1, (mM1 (h := g)).1, cond_false]
    rfl
  | succ m ih =>
    intro i f g h1 h0 h2 hf K g4 g8 gl
    obtain ⟨f, rfl⟩ : ∃ q, f = q + 1 := ⟨f - 1, by omega⟩
    have Cg := C.tk K
    have cb := mLook H Cg (k := i) (by omega)
    unfold byv at cb
    have er : rn TP n isL (m + 1) i = if i < n ∧ isL (TP i) = true then rn TP n isL m (i + 1) else i := rfl
    rw [er]
    by_cases c : i < n
    · have hb := H.2 i c
      rw [if_pos c] at cb
      have cl := (cLet (h := g) (TP i) hb).2.1
      cases hl : isL (TP i) with
      | true =>
        rw [hl] at cl
        rw [if_pos ⟨c, rfl⟩]
        by_cases c8 : 8 ≤ i - a
        · obtain ⟨g', e', r'⟩ := ih (i + 1) f (sI g 181 8 (nI (i - a + 1))) (by omega) (by omega) (by omega) (by omega) (ktm1 K (by omega) (by omega)) (by rw [gIk (by omega)]; exact g4) (by rw [gIs, show i + 1 - a = i - a + 1 by omega]) (fun j hj hj8 => by rw [gIa (by omega)]; exact gl j (by omega) hj8)
          refine ⟨g', fun kk => ?_, r'⟩
          rw [← e' kk]
          simp (disch := omega) only [lI, bd_1, nI_add, lq1, fX9_next_L67, cb, cl, cond_true, g8, leN, c8, if_true]
        · have c9 : i - a < 8 := by omega
          obtain ⟨g', e', r'⟩ := ih (i + 1) f (sI (sI g 183 (i - a) (nI (TP i))) 181 8 (nI (i - a + 1))) (by omega) (by omega) (by omega) (by omega) (ktm1 (ktm2 K) (by omega) (by omega)) (by rw [gIk (by omega), gIa (by omega)]; exact g4) (by rw [gIs, show i + 1 - a = i - a + 1 by omega]) (fun j hj hj8 => by
            rw [gIa (by omega)]
            by_cases z : j = i - a
            · subst z; rw [gIs, show a + (i - a) = i by omega]
            · rw [gIk z]; exact gl j (by omega) hj8)
          refine ⟨g', fun kk => ?_, r'⟩
          rw [← e' kk]
          simp (disch := omega) only [lI, bd_1, nm_1, gd_1, inbN, ixN, Nat.reduceAdd, gIa, nI_add, lq1, fX9_next_L67, cb, cl, cond_true, g8, leN, c8, if_false]
      | false =>
        rw [hl] at cl
        rw [if_neg (fun z => by cases z.2)]
        refine ⟨g, fun kk => ?_, g4, g8, gl, K⟩
        simp only [lq1, fX9_next_L67, cb, bd_1, cl, cond_false]
    · rw [if_neg c] at cb
      rw [if_neg (fun z => c z.1)]
      refine ⟨g, fun kk => ?_, g4, g8, gl, K⟩
      simp only [lq1, fX9_next_L67, cb, bd_1, (mM1 (h := g)).1, cond_false]
set_option maxRecDepth 100000 in
theorem mWh (H : HT TP n) (C : MT h TP n) {a : Nat} (ha : a ≤ n) : ∀ m i f (g : HH), n ≤ i + m → a ≤ i → i ≤ n → m < f → Keep PTm h g → gI g 181 4 = nI a → (i - a ≤ 4 → gI g 181 7 = nI (dgv TP a (i - a))) → ∃ g', (∀ kk, lq2 (fX9_next_L152 kk 181) f (nI i) (nI (i - a)) g = kk (nI (rn TP n isG m i)) (nI (rn TP n isG m i - a)) g') ∧ gI g' 181 4 = nI a ∧ (rn TP n isG m i - a ≤ 4 → gI g' 181 7 = nI (dgv TP a (rn TP n isG m i - a))) ∧ Keep PTm h g' := by
  have hn := H.1
  intro m
  induction m with
  | zero =>
    intro i f g h1 h0 h2 hf K g4 g7
    obtain ⟨f, rfl⟩ : ∃ q, f = q + 1 := ⟨f - 1, by omega⟩
    have Cg := C.tk K
    have cb := mLook H Cg (k := i) (by omega)
    unfold byv at cb
    rw [if_neg (show ¬ i < n by omega)] at cb
    refine ⟨g, fun kk => ?_, g4, g7, K⟩
    simp only [lq2, fX9_next_L152, cb, bd_1, (mM1 (h := g)).2, cond_false]
    rfl
  | succ m ih =>
    intro i f g h1 h0 h2 hf K g4 g7
    obtain ⟨f, rfl⟩ : ∃ q, f = q + 1 := ⟨f - 1, by omega⟩
    have Cg := C.tk K
    have cb := mLook H Cg (k := i) (by omega)
    unfold byv at cb
    have er : rn TP n isG (m + 1) i = if i < n ∧ isG (TP i) = true then rn TP n isG m (i + 1) else i := rfl
    rw [er]
    by_cases c : i < n
    · have hb := H.2 i c
      rw [if_pos c] at cb
      have cl := (cLet (h := g) (TP i) hb).2.2.2
      cases hl : isG (TP i) with
      | true =>
        rw [hl] at cl
        have h48 := of_decide_eq_true hl
        rw [if_pos ⟨c, rfl⟩]
        have eia : i + 1 - a = i - a + 1 := by omega
        by_cases c4 : 4 ≤ i - a
        · obtain ⟨g', e', r'⟩ := ih (i + 1) f g (by omega) (by omega) (by omega) (by omega) K g4 (fun z => by omega)
          refine ⟨g', fun kk => ?_, r'⟩
          rw [← e' kk, eia]
          simp (disch := omega) only [lI, bd_1, nI_add, lq2, fX9_next_L152, cb, cl, cond_true, leN, c4, if_true]
        · have g7' := g7 (by omega)
          obtain ⟨g', e', r'⟩ := ih (i + 1) f (sI g 181 7 (nI (10 * dgv TP a (i - a) + TP i - 48))) (by omega) (by omega) (by omega) (by omega) (ktm1 K (by omega) (by omega)) (by rw [gIk (by omega)]; exact g4) (fun _ => by
            rw [gIs, eia]
            show _ = nI (10 * dgv TP a (i - a) + (TP (a + (i - a)) - 48))
            rw [show a + (i - a) = i by omega]
            congr 1; omega)
          refine ⟨g', fun kk => ?_, r'⟩
          rw [← e' kk, eia]
          simp (disch := omega) only [lI, bd_1, nI_add, pk_mul, pk_sub, lq2, fX9_next_L152, cb, cl, cond_true, leN, c4, if_false, g7']
      | false =>
        rw [hl] at cl
        rw [if_neg (fun z => by cases z.2)]
        refine ⟨g, fun kk => ?_, g4, g7, K⟩
        simp only [lq2, fX9_next_L152, cb, bd_1, cl, cond_false]
    · rw [if_neg c] at cb
      rw [if_neg (fun z => c z.1)]
      refine ⟨g, fun kk => ?_, g4, g7, K⟩
      simp only [lq2, fX9_next_L152, cb, bd_1, (mM1 (h := g)).2, cond_false]
set_option maxRecDepth 100000 in
theorem mNxt (H : HT TP n) (C : MT h TP n) {x : Nat} (hx : x ≤ n) (h5 : gI h 181 5 = nI x) : ∃ h', fX9_next 181 h = some h' ∧ TKm h' TP n x ∧ Keep PTm h h' := by
  have hn := H.1
  have hA := tA_le (TP := TP) hx
  have hW := tW_le (TP := TP) hx
  have hG := tG_le (TP := TP) hx
  have bl : ∀ kk, lq1 (fX9_next_L5 kk 181) FU (nI x) h = kk (nI (tA TP n x)) h := fun kk => mBl H C kk n x FU (by omega) hx (by unfold FU; omega)
  have K1 : Keep PTm h (sI h 181 4 (nI (tA TP n x))) := ktm1 Keep.rfl (by omega) (by omega)
  have K3 : Keep PTm h (sI (sI (sI h 181 4 (nI (tA TP n x))) 181 8 (nI 0)) 181 7 (nI 0)) := ktm1 (ktm1 K1 (by omega) (by omega)) (by omega) (by omega)
  have cb := mLook H (C.tk K1) (k := tA TP n x) (by omega)
  unfold byv at cb
  by_cases c : n ≤ tA TP n x
  · rw [if_neg (show ¬ tA TP n x < n by omega)] at cb
    have tk : tK TP n x = 5 := if_pos c
    have te : tE TP n x = n := if_pos c
    have et : tA TP n x = n := by omega
    refine ⟨sI (sI (sI (sI (sI h 181 4 (nI (tA TP n x))) 181 8 (nI 0)) 181 7 (nI 0)) 181 6 (nI 0)) 181 5 (nI (tA TP n x)), ?_, ⟨?_, ?_, ?_, fun z => by omega, fun z => by omega⟩, ktm1 (ktm1 K3 (by omega) (by omega)) (by omega) (by omega)⟩
    · simp only [lI, neg1, fX9_next, nm_1, bd_1, h5, bl, cb, if_true]
    · simp (disch := omega) only [gIk, gIs]
    · rw [gIs, te, et]
    · rw [gIk (by omega), gIs, tk]; rfl
  · rw [if_pos (show tA TP n x < n by omega)] at cb
    have hb := H.2 (tA TP n x) (by omega)
    have nm1 : (nI (TP (tA TP n x)) = M1) = False := M1f (by omega)
    obtain ⟨-, cl1, -, cl3⟩ := cLet (h := sI (sI (sI h 181 4 (nI (tA TP n x))) 181 8 (nI 0)) 181 7 (nI 0)) (TP (tA TP n x)) hb
    have uK : tK TP n x = if TP (tA TP n x) = 59 then 3 else if TP (tA TP n x) = 44 then 4 else if isL (TP (tA TP n x)) = true then (if tW TP n x - tA TP n x ≤ 8 then 1 else 0) else if isG (TP (tA TP n x)) = true then (if tG TP n x - tA TP n x ≤ 4 then 2 else 0) else 0 := if_neg c
    have uE : tE TP n x = if TP (tA TP n x) = 59 then tA TP n x + 1 else if TP (tA TP n x) = 44 then tA TP n x + 1 else if isL (TP (tA TP n x)) = true then tW TP n x else if isG (TP (tA TP n x)) = true then tG TP n x else tA TP n x + 1 := if_neg c
    cases hl : isL (TP (tA TP n x)) with
    | true =>
      have h97 := of_decide_eq_true hl
      have c1 : ¬ TP (tA TP n x) = 59 := by omega
      have c2 : ¬ TP (tA TP n x) = 44 := by omega
      rw [if_neg c1, if_neg c2, hl, if_pos rfl] at uK uE
      rw [hl] at cl1
      obtain ⟨g2, e2, a4, a8, al, K2⟩ := mWo H C hA.2 n (tA TP n x) FU _ (by omega) (Nat.le_refl _) hA.2 (by unfold FU; omega) K3 (by simp (disch := omega) only [gIk, gIs]) (by rw [Nat.sub_self]; simp (disch := omega) only [gIk, gIs]) (fun j hj => by omega)
      have e2' : ∀ kk, lq1 (fX9_next_L67 kk 181) FU (nI (tA TP n x)) (sI (sI (sI h 181 4 (nI (tA TP n x))) 181 8 (nI 0)) 181 7 (nI 0)) = kk (nI (tW TP n x)) g2 := e2
      have a8' : gI g2 181 8 = nI (tW TP n x - tA TP n x) := a8
      by_cases c3 : tW TP n x - tA TP n x ≤ 8
      · rw [if_pos c3] at uK
        refine ⟨sI (sI g2 181 5 (nI (tW TP n x))) 181 6 (nI 2), ?_, ⟨?_, ?_, ?_, fun z => by omega, fun z => ⟨?_, fun j hj => ?_⟩⟩, ktm1 (ktm1 K2 (by omega) (by omega)) (by omega) (by omega)⟩
        · simp (disch := omega) only [lI, neg1, fX9_next, nm_1, bd_1, h5, bl, cb, nm1, if_false, cl1, cond_true, e2', gIk, a8', leN, c3, if_true]
        · simp (disch := omega) only [gIk]; exact a4
        · rw [gIk (by omega), gIs, uE]
        · rw [gIs, uK]; rfl
        · simp (disch := omega) only [gIk]; exact a8'
        · simp (disch := omega) only [gIa]; exact al j hj (by unfold tN at hj; omega)
      · rw [if_neg c3] at uK
        refine ⟨sI (sI g2 181 5 (nI (tW TP n x))) 181 6 (nI 1), ?_, ⟨?_, ?_, ?_, fun z => by omega, fun z => by omega⟩, ktm1 (ktm1 K2 (by omega) (by omega)) (by omega) (by omega)⟩
        · simp (disch := omega) only [lI, neg1, fX9_next, nm_1, bd_1, h5, bl, cb, nm1, if_false, cl1, cond_true, e2', gIk, a8', leN, c3]
        · simp (disch := omega) only [gIk]; exact a4
        · rw [gIk (by omega), gIs, uE]
        · rw [gIs, uK]; rfl
    | false =>
      rw [hl] at cl1
      cases hd : isG (TP (tA TP n x)) with
      | true =>
        have h48 := of_decide_eq_true hd
        have c1 : ¬ TP (tA TP n x) = 59 := by omega
        have c2 : ¬ TP (tA TP n x) = 44 := by omega
        rw [if_neg c1, if_neg c2, hl, if_neg (fun z => by cases z), hd, if_pos rfl] at uK uE
        rw [hd] at cl3
        obtain ⟨g2, e2, a4, a7, K2⟩ := mWh H C hA.2 n (tA TP n x) FU _ (by omega) (Nat.le_refl _) hA.2 (by unfold FU; omega) K3 (by simp (disch := omega) only [gIk, gIs]) (fun _ => by rw [gIs, Nat.sub_self]; rfl)
        have e2' : ∀ kk, lq2 (fX9_next_L152 kk 181) FU (nI (tA TP n x)) (nI 0) (sI (sI (sI h 181 4 (nI (tA TP n x))) 181 8 (nI 0)) 181 7 (nI 0)) = kk (nI (tG TP n x)) (nI (tG TP n x - tA TP n x)) g2 := by
          intro kk; have := e2 kk; rw [Nat.sub_self] at this; exact this
        have a7' : tG TP n x - tA TP n x ≤ 4 → gI g2 181 7 = nI (tV TP n x) := a7
        by_cases c3 : tG TP n x - tA TP n x ≤ 4
        · rw [if_pos c3] at uK
          refine ⟨sI (sI g2 181 5 (nI (tG TP n x))) 181 6 (nI 3), ?_, ⟨?_, ?_, ?_, fun z => ?_, fun z => by omega⟩, ktm1 (ktm1 K2 (by omega) (by omega)) (by omega) (by omega)⟩
          · simp (disch := omega) only [lI, neg1, fX9_next, nm_1, bd_1, h5, bl, cb, nm1, if_false, cl1, cond_false, cl3, cond_true, e2', leN, c3, if_true]
          · simp (disch := omega) only [gIk]; exact a4
          · rw [gIk (by omega), gIs, uE]
          · rw [gIs, uK]; rfl
          · simp (disch := omega) only [gIk]; exact a7' c3
        · rw [if_neg c3] at uK
          refine ⟨sI (sI g2 181 5 (nI (tG TP n x))) 181 6 (nI 1), ?_, ⟨?_, ?_, ?_, fun z => by omega, fun z => by omega⟩, ktm1 (ktm1 K2 (by omega) (by omega)) (by omega) (by omega)⟩
          · simp (disch := omega) only [lI, neg1, fX9_next, nm_1, bd_1, h5, bl, cb, nm1, if_false, cl1, cond_false, cl3, cond_true, e2', leN, c3]
          · simp (disch := omega) only [gIk]; exact a4
          · rw [gIk (by omega), gIs, uE]
          · rw [gIs, uK]; rfl
      | false =>
        rw [hd] at cl3
        rw [hl, hd] at uK uE
        have g4 : ∀ v w, gI (sI (sI (sI (sI (sI h 181 4 (nI (tA TP n x))) 181 8 (nI 0)) 181 7 (nI 0)) 181 5 v) 181 6 w) 181 4 = nI (tA TP n x) := fun v w => by simp (disch := omega) only [gIk, gIs]
        by_cases c1 : TP (tA TP n x) = 59
        · rw [if_pos c1] at uK uE
          refine ⟨sI (sI (sI (sI (sI h 181 4 (nI (tA TP n x))) 181 8 (nI 0)) 181 7 (nI 0)) 181 5 (nI (tA TP n x + 1))) 181 6 (nI (TP (tA TP n x))), ?_, ⟨g4 _ _, ?_, ?_, fun z => by omega, fun z => by omega⟩, ktm1 (ktm1 K3 (by omega) (by omega)) (by omega) (by omega)⟩
          · simp (disch := omega) only [lI, neg1, fX9_next, nm_1, bd_1, h5, bl, cb, nm1, if_false, cl1, cond_false, cl3, eqN, eq_true c1, if_true, nI_add]
          · rw [gIk (by omega), gIs, uE]
          · rw [gIs, uK, c1]; rfl
        · rw [if_neg c1] at uK uE
          by_cases c2 : TP (tA TP n x) = 44
          · rw [if_pos c2] at uK uE
            refine ⟨sI (sI (sI (sI (sI h 181 4 (nI (tA TP n x))) 181 8 (nI 0)) 181 7 (nI 0)) 181 5 (nI (tA TP n x + 1))) 181 6 (nI (TP (tA TP n x))), ?_, ⟨g4 _ _, ?_, ?_, fun z => by omega, fun z => by omega⟩, ktm1 (ktm1 K3 (by omega) (by omega)) (by omega) (by omega)⟩
            · simp (disch := omega) only [lI, neg1, fX9_next, nm_1, bd_1, h5, bl, cb, nm1, if_false, cl1, cond_false, cl3, eqN, c1, eq_true c2, if_true, nI_add]
            · rw [gIk (by omega), gIs, uE]
            · rw [gIs, uK, c2]; rfl
          · rw [if_neg c2, if_neg (fun z => by cases z), if_neg (fun z => by cases z)] at uK uE
            refine ⟨sI (sI (sI (sI (sI h 181 4 (nI (tA TP n x))) 181 8 (nI 0)) 181 7 (nI 0)) 181 5 (nI (tA TP n x + 1))) 181 6 (nI 1), ?_, ⟨g4 _ _, ?_, ?_, fun z => by omega, fun z => by omega⟩, ktm1 (ktm1 K3 (by omega) (by omega)) (by omega) (by omega)⟩
            · simp (disch := omega) only [lI, neg1, fX9_next, nm_1, bd_1, h5, bl, cb, nm1, if_false, cl1, cond_false, cl3, eqN, c1, c2, nI_add]
            · rw [gIk (by omega), gIs, uE]
            · rw [gIs, uK]; rfl
end MTK
