/-! TOGETHER: the class's search -/
def nw (R N : Nat → Nat) (b : Nat) : Nat := sg 5 (fun s => if bb b s then N (4 * s + 0) else 0) (R 4)
def A0 (c : Nat) : BS := (1, fun _ => c, fun _ => 0, fun _ => 0, fun _ => 0)
section CRS2
variable {h : HH} {d : Nat} {R N T : Nat → Nat}
set_option maxRecDepth 100000 in
theorem bitE {b s : Nat} (hb : b < 32) (hs : s < 5) : ((nI b >>> (nI s &&& nI 31)) &&& nI 1 = nI 1) = bb b s := by
  have : b / 2 ^ s ≤ b := Nat.div_le_self _ _
  rw [shrN (by omega) (by omega), and1 (by omega), eqN (by omega) (by omega)]
set_option maxRecDepth 100000 in
theorem bit0 {b s : Nat} (hb : b < 32) (hs : s < 5) : ((nI b >>> (nI s &&& nI 31)) &&& nI 1 = nI 0) = ¬ bb b s := by
  have : b / 2 ^ s ≤ b := Nat.div_le_self _ _
  rw [shrN (by omega) (by omega), and1 (by omega), eqN (by omega) (by omega)]
  exact propext ⟨fun z y => by unfold bb at y; omega, fun z => by unfold bb at z; omega⟩
set_option maxRecDepth 100000 in
theorem b32 (v : VR R) {b : Nat} (hB : b < 2 ^ R 4) : b < 32 := Nat.lt_of_lt_of_le hB (Nat.le_trans (Nat.pow_le_pow_right (by omega) v.S.2) (by decide))
set_option maxRecDepth 100000 in
theorem nw_wf (v : VR R) {b : Nat} (hm : ∀ s, s < R 4 → bb b s → 1 ≤ N (4 * s + 0) ∧ N (4 * s + 0) ≤ R 0) : wfc R b (nw R N b) ∧ ∀ s, s < R 4 → dg (nw R N b) s = if bb b s then N (4 * s + 0) else 0 := by
  have vF := v.F
  have h5 : ∀ i, i < R 4 → (if bb b i then N (4 * i + 0) else 0) < 5 := fun i hi => by
    by_cases c : bb b i
    · rw [if_pos c]; have := hm i hi c; omega
    · rw [if_neg c]; omega
  have hd : ∀ s, s < R 4 → dg (nw R N b) s = if bb b s then N (4 * s + 0) else 0 := fun s hs => sg_dig (by omega) (R 4) h5 s hs
  refine ⟨⟨sg_lt (R 4) h5, fun s hs => ⟨fun z => ?_, fun z => ?_⟩⟩, hd⟩
  · rw [hd s hs, if_pos z]; exact hm s hs z
  · rw [hd s hs, if_neg z]
set_option maxRecDepth 100000 in
theorem WB0 (v : VR R) {b c : Nat} (hB : b < 2 ^ R 4) (w : wfc R b c) : WB R b (A0 c) := by
  have hcc := cc_lt (c := c) (b32 v hB)
  refine ⟨Nat.le_refl 1, fun i hi => ⟨w, ?_, fun z => ?_⟩, rfl, fun i j h1 h2 => ?_, ?_⟩
  · show 0 + tfl R c ≤ 20
    have := tfl_le v (c := c); omega
  · have : i < 1 := hi
    omega
  · have : j < 1 := h2
    omega
  · show cf (fun x => inq (fun _ => cc b c) x 1) 1024 = 1
    have z0 : ∀ n, cf (fun _ => false) n = 0 := by
      intro n
      induction n with
      | zero => rfl
      | succ n ih => show cf _ n + 0 = 0; rw [ih]
    have := cf_upd (P := fun _ => false) (P' := fun x => inq (fun _ => cc b c) x 1) (x := cc b c) rfl (by show (false || decide (cc b c = cc b c)) = true; simp) (fun y hy => by show (false || decide (cc b c = y)) = false; rw [decide_eq_false (fun z => hy z.symm)]; rfl) 1024
    rw [if_pos hcc, z0] at this
    exact this
set_option maxRecDepth 100000 in
theorem cGath {b : Nat} (v : VR R) (hB : b < 2 ^ R 4) (Q : NRep h 6 R N T) (hm : ∀ s, s < R 4 → bb b s → 1 ≤ N (4 * s + 0) ∧ N (4 * s + 0) ≤ R 0) : ∃ h', fX6_gather 31 6 (nI b) h = some (nI (cc b (nw R N b)), h') ∧ gI h' 31 8 = nI (sz b) ∧ (∀ m, m < sz b → gI h' 33 m = nI (mem b m)) ∧ Keep (fun x k => ¬ (x = 31 ∧ k = 8) ∧ x ≠ 33) h h' := by
  have vS := v.S
  have vF := v.F
  have hb := b32 v hB
  obtain ⟨r5, r52, r53⟩ := rk_5 b hb
  obtain ⟨nwf, nwd⟩ := nw_wf v hm
  have ecc : sg 4 (fun j => N (4 * mem b j + 0) - 1) (sz b) = cc b (nw R N b) := sg_congr (sz b) (fun j hj => by
    obtain ⟨m1, m2, m3⟩ := mem_ok b hb j (by omega) hj
    show N (4 * mem b j + 0) - 1 = dg (nw R N b) (mem b j) - 1
    rw [nwd _ (bb_lt hB m2), if_pos m2])
  have main : ∀ n s f (g : HH), s + n = 5 → n < f → Keep (fun x k => ¬ (x = 31 ∧ k = 8) ∧ x ≠ 33) h g → gI g 31 8 = nI (rk b s) → (∀ m, m < rk b s → gI g 33 m = nI (mem b m)) → ∃ h', lq2 (fX6_gather_L10 31 6 (nI b)) f (nI (sg 4 (fun j => N (4 * mem b j + 0) - 1) (rk b s))) (nI s) g = some (nI (cc b (nw R N b)), h') ∧ gI h' 31 8 = nI (sz b) ∧ (∀ m, m < sz b → gI h' 33 m = nI (mem b m)) ∧ Keep (fun x k => ¬ (x = 31 ∧ k = 8) ∧ x ≠ 33) h h' := by
    intro n
    induction n with
    | zero =>
      intro s f g e hf K g8 gm
      obtain ⟨f, rfl⟩ : ∃ q, f = q + 1 := ⟨f - 1, by omega⟩
      have : s = 5 := by omega
      subst this
      rw [r5] at g8 gm ⊢
      refine ⟨g, ?_, g8, gm, K⟩
      rw [ecc]
      simp (disch := omega) only [lI, lq2, fX6_gather_L10, leN, Nat.le_refl, if_true]
    | succ n ih =>
      intro s f g e hf K g8 gm
      obtain ⟨f, rfl⟩ : ∃ q, f = q + 1 := ⟨f - 1, by omega⟩
      have n1 : ¬ 5 ≤ s := by omega
      have hs5 : s < 5 := by omega
      have rs := rk_s b hb s hs5
      by_cases c : bb b s
      · obtain ⟨m1, m2⟩ := rk_mem b hb s hs5 c
        rw [if_pos c] at rs
        have hs := bb_lt hB c
        have hN := hm s hs c
        have q7 : gI g 7 s = nI (N (4 * s + 0)) := (K 7 s ⟨by omega, by omega⟩).1.trans (Q.2.1 s hs5).1
        have hsl : sg 4 (fun j => N (4 * mem b j + 0) - 1) (rk b s) < 4 ^ rk b s := sg_lt (rk b s) (fun i hi => by
          obtain ⟨a1, a2, a3⟩ := mem_ok b hb i (by omega) (by omega)
          have := hm _ (bb_lt hB a2) a2
          show N (4 * mem b i + 0) - 1 < 4
          omega)
        have es : sg 4 (fun j => N (4 * mem b j + 0) - 1) (rk b (s + 1)) = sg 4 (fun j => N (4 * mem b j + 0) - 1) (rk b s) + 4 ^ rk b s * (N (4 * s + 0) - 1) := by
          rw [rs]
          show _ + 4 ^ rk b s * (N (4 * mem b (rk b s) + 0) - 1) = _
          rw [m1]
        obtain ⟨h', e', r'⟩ := ih (s + 1) f (sI (sI g 33 (rk b s) (nI s)) 31 8 (nI (rk b s + 1))) (by omega) (by omega) (Keep.sI (Keep.sI K (fun z => z.2 rfl)) (fun z => z.1 ⟨rfl, rfl⟩)) (by rw [gIs, rs]) (fun m hm2 => by
          rw [gIa (by omega)]
          by_cases z : m = rk b s
          · rw [z, gIs, m1]
          · rw [gIk z]; exact gm m (by omega))
        refine ⟨h', ?_, r'⟩
        rw [es] at e'
        have dd := dec4 (N (4 * s + 0)) (by omega) hN.1
        simp (disch := omega) only [lI, gd_1, nm_1, inbN, ixN, pk_mul, nI_add, lq2, fX6_gather_L10, leN, n1, if_false, bitE, eq_true c, if_true, g8, Nat.reduceAdd, gIa, q7, dd, or4 hsl]
        exact e'
      · rw [if_neg c, Nat.add_zero] at rs
        obtain ⟨h', e', r'⟩ := ih (s + 1) f g (by omega) (by omega) K (by rw [rs]; exact g8) (fun m hm2 => gm m (by omega))
        refine ⟨h', ?_, r'⟩
        rw [rs] at e'
        simp (disch := omega) only [lI, gd_1, nm_1, inbN, ixN, pk_mul, nI_add, lq2, fX6_gather_L10, leN, n1, if_false, bitE, c]
        exact e'
  have r0 : rk b 0 = 0 := rfl
  obtain ⟨h', e', a1, a2, a3⟩ := main 5 0 FU (sI h 31 8 (nI 0)) (by omega) (by unfold FU; omega) (Keep.sI Keep.rfl (fun z => z.1 ⟨rfl, rfl⟩)) (gIs _ _ _ _) (fun m hm2 => by omega)
  refine ⟨h', ?_, a1, a2, a3⟩
  simp only [lI, fX6_gather]
  exact e'
/-- how often has been searched -/
def MtR (h : HH) (q : Nat) : Prop := gI h 31 7 = nI q ∧ ∀ x, x < 1024 → ∃ m, m ≤ q ∧ gI h 38 x = nI m
set_option maxRecDepth 100000 in
theorem CBr.M {b q : Nat} {A : BS} (C : CBr h R b q A) : MtR h q := ⟨C.1, fun x hx => by
  obtain ⟨m, m1, m2, -⟩ := C.2.2.2.2.1 x hx
  exact ⟨m, m1, m2⟩⟩
set_option maxRecDepth 100000 in
theorem cBi (v : VR R) {b q : Nat} (h1b : 1 ≤ b) (hB : b < 2 ^ R 4) (hq : q < 2 ^ 30) (kk : HH → Option (Int32 × HH)) {at' : Nat} : ∀ n st f A (h : HH), st + n = 10 → 1 ≤ st → n < f → CBr h R b q A → WB R b A → at' < A.1 → (∀ s A', bi R b at' n st A = (some s, A') → ∃ h', lq1 (fX6_seek_L55 kk 31 (nI at')) f (nI st) h = some (nI (A'.2.2.2.2 at' + 1), h') ∧ RwR h' A' at' s ∧ WB R b A' ∧ at' < A'.1 ∧ MtR h' q ∧ Keep PR6 h h') ∧ (∀ A', bi R b at' n st A = (none, A') → ∃ h', lq1 (fX6_seek_L55 kk 31 (nI at')) f (nI st) h = kk h' ∧ CBr h' R b q A' ∧ WB R b A' ∧ A.1 ≤ A'.1 ∧ Keep PR6 h h') := by
  have hb := b32 v hB
  have vS := v.S
  intro n
  induction n with
  | zero =>
    intro st f A h e h1 hf C W ha
    obtain ⟨f, rfl⟩ : ∃ q, f = q + 1 := ⟨f - 1, by omega⟩
    have n1 : 9 < st := by omega
    refine ⟨fun s A' z => (by cases z), fun A' z => ?_⟩
    cases z
    refine ⟨h, ?_, C, W, Nat.le_refl _, Keep.rfl⟩
    simp (disch := omega) only [lI, lq1, fX6_seek_L55, ltN, n1, if_true]
  | succ n ih =>
    intro st f A h e h1 hf C W ha
    obtain ⟨f, rfl⟩ : ∃ q, f = q + 1 := ⟨f - 1, by omega⟩
    have n1 : ¬ 9 < st := by omega
    have hL := W.L
    have wa := (W.2.1 at' ha).1
    have bk := cBk v hB wa C.2.1 C.2.2.2.2.2 h1 (show st ≤ 9 by omega)
    have q35 := (C.2.2.2.1 at' ha).1
    have eb : bi R b at' (n + 1) st A = if kc R b (A.2.1 at') st = 0 then (some st, A) else if (inq A.2.1 (kc R b (A.2.1 at') st) A.1 || !slp R b (kc R b (A.2.1 at') st)) = true then bi R b at' n (st + 1) A else bi R b at' n (st + 1) (adB at' st (kc R b (A.2.1 at') st) A) := rfl
    have hcc := cc_lt (c := kc R b (A.2.1 at') st) hb
    by_cases c0 : kc R b (A.2.1 at') st = 0
    · rw [if_pos c0] at eb bk
      obtain ⟨h', e', r1, K'⟩ := cTr C W h1b hB vS.2 ha (show st < 2 ^ 31 by omega)
      refine ⟨fun s A' z => ?_, fun A' z => by rw [eb] at z; cases z⟩
      rw [eb] at z
      cases z
      refine ⟨h', ?_, r1, W, ha, ⟨(K' 31 7 (by omega)).1.trans C.1, fun x hx => ?_⟩, K'.mono (fun x k hp z => hp ⟨by omega, by omega⟩)⟩
      · simp (disch := omega) only [lI, gd_1, bd_1, inbN, ixN, neg1, lq1, fX6_seek_L55, ltN, n1, if_false, Nat.reduceAdd, q35, bk, if_true, e']
      · obtain ⟨m, m1, m2⟩ := C.M.2 x hx
        exact ⟨m, m1, (K' 38 x (by omega)).1.trans m2⟩
    · rw [if_neg c0] at eb bk
      by_cases c1 : slp R b (kc R b (A.2.1 at') st) = true
      · rw [if_pos c1] at bk
        by_cases c2 : inq A.2.1 (kc R b (A.2.1 at') st) A.1 = true
        · rw [if_pos (by rw [c2]; rfl)] at eb
          obtain ⟨i, i1, i2⟩ := (inq_iff A.1).mp c2
          have en := cEnq1 C hq hL hcc ⟨i, i1, by rw [i2]⟩ (nI at') (nI st)
          obtain ⟨r1, r2⟩ := ih (st + 1) f A h (by omega) (by omega) (by omega) C W ha
          have step : lq1 (fX6_seek_L55 kk 31 (nI at')) (f + 1) (nI st) h = lq1 (fX6_seek_L55 kk 31 (nI at')) f (nI (st + 1)) h := by
            show fX6_seek_L55 kk 31 (nI at') (lq1 (fX6_seek_L55 kk 31 (nI at')) f) (nI st) h = _
            simp (disch := omega) only [lI, gd_1, bd_1, bv_1, inbN, ixN, neg1, neg2, nI_add, fX6_seek_L55, ltN, n1, if_false, Nat.reduceAdd, q35, bk, M1f, M2f, en]
          rw [eb, step]
          exact ⟨r1, r2⟩
        · have c2' : inq A.2.1 (kc R b (A.2.1 at') st) A.1 = false := by
            cases hh : inq A.2.1 (kc R b (A.2.1 at') st) A.1 with
            | true => exact absurd hh c2
            | false => rfl
          rw [if_neg (by rw [c2', c1]; exact fun z => by cases z)] at eb
          obtain ⟨W2, hL2, hni⟩ := W.ad v hb ha h1 (show st ≤ 9 by omega) c2' c1
          obtain ⟨h2, e2, C2, K2⟩ := cEnq2 (at' := at') (st := st) (c := kc R b (A.2.1 at') st) C hb hq hL2 hni (y := nI at') (fun _ => rfl)
          have ha2 : at' < (adB at' st (kc R b (A.2.1 at') st) A).1 := by show at' < A.1 + 1; omega
          obtain ⟨r1, r2⟩ := ih (st + 1) f (adB at' st (kc R b (A.2.1 at') st) A) h2 (by omega) (by omega) (by omega) C2 W2 ha2
          have step : lq1 (fX6_seek_L55 kk 31 (nI at')) (f + 1) (nI st) h = lq1 (fX6_seek_L55 kk 31 (nI at')) f (nI (st + 1)) h2 := by
            show fX6_seek_L55 kk 31 (nI at') (lq1 (fX6_seek_L55 kk 31 (nI at')) f) (nI st) h = _
            simp (disch := omega) only [lI, gd_1, bd_1, bv_1, inbN, ixN, neg1, neg2, nI_add, fX6_seek_L55, ltN, n1, if_false, Nat.reduceAdd, q35, bk, M1f, M2f, e2]
          rw [eb, step]
          refine ⟨fun s A' z => ?_, fun A' z => ?_⟩
          · obtain ⟨h', x1, x2, x3, x4, x5, x6⟩ := r1 s A' z
            exact ⟨h', x1, x2, x3, x4, x5, K2.trans x6⟩
          · obtain ⟨h', x1, x2, x3, x4, x5⟩ := r2 A' z
            have x4' : A.1 + 1 ≤ A'.1 := x4
            exact ⟨h', x1, x2, x3, by omega, K2.trans x5⟩
      · rw [if_neg c1] at bk
        have c1' : slp R b (kc R b (A.2.1 at') st) = false := by
          cases hh : slp R b (kc R b (A.2.1 at') st) with
          | true => exact absurd hh c1
          | false => rfl
        rw [if_pos (by rw [c1']; simp)] at eb
        have m21 : (M2 = M1) = False := by decide +kernel
        obtain ⟨r1, r2⟩ := ih (st + 1) f A h (by omega) (by omega) (by omega) C W ha
        have step : lq1 (fX6_seek_L55 kk 31 (nI at')) (f + 1) (nI st) h = lq1 (fX6_seek_L55 kk 31 (nI at')) f (nI (st + 1)) h := by
          show fX6_seek_L55 kk 31 (nI at') (lq1 (fX6_seek_L55 kk 31 (nI at')) f) (nI st) h = _
          simp (disch := omega) only [lI, gd_1, bd_1, bv_1, inbN, ixN, neg1, neg2, nI_add, fX6_seek_L55, ltN, n1, if_false, Nat.reduceAdd, q35, bk, m21, if_true]
        rw [eb, step]
        exact ⟨r1, r2⟩
set_option maxRecDepth 100000 in
theorem bo_some {b n at' : Nat} {A A' : BS} {s : Nat} (h : ¬ A.1 ≤ at') (e : bi R b at' 9 1 A = (some s, A')) : bo R b (n + 1) at' A = (some (at', s), A') := by
  show (if A.1 ≤ at' then (none, A) else match bi R b at' 9 1 A with | (some st, A') => (some (at', st), A') | (none, A') => bo R b n (at' + 1) A') = _
  rw [if_neg h, e]
set_option maxRecDepth 100000 in
theorem bo_none {b n at' : Nat} {A A' : BS} (h : ¬ A.1 ≤ at') (e : bi R b at' 9 1 A = (none, A')) : bo R b (n + 1) at' A = bo R b n (at' + 1) A' := by
  show (if A.1 ≤ at' then (none, A) else match bi R b at' 9 1 A with | (some st, A') => (some (at', st), A') | (none, A') => bo R b n (at' + 1) A') = _
  rw [if_neg h, e]
set_option maxRecDepth 100000 in
theorem bo_end {b n at' : Nat} {A : BS} (h : A.1 ≤ at') : bo R b n at' A = (none, A) := by
  cases n with
  | zero => rfl
  | succ n => exact if_pos h
set_option maxRecDepth 100000 in
theorem cBo (v : VR R) {b q : Nat} (h1b : 1 ≤ b) (hB : b < 2 ^ R 4) (hq : q < 2 ^ 30) : ∀ n at' f A (h : HH), at' + n = 1024 → n + 1 < f → CBr h R b q A → WB R b A → at' ≤ A.1 → (∀ i s A', bo R b n at' A = (some (i, s), A') → ∃ h', lq1 (fX6_seek_L35 31) f (nI at') h = some (nI (A'.2.2.2.2 i + 1), h') ∧ RwR h' A' i s ∧ WB R b A' ∧ i < A'.1 ∧ MtR h' q ∧ Keep PR6 h h') ∧ (∀ A', bo R b n at' A = (none, A') → ∃ h', lq1 (fX6_seek_L35 31) f (nI at') h = some (M2, h') ∧ MtR h' q ∧ Keep PR6 h h') := by
  intro n
  induction n with
  | zero =>
    intro at' f A h e hf C W ha
    obtain ⟨f, rfl⟩ : ∃ q, f = q + 1 := ⟨f - 1, by omega⟩
    have hL := W.L
    have n1 : A.1 ≤ at' := by omega
    refine ⟨fun i s A' z => (by rw [bo_end n1] at z; cases z), fun A' z => ⟨h, ?_, C.M, Keep.rfl⟩⟩
    simp (disch := omega) only [lI, neg2, lq1, fX6_seek_L35, C.2.2.1, leN, n1, if_true]
  | succ n ih =>
    intro at' f A h e hf C W ha
    obtain ⟨f, rfl⟩ : ∃ q, f = q + 1 := ⟨f - 1, by omega⟩
    have hL := W.L
    by_cases n1 : A.1 ≤ at'
    · refine ⟨fun i s A' z => (by rw [bo_end n1] at z; cases z), fun A' z => ⟨h, ?_, C.M, Keep.rfl⟩⟩
      simp (disch := omega) only [lI, neg2, lq1, fX6_seek_L35, C.2.2.1, leN, n1, if_true]
    · have n2 : ¬ 1024 ≤ at' := by omega
      obtain ⟨r1, r2⟩ := cBi v h1b hB hq (fun h => lq1 (fX6_seek_L35 31) f (nI at' + nI 1) h) (at' := at') 9 1 FU A h (by omega) (by omega) (by unfold FU; omega) C W (by omega)
      have step : lq1 (fX6_seek_L35 31) (f + 1) (nI at') h = lq1 (fX6_seek_L55 (fun h => lq1 (fX6_seek_L35 31) f (nI at' + nI 1) h) 31 (nI at')) FU (nI 1) h := by
        show fX6_seek_L35 31 (lq1 (fX6_seek_L35 31) f) (nI at') h = _
        simp (disch := omega) only [lI, fX6_seek_L35, C.2.2.1, leN, n1, n2, if_false]
      rw [step]
      cases hbi : bi R b at' 9 1 A with
      | mk o A1 =>
        cases o with
        | some s =>
          obtain ⟨h', x1, x2, x3, x4, x5, x6⟩ := r1 s A1 hbi
          rw [bo_some n1 hbi]
          refine ⟨fun i s' A' z => ?_, fun A' z => by cases z⟩
          cases z
          exact ⟨h', x1, x2, x3, x4, x5, x6⟩
        | none =>
          obtain ⟨h2, x1, x2, x3, x4, x5⟩ := r2 A1 hbi
          rw [bo_none n1 hbi]
          obtain ⟨y1, y2⟩ := ih (at' + 1) f A1 h2 (by omega) (by omega) x2 x3 (by omega)
          have x1' : lq1 (fX6_seek_L55 (fun h => lq1 (fX6_seek_L35 31) f (nI at' + nI 1) h) 31 (nI at')) FU (nI 1) h = lq1 (fX6_seek_L35 31) f (nI (at' + 1)) h2 := by rw [← nI_add]; exact x1
          rw [x1']
          refine ⟨fun i s A' z => ?_, fun A' z => ?_⟩
          · obtain ⟨h', w1, w2, w3, w4, w5, w6⟩ := y1 i s A' z
            exact ⟨h', w1, w2, w3, w4, w5, x5.trans w6⟩
          · obtain ⟨h', w1, w2, w3⟩ := y2 A' z
            exact ⟨h', w1, w2, x5.trans w3⟩
/-- the search as it comes out -/
def srch (R N : Nat → Nat) (b : Nat) : Option (Nat × Nat) × BS := bo R b 1024 0 (A0 (nw R N b))
set_option maxRecDepth 100000 in
theorem cSeek (D : DRep h d R) (hD : isD d) (v : VR R) (Q : NRep h 6 R N T) {b q : Nat} (h1b : 1 ≤ b) (hB : b < 2 ^ R 4) (hq : q + 1 < 2 ^ 30) (hm : ∀ s, s < R 4 → bb b s → 1 ≤ N (4 * s + 0) ∧ N (4 * s + 0) ≤ R 0) (M : MtR h q) : (∀ i s A', srch R N b = (some (i, s), A') → ∃ h', fX6_seek 31 d 6 (nI b) h = some (nI (A'.2.2.2.2 i + 1), h') ∧ RwR h' A' i s ∧ WB R b A' ∧ i < A'.1 ∧ MtR h' (q + 1) ∧ Keep PR6 h h') ∧ (∀ A', srch R N b = (none, A') → ∃ h', fX6_seek 31 d 6 (nI b) h = some (M2, h') ∧ MtR h' (q + 1) ∧ Keep PR6 h h') := by
  have hb := b32 v hB
  obtain ⟨nwf, nwd⟩ := nw_wf v hm
  obtain ⟨m7, m38⟩ := M
  have K1 : Keep PR6 h (sI (sI h 31 7 (nI (q + 1))) 31 9 (nI 0)) := kpR1 (kpR1 Keep.rfl (by omega) (by omega)) (by omega) (by omega)
  have Q1 : NRep (sI (sI h 31 7 (nI (q + 1))) 31 9 (nI 0)) 6 R N T := Q.keep K1 (fun b k h1 h2 z => by omega)
  obtain ⟨g1, e1, a8, am, K2⟩ := cGath v hB Q1 hm
  have g7 : gI g1 31 7 = nI (q + 1) := (K2 31 7 ⟨by omega, by omega⟩).1.trans (by rw [gIk (by omega), gIs])
  have g9 : gI g1 31 9 = nI 0 := (K2 31 9 ⟨by omega, by omega⟩).1.trans (gIs _ _ _ _)
  have g38 : ∀ x, gI g1 38 x = gI h 38 x := fun x => (K2 38 x ⟨by omega, by omega⟩).1.trans (by rw [gIa (by omega), gIa (by omega)])
  have K12 : Keep PR6 h g1 := K1.trans (K2.mono (fun x k hp => ⟨fun z => hp ⟨by omega, by omega⟩, fun z => hp ⟨by omega, by omega⟩⟩))
  have hx := cc_lt (c := nw R N b) hb
  have n0 : ¬ 1024 ≤ cc b (nw R N b) := by omega
  have n1 : ¬ 1024 ≤ 0 := by omega
  obtain ⟨m, mm1, mm2⟩ := m38 _ hx
  have nm : ¬ m = q + 1 := by omega
  -- the first one
  have e2 : fX6_enqueue 31 (nI (cc b (nw R N b))) M1 (nI 0) g1 = some (sI (sI (sI (sI (sI g1 38 (cc b (nw R N b)) (nI (q + 1))) 35 0 (nI (cc b (nw R N b)))) 36 0 M1) 37 0 (nI 0)) 31 9 (nI 1)) := by
    have z38 := (g38 (cc b (nw R N b))).trans mm2
    simp (disch := omega) only [lI, gd_1, nm_1, inbN, ixN, fX6_enqueue, ltN, Nat.not_lt_zero, if_false, leN, n0, g9, n1, Nat.reduceAdd, z38, g7, eqN, nm, gIa, nI_add]
  have K3 : Keep PR6 h (sI (sI (sI (sI (sI g1 38 (cc b (nw R N b)) (nI (q + 1))) 35 0 (nI (cc b (nw R N b)))) 36 0 M1) 37 0 (nI 0)) 31 9 (nI 1)) := kpR1 (kpR1 (kpR1 (kpR1 (kpR1 K12 (by omega) (by omega)) (by omega) (by omega)) (by omega) (by omega)) (by omega) (by omega)) (by omega) (by omega)
  obtain ⟨g3, e3, T3, K4⟩ := cTryK (D.R6 hD K3) hD v hB (by simp (disch := omega) only [gIa, gIk]; exact a8) (fun m hm2 => by simp (disch := omega) only [gIa]; exact am m hm2)
  have K5 := K3.trans (K4.mono (fun x k (hp : PR6 x k) => fun z => hp ⟨by omega, by omega⟩))
  have gg : ∀ x k, x ≠ 34 → gI g3 x k = gI (sI (sI (sI (sI (sI g1 38 (cc b (nw R N b)) (nI (q + 1))) 35 0 (nI (cc b (nw R N b)))) 36 0 M1) 37 0 (nI 0)) 31 9 (nI 1)) x k := fun x k hx2 => (K4 x k hx2).1
  have C3 : CBr g3 R b (q + 1) (A0 (nw R N b)) := by
    refine ⟨?_, ?_, ?_, fun i hi => ⟨?_, fun z => ?_⟩, fun x hx2 => ?_, T3⟩
    · rw [gg 31 7 (by omega)]; simp (disch := omega) only [gIa, gIk]; exact g7
    · rw [gg 31 8 (by omega)]; simp (disch := omega) only [gIa, gIk]; exact a8
    · rw [gg 31 9 (by omega), gIs]; rfl
    · have : i = 0 := by have : i < 1 := hi
                         omega
      rw [this, gg 35 0 (by omega)]
      simp (disch := omega) only [gIa, gIs]
      rfl
    · have : i < 1 := hi
      omega
    · rw [gg 38 x (by omega)]
      simp (disch := omega) only [gIa]
      by_cases z : x = cc b (nw R N b)
      · rw [z, gIs]
        exact ⟨q + 1, Nat.le_refl _, rfl, fun _ => ⟨0, by show 0 < 1; omega, rfl⟩, fun _ => rfl⟩
      · rw [gIk z, g38]
        obtain ⟨m', p1, p2⟩ := m38 x hx2
        refine ⟨m', by omega, p2, fun y => by omega, fun ⟨i, i1, i2⟩ => ?_⟩
        exact absurd (show cc b (nw R N b) = x from i2).symm z
  obtain ⟨r1, r2⟩ := cBo v h1b hB hq 1024 0 FU (A0 (nw R N b)) g3 (by omega) (by unfold FU; omega) C3 (WB0 v hB nwf) (by show 0 ≤ 1; omega)
  have step : fX6_seek 31 d 6 (nI b) h = lq1 (fX6_seek_L35 31) FU (nI 0) g3 := by
    simp (disch := omega) only [lI, bd_1, bv_1, nm_1, nI_add, neg1, fX6_seek, m7, e1, e2, e3]
  rw [step]
  refine ⟨fun i s A' z => ?_, fun A' z => ?_⟩
  · obtain ⟨h', w1, w2, w3, w4, w5, w6⟩ := r1 i s A' z
    exact ⟨h', w1, w2, w3, w4, w5, K5.trans w6⟩
  · obtain ⟨h', w1, w2, w3⟩ := r2 A' z
    exact ⟨h', w1, w2, K5.trans w3⟩
end CRS2
