theorem mz_mA : mz mA 181 := (mz_set (mz_set (mz_set (mz_set (mz_set (mz_set (mz_set (mz_set (mz_set (mz_set (mz_set (mz_set (mz_set (mz_set (mz_set (mz_drM (mz_drM (mz_set (mz_set (mz_set (mz_set (mz_set (mz_set (mz_set (mz_set (mz_set (mz_set (mz_set (mz_set (mz_set (mz_set (mz_set (mz_set (mz_set (mz_set (mz.up (n := 0) (fun _ _ => rfl) (by decide) : mz m0 _) (by decide)) (by decide)) (by decide)) (by decide)) (by decide)) (by decide)) (by decide)) (by decide)) (by decide)) (by decide)) (by decide)) (by decide)) (by decide)) (by decide)) (by decide)) (by decide)) (by decide)) (by decide)) (by decide)) (by decide)) (by decide)) (by decide)) (by decide)) (by decide)) (by decide)) (by decide)) (by decide)) (by decide)) (by decide)) (by decide)) (by decide)) (by decide)) (by decide)) (by decide)) (by decide))
theorem zr_hA : zr hA 181 := (zr_sR (a := 43) (k := ix 2) (v := 174) (zr_sR (a := 43) (k := ix 1) (v := 167) (zr_sR (a := 43) (k := ix 0) (v := 160) (zr_sR (a := 42) (k := ix 11) (v := 153) (zr_sR (a := 42) (k := ix 10) (v := 146) (zr_sR (a := 42) (k := ix 9) (v := 139) (zr_sR (a := 42) (k := ix 8) (v := 132) (zr_sR (a := 42) (k := ix 7) (v := 125) (zr_sR (a := 42) (k := ix 6) (v := 118) (zr_sR (a := 42) (k := ix 5) (v := 111) (zr_sR (a := 42) (k := ix 4) (v := 104) (zr_sR (a := 42) (k := ix 3) (v := 97) (zr_sR (a := 42) (k := ix 2) (v := 90) (zr_sR (a := 42) (k := ix 1) (v := 83) (zr_sR (a := 42) (k := ix 0) (v := 76) (zr_sR (a := 0) (k := 11) (v := 60) (zr_drm (a := 60) (zr_sR (a := 0) (k := 10) (v := 44) (zr_drm (a := 44) (zr_h0 181) (by decide)) (by decide)) (by decide)) (by decide)) (by decide)) (by decide)) (by decide)) (by decide)) (by decide)) (by decide)) (by decide)) (by decide)) (by decide)) (by decide)) (by decide)) (by decide)) (by decide)) (by decide)) (by decide))
def lastF (c : Nat) : Nat := ([9, 4, 6, 1, 2, 3, 7, 3, 10, 44] : List Nat).getD c 0
theorem full_0 {ad : Nat → Nat} {mk : MK} {h : HH} {a : Nat} (hm : 9 ≤ mk a) : fldc ad mk h 0 a = fldv ad h 0 a := by
  simp only [fldc, fldv]
  rw [if_pos (show 0 < mk a by omega), if_pos (show 1 < mk a by omega), if_pos (show 2 < mk a by omega), if_pos (show 3 < mk a by omega), if_pos (show 4 < mk a by omega), if_pos (show 5 < mk a by omega), if_pos (show 6 < mk a by omega), if_pos (show 7 < mk a by omega), if_pos (show 8 < mk a by omega)]
theorem full_1 {ad : Nat → Nat} {mk : MK} {h : HH} {a : Nat} (hm : 4 ≤ mk a) : fldc ad mk h 1 a = fldv ad h 1 a := by
  simp only [fldc, fldv]
  rw [if_pos (show 2 < mk a by omega), if_pos (show 3 < mk a by omega)]
theorem full_2 {ad : Nat → Nat} {mk : MK} {h : HH} {a : Nat} (hm : 6 ≤ mk a) : fldc ad mk h 2 a = fldv ad h 2 a := by
  simp only [fldc, fldv]
  rw [if_pos (show 0 < mk a by omega), if_pos (show 1 < mk a by omega), if_pos (show 2 < mk a by omega), if_pos (show 3 < mk a by omega), if_pos (show 4 < mk a by omega), if_pos (show 5 < mk a by omega)]
theorem full_3 {ad : Nat → Nat} {mk : MK} {h : HH} {a : Nat} (hm : 1 ≤ mk a) : fldc ad mk h 3 a = fldv ad h 3 a := by
  simp only [fldc, fldv]
  rw [if_pos (show 0 < mk a by omega)]
theorem full_4 {ad : Nat → Nat} {mk : MK} {h : HH} {a : Nat} (hm : 2 ≤ mk a) : fldc ad mk h 4 a = fldv ad h 4 a := by
  simp only [fldc, fldv]
  rw [if_pos (show 0 < mk a by omega), if_pos (show 1 < mk a by omega)]
theorem full_5 {ad : Nat → Nat} {mk : MK} {h : HH} {a : Nat} (hm : 3 ≤ mk a) : fldc ad mk h 5 a = fldv ad h 5 a := by
  simp only [fldc, fldv]
  rw [if_pos (show 0 < mk a by omega), if_pos (show 1 < mk a by omega), if_pos (show 2 < mk a by omega)]
theorem full_6 {ad : Nat → Nat} {mk : MK} {h : HH} {a : Nat} (hm : 7 ≤ mk a) : fldc ad mk h 6 a = fldv ad h 6 a := by
  simp only [fldc, fldv]
  rw [if_pos (show 0 < mk a by omega), if_pos (show 1 < mk a by omega), if_pos (show 2 < mk a by omega), if_pos (show 3 < mk a by omega), if_pos (show 4 < mk a by omega), if_pos (show 5 < mk a by omega), if_pos (show 6 < mk a by omega)]
theorem full_7 {ad : Nat → Nat} {mk : MK} {h : HH} {a : Nat} (hm : 3 ≤ mk a) : fldc ad mk h 7 a = fldv ad h 7 a := by
  simp only [fldc, fldv]
  rw [if_pos (show 2 < mk a by omega)]
theorem full_8 {ad : Nat → Nat} {mk : MK} {h : HH} {a : Nat} (hm : 10 ≤ mk a) : fldc ad mk h 8 a = fldv ad h 8 a := by
  simp only [fldc, fldv]
  rw [if_pos (show 0 < mk a by omega), if_pos (show 1 < mk a by omega), if_pos (show 2 < mk a by omega), if_pos (show 3 < mk a by omega), if_pos (show 4 < mk a by omega), if_pos (show 5 < mk a by omega), if_pos (show 6 < mk a by omega), if_pos (show 7 < mk a by omega), if_pos (show 8 < mk a by omega), if_pos (show 9 < mk a by omega)]
theorem full_9 {ad : Nat → Nat} {mk : MK} {h : HH} {a : Nat} (hm : 44 ≤ mk a) : fldc ad mk h 9 a = fldv ad h 9 a := by
  simp only [fldc, fldv]
  rw [if_pos (show 1 < mk a by omega), if_pos (show 12 < mk a by omega), if_pos (show 15 < mk a by omega), if_pos (show 16 < mk a by omega), if_pos (show 17 < mk a by omega), if_pos (show 18 < mk a by omega), if_pos (show 19 < mk a by omega), if_pos (show 20 < mk a by omega), if_pos (show 21 < mk a by omega), if_pos (show 22 < mk a by omega), if_pos (show 23 < mk a by omega), if_pos (show 24 < mk a by omega), if_pos (show 27 < mk a by omega), if_pos (show 28 < mk a by omega), if_pos (show 33 < mk a by omega), if_pos (show 34 < mk a by omega), if_pos (show 35 < mk a by omega), if_pos (show 42 < mk a by omega), if_pos (show 43 < mk a by omega)]
theorem kd_lt : ∀ a, a < NW → kd a < 14 := by decide +kernel
theorem wldC_full {ad : Nat → Nat} {cy : CY} {mk : MK} {h : HH} (hm : ∀ a, a < NW → lastF (kd a) ≤ mk a) : wldC ad cy mk h NW = wld ad cy h := by
  apply List.ext_getElem?
  intro i
  rcases Nat.lt_or_ge i NW with hi | hi
  · rw [wldC_get _ _ _ _ hi, wld_get _ _ _ hi]
    have h1 := hm i hi
    have h2 := kd_lt i hi
    unfold celC cel
    generalize hc : kd i = c at h1 h2 ⊢
    match c, h1, h2 with
    | 0, h1, _ => exact congrArg (fun z => some (ad i, Sum.inr (0, z))) (full_0 h1)
    | 1, h1, _ => exact congrArg (fun z => some (ad i, Sum.inr (1, z))) (full_1 h1)
    | 2, h1, _ => exact congrArg (fun z => some (ad i, Sum.inr (2, z))) (full_2 h1)
    | 3, h1, _ => exact congrArg (fun z => some (ad i, Sum.inr (3, z))) (full_3 h1)
    | 4, h1, _ => exact congrArg (fun z => some (ad i, Sum.inr (4, z))) (full_4 h1)
    | 5, h1, _ => exact congrArg (fun z => some (ad i, Sum.inr (5, z))) (full_5 h1)
    | 6, h1, _ => exact congrArg (fun z => some (ad i, Sum.inr (6, z))) (full_6 h1)
    | 7, h1, _ => exact congrArg (fun z => some (ad i, Sum.inr (7, z))) (full_7 h1)
    | 8, h1, _ => exact congrArg (fun z => some (ad i, Sum.inr (8, z))) (full_8 h1)
    | 9, h1, _ => exact congrArg (fun z => some (ad i, Sum.inr (9, z))) (full_9 h1)
    | 10, _, _ => rfl
    | 11, _, _ => rfl
    | 12, _, _ => rfl
    | 13, _, _ => rfl
    | c + 14, _, h2 => exact absurd h2 (by omega)
  · rw [List.getElem?_eq_none (by simpa [wldC] using hi), List.getElem?_eq_none (by simpa [wld] using hi)]
def mB : MK := mset mA 181 44
def hB : HH := sI hA 181 10 (-1)
theorem mB_full : ∀ a, a < NW → lastF (kd a) ≤ mB a := by decide +kernel
theorem AtC_At {K : KX} {p : Program} {l : Launch} {e : Env} {R : Room} {s : State} {m : MethodId} {args : Array Value} {below : List Frame} {meth : Method} {c : Code} {Q : State → Prop} {nL z1 z2 cn sn pc : Nat} {mk : MK} {h : HH} {lv : List (Nat × Value)} {st : List Value} (HK : KC K) (hm : ∀ a, a < NW → lastF (kd a) ≤ mk a) (nx : At K (p, l, e, R, s, m, args, below, meth, c, Q, cn, sn, nL) pc lv st h) : AtC K (p, l, e, R, s, m, args, below, meth, c, Q, z1, z2, nL) cn sn NW mk h pc lv st := by
  intro H locs ls hz hP hS hl
  rw [wldC_full hm] at hP
  refine nx H locs ls hP ?_ hS hl
  have hD := wldC_D HK (cy := K.2.2.2.2.1) (mk := mk) (h := h) (n := NW)
  rw [wldC_full hm] at hD
  exact hD
theorem lkRL_15 : LkI R_law 15 yX8_init cX8_init 2 0 := ⟨tb_1 176 (by decide +kernel) (by decide +kernel), tb_1 177 (by decide +kernel) (by decide +kernel), iniX8, coX8_init, rfl, ⟨by decide +kernel, by decide +kernel, by decide +kernel⟩⟩
theorem lkRL_18 : LkI R_law 18 yX9_init cX9_init 1 0 := ⟨tb_1 1461 (by decide +kernel) (by decide +kernel), tb_1 1462 (by decide +kernel) (by decide +kernel), iniX9, coX9_init, rfl, ⟨by decide +kernel, by decide +kernel, by decide +kernel⟩⟩
theorem clRL_8 : Cond.classLink R_law 8 RX8 ∈ TB := tb_1 174 (by decide +kernel) (by decide +kernel)
theorem clRL_16 : Cond.classLink R_law 16 RX9 ∈ TB := tb_1 1459 (by decide +kernel) (by decide +kernel)
section RUN
variable {K : KX} {p : Program} {l : Launch} {e : Env} {s : State} {m : MethodId} {below : List Frame} {meth : Method} {c : Code} {b L : Nat} {xs : Nat → Int32}
def GL (p : Program) (l : Launch) (e : Env) (s : State) (m : MethodId) (below : List Frame) (meth : Method) (c : Code) (b cn sn : Nat) : GX := (p, l, e, room_1, s, m, #[Value.ref b], below, meth, c, lw_Z below #[Value.ref b] s, cn, sn, 7)
/-- what stands through the whole run -/
def Run (K : KX) (p : Program) (l : Launch) (s : State) (m : MethodId) (meth : Method) (c : Code) (b L : Nat) (xs : Nat → Int32) : Prop :=
  p.tables.exec = Jvm.exec ∧ c.code = cL_law ∧ c.maxLocals = 7 ∧ s.vm.findClass R_law = some m.cls ∧ (∀ w ∈ TB, w.before #[Value.ref b] s = true) ∧ va_K K.2.2.2.1 cls (tys K.2.2.2.2.1) s ∧ Aux K s ∧ l = K.1 ∧ meth.sig.returnType = ret ∧ meth.locks = false ∧ (∀ q, K.2.2.1 q → s.heap.size ≤ q) ∧ (AuxX K s ∧ K.1.stackTraces = false) ∧ va_X b L xs s s.heap ∧ b < s.heap.size ∧ ¬ K.2.2.1 b ∧ L < 2 ^ 31
theorem Run.ok (h : Run K p l s m meth c b L xs) {cn sn : Nat} (hc : cn ≤ 601024) (hs : sn ≤ 7293034) : Ok K (GL p l e s m below meth c b cn sn) 800 cL_law R_law := by
  obtain ⟨h1, h2, h3, h4, h5, h6, h7, h8, -⟩ := h
  exact ⟨h1, h2, h3, h4, h5, h6, h7, h8, by decide, by decide, hc, hs⟩
theorem Run.en (h : Run K p l s m meth c b L xs) {cn sn : Nat} (hc : cn ≤ 601024) (hs : sn ≤ 7293034) : EndL K (GL p l e s m below meth c b cn sn) b := by
  obtain ⟨-, -, -, -, -, -, -, -, h9, h10, h11, h12, -⟩ := h
  exact ⟨rfl, rfl, rfl, h9, h10, hc, hs, h11, h12⟩
theorem Run.scr (h : Run K p l s m meth c b L xs) {cn sn : Nat} : ScrOK K (GL p l e s m below meth c b cn sn) b xs L := by
  obtain ⟨-, -, -, -, -, -, -, -, -, -, -, -, h12⟩ := h
  exact h12
theorem k0_AI : isK 8 0 := by decide
theorem k0_MO : isK 9 181 := by decide
theorem k0_OUT : isK 12 201 := by decide
theorem law_run (h : Run K p l s m meth c b L xs) {hv : HH} : ∀ (n : Nat) (x4 : Int32) (g : HH) (cn sn : Nat), cn + n < 601024 → sn + 6 * n < 7293000 → lq1 (fL_law_L23 xs L 0 181 201) n x4 g = some (true, hv) → At K (GL p l e s m below meth c b cn sn) 23 [(0, .ref b), (1, .ref (K.2.1 0)), (2, .ref (K.2.1 181)), (3, .ref (K.2.1 201)), (4, .int x4)] [] g := by
  intro n
  induction n with
  | zero => intro x4 g cn sn _ _ hf; cases hf
  | succ n ih =>
    intro x4 g cn sn h1 h2 hf
    refine wL_law_L23 (xs := xs) (L := L) (h.ok (by omega) (by omega)) (h.ok (cn := cn + 1) (sn := sn + 6) (by omega) (by omega)) rfl rfl (h.en (by omega) (by omega)) (h.en (cn := cn + 1) (sn := sn + 6) (by omega) (by omega)) (fun xs L z => z) h.scr k0_AI k0_MO k0_OUT (lq1 (fL_law_L23 xs L 0 181 201) n) ?_ x4 g hf
    intro G' hG y k hk
    rcases hG with rfl | rfl
    · exact ih y k cn sn (by omega) (by omega) hk
    · exact ih y k (cn + 1) (sn + 6) (by omega) (by omega) hk
end RUN
