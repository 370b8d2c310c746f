set_option maxHeartbeats 4000000 in
set_option maxRecDepth 100000 in
theorem whole_start {p : Program} {e : Env} {s : State} {m : MethodId} {below : List Frame} {meth : Method} {c : Code} (l : Launch) (hflags : l.flags = flags0) {b L : Nat} {xs : Nat → Int32} (hL : L ≤ 3072) (C0 : lw_At p s m meth c b L xs) : W p l e room_1 s m #[Value.ref b] below meth c s.heap [] 0 0 (lw_Z below #[Value.ref b] s) (entryFrame m ([Value.ref b] : List Value).toArray 7) := by
  obtain ⟨hx, hb, hr, hml, hown, hts, hX, hbl, hlocks, hgv⟩ := id C0
  have htb : ∀ w ∈ TB, w.before #[Value.ref b] s = true := fun w hw => hts w (tb_sub hw)
  have hA : ∀ a : Nat, a < s.heap.size → ¬ (fun q : Nat => s.heap.size ≤ q) a := fun a h1 h2 => by have : s.heap.size ≤ a := h2; omega
  have hfl := flat_of_before _ hgv
  have hw : ∀ w ∈ strW, w.before #[Value.ref b] s = true := fun w hw => by
    rw [nar_str] at hw
    obtain ⟨i, -, hi⟩ := List.mem_filterMap.mp hw
    exact hfl w (List.mem_of_getElem? hi)
  have hrr : ∀ w ∈ strR, w.before #[Value.ref b] s = true := fun w hw => by
    rw [tab_str] at hw
    obtain ⟨i, -, hi⟩ := List.mem_filterMap.mp hw
    exact hts w (List.mem_of_getElem? hi)
  obtain ⟨sK, sV, hstr⟩ := str_all (A := fun q : Nat => s.heap.size ≤ q) hA hw hrr
  obtain ⟨dC, dI, hcls⟩ := cls_all htb
  have hov : va_AO RX2 s := va_AO.of (hts (.arrayOver (.object RX2)) (List.mem_of_getElem? (i := 389) (by decide +kernel)))
  obtain ⟨cy, harr⟩ := arr_all htb hov
  obtain ⟨K, hKe⟩ : ∃ K : KX, K = (l, fun i => s.heap.size + i, fun q : Nat => s.heap.size ≤ q, (dC, dI), cy, sK, sV) := ⟨_, rfl⟩
  have HK : KC K := by rw [hKe]; exact ⟨fun i => by show s.heap.size + i = s.heap.size + 0 + i; omega, fun q hq => by have h9 : s.heap.size + 0 ≤ q := hq; show s.heap.size ≤ q; omega⟩
  have hK : va_K K.2.2.2.1 cls (tys K.2.2.2.2.1) s := by rw [hKe]; exact ⟨hcls, harr⟩
  have hXC : AuxC s := ⟨hov, va_Nw.of rfl (hts (.methodLinkNest RX8 15 ⟨RX5, "<init>", "()V"⟩ RX8) (List.mem_of_getElem? (i := 184) (by decide +kernel))), va_Nw.of rfl (hts (.methodLinkNest RX8 22 ⟨RX2, "<init>", "()V"⟩ RX8) (List.mem_of_getElem? (i := 234) (by decide +kernel))), va_Nw.of rfl (hts (.methodLinkNest RX8 32 ⟨RX3, "<init>", "()V"⟩ RX8) (List.mem_of_getElem? (i := 271) (by decide +kernel))), va_Nw.of rfl (hts (.methodLinkNest RX3 11 ⟨RX2, "<init>", "()V"⟩ RX8) (List.mem_of_getElem? (i := 276) (by decide +kernel))), va_Nw.of rfl (hts (.methodLinkNest RX8 39 ⟨RX4, "<init>", "()V"⟩ RX8) (List.mem_of_getElem? (i := 295) (by decide +kernel))), va_Nw.of rfl (hts (.methodLinkNest RX8 46 ⟨RX6, "<init>", "()V"⟩ RX8) (List.mem_of_getElem? (i := 332) (by decide +kernel))), va_Nw.of rfl (hts (.methodLinkNest RX8 53 ⟨RX1, "<init>", "()V"⟩ RX8) (List.mem_of_getElem? (i := 370) (by decide +kernel))), va_Nw.of rfl (hts (.methodLinkNest RX8 67 ⟨RX0, "<init>", "()V"⟩ RX8) (List.mem_of_getElem? (i := 392) (by decide +kernel)))⟩
  have hz : va_Z "java/lang/String" "COMPACT_STRINGS" "Z" (.int 1) (fun q : Nat => s.heap.size ≤ q) s s.heap := va_Zof (hts _ (List.mem_of_getElem? (i := 630) (by decide +kernel))) (hts _ (List.mem_of_getElem? (i := 165) (by decide +kernel))) (va_eqt (hfl _ (List.mem_of_getElem? (i := 4) (by decide +kernel)))) hA
  have hz2 : va_Zq "jdk/internal/util/Preconditions" "SIOOBE_FORMATTER" "Ljava/util/function/BiFunction;" (fun q : Nat => s.heap.size ≤ q) s s.heap := va_Zqof (hts _ (List.mem_of_getElem? (i := 646) (by decide +kernel))) (hts _ (List.mem_of_getElem? (i := 167) (by decide +kernel))) (hfl _ (List.mem_of_getElem? (i := 5) (by decide +kernel))) hA
  have hAux : Aux K s := by
    rw [hKe]
    refine ⟨⟨va_Nw.of rfl (hts (.methodLinkNest RX3 94 yQuot RX8) (List.mem_of_getElem? (i := 1020) (by decide +kernel))), va_Nw.of rfl (hts (.methodLinkNest RX0 84 yQuot RX8) (List.mem_of_getElem? (i := 1181) (by decide +kernel))), va_Nw.of rfl (hts (.methodLinkNest RX1 49 yQuot RX8) (List.mem_of_getElem? (i := 1310) (by decide +kernel)))⟩, hz, ?_, hstr⟩
    rcases hz2 with z | ⟨t, z⟩
    · exact ⟨0, Or.inr z⟩
    · exact ⟨t, Or.inl z⟩
  have hbase : K.2.1 0 = s.heap.size := by rw [hKe]; rfl
  have hAq : ∀ q, K.2.2.1 q → s.heap.size ≤ q := by rw [hKe]; exact fun q hq => hq
  have hbA : ¬ K.2.2.1 b := fun hq => by have := hAq b hq; omega
  have hlK : l = K.1 := by rw [hKe]
  have hz4 : vx_Zq Bundle.tN "UNASSIGNED_STACK" Bundle.steD (fun q : Nat => s.heap.size ≤ q) s s.heap := vx_Zqof (hts _ (List.mem_of_getElem? (i := 1425) (by decide +kernel))) (hts _ (List.mem_of_getElem? (i := 170) (by decide +kernel))) (hfl _ (List.mem_of_getElem? (i := 9) (by decide +kernel))) hA
  have hz5 : vx_Zq Bundle.tN "SUPPRESSED_SENTINEL" Bundle.listD (fun q : Nat => s.heap.size ≤ q) s s.heap := vx_Zqof (hts _ (List.mem_of_getElem? (i := 1427) (by decide +kernel))) (hts _ (List.mem_of_getElem? (i := 170) (by decide +kernel))) (hfl _ (List.mem_of_getElem? (i := 10) (by decide +kernel))) hA
  have hAuxX : AuxX K s := by
    rw [hKe]
    exact ⟨hz4, hz5, va_Nw.of rfl (hts (.castable nsE nsE) (List.mem_of_getElem? (i := 1400) (by decide +kernel))), fun w hw => va_Nw.of (by
      have h9 := List.all_eq_true.mp bad_dc w hw
      cases w <;> first | rfl | cases h9) (hts w (bad_lw w hw))⟩
  have htr : K.1.stackTraces = false := by rw [← hlK]; unfold Launch.stackTraces; rw [hflags]; decide +kernel
  have RR : Run K p l s m meth c b L xs := ⟨hx, hb, hml, hown, htb, hK, hAux, hlK, hr, hlocks, hAq, ⟨hAuxX, htr⟩, hX, hbl, hbA, by omega⟩
  clear hKe
  have CC : OkC K (GL p l e s m below meth c b 0 0) 800 601024 7293034 cL_law R_law := ⟨hx, hb, hml, hown, htb, hK, hXC, hlK, by decide, by decide, by decide, by decide, HK⟩
  have hnl : (GL p l e s m below meth c b 0 0).2.2.2.2.2.2.2.2.2.2.2.2.2 = 7 := rfl
  have hl := lv_entry ([.ref b]) (n := 7) (Nat.le_of_ble_eq_true rfl)
  rw [lg_entry_eq]
  generalize (lg_sl ([.ref b]) ++ List.replicate (7 - (lg_sl ([.ref b])).length) Slot.unset).toArray = ls at hl ⊢
  have main : AtC K (GL p l e s m below meth c b 0 0) 0 0 0 m0 h0 0 [(0, .ref b)] [] := by
    refine C_new CC dL_law_0 8 (r := (RX8, TX8, 19)) (ty := tyX8) (by decide) (by decide) rfl inX8 tokX8 (df8 (zr_h0 0) rfl) clRL_8 inst8 iniX8 1 19 rfl rfl (by decide) (by decide) 1 rfl 3 rfl ?_
    refine C_dup CC dL_law_3 rfl 4 rfl ?_
    refine C_call CC dL_law_4 (nX8_init HK) lkRL_15 (by decide) (by decide) rfl 181 6773 rfl rfl (by decide) (by decide) [.ref (K.2.1 0)] rfl (Nat.le_of_ble_eq_true rfl) 7 rfl ?_
    refine C_astore_n CC dL_law_7 (i := 1) rfl [(1, .ref (K.2.1 0)), (0, .ref b)] (lt_nl hnl (by decide)) rfl 8 rfl ?_
    refine C_new CC dL_law_8 9 (r := (RX9, TX9, 44)) (ty := tyX9) (by decide) (by decide) rfl inX9 tokX9 (df9 zr_hA (mz_mA _ (Nat.le_refl _))) clRL_16 inst9 iniX9 182 6817 rfl rfl (by decide) (by decide) 182 rfl 11 rfl ?_
    refine C_dup CC dL_law_11 rfl 12 rfl ?_
    refine C_call CC dL_law_12 (nX9_init HK (a := 181) (by decide) (mz_mA _ (Nat.le_refl _)) (mz_mA.up (by decide)) (zr_hA.up (by decide))) lkRL_18 (by decide) (by decide) rfl 201 18719 rfl rfl (by decide) (by decide) [.ref (K.2.1 181)] rfl (Nat.le_of_ble_eq_true rfl) 15 rfl ?_
    refine (show AtC K (GL p l e s m below meth c b 0 0) 201 18719 201 mB hB 15 [(1, .ref (K.2.1 0)), (0, .ref b)] [.ref (K.2.1 181)] from ?_)
    refine C_astore_n CC dL_law_15 (i := 2) rfl [(2, .ref (K.2.1 181)), (1, .ref (K.2.1 0)), (0, .ref b)] (lt_nl hnl (by decide)) rfl 16 rfl ?_
    refine C_iconst (v := 1) CC dL_law_16 (by decide) 17 rfl ?_
    have hz3 : zr hB 201 := zr_sI (zr_hA.up (by decide)) (by decide)
    refine C_newaJ (len := 1) CC dL_law_17 (by decide) (hz3 _ (Nat.le_refl _)).2.1 (by decide) (by decide) (by decide) aclong 202 18720 rfl rfl (by decide) (by decide) 202 rfl 19 rfl ?_
    refine C_astore_n CC dL_law_19 (i := 3) rfl [(3, .ref (K.2.1 201)), (2, .ref (K.2.1 181)), (1, .ref (K.2.1 0)), (0, .ref b)] (lt_nl hnl (by decide)) rfl 20 rfl ?_
    refine AtC_At HK mB_full ?_
    refine (show At K (GL p l e s m below meth c b 202 18720) 20 [(3, .ref (K.2.1 201)), (2, .ref (K.2.1 181)), (1, .ref (K.2.1 0)), (0, .ref b)] [] hB from ?_)
    have C : Ok K (GL p l e s m below meth c b 202 18720) 800 cL_law R_law := RR.ok (by decide) (by decide)
    refine A_iconst (v := 0) C dL_law_20 (by decide) 21 rfl ?_
    refine A_istore C dL_law_21 [(4, .int 0), (3, .ref (K.2.1 201)), (2, .ref (K.2.1 181)), (1, .ref (K.2.1 0)), (0, .ref b)] (lt_nl (n := 7) rfl (by decide)) rfl 23 rfl ?_
    refine A_sub [4, 3, 2, 1, 0] (lv' := [(0, .ref b), (1, .ref (K.2.1 0)), (2, .ref (K.2.1 181)), (3, .ref (K.2.1 201)), (4, .int 0)]) rfl ?_
    obtain ⟨hv, hf⟩ := pure_ok xs L hL
    exact law_run RR FU 0 hB 202 18720 (by decide) (by decide) hf
  exact main s.heap [] ls (by rw [hbase]) (fun k q h => by simp [wldC] at h) va_S.rf hl
-- ===== YOUR PART ENDS =====
set_option maxHeartbeats 4000000 in
theorem lw_walk (l : Launch) (hflags : l.flags = flags0) (b : Addr) (xs : List Int32) : MetFree l x (headSpec (Jvm.Cond.code x code maxLocals ret :: tables_1) room_1) (lw_P b xs) (fun _ _ _ _ _ => True) lw_Q := by
  refine MetFree.of_bodyS (code := code) (maxLocals := maxLocals) (ret := ret) (by decide) ?_ ?_
  · intro args s m h hn
    obtain ⟨meth, c, h1, h2, h3, h4, h5, h6, -, -⟩ := Cond.code_spec hn (atoms_spec (ws := Jvm.Cond.code x code maxLocals ret :: tables_1) h _ List.mem_cons_self)
    exact ⟨meth, c, h1, h2, h3, h4, h5, h6⟩
  · intro p e s m args below meth c s₁ B hml0 hP _
    obtain ⟨rfl, hx, hbd, hgv⟩ := hP
    obtain ⟨scr, harrAt, hlist, hof, hsmall⟩ := hx
    obtain ⟨hcb, hkn, -, -⟩ := State.arrayAt?_spec harrAt
    have hown : s.vm.findClass R_law = some m.cls := findClass_of_methodNamed B.named
    have hts0 : ∀ c ∈ (Jvm.Cond.code x code maxLocals ret :: tables_1), c.before #[Value.ref b] s = true := atoms_spec (ws := Jvm.Cond.code x code maxLocals ret :: tables_1) B.pre
    have hts : ∀ w ∈ lw_tbl, w.before #[Value.ref b] s = true := k2_hts_sels lw_privs (fun w hw => hts0 w (List.mem_cons_of_mem _ hw)) lw_privs_ok
    have hml : c.maxLocals = 7 := B.maxLocals_eq (hts0 _ List.mem_cons_self)
    have X₀ : Stand p l e room_1 s m #[Value.ref b] below meth c s₁ [] 0 0 := Stand.of_body B
    have hh0 : s₁.heap = s.heap := by rw [B.state]; rfl
    have hsz : scr.slots.size = xs.length := by rw [← Array.length_toList, hlist, List.length_map]
    have hval : ∀ j : Nat, j < xs.length → scr.slots[j]? = some (.int (xs.getD j 0)) := fun j hj => by
      rw [← Array.getElem?_toList, hlist]
      simp [hj]
    have hbl : b < s.heap.size := (Array.getElem?_eq_some_iff.mp hcb).1
    have hX : va_X b xs.length (fun j => xs.getD j 0) s s.heap := ⟨scr, hcb, hof, hkn, hsz, hval⟩
    have K : W p l e room_1 s m #[Value.ref b] below meth c s₁.heap [] 0 0 (lw_Z below #[Value.ref b] s) (entryFrame m ([Value.ref b] : List Value).toArray 7) := by
      rw [hh0]
      exact whole_start l hflags hbd ⟨B.exec, B.bytes, B.returns, hml, hown, hts, hX, hbl, B.notSynchronized, hgv⟩
    obtain ⟨t, a1, o, b1, b2, b3⟩ := K s₁ rfl X₀
    exact ⟨t, o, a1, b1, b2, b3⟩
theorem lw_pre_spec {args : Array Value} {s : State} (h : (Jvm.Cond.and given_1 narrow_1).before args s = true) (hr : rest_1_c.before args s = true) : ∃ (b : Addr) (xs : List Int32), lw_P b xs args s := by
  have hs := flat_of_before _ h
  have hq := flat_of_before _ hr
  have hc : (Cond.count 1).before args s = true := hs _ (by decide +kernel)
  have harr : (Cond.arrayOf (.arg 0) .int).before args s = true := hs _ (by decide +kernel)
  have hle : (Cond.le (.length (.arg 0)) (.int 3072)).before args s = true := hs _ (by decide +kernel)
  have hlen : (Cond.isInt (.length (.arg 0))).before args s = true := hq _ (by decide +kernel)
  have hall : (Cond.all (.arg 0) (.isInt (.elem (.arg 0) (.index 0)))).before args s = true := hq _ (by decide +kernel)
  obtain ⟨b, xs, hb, hx⟩ := State.ints_of_pre rfl harr hlen hall
  have hsm : xs.length < 2 ^ 31 := hx.choose_spec.2.2.2
  have hev : (Term.length (.arg 0)).eval args s none [] s = some (.int xs.length.toInt32) := hx.length_eval hb
  have hv := Cond.le_ints hev (show (Term.int 3072).eval args s none [] s = some (.int 3072) from rfl)
  have hd : xs.length.toInt32 ≤ 3072 := by
    simpa [Cond.before, Cond.holds, hv] using hle
  have hN : xs.length ≤ 3072 := (Int32.ofNat_le_ofNat hsm (by decide)).mp (show Int32.ofNat xs.length ≤ Int32.ofNat 3072 from hd)
  exact ⟨b, xs, Cond.one_arg hc (show args[0]? = some (.ref b) from hb), hx, hN, h⟩
theorem lw_comes (l : Launch) (hflags : l.flags = flags0) : Comes l x (Jvm.Cond.code x code maxLocals ret :: tables_1) room_1 (fun tb e args s => Calls_1 tb e args s ∧ rest_1 tb e args s ∧ Pre_1 tb e args s)
    (fun _ _ args s o t => lw_Q args s o t) := by
  intro p e ha hc hk s m args below hf hfit hheap happ hpre
  obtain ⟨b, xs, hP⟩ := lw_pre_spec hpre.2.2 hpre.2.1
  obtain ⟨k, o, h1, h2, h3, hQ⟩ := lw_walk l hflags b xs p e ha hc hk s m args below hf ((Spec.applies_iff_loose hf).mp happ).1 hP trivial
  exact ⟨k, o, h1, h2, h3, hQ⟩
theorem lw_frame {s t : State} {o : Outcome} {args : Array Value} (h : Framed s o t [] 601024 7293034) :
    Framed s o t (fieldLocs frame_1_writes args s ++ arrayLocs frame_1_arrays args s ++ staticLocs frame_1_statics s) 601024 7293034 := h
theorem lw_limb (L : Cond) (hL : ∀ (args : Array Value) (s t : State), L.after args s (.returned (some (.int 1))) t = true) :
    ArmFor flags0 classFile x code maxLocals ret World_1 tables_1 room_1 Calls_1 rest_1 Pre_1
      (fun tb e a s o t => postC L tb e a s o t ∧ Framed s o t (fieldLocs frame_1_writes a s ++ arrayLocs frame_1_arrays a s ++ staticLocs frame_1_statics s) 601024 7293034) := by
  intro l hflags _ _ p e ha hc hk s m args below hf hfit hheap happ hpre
  obtain ⟨k, o, h1, h2, h3, rfl, hF⟩ := lw_comes l hflags p e ha hc hk s m args below hf hfit hheap happ hpre
  exact ⟨k, _, h1, h2, h3, hL args s _, lw_frame hF⟩
theorem i_vc : Claimed_1_1 ∧ Claimed_1_2 := ⟨lw_limb limb_1_1 (fun args s t => by simp [limb_1_1, Cond.after, Cond.holds, Cond.value]), lw_limb limb_1_2 (fun args s t => Cond.after_iff.mpr (by
  first | (rw [show limb_1_2 = Cond.eq .result (.int 1) from rfl, Cond.eq_ints (x := 1) (y := 1) rfl rfl]; simp; done) | (simp [limb_1_2, Cond.value, Term.eval]; done)))⟩
