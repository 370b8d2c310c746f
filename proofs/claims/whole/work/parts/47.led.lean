def yX8_led : MethodName := ⟨RX8, "led", "(I)I"⟩
abbrev cX8_led : ByteArray := prog_1_method_70_code
set_option maxRecDepth 20000 in
theorem coX8_led : Cond.code yX8_led cX8_led 4 (some .int) ∈ TB := tb_t6 44 rfl rfl
def yL_led : MethodName := ⟨R_law, "led", "(LAsleepInside;I[J)I"⟩
abbrev cL_led : ByteArray := method_3_code
theorem dX8_led_0 : decode cX8_led 0 = .ok (.iconst 0, 1) := by decide +kernel
theorem dX8_led_1 : decode cX8_led 1 = .ok (.istore_n 2, 1) := by decide +kernel
theorem dX8_led_2 : decode cX8_led 2 = .ok (.iconst 0, 1) := by decide +kernel
theorem dX8_led_3 : decode cX8_led 3 = .ok (.istore_n 3, 1) := by decide +kernel
theorem dX8_led_4 : decode cX8_led 4 = .ok (.aload_n 0, 1) := by decide +kernel
theorem dX8_led_5 : decode cX8_led 5 = .ok (.getfield 98, 3) := by decide +kernel
theorem dX8_led_8 : decode cX8_led 8 = .ok (.ifCond .eq 45, 3) := by decide +kernel
theorem dX8_led_11 : decode cX8_led 11 = .ok (.iload_n 3, 1) := by decide +kernel
theorem dX8_led_12 : decode cX8_led 12 = .ok (.aload_n 0, 1) := by decide +kernel
theorem dX8_led_13 : decode cX8_led 13 = .ok (.getfield 68, 3) := by decide +kernel
theorem dX8_led_16 : decode cX8_led 16 = .ok (.getfield 116, 3) := by decide +kernel
theorem dX8_led_19 : decode cX8_led 19 = .ok (.getfield 120, 3) := by decide +kernel
theorem dX8_led_22 : decode cX8_led 22 = .ok (.if_icmp .ge 31, 3) := by decide +kernel
theorem dX8_led_25 : decode cX8_led 25 = .ok (.aload_n 0, 1) := by decide +kernel
theorem dX8_led_26 : decode cX8_led 26 = .ok (.getfield 23, 3) := by decide +kernel
theorem dX8_led_29 : decode cX8_led 29 = .ok (.getfield 163, 3) := by decide +kernel
theorem dX8_led_32 : decode cX8_led 32 = .ok (.iload_n 3, 1) := by decide +kernel
theorem dX8_led_33 : decode cX8_led 33 = .ok (.iaload, 1) := by decide +kernel
theorem dX8_led_34 : decode cX8_led 34 = .ok (.ifCond .le 13, 3) := by decide +kernel
theorem dX8_led_37 : decode cX8_led 37 = .ok (.iload_n 2, 1) := by decide +kernel
theorem dX8_led_38 : decode cX8_led 38 = .ok (.iload_n 1, 1) := by decide +kernel
theorem dX8_led_39 : decode cX8_led 39 = .ok (.if_icmp .ne 5, 3) := by decide +kernel
theorem dX8_led_42 : decode cX8_led 42 = .ok (.iload_n 3, 1) := by decide +kernel
theorem dX8_led_43 : decode cX8_led 43 = .ok (.ireturn, 1) := by decide +kernel
theorem dX8_led_44 : decode cX8_led 44 = .ok (.iinc 2 1, 3) := by decide +kernel
theorem dX8_led_47 : decode cX8_led 47 = .ok (.iinc 3 1, 3) := by decide +kernel
theorem dX8_led_50 : decode cX8_led 50 = .ok (.goto (-46), 3) := by decide +kernel
theorem dX8_led_53 : decode cX8_led 53 = .ok (.new 395, 3) := by decide +kernel
theorem dX8_led_56 : decode cX8_led 56 = .ok (.dup, 1) := by decide +kernel
theorem dX8_led_57 : decode cX8_led 57 = .ok (.invokespecial 397, 3) := by decide +kernel
theorem dX8_led_60 : decode cX8_led 60 = .ok (.athrow, 1) := by decide +kernel
theorem dL_led_0 : decode cL_led 0 = .ok (.aload_n 2, 1) := by decide +kernel
theorem dL_led_1 : decode cL_led 1 = .ok (.iconst 0, 1) := by decide +kernel
theorem dL_led_2 : decode cL_led 2 = .ok (.aload_n 0, 1) := by decide +kernel
theorem dL_led_3 : decode cL_led 3 = .ok (.iload_n 1, 1) := by decide +kernel
theorem dL_led_4 : decode cL_led 4 = .ok (.invokevirtual 7, 3) := by decide +kernel
theorem dL_led_7 : decode cL_led 7 = .ok (.i2l, 1) := by decide +kernel
theorem dL_led_8 : decode cL_led 8 = .ok (.lastore, 1) := by decide +kernel
theorem dL_led_9 : decode cL_led 9 = .ok (.goto 6, 3) := by decide +kernel
theorem dL_led_12 : decode cL_led 12 = .ok (.astore_n 3, 1) := by decide +kernel
theorem dL_led_13 : decode cL_led 13 = .ok (.iconst 1, 1) := by decide +kernel
theorem dL_led_14 : decode cL_led 14 = .ok (.ireturn, 1) := by decide +kernel
theorem dL_led_15 : decode cL_led 15 = .ok (.iconst 0, 1) := by decide +kernel
theorem dL_led_16 : decode cL_led 16 = .ok (.ireturn, 1) := by decide +kernel
set_option maxRecDepth 20000 in
theorem coL_led : Cond.codeWith yL_led cL_led 4 (some .int) [(0, 9, 12, 13)] ∈ TB := tb_t6 39 rfl rfl
theorem clL_13 : Cond.classLink R_law 13 nsE ∈ TB := tb_1 1393 (by decide +kernel) (by decide +kernel)
def PreX (K : KX) (h : HH) (U : State) : Prop := Pre K h U ∧ AuxX K U
theorem PreX.blind (K : KX) (h : HH) (as : List Value) : FrameBlind (va_Pc as (PreX K h)) := fun _ U _ _ q => ⟨q.1, ⟨q.2.1.1, va_K.moved (Vm.Alike.refl U.vm) q.2.1.2.1, q.2.1.2.2.1, q.2.1.2.2.2.same rfl rfl⟩, q.2.2.same rfl rfl⟩
def QX (K : KX) (ro : Option Int32) (hv : HH) : Array Value → State → Outcome → State → Prop := fun a st o t => ∃ v, ro = some v ∧ Post K (some (.int v)) hv a st o t
def XX (K : KX) (ro : Option Int32) (hv : HH) : String → State → State → Prop := fun E st t => ro = none ∧ E = nsE ∧ va_P K.2.2.2.1 cls (wld K.2.1 K.2.2.2.2.1 hv) t.heap ∧ va_F K.2.2.1 st t
def EndX (K : KX) (G : GX) (ro : Option Int32) (hv : HH) : Prop := match G with
  | (p, l, e, R, s, m, args, below, meth, c, Q, cells, slots, nL) => Q = vx_MQ below (QX K ro hv) (XX K ro hv) args s 1 6 K.2.2.1 ∧ meth.sig.returnType = some .int ∧ meth.locks = false ∧ cells = 0 ∧ slots = 0 ∧ AuxX K s ∧ K.1.stackTraces = false ∧ (∀ x ∈ c.exceptionTable.toList, False) ∧ 1 ≤ R.cells ∧ 6 ≤ R.slots ∧ 10 ≤ R.frames ∧ 1000 ≤ R.locals
theorem A_ledret {K : KX} {G : GX} {rk : Nat} {cc : ByteArray} {own : String} {pc : Nat} {lv : List (Nat × Value)} {h : HH} (C : Ok K G rk cc own) {x : Int32} {ro : Option Int32} {hv : HH} (E : EndX K G ro hv) (d : decode cc pc = .ok (.ireturn, 1)) (hf : some (some x, h) = some (ro, hv)) : At K G pc lv [.int x] h := by
  obtain ⟨p, l, e, R, s, m, args, below, meth, c, Q, cells, slots, nL⟩ := G
  obtain ⟨hx, hb, hml, hown, hts, hK, hX, hlq, hr1, hr2, hc1, hc2⟩ := id C
  obtain ⟨rfl, hrt, hlk, rfl, rfl, -⟩ := E
  cases hf
  intro H locs ls hP hD hS hl
  refine vx_ret (W.widen (k := 1) (n := 6) (by decide) (by decide) ?_)
  exact W.iret hx hb hrt (fun t ht _ => ⟨x, rfl, rfl, by rw [ht]; exact hP, hS.F ht⟩) hS.2.2 d hlk
theorem A_ledthrow {K : KX} {G : GX} {rk : Nat} {pc : Nat} {lv : List (Nat × Value)} {h : HH} (C : Ok K G rk cX8_led RX8) {ro : Option Int32} {hv : HH} (E : EndX K G ro hv) (d0 : decode cX8_led pc = .ok (.new 395, 3)) (d3 : decode cX8_led (pc + 3) = .ok (.dup, 1)) (d4 : decode cX8_led (pc + 4) = .ok (.invokespecial 397, 3)) (d7 : decode cX8_led (pc + 7) = .ok (.athrow, 1)) (hf : some ((none : Option Int32), h) = some (ro, hv)) : At K G pc lv [] h := by
  obtain ⟨p, l, e, R, s, m, args, below, meth, c, Q, cells, slots, nL⟩ := G
  obtain ⟨hx, hb, hml, hown, hts, hK, hX, hlq, hr1, hr2, hc1, hc2⟩ := id C
  obtain ⟨rfl, hrt, hlk, rfl, rfl, hXX, htr, hnt, g1, g2, g3, g4⟩ := E
  cases hf
  subst hlq
  intro H locs ls hP hD hS hl
  obtain ⟨z1, z2, -, b1⟩ := hXX
  refine vx_throw0 (cls := nsE) (names := ["java/lang/RuntimeException", "java/lang/Exception"]) (ik := 395) (ic := 397) (A := K.2.2.1) hx hb htr hown (by decide +kernel) (by decide +kernel) (hts _ clX_nse) (hts _ iniNse) ?_ at_ot z1 z2 hS (hl.1.trans hml.symm) d0 d3 d4 d7 (fun x hx9 => (hnt x hx9).elim) (by show 2 + 3 < _; omega) (by show 0 + (13 * (2 + 1) + 42) ≤ _; omega) g1 g2 hlk ?_ hS.2.2 (Nat.le_refl _) (Nat.le_refl _)
  · exact vx_hat (B := badX) (fun w hw => hts w (tb_in (good_lw w hw) (List.mem_filter.mp hw).2)) (fun w hw => hw) (fun w hw => va_Nw.use (by
      have h9 := List.all_eq_true.mp bad_dc w hw
      cases w <;> first | rfl | cases h9) (b1 w hw))
  · intro t _ q1 q2
    exact ⟨rfl, rfl, hP.kept (fun k x hx9 => q2 x.1 ((hP k x hx9).lt)), Nat.le_trans hS.1 q1, fun q h1 h2 => (q2 q (Nat.lt_of_lt_of_le h1 hS.1)).trans (hS.2.1 q h1 h2)⟩
theorem wX8_led_L4 {K : KX} {G : GX} (C : Ok K G 10 cX8_led RX8) (hnl : G.2.2.2.2.2.2.2.2.2.2.2.2.2 = 4) {ro : Option Int32} {hv : HH} (E : EndX K G ro hv) {x0 : Nat} {x1 : Int32} (kx0 : isK 8 x0) : ∀ (self4 : Int32 → Int32 → HH → Option (Option Int32 × HH)), (∀ (x2 : Int32) (x3 : Int32) (h : HH), self4 x2 x3 h = some (ro, hv) → At K G 4 [(0, .ref (K.2.1 x0)), (1, .int x1), (2, .int x2), (3, .int x3)] [] h) → ∀ (x2 : Int32) (x3 : Int32) (h : HH), fX8_led_L4 x0 x1 self4 x2 x3 h = some (ro, hv) → At K G 4 [(0, .ref (K.2.1 x0)), (1, .int x1), (2, .int x2), (3, .int x3)] [] h := by
  intro self4 Hself4 x2 x3 h hf
  unfold fX8_led_L4 at hf
  refine A_aload_n C dX8_led_4 (i := 0) rfl 0 rfl 5 rfl ?_
  refine gfRX8_98 C kx0 dX8_led_5 8 rfl ?_
  refine A_if_eq C dX8_led_8 53 (by decide) 11 rfl hf (fun c8 hf => ?_) (fun c8 hf => ?_)
  · exact A_ledthrow C E dX8_led_53 dX8_led_56 dX8_led_57 dX8_led_60 hf
  refine A_iload_n C dX8_led_11 (i := 3) rfl 3 rfl 12 rfl ?_
  refine A_aload_n C dX8_led_12 (i := 0) rfl 0 rfl 13 rfl ?_
  refine gfRX8_68 C kx0 dX8_led_13 hf 16 rfl (fun kp1 hf => ?_)
  refine gfRX8_116 C kp1 dX8_led_16 19 rfl ?_
  refine gfRX8_120 C (of_0_3 kp1) dX8_led_19 22 rfl ?_
  refine A_icmp_ge C dX8_led_22 53 (by decide) 25 rfl hf (fun c22 hf => ?_) (fun c22 hf => ?_)
  · exact A_ledthrow C E dX8_led_53 dX8_led_56 dX8_led_57 dX8_led_60 hf
  refine A_aload_n C dX8_led_25 (i := 0) rfl 0 rfl 26 rfl ?_
  refine gfRX8_23 C kx0 dX8_led_26 29 rfl ?_
  refine gfRX8_163 C (of_8_2 kx0) dX8_led_29 32 rfl ?_
  refine A_iload_n C dX8_led_32 (i := 3) rfl 3 rfl 33 rfl ?_
  refine A_iald C dX8_led_33 (of_2_0 (of_8_2 kx0)) hf 34 rfl (fun hf => ?_)
  refine A_if_le C dX8_led_34 47 (by decide) 37 rfl hf (fun c34 hf => ?_) (fun c34 hf => ?_)
  · refine A_iinc (v := (x3 + 1)) C dX8_led_47 3 rfl rfl [(3, .int (x3 + 1)), (0, .ref (K.2.1 x0)), (1, .int x1), (2, .int x2)] (lt_nl hnl (by decide)) rfl 50 rfl ?_
    refine A_goto C dX8_led_50 4 (by decide) ?_
    refine A_sub [1, 2, 3, 0] (lv' := [(0, .ref (K.2.1 x0)), (1, .int x1), (2, .int x2), (3, .int (x3 + 1))]) rfl ?_
    exact Hself4 _ _ _ hf
  refine A_iload_n C dX8_led_37 (i := 2) rfl 2 rfl 38 rfl ?_
  refine A_iload_n C dX8_led_38 (i := 1) rfl 1 rfl 39 rfl ?_
  refine A_icmp_ne C dX8_led_39 44 (by decide) 42 rfl hf (fun c39 hf => ?_) (fun c39 hf => ?_)
  · refine A_iinc (v := (x2 + 1)) C dX8_led_44 2 rfl rfl [(2, .int (x2 + 1)), (0, .ref (K.2.1 x0)), (1, .int x1), (3, .int x3)] (lt_nl hnl (by decide)) rfl 47 rfl ?_
    refine A_iinc (v := (x3 + 1)) C dX8_led_47 3 rfl rfl [(3, .int (x3 + 1)), (2, .int (x2 + 1)), (0, .ref (K.2.1 x0)), (1, .int x1)] (lt_nl hnl (by decide)) rfl 50 rfl ?_
    refine A_goto C dX8_led_50 4 (by decide) ?_
    refine A_sub [2, 3, 1, 0] (lv' := [(0, .ref (K.2.1 x0)), (1, .int x1), (2, .int (x2 + 1)), (3, .int (x3 + 1))]) rfl ?_
    exact Hself4 _ _ _ hf
  refine A_iload_n C dX8_led_42 (i := 3) rfl 3 rfl 43 rfl ?_
  exact A_ledret C E dX8_led_43 hf
def rmL : Room := { frames := 10, cells := 1, slots := 6, locals := 1000 }
theorem mX8_led {K : KX} (htr : K.1.stackTraces = false) {x0 : Nat} (k0 : isK 8 x0) {x1 : Int32} {h hv : HH} {ro : Option Int32} (hf : fX8_led x0 x1 h = some (ro, hv)) : vx_Met K.1 yX8_led (wsY yX8_led cX8_led 4 (some .int)) rmL (va_Pc [.ref (K.2.1 x0), .int x1] (PreX K h)) (QX K ro hv) (XX K ro hv) 1 6 K.2.2.1 := by
  refine vx_ofW (cc := cX8_led) (maxL := 4) (ret := some .int) (by decide) rfl ?_
  intro p e s m args below meth c s₁ B hml hnt hv9
  obtain ⟨rfl, ⟨hP, hK, hD, hX⟩, hXX⟩ := hv9
  have hts := atoms_spec (ws := wsY yX8_led cX8_led 4 (some .int)) B.pre
  have hl := lv_entry [.ref (K.2.1 x0), .int x1] (n := 4) (Nat.le_of_ble_eq_true rfl)
  rw [lg_entry_eq]
  generalize (lg_sl [.ref (K.2.1 x0), .int x1] ++ List.replicate (4 - (lg_sl [.ref (K.2.1 x0), .int x1]).length) Slot.unset).toArray = ls at hl ⊢
  obtain ⟨G, hG⟩ : ∃ G : GX, G = (p, K.1, e, (headSpec (wsY yX8_led cX8_led 4 (some .int)) rmL).room, s, m, [Value.ref (K.2.1 x0), .int x1].toArray, below, meth, c, vx_MQ below (QX K ro hv) (XX K ro hv) [Value.ref (K.2.1 x0), .int x1].toArray s 1 6 K.2.2.1, 0, 0, 4) := ⟨_, rfl⟩
  have C : Ok K G 10 cX8_led RX8 := by
    rw [hG]
    exact ⟨B.exec, B.bytes, hml, findClass_of_methodNamed B.named, fun w hw => hts w (List.mem_cons_of_mem _ hw), hK, hX, rfl, Nat.le_refl _, Nat.le_refl _, by decide, by decide⟩
  have E : EndX K G ro hv := by
    rw [hG]
    exact ⟨rfl, B.returns, B.notSynchronized, rfl, rfl, hXX, htr, hnt, by decide, by decide, by decide, by decide⟩
  have hnl : G.2.2.2.2.2.2.2.2.2.2.2.2.2 = 4 := by rw [hG]
  have main : At K G 0 [(0, .ref (K.2.1 x0)), (1, .int x1)] [] h := by
    clear hG
    refine A_iconst (v := 0) C dX8_led_0 (by decide) 1 rfl ?_
    refine A_istore_n C dX8_led_1 (i := 2) rfl [(2, .int 0), (0, .ref (K.2.1 x0)), (1, .int x1)] (lt_nl hnl (by decide)) rfl 2 rfl ?_
    refine A_iconst (v := 0) C dX8_led_2 (by decide) 3 rfl ?_
    refine A_istore_n C dX8_led_3 (i := 3) rfl [(3, .int 0), (2, .int 0), (0, .ref (K.2.1 x0)), (1, .int x1)] (lt_nl hnl (by decide)) rfl 4 rfl ?_
    refine A_sub [2, 3, 1, 0] (lv' := [(0, .ref (K.2.1 x0)), (1, .int x1), (2, .int 0), (3, .int 0)]) rfl ?_
    exact lq2_at (wX8_led_L4 C hnl E k0) FU _ _ _ hf
  rw [hG] at main
  exact main s.heap [] ls hP hD va_S.rf hl
theorem lkL_7 : LkV R_law 7 yX8_led cX8_led 4 (some .int) 1 := ⟨tb_1 1394 (by decide +kernel) (by decide +kernel), tb_1 1395 (by decide +kernel) (by decide +kernel), tb_1 1396 (by decide +kernel) (by decide +kernel), iniX8, coX8_led, ⟨by decide +kernel, by decide +kernel, by decide +kernel⟩⟩
theorem lkL_229 : Cond.methodLink R_law 229 yL_led ∈ TB := tb_1 1390 (by decide +kernel) (by decide +kernel)
theorem stL_led : Cond.static yL_led ∈ TB := tb_1 1391 (by decide +kernel) (by decide +kernel)
theorem iniLaw : Cond.initialized R_law ∈ TB := tb_1 153 (by decide +kernel) (by decide +kernel)
theorem Met.ofWH {l : Launch} {y : MethodName} {ws ws' : List Cond} {rm : Room} {Pc : Array Value → State → Prop} {Qc : Array Value → State → Outcome → State → Prop} {mc ms : Nat} {free : Addr → Prop} {cc : ByteArray} {maxL : Nat} {ret : Option FieldType} {hh : List (Nat × Nat × Nat × Nat)}
    (hy : plainName y.cls = true) (hw : ws = Cond.codeWith y cc maxL ret hh :: ws')
    (body : ∀ p e s m args below meth c s₁, BodyLoose p l y (headSpec ws rm) cc maxL ret e s m args below meth c s₁ → c.maxLocals = maxL → Pc args s →
      W p l e (headSpec ws rm).room s m args below meth c s.heap [] 0 0 (MQ below Qc args s mc ms free) (entryFrame m args maxL)) : Met l y ws rm Pc Qc mc ms free := by
  refine MetFree.of_bodyS (code := cc) (maxLocals := maxL) (ret := ret) hy ?_ ?_
  · intro args s m h hn
    obtain ⟨m9, meth, c, hn9, h1, h2, h3, h4, -, h5, h6, -⟩ := Cond.codeWith_spec (atoms_spec (ws := ws) h _ (by rw [hw]; exact List.mem_cons_self))
    cases hn.symm.trans hn9
    exact ⟨meth, c, h1, h2, h3, h4, h5, h6⟩
  · intro p e s m args below meth c s₁ B hml hP _
    have hh0 : s₁.heap = s.heap := by rw [B.state]; rfl
    obtain ⟨t, a1, o, b1, b2, b3⟩ := body p e s m args below meth c s₁ B hml hP s₁ hh0 (Stand.of_body B)
    exact ⟨t, o, a1, b1, b2, ⟨b3.1, b3.2⟩⟩
def wsLed : List Cond := .codeWith yL_led cL_led 4 (some .int) [(0, 9, 12, 13)] :: TB
theorem A_callX {K : KX} {G : GX} {rk : Nat} {lv : List (Nat × Value)} {h : HH} (C : Ok K G rk cL_led R_law) (hrk : 11 ≤ rk) (hXX : AuxX K G.2.2.2.2.1) (htab : G.2.2.2.2.2.2.2.2.2.1.exceptionTable.toList = tableOf [(0, 9, 12, 13)]) (hcs : (bump G).2.2.2.2.2.2.2.2.2.2.2.1 ≤ G.2.2.2.1.cells ∧ (bump G).2.2.2.2.2.2.2.2.2.2.2.2.1 ≤ G.2.2.2.1.slots) (htr : K.1.stackTraces = false) {x0 : Nat} (k0 : isK 8 x0) {x1 : Int32} {hv : HH} {ro : Option Int32} (hf : fX8_led x0 x1 h = some (ro, hv)) (rest : List Value) (hW : (rest.map fun v => v.category).sum ≤ 8)
    (n1 : ∀ v, ro = some v → At K (bump G) 7 lv (.int v :: rest) hv) (n2 : ro = none → ∀ q : Nat, At K (bump G) 12 lv [.ref q] hv) : At K G 4 lv (.int x1 :: .ref (K.2.1 x0) :: rest) h := by
  obtain ⟨p, l, e, R, s, m, args, below, meth, c, Q, cells, slots, nL⟩ := G
  obtain ⟨hx, hb, hml, hown, hts, hK, hX, hlq, hr1, hr2, hc1, hc2⟩ := id C
  obtain ⟨k1, k2, k3, k4, k5, k6⟩ := lkL_7
  subst hlq
  intro H locs ls hP hD hS hl
  have hr : vx_Run p K.1 e R s m args below meth c H locs cells slots 1 6 (F0 m 4 ls (.int x1 :: .ref (K.2.1 x0) :: rest)) rest (QX K ro hv (Value.ref (K.2.1 x0) :: [.int x1]).toArray) (XX K ro hv) K.2.2.1 :=
    vx_runV (As := [.int x1]) (rest := rest) (C := RX8) ⟨hx, hb, hml, hown, hts⟩ (mX8_led htr k0 hf) ⟨callB_of 1 hts (good_wsY k5) rfl rfl rfl (hts _ k4) (hts _ k1) k6 ⟨by show 10 + 1 ≤ _; omega, by show _ + 1000 ≤ _; omega⟩, hts _ k2, hts _ k3⟩ ⟨PreX.blind K h _, va_recv hK hP (q := (RX8, TX8, 19)) (ci := 8) rfl (by rw [wld_get _ _ _ k0.1, cel_O k0 (by decide)]), fun U hU hW => ⟨rfl, ⟨by rw [hU]; exact hP, va_K.moved hW.alike hK, hD, hX.warm hU hW hS⟩, hXX.warm hU hW hS⟩⟩ rfl rfl hl.1 rfl (lv_room hW) dL_led_4 ⟨hcs.1, hcs.2⟩
  intro T hT X
  rcases hr T hT X with ⟨v, st₀, t, T', L, h0, X', hL, e1, e2, ⟨v9, hro, hv9, hp, hz, hk⟩, st⟩ | ⟨q, st₀, t, T', L, E, ce, h0, X', hL, e1, e2, ⟨hro, hE, hp, hz, hk⟩, hce, hcv, hcl, st⟩
  · cases hv9
    rw [h0] at hz hk
    obtain ⟨t2, a1, b1⟩ := n1 v9 hro T'.heap (locs ++ L) ls (by rw [e1]; exact hp) (va_D_wld _ hD)
      ⟨Nat.le_trans hS.1 (by rw [e1]; exact hz), fun q h1 h2 => by rw [e1, hk q (Nat.lt_of_lt_of_le h1 hS.1) h2]; exact hS.2.1 q h1 h2, fun q hq => by
        rcases List.mem_append.mp hq with h | h
        · exact hS.2.2 q h
        · exact hL q h⟩ hl T' rfl X'
    exact ⟨t2, st t2 a1, b1⟩
  · rw [h0] at hz hk
    subst hE
    have hS1 : va_S K.2.2.1 s.heap T'.heap (locs ++ L) := ⟨Nat.le_trans hS.1 (by rw [e1]; exact hz), fun q h1 h2 => by rw [e1, hk q (Nat.lt_of_lt_of_le h1 hS.1) h2]; exact hS.2.1 q h1 h2, fun q hq => by
        rcases List.mem_append.mp hq with h | h
        · exact hS.2.2 q h
        · exact hL q h⟩
    have W1 := n2 hro q T'.heap (locs ++ L) ls (by rw [e1]; exact hp) (va_D_wld _ hD) hS1 hl
    have W2 : vx_W p K.1 e R s m args below meth c T'.heap (locs ++ L) (cells + 1) (slots + 6) Q (F0 m 4 ls rest) q :=
      ld_catch (own := R_law) (name := nsE) (E := nsE) (ce := ce) hown ⟨0, 9, 12, 13⟩ [] htab (by decide) (by decide) (hts _ clL_13) (va_Nw.use rfl hXX.2.2.1) (by rw [e1]; exact hce) hcv hcl W1
    obtain ⟨t2, a1, b1⟩ := W2 T' rfl X'
    exact ⟨t2, st.trans a1, b1⟩
def rmLd : Room := { frames := 12, cells := 1, slots := 6, locals := 1200 }
theorem mL_led {K : KX} (htr : K.1.stackTraces = false) {x0 : Nat} (k0 : isK 8 x0) {x1 : Int32} {x2 : Nat} (k2 : isK 12 x2) {h hv : HH} {r : Int32} (hf : fL_led x0 x1 x2 h = some (r, hv)) : Met K.1 yL_led wsLed rmLd (va_Pc [.ref (K.2.1 x0), .int x1, .ref (K.2.1 x2)] (PreX K h)) (Post K (some (.int r)) hv) 1 6 K.2.2.1 := by
  refine Met.ofWH (cc := cL_led) (maxL := 4) (ret := some .int) (hh := [(0, 9, 12, 13)]) (by decide) rfl ?_
  intro p e s m args below meth c s₁ B hml hv9
  obtain ⟨rfl, ⟨hP, hK, hD, hX⟩, hXX⟩ := hv9
  have hts := atoms_spec (ws := wsLed) B.pre
  have htab : c.exceptionTable.toList = tableOf [(0, 9, 12, 13)] := vx_table (x := yL_led) (bytes := cL_led) (maxL' := 4) (ret' := some .int) B (hts _ List.mem_cons_self)
  have hl := lv_entry [.ref (K.2.1 x0), .int x1, .ref (K.2.1 x2)] (n := 4) (Nat.le_of_ble_eq_true rfl)
  rw [lg_entry_eq]
  generalize (lg_sl [.ref (K.2.1 x0), .int x1, .ref (K.2.1 x2)] ++ List.replicate (4 - (lg_sl [.ref (K.2.1 x0), .int x1, .ref (K.2.1 x2)]).length) Slot.unset).toArray = ls at hl ⊢
  obtain ⟨G, hG⟩ : ∃ G : GX, G = (p, K.1, e, (headSpec wsLed rmLd).room, s, m, [Value.ref (K.2.1 x0), .int x1, .ref (K.2.1 x2)].toArray, below, meth, c, MQ below (Post K (some (.int r)) hv) [Value.ref (K.2.1 x0), .int x1, .ref (K.2.1 x2)].toArray s 1 6 K.2.2.1, 0, 0, 4) := ⟨_, rfl⟩
  have C : Ok K G 12 cL_led R_law := by
    rw [hG]
    exact ⟨B.exec, B.bytes, hml, findClass_of_methodNamed B.named, fun w hw => hts w (List.mem_cons_of_mem _ hw), hK, hX, rfl, Nat.le_refl _, Nat.le_refl _, by decide, by decide⟩
  have C2 : Ok K (bump G) 12 cL_led R_law := by
    rw [hG]
    exact ⟨B.exec, B.bytes, hml, findClass_of_methodNamed B.named, fun w hw => hts w (List.mem_cons_of_mem _ hw), hK, hX, rfl, Nat.le_refl _, Nat.le_refl _, by decide, by decide⟩
  have E2 : Endd K (bump G) (some .int) (some (.int r)) hv := by
    rw [hG]
    exact ⟨rfl, B.returns, B.notSynchronized⟩
  have hXG : AuxX K G.2.2.2.2.1 := by rw [hG]; exact hXX
  have htG : G.2.2.2.2.2.2.2.2.2.1.exceptionTable.toList = tableOf [(0, 9, 12, 13)] := by rw [hG]; exact htab
  have hcs : (bump G).2.2.2.2.2.2.2.2.2.2.2.1 ≤ G.2.2.2.1.cells ∧ (bump G).2.2.2.2.2.2.2.2.2.2.2.2.1 ≤ G.2.2.2.1.slots := by rw [hG]; exact ⟨Nat.le_refl 1, Nat.le_refl 6⟩
  have hnl : (bump G).2.2.2.2.2.2.2.2.2.2.2.2.2 = 4 := by rw [hG]; rfl
  have main : At K G 0 [(0, .ref (K.2.1 x0)), (1, .int x1), (2, .ref (K.2.1 x2))] [] h := by
    clear hG
    refine A_aload_n C dL_led_0 (i := 2) rfl 2 rfl 1 rfl ?_
    refine A_iconst (v := 0) C dL_led_1 (by decide) 2 rfl ?_
    refine A_aload_n C dL_led_2 (i := 0) rfl 0 rfl 3 rfl ?_
    refine A_iload_n C dL_led_3 (i := 1) rfl 1 rfl 4 rfl ?_
    unfold fL_led at hf
    obtain ⟨ro, h1, e1, e2⟩ := bd_t hf
    refine A_callX C (by decide) hXG htG hcs htr k0 e1 [.int 0, .ref (K.2.1 x2)] (Nat.le_of_ble_eq_true rfl) ?_ ?_
    · intro v hv9
      subst hv9
      refine A_i2l C2 dL_led_7 8 rfl ?_
      refine A_last C2 dL_led_8 (isA_of k2) e2 9 rfl (fun e2 => ?_)
      refine A_goto C2 dL_led_9 15 (by decide) ?_
      refine A_iconst (v := 0) C2 dL_led_15 (by decide) 16 rfl ?_
      exact A_iret C2 dL_led_16 E2 e2
    · intro hv9 q
      subst hv9
      refine A_astore_n C2 dL_led_12 (i := 3) rfl [(3, .ref q), (0, .ref (K.2.1 x0)), (1, .int x1), (2, .ref (K.2.1 x2))] (lt_nl hnl (by decide)) rfl 13 rfl ?_
      refine A_iconst (v := 1) C2 dL_led_13 (by decide) 14 rfl ?_
      exact A_iret C2 dL_led_14 E2 e2
  rw [hG] at main
  exact main s.heap [] ls hP hD va_S.rf hl
theorem good_wsLed : GoodIn TB wsLed := fun w hw => by
  rcases List.mem_cons.mp hw with e | e
  · rw [e]; exact tb_good _ coL_led
  · exact tb_good w e
theorem good_wsS : GoodIn TB (va_wsS R_law 229 yL_led wsLed) := fun w hw => by
  unfold va_wsS at hw
  rcases List.mem_append.mp hw with e | e
  · simp only [List.mem_cons, List.not_mem_nil, or_false] at e
    rcases e with e | e | e
    · rw [e]; exact tb_good _ lkL_229
    · rw [e]; first | exact tb_good _ iniLaw | exact tb_good _ stL_led
    · rw [e]; first | exact tb_good _ stL_led | exact tb_good _ iniLaw
  · exact good_wsLed w e
theorem A_led {K : KX} {G : GX} {b : Nat} {pc : Nat} {lv : List (Nat × Value)} {h : HH} (C : Ok K G 800 cL_law R_law) (C2 : Ok K (bump G) 800 cL_law R_law) (E : EndL K G b) (d : decode cL_law pc = .ok (.invokestatic 229, 3)) {x1 x3 : Nat} (k1 : isK 8 x1) (k3 : isK 12 x3) {x : Int32} {β : Type} {res : β} {F : Int32 → HH → Option β} (hf : bd (fL_led x1 x x3 h) F = some res) (q : Nat) (hq : pc + 3 = q) (nx : ∀ r h1, F r h1 = some res → At K (bump G) q lv [.int r] h1) : At K G pc lv [.ref (K.2.1 x3), .int x, .ref (K.2.1 x1)] h := by
  subst hq
  obtain ⟨r, h1, e1, e2⟩ := bd_t hf
  obtain ⟨p, l, e, R, s, m, args, below, meth, c, Q, cells, slots, nL⟩ := G
  obtain ⟨hx, hb, hml, hown, hts, hK, hX, hlq, hr1, hr2, hc1, hc2⟩ := id C
  obtain ⟨-, -, -, -, -, -, -, -, -, -, hd1, hd2⟩ := id C2
  obtain ⟨-, -, -, -, -, -, -, -, hXX, htr⟩ := id E
  subst hlq
  have N := nx r h1 e2
  intro H locs ls hP hD hS hl
  have hr : va_Run p K.1 e R s m args below meth c H locs cells slots 1 6 (F0 m pc ls [.ref (K.2.1 x3), .int x, .ref (K.2.1 x1)]) [] (Post K (some (.int r)) h1 [Value.ref (K.2.1 x1), .int x, .ref (K.2.1 x3)].toArray) K.2.2.1 :=
    vx_runSW (hh := [(0, 9, 12, 13)]) (As := [Value.ref (K.2.1 x1), .int x, .ref (K.2.1 x3)]) (rest := []) ⟨hx, hb, hml, hown, hts⟩ (mL_led htr k1 k3 e1) (vx_cwSW (bytes := cL_led) (maxL := 4) (ret := some .int) (hh := [(0, 9, 12, 13)]) (Ts := TB) (ws' := TB) 3 hts good_wsS rfl rfl rfl ⟨by decide +kernel, by decide +kernel, by decide +kernel⟩ ⟨by show 12 + 1 ≤ _; omega, by show 8 + (4 + 11) + 1200 ≤ _; omega⟩) ⟨PreX.blind K h _, fun U hU hW => ⟨rfl, ⟨by rw [hU]; exact hP, va_K.moved hW.alike hK, hD, hX.warm hU hW hS⟩, hXX.warm hU hW hS⟩⟩ rfl rfl hl.1 rfl (lv_room (Nat.zero_le _)) d ⟨hd1, hd2⟩
  intro T hT X
  obtain ⟨v', st₀, t, T', L, h0, X', hL, e3, e4, ⟨hv, hp, hz, hk⟩, st⟩ := hr T hT X
  cases hv
  rw [h0] at hz hk
  obtain ⟨t2, a1, b1⟩ := N T'.heap (locs ++ L) ls (by rw [e3]; exact hp) (va_D_wld _ hD)
    ⟨Nat.le_trans hS.1 (by rw [e3]; exact hz), fun q h1 h2 => by rw [e3, hk q (Nat.lt_of_lt_of_le h1 hS.1) h2]; exact hS.2.1 q h1 h2, fun q hq => by
      rcases List.mem_append.mp hq with h | h
      · exact hS.2.2 q h
      · exact hL q h⟩ hl T' rfl X'
  exact ⟨t2, st t2 a1, b1⟩
