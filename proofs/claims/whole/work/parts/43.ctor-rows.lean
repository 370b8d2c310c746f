/-! CONSTRUCTION. The first n addresses of the picture stand; mk a: up to which field an object's final references are set. -/
abbrev MK : Type := Nat → Nat
def mset (mk : MK) (a v : Nat) : MK := fun b => if b = a then v else mk b
def fldc (ad : Nat → Nat) (mk : MK) (h : HH) (c a : Nat) : List Value := match c with
  | 0 => [(if 0 < mk a then .ref (ad (a + 1)) else .null), (if 1 < mk a then .ref (ad (a + 2)) else .null), (if 2 < mk a then .ref (ad (a + 3)) else .null), (if 3 < mk a then .ref (ad (a + 4)) else .null), (if 4 < mk a then .ref (ad (a + 6)) else .null), (if 5 < mk a then .ref (ad (a + 8)) else .null), (if 6 < mk a then .ref (ad (a + 10)) else .null), (if 7 < mk a then .ref (ad (a + 12)) else .null), (if 8 < mk a then .ref (ad (a + 14)) else .null), .int (gI h a 9), .int (gI h a 10), .int (gI h a 11), .int (gI h a 12), .int (gI h a 13)]
  | 1 => [.int (gI h a 0), .int (gI h a 1), (if 2 < mk a then .ref (ad (a + 1)) else .null), (if 3 < mk a then .ref (ad (a + 2)) else .null)]
  | 2 => [(if 0 < mk a then .ref (ad (a + 1)) else .null), (if 1 < mk a then .ref (ad (a + 2)) else .null), (if 2 < mk a then .ref (ad (a + 3)) else .null), (if 3 < mk a then .ref (ad (a + 4)) else .null), (if 4 < mk a then .ref (ad (a + 5)) else .null), (if 5 < mk a then .ref (ad (a + 6)) else .null), .long (gL h a 6)]
  | 3 => [(if 0 < mk a then .ref (ad (a + 1)) else .null), .long (gL h a 1), .int (gI h a 2), .int (gI h a 3), .int (gI h a 4)]
  | 4 => [(if 0 < mk a then .ref (ad (a + 1)) else .null), (if 1 < mk a then .ref (ad (a + 2)) else .null), .int (gI h a 2), .int (gI h a 3), .long (gL h a 4), .long (gL h a 5), .long (gL h a 6), .long (gL h a 7)]
  | 5 => [(if 0 < mk a then .ref (ad (a + 1)) else .null), (if 1 < mk a then .ref (ad (a + 2)) else .null), (if 2 < mk a then .ref (ad (a + 3)) else .null), .int (gI h a 3), rfv ad (gR h a 4), .int (gI h a 5), rfv ad (gR h a 6), .int (gI h a 7), .int (gI h a 8), .int (gI h a 9), .int (gI h a 10), .int (gI h a 11), .long (gL h a 12)]
  | 6 => [(if 0 < mk a then .ref (ad (a + 1)) else .null), (if 1 < mk a then .ref (ad (a + 2)) else .null), (if 2 < mk a then .ref (ad (a + 3)) else .null), (if 3 < mk a then .ref (ad (a + 4)) else .null), (if 4 < mk a then .ref (ad (a + 5)) else .null), (if 5 < mk a then .ref (ad (a + 6)) else .null), (if 6 < mk a then .ref (ad (a + 7)) else .null), .int (gI h a 7), .int (gI h a 8), .int (gI h a 9)]
  | 7 => [.int (gI h a 0), .int (gI h a 1), (if 2 < mk a then .ref (ad (a + 1)) else .null), .int (gI h a 3)]
  | 8 => [(if 0 < mk a then .ref (ad (a + 1)) else .null), (if 1 < mk a then .ref (ad (a + 2)) else .null), (if 2 < mk a then .ref (ad (a + 6)) else .null), (if 3 < mk a then .ref (ad (a + 13)) else .null), (if 4 < mk a then .ref (ad (a + 20)) else .null), (if 5 < mk a then .ref (ad (a + 28)) else .null), (if 6 < mk a then .ref (ad (a + 31)) else .null), (if 7 < mk a then .ref (ad (a + 39)) else .null), (if 8 < mk a then .ref (ad (a + 42)) else .null), (if 9 < mk a then .ref (ad (a + 43)) else .null), rfv ad (gR h a 10), rfv ad (gR h a 11), .int (gI h a 12), .int (gI h a 13), .int (gI h a 14), .int (gI h a 15), .int (gI h a 16), .int (gI h a 17), .int (gI h a 18)]
  | 9 => [.int (gI h a 0), (if 1 < mk a then .ref (ad (a + 1)) else .null), .int (gI h a 2), .int (gI h a 3), .int (gI h a 4), .int (gI h a 5), .int (gI h a 6), .int (gI h a 7), .int (gI h a 8), .int (gI h a 9), .int (gI h a 10), .int (gI h a 11), (if 12 < mk a then .ref (ad (a + 2)) else .null), .int (gI h a 13), .int (gI h a 14), (if 15 < mk a then .ref (ad (a + 3)) else .null), (if 16 < mk a then .ref (ad (a + 4)) else .null), (if 17 < mk a then .ref (ad (a + 5)) else .null), (if 18 < mk a then .ref (ad (a + 6)) else .null), (if 19 < mk a then .ref (ad (a + 7)) else .null), (if 20 < mk a then .ref (ad (a + 8)) else .null), (if 21 < mk a then .ref (ad (a + 9)) else .null), (if 22 < mk a then .ref (ad (a + 10)) else .null), (if 23 < mk a then .ref (ad (a + 11)) else .null), (if 24 < mk a then .ref (ad (a + 12)) else .null), .int (gI h a 25), .int (gI h a 26), (if 27 < mk a then .ref (ad (a + 13)) else .null), (if 28 < mk a then .ref (ad (a + 14)) else .null), .long (gL h a 29), .long (gL h a 30), .long (gL h a 31), .long (gL h a 32), (if 33 < mk a then .ref (ad (a + 15)) else .null), (if 34 < mk a then .ref (ad (a + 16)) else .null), (if 35 < mk a then .ref (ad (a + 17)) else .null), .int (gI h a 36), .int (gI h a 37), .int (gI h a 38), .int (gI h a 39), .long (gL h a 40), .int (gI h a 41), (if 42 < mk a then .ref (ad (a + 18)) else .null), (if 43 < mk a then .ref (ad (a + 19)) else .null)]
  | _ => []
def celC (ad : Nat → Nat) (cy : CY) (mk : MK) (h : HH) (a : Nat) : va_E :=
  if kd a = 10 then .inl (cy.1, ln a, .inl (h.1 a)) else if kd a = 11 then .inl (cy.2.1, ln a, .inl (h.1 a))
  else if kd a = 12 then .inl (cy.2.2.1, ln a, .inr (.inl (h.2.1 a)))
  else if kd a = 13 then .inl (cy.2.2.2, ln a, .inr (.inr (.inr (.inr (fun j => if h.2.2 a j < NW then some (ad (h.2.2 a j)) else none)))))
  else .inr (kd a, fldc ad mk h (kd a) a)
def wldC (ad : Nat → Nat) (cy : CY) (mk : MK) (h : HH) (n : Nat) : va_W := (List.range n).map (fun i => (ad i, celC ad cy mk h i))
theorem wldC_get (ad : Nat → Nat) (cy : CY) (mk : MK) (h : HH) {a n : Nat} (ha : a < n) : (wldC ad cy mk h n)[a]? = some (ad a, celC ad cy mk h a) := by
  simp [wldC, List.getElem?_map, List.getElem?_range ha]
theorem wldC_succ (ad : Nat → Nat) (cy : CY) (mk : MK) (h : HH) (n : Nat) : wldC ad cy mk h (n + 1) = wldC ad cy mk h n ++ [(ad n, celC ad cy mk h n)] := by
  simp [wldC, List.range_succ]
theorem fldc_congr (ad : Nat → Nat) {mk mk' : MK} {h h' : HH} (c : Nat) {b : Nat} (h1 : h'.1 b = h.1 b) (h2 : h'.2.1 b = h.2.1 b) (h3 : h'.2.2 b = h.2.2 b) (h4 : mk' b = mk b) : fldc ad mk' h' c b = fldc ad mk h c b := by
  unfold fldc gI gL gR
  rw [h1, h2, h3, h4]
theorem celC_congr (ad : Nat → Nat) (cy : CY) {mk mk' : MK} {h h' : HH} {b : Nat} (h1 : h'.1 b = h.1 b) (h2 : h'.2.1 b = h.2.1 b) (h3 : h'.2.2 b = h.2.2 b) (h4 : mk' b = mk b) : celC ad cy mk' h' b = celC ad cy mk h b := by
  unfold celC
  rw [h1, h2, h3, fldc_congr ad _ h1 h2 h3 h4]
theorem wldC_set {ad : Nat → Nat} {cy : CY} {mk mk' : MK} {h h' : HH} {a n : Nat} {e : va_E} (ha : a < n) (he : celC ad cy mk' h' a = e) (ho : ∀ b, b ≠ a → celC ad cy mk' h' b = celC ad cy mk h b) : (wldC ad cy mk h n).set a (ad a, e) = wldC ad cy mk' h' n := by
  apply List.ext_getElem?
  intro i
  rw [List.getElem?_set]
  unfold wldC
  rcases Nat.lt_or_ge i n with hi | hi
  · by_cases q : a = i
    · subst q
      simp [List.getElem?_map, List.getElem?_range hi, he, hi]
    · rw [if_neg q]
      simp only [List.getElem?_map, List.getElem?_range hi, Option.map_some]
      rw [ho i (fun z => q z.symm)]
  · have e1 : ∀ f : Nat → Nat × va_E, ((List.range n).map f)[i]? = none := fun f => List.getElem?_eq_none (by simpa using hi)
    rw [e1, e1, if_neg (by omega)]
theorem celC_I {ad : Nat → Nat} {cy : CY} {mk : MK} {h : HH} {n a : Nat} (hk : isA 11 n a) : celC ad cy mk h a = .inl (cy.2.1, n, .inl (h.1 a)) := by
  unfold celC; rw [if_neg (by rw [hk.2.1]; decide), if_pos hk.2.1, hk.2.2]
theorem celC_B {ad : Nat → Nat} {cy : CY} {mk : MK} {h : HH} {n a : Nat} (hk : isA 10 n a) : celC ad cy mk h a = .inl (cy.1, n, .inl (h.1 a)) := by
  unfold celC; rw [if_pos hk.2.1, hk.2.2]
theorem celC_J {ad : Nat → Nat} {cy : CY} {mk : MK} {h : HH} {n a : Nat} (hk : isA 12 n a) : celC ad cy mk h a = .inl (cy.2.2.1, n, .inr (.inl (h.2.1 a))) := by
  unfold celC; rw [if_neg (by rw [hk.2.1]; decide), if_neg (by rw [hk.2.1]; decide), if_pos hk.2.1, hk.2.2]
theorem celC_N {ad : Nat → Nat} {cy : CY} {mk : MK} {h : HH} {n a : Nat} (hk : isA 13 n a) : celC ad cy mk h a = .inl (cy.2.2.2, n, .inr (.inr (.inr (.inr (fun j => if h.2.2 a j < NW then some (ad (h.2.2 a j)) else none))))) := by
  unfold celC; rw [if_neg (by rw [hk.2.1]; decide), if_neg (by rw [hk.2.1]; decide), if_neg (by rw [hk.2.1]; decide), if_pos hk.2.1, hk.2.2]
theorem celC_O {ad : Nat → Nat} {cy : CY} {mk : MK} {h : HH} {c a : Nat} (hk : isK c a) (hc : c < 10) : celC ad cy mk h a = .inr (c, fldc ad mk h c a) := by
  have e := hk.2
  unfold celC; rw [if_neg (by omega), if_neg (by omega), if_neg (by omega), if_neg (by omega), e]
def KC (K : KX) : Prop := (∀ i, K.2.1 i = K.2.1 0 + i) ∧ ∀ q, K.2.1 0 ≤ q → K.2.2.1 q
theorem wldC_D {K : KX} (hK : KC K) {cy : CY} {mk : MK} {h : HH} {n : Nat} : va_D K.2.2.1 (wldC K.2.1 cy mk h n) := by
  have g : ∀ (i : Nat) (p : Nat × va_E), (wldC K.2.1 cy mk h n)[i]? = some p → p.1 = K.2.1 0 + i := by
    intro i p hp
    have hi : i < n := by
      have := (List.getElem?_eq_some_iff.mp hp).1
      simpa [wldC] using this
    rw [wldC_get _ _ _ _ hi] at hp
    obtain rfl := Option.some.inj hp
    exact hK.1 i
  exact ⟨fun i j p q hp hq he => by rw [g i p hp, g j q hq] at he; omega, fun k q hq => by rw [g k q hq]; exact hK.2 _ (Nat.le_add_right _ _)⟩
def zr (h : HH) (n : Nat) : Prop := ∀ i, n ≤ i → h.1 i = (fun _ => 0) ∧ h.2.1 i = (fun _ => 0) ∧ h.2.2 i = (fun _ => NW)
def mz (mk : MK) (n : Nat) : Prop := ∀ i, n ≤ i → mk i = 0
theorem zr.up {h : HH} {n m : Nat} (hz : zr h n) (hm : n ≤ m) : zr h m := fun i hi => hz i (Nat.le_trans hm hi)
theorem mz.up {mk : MK} {n m : Nat} (hz : mz mk n) (hm : n ≤ m) : mz mk m := fun i hi => hz i (Nat.le_trans hm hi)
theorem zr_sI {h : HH} {n a k : Nat} {v : Int32} (hz : zr h n) (ha : a < n) : zr (sI h a k v) n := fun i hi => ⟨by rw [sI_o h k v (by omega)]; exact (hz i hi).1, (hz i hi).2⟩
theorem zr_sR {h : HH} {n a k v : Nat} (hz : zr h n) (ha : a < n) : zr (sR h a k v) n := fun i hi => ⟨(hz i hi).1, (hz i hi).2.1, by rw [sR_o h k v (by omega)]; exact (hz i hi).2.2⟩
theorem mz_set {mk : MK} {n a v : Nat} (hz : mz mk n) (ha : a < n) : mz (mset mk a v) n := fun i hi => by unfold mset; rw [if_neg (by omega)]; exact hz i hi
def AuxC (U : State) : Prop := va_AO RX2 U ∧ va_Nw (.methodLinkNest RX8 15 ⟨RX5, "<init>", "()V"⟩ RX8) U ∧ va_Nw (.methodLinkNest RX8 22 ⟨RX2, "<init>", "()V"⟩ RX8) U ∧ va_Nw (.methodLinkNest RX8 32 ⟨RX3, "<init>", "()V"⟩ RX8) U ∧ va_Nw (.methodLinkNest RX3 11 ⟨RX2, "<init>", "()V"⟩ RX8) U ∧ va_Nw (.methodLinkNest RX8 39 ⟨RX4, "<init>", "()V"⟩ RX8) U ∧ va_Nw (.methodLinkNest RX8 46 ⟨RX6, "<init>", "()V"⟩ RX8) U ∧ va_Nw (.methodLinkNest RX8 53 ⟨RX1, "<init>", "()V"⟩ RX8) U ∧ va_Nw (.methodLinkNest RX8 67 ⟨RX0, "<init>", "()V"⟩ RX8) U
theorem AuxC.go {s U : State} (h : AuxC s) (hN : ∀ a i y z, va_Nw (.methodLinkNest a i y z) s → va_Nw (.methodLinkNest a i y z) U) (hvm : s.vm.Alike U.vm) : AuxC U := by
  obtain ⟨a0, n0, n1, n2, n3, n4, n5, n6, n7⟩ := h
  exact ⟨va_AO.moved hvm a0, hN _ _ _ _ n0, hN _ _ _ _ n1, hN _ _ _ _ n2, hN _ _ _ _ n3, hN _ _ _ _ n4, hN _ _ _ _ n5, hN _ _ _ _ n6, hN _ _ _ _ n7⟩
def PreC (K : KX) (n : Nat) (mk : MK) (h : HH) (U : State) : Prop := U.heap.size = K.2.1 n ∧ va_P K.2.2.2.1 cls (wldC K.2.1 K.2.2.2.2.1 mk h n) U.heap ∧ va_K K.2.2.2.1 cls (tys K.2.2.2.2.1) U ∧ AuxC U
theorem PreC.blind (K : KX) (n : Nat) (mk : MK) (h : HH) (as : List Value) : FrameBlind (va_Pc as (PreC K n mk h)) := fun _ U _ _ q => ⟨q.1, q.2.1, q.2.2.1, va_K.moved (Vm.Alike.refl U.vm) q.2.2.2.1, q.2.2.2.2.go (fun _ _ _ _ z => z.same rfl rfl) (Vm.Alike.refl U.vm)⟩
def PostC (K : KX) (n : Nat) (mk : MK) (h : HH) : Array Value → State → Outcome → State → Prop := fun _ st o t => o = .returned none ∧ t.heap.size = K.2.1 n ∧ va_P K.2.2.2.1 cls (wldC K.2.1 K.2.2.2.2.1 mk h n) t.heap ∧ va_F K.2.2.1 st t
def rmc (rk mc ms : Nat) : Room := { frames := rk, cells := mc, slots := ms, locals := 100 * rk }
def MC (K : KX) (y : MethodName) (b : ByteArray) (nL rk mc ms : Nat) (as : List Value) (n : Nat) (mk : MK) (h : HH) (n' : Nat) (mk' : MK) (h' : HH) : Prop :=
  Met K.1 y (wsY y b nL none) (rmc rk mc ms) (va_Pc as (PreC K n mk h)) (PostC K n' mk' h') mc ms K.2.2.1
def AtC (K : KX) (G : GX) (cn sn n : Nat) (mk : MK) (h : HH) (pc : Nat) (lv : List (Nat × Value)) (st : List Value) : Prop := match G with
  | (p, l, e, R, s, m, args, below, meth, c, Q, _, _, nL) => ∀ (H : Heap) (locs : List Loc) (ls : Array Slot), H.size = K.2.1 n → va_P K.2.2.2.1 cls (wldC K.2.1 K.2.2.2.2.1 mk h n) H → va_S K.2.2.1 s.heap H locs → lv_has ls nL lv → W p l e R s m args below meth c H locs cn sn Q (F0 m pc ls st)
def OkC (K : KX) (G : GX) (rk mc ms : Nat) (cc : ByteArray) (own : String) : Prop := match G with
  | (p, l, e, R, s, m, args, below, meth, c, Q, _, _, nL) => p.tables.exec = Jvm.exec ∧ c.code = cc ∧ c.maxLocals = nL ∧ s.vm.findClass own = some m.cls ∧ (∀ w ∈ TB, w.before args s = true) ∧ va_K K.2.2.2.1 cls (tys K.2.2.2.2.1) s ∧ AuxC s ∧ l = K.1 ∧ rk ≤ R.frames ∧ 100 * rk ≤ R.locals ∧ mc ≤ R.cells ∧ ms ≤ R.slots ∧ KC K
def EndC (K : KX) (G : GX) (mc ms n : Nat) (mk : MK) (h : HH) : Prop := match G with
  | (p, l, e, R, s, m, args, below, meth, c, Q, _, _, nL) => Q = MQ below (PostC K n mk h) args s mc ms K.2.2.1 ∧ meth.sig.returnType = none ∧ meth.locks = false
def IniC (G : GX) : Prop := match G with
  | (p, l, e, R, s, m, args, below, meth, c, Q, _, _, nL) => meth.name = "<init>"
theorem MC_of {K : KX} {y : MethodName} {b : ByteArray} {nL rk mc ms : Nat} {as : List Value} {n n' : Nat} {mk mk' : MK} {h h' : HH} (HK : KC K) (hy : plainName y.cls = true) (hyn : y.name = "<init>") (hn : (lg_sl as).length ≤ nL)
    (body : ∀ G : GX, OkC K G rk mc ms b y.cls → EndC K G mc ms n' mk' h' → IniC G → G.2.2.2.2.2.2.2.2.2.2.2.2.2 = nL → AtC K G 0 0 n mk h 0 (lv_args 0 as) []) : MC K y b nL rk mc ms as n mk h n' mk' h' := by
  refine Met.ofW (cc := b) (maxL := nL) (ret := none) hy rfl ?_
  intro p e s m args below meth c s₁ B hml hv
  obtain ⟨rfl, hsz, hP, hK, hX⟩ := hv
  have hts := atoms_spec (ws := wsY y b nL none) B.pre
  have hl := lv_entry as hn
  rw [lg_entry_eq]
  generalize (lg_sl as ++ List.replicate (nL - (lg_sl as).length) Slot.unset).toArray = ls at hl ⊢
  exact body (p, K.1, e, (headSpec (wsY y b nL none) (rmc rk mc ms)).room, s, m, as.toArray, below, meth, c, MQ below (PostC K n' mk' h') as.toArray s mc ms K.2.2.1, 0, 0, nL)
    ⟨B.exec, B.bytes, hml, findClass_of_methodNamed B.named, fun w hw => hts w (List.mem_cons_of_mem _ hw), hK, hX, rfl, Nat.le_refl _, Nat.le_refl _, Nat.le_refl _, Nat.le_refl _, HK⟩
    ⟨rfl, B.returns, B.notSynchronized⟩ (((name_of_methodNamed B.named B.method).1).trans hyn) rfl s.heap [] ls hsz hP va_S.rf hl
section CROWS
variable {K : KX} {G : GX} {rk mc ms : Nat} {cc : ByteArray} {own : String} {pc cn sn n : Nat} {mk : MK} {lv : List (Nat × Value)} {st : List Value} {h : HH}
theorem C_iconst (C : OkC K G rk mc ms cc own) {n0 : Int} {v : Int32} (d : decode cc pc = .ok (.iconst n0, 1)) (hv : Int32.ofInt n0 = v) (q : Nat) (hq : pc + 1 = q) (nx : AtC K G cn sn n mk h q lv (.int v :: st)) : AtC K G cn sn n mk h pc lv (st) := by
  subst hq
  obtain ⟨p, l, e, R, s, m, args, below, meth, c, Q, z1, z2, nL⟩ := G
  obtain ⟨hx, hb, hml, hown, hts, hK, hX, hlq, hr1, hr2, hc1, hc2, HK⟩ := id C
  exact fun H locs ls hz hP hS hl => lv_iconst hx hb d hv (nx H locs ls hz hP hS hl)
theorem C_bipush (C : OkC K G rk mc ms cc own) {n0 : Int} {v : Int32} (d : decode cc pc = .ok (.bipush n0, 2)) (hv : (Int8.ofInt n0).toInt32 = v) (q : Nat) (hq : pc + 2 = q) (nx : AtC K G cn sn n mk h q lv (.int v :: st)) : AtC K G cn sn n mk h pc lv (st) := by
  subst hq
  obtain ⟨p, l, e, R, s, m, args, below, meth, c, Q, z1, z2, nL⟩ := G
  obtain ⟨hx, hb, hml, hown, hts, hK, hX, hlq, hr1, hr2, hc1, hc2, HK⟩ := id C
  exact fun H locs ls hz hP hS hl => lv_bipush hx hb d hv (nx H locs ls hz hP hS hl)
theorem C_sipush (C : OkC K G rk mc ms cc own) {n0 : Int} {v : Int32} (d : decode cc pc = .ok (.sipush n0, 3)) (hv : (Int16.ofInt n0).toInt32 = v) (q : Nat) (hq : pc + 3 = q) (nx : AtC K G cn sn n mk h q lv (.int v :: st)) : AtC K G cn sn n mk h pc lv (st) := by
  subst hq
  obtain ⟨p, l, e, R, s, m, args, below, meth, c, Q, z1, z2, nL⟩ := G
  obtain ⟨hx, hb, hml, hown, hts, hK, hX, hlq, hr1, hr2, hc1, hc2, HK⟩ := id C
  exact fun H locs ls hz hP hS hl => lv_sipush hx hb d hv (nx H locs ls hz hP hS hl)
theorem C_iload_n (C : OkC K G rk mc ms cc own) {k : Fin 4} {i : Nat} {x : Int32} (d : decode cc pc = .ok (.iload_n k, 1)) (hi : (k : Nat) = i) (j : Nat) (hk : lv[j]? = some (i, .int x)) (q : Nat) (hq : pc + 1 = q) (nx : AtC K G cn sn n mk h q lv (.int x :: st)) : AtC K G cn sn n mk h pc lv (st) := by
  subst hq
  obtain ⟨p, l, e, R, s, m, args, below, meth, c, Q, z1, z2, nL⟩ := G
  obtain ⟨hx, hb, hml, hown, hts, hK, hX, hlq, hr1, hr2, hc1, hc2, HK⟩ := id C
  exact fun H locs ls hz hP hS hl => lv_iload_n hx hb d hi (lv_at hl j hk) (nx H locs ls hz hP hS hl)
theorem C_aload_n (C : OkC K G rk mc ms cc own) {k : Fin 4} {i : Nat} {x : Nat} (d : decode cc pc = .ok (.aload_n k, 1)) (hi : (k : Nat) = i) (j : Nat) (hk : lv[j]? = some (i, .ref x)) (q : Nat) (hq : pc + 1 = q) (nx : AtC K G cn sn n mk h q lv (.ref x :: st)) : AtC K G cn sn n mk h pc lv (st) := by
  subst hq
  obtain ⟨p, l, e, R, s, m, args, below, meth, c, Q, z1, z2, nL⟩ := G
  obtain ⟨hx, hb, hml, hown, hts, hK, hX, hlq, hr1, hr2, hc1, hc2, HK⟩ := id C
  exact fun H locs ls hz hP hS hl => lv_aload_n hx hb d hi (lv_at hl j hk) (nx H locs ls hz hP hS hl)
theorem C_istore_n (C : OkC K G rk mc ms cc own) {k : Fin 4} {i : Nat} {x : Int32} (d : decode cc pc = .ok (.istore_n k, 1)) (hi : (k : Nat) = i) (lv' : List (Nat × Value)) (hn : i < G.2.2.2.2.2.2.2.2.2.2.2.2.2) (hl9 : (i, Value.int x) :: lv.filter (fun q => !(q.1 == i) && !(q.1 + 1 == i && q.2.category == 2)) = lv') (q : Nat) (hq : pc + 1 = q) (nx : AtC K G cn sn n mk h q lv' st) : AtC K G cn sn n mk h pc lv (.int x :: st) := by
  subst hq
  obtain ⟨p, l, e, R, s, m, args, below, meth, c, Q, z1, z2, nL⟩ := G
  obtain ⟨hx, hb, hml, hown, hts, hK, hX, hlq, hr1, hr2, hc1, hc2, HK⟩ := id C
  exact fun H locs ls hz hP hS hl => lv_istore_n hx hb d hi hl hn hl9 (fun ls' hl' => nx H locs ls' hz hP hS hl')
theorem C_astore_n (C : OkC K G rk mc ms cc own) {k : Fin 4} {i : Nat} {x : Nat} (d : decode cc pc = .ok (.astore_n k, 1)) (hi : (k : Nat) = i) (lv' : List (Nat × Value)) (hn : i < G.2.2.2.2.2.2.2.2.2.2.2.2.2) (hl9 : (i, Value.ref x) :: lv.filter (fun q => !(q.1 == i) && !(q.1 + 1 == i && q.2.category == 2)) = lv') (q : Nat) (hq : pc + 1 = q) (nx : AtC K G cn sn n mk h q lv' st) : AtC K G cn sn n mk h pc lv (.ref x :: st) := by
  subst hq
  obtain ⟨p, l, e, R, s, m, args, below, meth, c, Q, z1, z2, nL⟩ := G
  obtain ⟨hx, hb, hml, hown, hts, hK, hX, hlq, hr1, hr2, hc1, hc2, HK⟩ := id C
  exact fun H locs ls hz hP hS hl => lv_astore_n hx hb d hi hl hn hl9 (fun ls' hl' => nx H locs ls' hz hP hS hl')
theorem C_iinc (C : OkC K G rk mc ms cc own) {i : Nat} {n0 : Int} {x v : Int32} (d : decode cc pc = .ok (.iinc i n0, 3)) (j : Nat) (hk : lv[j]? = some (i, .int x)) (hv : x + Int32.ofInt n0 = v) (lv' : List (Nat × Value)) (hn : i < G.2.2.2.2.2.2.2.2.2.2.2.2.2) (hl9 : (i, Value.int v) :: lv.filter (fun q => !(q.1 == i) && !(q.1 + 1 == i && q.2.category == 2)) = lv') (q : Nat) (hq : pc + 3 = q) (nx : AtC K G cn sn n mk h q lv' st) : AtC K G cn sn n mk h pc lv st := by
  subst hq
  obtain ⟨p, l, e, R, s, m, args, below, meth, c, Q, z1, z2, nL⟩ := G
  obtain ⟨hx, hb, hml, hown, hts, hK, hX, hlq, hr1, hr2, hc1, hc2, HK⟩ := id C
  exact fun H locs ls hz hP hS hl => lv_iinc hx hb d hl hk hv hn hl9 (fun ls' hl' => nx H locs ls' hz hP hS hl')
theorem C_imul (C : OkC K G rk mc ms cc own) {x y v : Int32} (d : decode cc pc = .ok (.imul, 1)) (hv : x * y = v) (q : Nat) (hq : pc + 1 = q) (nx : AtC K G cn sn n mk h q lv (.int v :: st)) : AtC K G cn sn n mk h pc lv (.int y :: .int x :: st) := by
  subst hq
  obtain ⟨p, l, e, R, s, m, args, below, meth, c, Q, z1, z2, nL⟩ := G
  obtain ⟨hx, hb, hml, hown, hts, hK, hX, hlq, hr1, hr2, hc1, hc2, HK⟩ := id C
  exact fun H locs ls hz hP hS hl => lv_imul hx hb d (by rw [hv]; exact (nx H locs ls hz hP hS hl))
theorem C_dup (C : OkC K G rk mc ms cc own) {va : Value} (d : decode cc pc = .ok (.dup, 1)) (hva : va.category = 1) (q : Nat) (hq : pc + 1 = q) (nx : AtC K G cn sn n mk h q lv (va :: va :: st)) : AtC K G cn sn n mk h pc lv (va :: st) := by
  subst hq
  obtain ⟨p, l, e, R, s, m, args, below, meth, c, Q, z1, z2, nL⟩ := G
  obtain ⟨hx, hb, hml, hown, hts, hK, hX, hlq, hr1, hr2, hc1, hc2, HK⟩ := id C
  exact fun H locs ls hz hP hS hl => lv_dup hx hb d hva (nx H locs ls hz hP hS hl)
theorem C_goto (C : OkC K G rk mc ms cc own) {off : Int} (d : decode cc pc = .ok (.goto off, 3)) (tgt : Nat) (ht : (pc : Int) + off = (tgt : Int)) (nx : AtC K G cn sn n mk h tgt lv st) : AtC K G cn sn n mk h pc lv st := by
  obtain ⟨p, l, e, R, s, m, args, below, meth, c, Q, z1, z2, nL⟩ := G
  obtain ⟨hx, hb, hml, hown, hts, hK, hX, hlq, hr1, hr2, hc1, hc2, HK⟩ := id C
  exact fun H locs ls hz hP hS hl => lv_goto hx hb d ht (nx H locs ls hz hP hS hl)
theorem C_ge_T (C : OkC K G rk mc ms cc own) {x y : Int32} {off : Int} (d : decode cc pc = .ok (.if_icmp .ge off, 3)) (tgt : Nat) (ht : (pc : Int) + off = (tgt : Int)) (hc : y ≤ x) (nx : AtC K G cn sn n mk h tgt lv st) : AtC K G cn sn n mk h pc lv (.int y :: .int x :: st) := by
  obtain ⟨p, l, e, R, s, m, args, below, meth, c, Q, z1, z2, nL⟩ := G
  obtain ⟨hx, hb, hml, hown, hts, hK, hX, hlq, hr1, hr2, hc1, hc2, HK⟩ := id C
  exact fun H locs ls hz hP hS hl => lv_icmp_ge hx hb d ht (fun _ => (nx H locs ls hz hP hS hl)) (fun z => absurd hc z)
theorem C_ge_N (C : OkC K G rk mc ms cc own) {x y : Int32} {off : Int} (d : decode cc pc = .ok (.if_icmp .ge off, 3)) (tgt : Nat) (ht : (pc : Int) + off = (tgt : Int)) (hc : ¬ y ≤ x) (q : Nat) (hq : pc + 3 = q) (nx : AtC K G cn sn n mk h q lv st) : AtC K G cn sn n mk h pc lv (.int y :: .int x :: st) := by
  subst hq
  obtain ⟨p, l, e, R, s, m, args, below, meth, c, Q, z1, z2, nL⟩ := G
  obtain ⟨hx, hb, hml, hown, hts, hK, hX, hlq, hr1, hr2, hc1, hc2, HK⟩ := id C
  exact fun H locs ls hz hP hS hl => lv_icmp_ge hx hb d ht (fun z => absurd z hc) (fun _ => (nx H locs ls hz hP hS hl))
theorem C_mmax (C : OkC K G rk mc ms cc own) {idx : Nat} {x y v : Int32} (d : decode cc pc = .ok (.invokestatic idx, 3)) (w : Cond.methodLink own idx Lib.Math.max.name ∈ TB) (hv : (if x < y then y else x) = v) (hrk : 1 ≤ rk) (hcs : cn ≤ mc ∧ sn ≤ ms) (hW : (st.map fun v => v.category).sum ≤ 8) (q : Nat) (hq : pc + 3 = q) (nx : AtC K G cn sn n mk h q lv (.int v :: st)) : AtC K G cn sn n mk h pc lv (.int y :: .int x :: st) := by
  subst hq
  obtain ⟨p, l, e, R, s, m, args, below, meth, c, Q, z1, z2, nL⟩ := G
  obtain ⟨hx, hb, hml, hown, hts, hK, hX, hlq, hr1, hr2, hc1, hc2, HK⟩ := id C
  exact fun H locs ls hz hP hS hl => va_mmax hx hb (hml.trans hl.1.symm) hown (hts _ w) (hts _ stmmax) (hts _ iniMath) (hts _ commax) (by omega) (by omega) (by omega) (by omega) d (by rw [hv]; exact (nx H locs ls hz hP hS hl))
theorem C_obj (C : OkC K G rk mc ms cc own) {idx a : Nat} (d : decode cc pc = .ok (.invokespecial idx, 3)) (w : Cond.methodLink own idx Lib.objectInit ∈ TB) (w1 : Cond.instanceMethod Lib.objectInit ∈ TB) (w2 : Cond.code Lib.objectInit ⟨#[0xb1]⟩ 1 none ∈ TB) (hrk : 1 ≤ rk) (hW : (st.map fun v => v.category).sum ≤ 8) (q : Nat) (hq : pc + 3 = q) (nx : AtC K G cn sn n mk h q lv st) : AtC K G cn sn n mk h pc lv (.ref a :: st) := by
  subst hq
  obtain ⟨p, l, e, R, s, m, args, below, meth, c, Q, z1, z2, nL⟩ := G
  obtain ⟨hx, hb, hml, hown, hts, hK, hX, hlq, hr1, hr2, hc1, hc2, HK⟩ := id C
  exact fun H locs ls hz hP hS hl => W.objInit hx hb hown (hts _ w) (hts _ w1) (hts _ w2) rfl (hl.1.trans hml.symm) rfl d (by omega) (by show 2 * 0 + _ + 12 ≤ _; omega) (nx H locs ls hz hP hS hl)
theorem C_push {D : va_G} {ad : Nat → Nat} {cy : CY} {H H1 : Heap} (hz : H.size = ad n) (hP : va_P D cls (wldC ad cy mk h n) H) (o1 : ∀ q : Nat, q < ad n → H1[q]? = H[q]?) (he : va_at D cls (ad n, celC ad cy mk h n) H1) : va_P D cls (wldC ad cy mk h (n + 1)) H1 := by
  rw [wldC_succ]
  refine (hP.kept (fun k x hx => o1 x.1 (by rw [← hz]; exact (hP k x hx).lt))).app (fun k x hx => ?_)
  have hk : k < 1 := (List.getElem?_eq_some_iff.mp hx).1
  rw [show k = 0 by omega] at hx
  cases hx
  exact he
theorem C_grow {A : Nat → Prop} {H0 H H1 : Heap} {locs : List Loc} {a : Nat} (hS : va_S A H0 H locs) (hz : H.size = a) (z1 : H1.size = a + 1) (o1 : ∀ q : Nat, q < a → H1[q]? = H[q]?) : va_S A H0 H1 locs :=
  ⟨Nat.le_trans hS.1 (by omega), fun x h1 h2 => (o1 x (by have := hS.1; omega)).trans (hS.2.1 x h1 h2), hS.2.2⟩
theorem C_new (C : OkC K G rk mc ms cc own) {idx : Nat} (d : decode cc pc = .ok (.new idx, 3)) (ci : Nat) {r : vw_C} {ty : Nat → FieldType} (hk : isK ci n) (h10 : ci < 10) (hc : cls[ci]? = some r) (hi : ∀ w ∈ u_ws r.1 r.2.1 r.2.2, w ∈ TB) (hty : ∀ k, k < r.2.2 → parseFieldDescriptor (r.2.1 k).2.2.1 = some (ty k)) (hdf : ∀ j, j < r.2.2 → defaultValue (ty j) = vp_V (fldc K.2.1 mk h ci n) j) (w1 : Cond.classLink own idx r.1 ∈ TB) (w2 : Cond.instantiable r.1 r.2.2 ∈ TB) (w3 : Cond.initialized r.1 ∈ TB) (cn' sn' : Nat) (hcn : cn + 1 = cn') (hsn : sn + r.2.2 = sn') (hcm : cn' ≤ mc) (hsm : sn' ≤ ms) (n' : Nat) (hn' : n + 1 = n') (q : Nat) (hq : pc + 3 = q) (nx : AtC K G cn' sn' n' mk h q lv (.ref (K.2.1 n) :: st)) : AtC K G cn sn n mk h pc lv st := by
  subst hq hcn hsn hn'
  obtain ⟨p, l, e, R, s, m, args, below, meth, c, Q, z1, z2, nL⟩ := G
  obtain ⟨hx, hb, hml, hown, hts, hK, hX, hlq, hr1, hr2, hc1, hc2, HK⟩ := id C
  intro H locs ls hz hP hS hl
  have hKn := hK.1 ci _ hc
  refine W.newcK hx hb hown (hts _ w1) (hts _ w2) (hts _ w3) rfl d (by omega) (by omega) hKn.2.1 hz fun H1 kC hkC e1 z1 o1 => ?_
  refine nx H1 locs ls (z1.trans (by rw [HK.1 n, HK.1 (n + 1)]; omega)) (C_push hz hP o1 ?_) (C_grow hS hz z1 o1) hl
  rw [celC_O hk h10]
  exact ⟨_, hc, (u_born ty hts hi hKn hkC e1 hty).to hdf⟩
theorem C_cls {cA cB : ClassId} {tys : List (ClassId × FieldType)} {s : State} {D : va_G} (hK : va_K D cls tys s) (k : Nat) {t : FieldType} (hk : tys[k]? = some (cB, t)) (ht : t = .int ∨ t = .long ∨ t = .byte) (h : s.vm.findClass ("[" ++ t.toString) = some cA) : cA = cB := by
  have := (hK.2 k _ hk).2
  rcases ht with rfl | rfl | rfl <;> exact Option.some.inj (h.symm.trans this)
theorem C_newaI (C : OkC K G rk mc ms cc own) {x : Int32} {len : Nat} (d : decode cc pc = .ok (.newarray .int, 2)) (hk : isA 11 len n) (hzr : h.1 n = fun _ => 0) (hx0 : ¬ x < 0) (hxl : x.toNatClampNeg = len) (hby : len * componentBytes .int ≤ 536870912) (w : Cond.arrayClass .int ∈ TB) (cn' sn' : Nat) (hcn : cn + 1 = cn') (hsn : sn + len = sn') (hcm : cn' ≤ mc) (hsm : sn' ≤ ms) (n' : Nat) (hn' : n + 1 = n') (q : Nat) (hq : pc + 2 = q) (nx : AtC K G cn' sn' n' mk h q lv (.ref (K.2.1 n) :: st)) : AtC K G cn sn n mk h pc lv (.int x :: st) := by
  subst hq hcn hsn hn'
  obtain ⟨p, l, e, R, s, m, args, below, meth, c, Q, z1, z2, nL⟩ := G
  obtain ⟨hx, hb, hml, hown, hts, hK, hX, hlq, hr1, hr2, hc1, hc2, HK⟩ := id C
  intro H locs ls hz hP hS hl
  refine va_newaK (atype := .int) hx hb (hts _ w) rfl d rfl hx0 hxl hby (by omega) (by omega) hz fun H1 cA e1 z1 o1 hAr hNm => ?_
  obtain rfl := C_cls hK 1 (t := .int) rfl (by decide) hNm
  refine nx H1 locs ls (z1.trans (by rw [HK.1 n, HK.1 (n + 1)]; omega)) (C_push hz hP o1 ?_) (C_grow hS hz z1 o1) hl
  rw [celC_I hk, hzr]
  exact e1
theorem C_newaB (C : OkC K G rk mc ms cc own) {x : Int32} {len : Nat} (d : decode cc pc = .ok (.newarray .byte, 2)) (hk : isA 10 len n) (hzr : h.1 n = fun _ => 0) (hx0 : ¬ x < 0) (hxl : x.toNatClampNeg = len) (hby : len * componentBytes .byte ≤ 536870912) (w : Cond.arrayClass .byte ∈ TB) (cn' sn' : Nat) (hcn : cn + 1 = cn') (hsn : sn + len = sn') (hcm : cn' ≤ mc) (hsm : sn' ≤ ms) (n' : Nat) (hn' : n + 1 = n') (q : Nat) (hq : pc + 2 = q) (nx : AtC K G cn' sn' n' mk h q lv (.ref (K.2.1 n) :: st)) : AtC K G cn sn n mk h pc lv (.int x :: st) := by
  subst hq hcn hsn hn'
  obtain ⟨p, l, e, R, s, m, args, below, meth, c, Q, z1, z2, nL⟩ := G
  obtain ⟨hx, hb, hml, hown, hts, hK, hX, hlq, hr1, hr2, hc1, hc2, HK⟩ := id C
  intro H locs ls hz hP hS hl
  refine va_newaK (atype := .byte) hx hb (hts _ w) rfl d rfl hx0 hxl hby (by omega) (by omega) hz fun H1 cA e1 z1 o1 hAr hNm => ?_
  obtain rfl := C_cls hK 0 (t := .byte) rfl (by decide) hNm
  refine nx H1 locs ls (z1.trans (by rw [HK.1 n, HK.1 (n + 1)]; omega)) (C_push hz hP o1 ?_) (C_grow hS hz z1 o1) hl
  rw [celC_B hk, hzr]
  exact e1
theorem C_newaJ (C : OkC K G rk mc ms cc own) {x : Int32} {len : Nat} (d : decode cc pc = .ok (.newarray .long, 2)) (hk : isA 12 len n) (hzr : h.2.1 n = fun _ => 0) (hx0 : ¬ x < 0) (hxl : x.toNatClampNeg = len) (hby : len * componentBytes .long ≤ 536870912) (w : Cond.arrayClass .long ∈ TB) (cn' sn' : Nat) (hcn : cn + 1 = cn') (hsn : sn + len = sn') (hcm : cn' ≤ mc) (hsm : sn' ≤ ms) (n' : Nat) (hn' : n + 1 = n') (q : Nat) (hq : pc + 2 = q) (nx : AtC K G cn' sn' n' mk h q lv (.ref (K.2.1 n) :: st)) : AtC K G cn sn n mk h pc lv (.int x :: st) := by
  subst hq hcn hsn hn'
  obtain ⟨p, l, e, R, s, m, args, below, meth, c, Q, z1, z2, nL⟩ := G
  obtain ⟨hx, hb, hml, hown, hts, hK, hX, hlq, hr1, hr2, hc1, hc2, HK⟩ := id C
  intro H locs ls hz hP hS hl
  refine va_newaK (atype := .long) hx hb (hts _ w) rfl d rfl hx0 hxl hby (by omega) (by omega) hz fun H1 cA e1 z1 o1 hAr hNm => ?_
  obtain rfl := C_cls hK 2 (t := .long) rfl (by decide) hNm
  refine nx H1 locs ls (z1.trans (by rw [HK.1 n, HK.1 (n + 1)]; omega)) (C_push hz hP o1 ?_) (C_grow hS hz z1 o1) hl
  rw [celC_J hk, hzr]
  exact e1
theorem C_newq (C : OkC K G rk mc ms cc own) {idx : Nat} {x : Int32} {len : Nat} (d : decode cc pc = .ok (.anewarray idx, 3)) (hk : isA 13 len n) (hzr : h.2.2 n = fun _ => NW) (hx0 : ¬ x < 0) (hxl : x.toNatClampNeg = len) (hby : len * 4 ≤ 536870912) (w : Cond.classLink own idx RX2 ∈ TB) (cn' sn' : Nat) (hcn : cn + 1 = cn') (hsn : sn + len = sn') (hcm : cn' ≤ mc) (hsm : sn' ≤ ms) (n' : Nat) (hn' : n + 1 = n') (q : Nat) (hq : pc + 3 = q) (nx : AtC K G cn' sn' n' mk h q lv (.ref (K.2.1 n) :: st)) : AtC K G cn sn n mk h pc lv (.int x :: st) := by
  subst hq hcn hsn hn'
  obtain ⟨p, l, e, R, s, m, args, below, meth, c, Q, z1, z2, nL⟩ := G
  obtain ⟨hx, hb, hml, hown, hts, hK, hX, hlq, hr1, hr2, hc1, hc2, HK⟩ := id C
  intro H locs ls hz hP hS hl
  subst hxl
  refine W.anew hx hb hown (hts _ w) (va_AO.use hX.1) rfl d rfl hx0 hby (by omega) (by omega) fun cA kA comp f1 f2 f3 f4 => ?_
  generalize hH1 : H.push ({ cls := cA, slots := Array.replicate x.toNatClampNeg .null, vm := .none } : Cell) = H1
  have z1 : H1.size = H.size + 1 := by rw [← hH1, Array.size_push]
  have e1 : H1[H.size]? = some (arrV cA x.toNatClampNeg (fun _ => .null)) := by rw [← hH1, Array.getElem?_push_size, ← arrV_new]
  have o1 : ∀ q : Nat, q < H.size → H1[q]? = H[q]? := fun q hq => by rw [← hH1, Array.getElem?_push, if_neg (Nat.ne_of_lt hq)]
  rw [hz] at z1 e1 o1
  obtain ⟨k1, k2, q1, q2, q3, q4⟩ := (hK.2 3 _ rfl).2
  obtain rfl : cA = K.2.2.2.2.1.2.2.2 := Option.some.inj (f1.symm.trans q4)
  rw [hz]
  refine nx H1 locs ls (z1.trans (by rw [HK.1 n, HK.1 (n + 1)]; omega)) (C_push hz hP o1 ?_) (C_grow hS hz z1 o1) hl
  rw [celC_N hk, hzr]
  exact e1
theorem xa_put {p : Program} {l : Launch} {e : Env} {R : Room} {s : State} {m : MethodId} {args : Array Value} {below : List Frame} {meth : Method} {c : Code} {H : Heap} {locs : List Loc} {cells slots : Nat} {Q : State → Prop} {ls : Array Slot} {rest : List Value} {D : va_G} {A : Nat → Prop} {a : Nat} {tys : List (ClassId × FieldType)} {ws : va_W} {H0 : Heap} (hexec : p.tables.exec = Jvm.exec) (hb : c.code = cc) {C : String} {T : u_T} {N ci index : Nat} {Ts : List Cond} (hts : ∀ w ∈ Ts, w.before args s = true) (hin : ∀ w ∈ u_ws C T N, w ∈ Ts) (ty0 : Nat → FieldType) (hty : ∀ k, k < N → parseFieldDescriptor (T k).2.2.1 = some (ty0 k)) (hnm : ∀ a, a < N → ∀ b, b < N → a ≠ b → (T a).2.1 ≠ (T b).2.1) (hown : s.vm.findClass own = some m.cls) (hK : va_K D cls tys s) (hP : va_P D cls ws H) (hD : va_D A ws) (hS0 : va_S A H0 H locs) (q0 : Nat) {fs : List Value} (he : ws[q0]? = some (a, .inr (ci, fs))) (hc : cls[ci]? = some (C, T, N)) (k : Nat) (hk : k < N) (hlink : (Cond.fieldLink own index (T k).1 (T k).2.1 (T k).2.2.1).before args s = true) (hfin : (T k).2.2.2 = false) {ty : FieldType} {v : Value} (hd : parseFieldDescriptor (T k).2.2.1 = some ty) (hn : narrow ty v = v) (hfit : fits ty v = true) (hl : k < fs.length) (hdg : decode cc pc = .ok (.putfield index, 3)) (kk : ∀ (H1 : Heap) (locs1 : List Loc), H1.size = H.size → va_P D cls (ws.set q0 (a, .inr (ci, fs.set k v))) H1 → va_S A H0 H1 locs1 → W p l e R s m args below meth c H1 locs1 cells slots Q (F0 m (pc + 3) ls rest)) : W p l e R s m args below meth c H locs cells slots Q (F0 m pc ls (v :: .ref a :: rest)) := by
  have hap := va_apart (own := own) hts hin ty0 hty hnm hK hc
  obtain ⟨r, h1, cell, q1, q2, q3, q4⟩ := hP q0 _ he
  have hr : r = (C, T, N) := Option.some.inj (h1.symm.trans hc)
  subst hr
  obtain ⟨hS, hfc, kC, hkC, hkind⟩ := hK.1 ci _ hc
  obtain ⟨cf, kf, fi, f, hi, hsl⟩ := hS k hk
  have hlay := hts _ (hin _ (u_in_lay hk))
  unfold u_lay at hlay
  rw [if_neg (by rw [hfin]; decide)] at hlay
  have hst := (u_facts hfc hkC (u_lays hts hin hk) hi).1
  have h6 := u_store hfc hkC hkind hlay hi hd hn hfit
  refine W.putK hexec hb (f := f) ⟨hown, hlink, ⟨_, _, _, hi⟩, hst⟩ (by rw [q2]; exact h6) q1 q3 (by rw [hsl]; exact k2_hasslot (q4 k hk)) rfl rfl hdg fun H' e1 e2 e3 => ?_
  rw [hsl] at e1 ⊢
  exact kk H' _ e2 (hP.set hD he ⟨_, hc, t_OB.to (V := updV (vp_V fs) k v) ⟨_, e1, q2, q3, t_set q4 hap hk v⟩ (fun j _ => vp_updV_set hl v j)⟩ e3) (hS0.put e2 e3 (hD.2 q0 _ he))
theorem xa_putF {p : Program} {l : Launch} {e : Env} {R : Room} {s : State} {m : MethodId} {args : Array Value} {below : List Frame} {meth : Method} {c : Code} {H : Heap} {locs : List Loc} {cells slots : Nat} {Q : State → Prop} {ls : Array Slot} {rest : List Value} {D : va_G} {A : Nat → Prop} {a : Nat} {tys : List (ClassId × FieldType)} {ws : va_W} {H0 : Heap} (hexec : p.tables.exec = Jvm.exec) (hb : c.code = cc) {C : String} {T : u_T} {N ci index : Nat} {Ts : List Cond} (hts : ∀ w ∈ Ts, w.before args s = true) (hin : ∀ w ∈ u_ws C T N, w ∈ Ts) (ty0 : Nat → FieldType) (hty : ∀ k, k < N → parseFieldDescriptor (T k).2.2.1 = some (ty0 k)) (hnm : ∀ a, a < N → ∀ b, b < N → a ≠ b → (T a).2.1 ≠ (T b).2.1) (hown : s.vm.findClass own = some m.cls) (hK : va_K D cls tys s) (hP : va_P D cls ws H) (hD : va_D A ws) (hS0 : va_S A H0 H locs) (q0 : Nat) {fs : List Value} (he : ws[q0]? = some (a, .inr (ci, fs))) (hc : cls[ci]? = some (C, T, N)) (k : Nat) (hk : k < N) (hlink : (Cond.fieldLink own index (T k).1 (T k).2.1 (T k).2.2.1).before args s = true) (hfin : (T k).2.2.2 = true) (hin2 : meth.name = "<init>") (hdecl : (T k).1 = own) {ty : FieldType} {v : Value} (hd : parseFieldDescriptor (T k).2.2.1 = some ty) (hn : narrow ty v = v) (hfit : fits ty v = true) (hl : k < fs.length) (hdg : decode cc pc = .ok (.putfield index, 3)) (kk : ∀ (H1 : Heap) (locs1 : List Loc), H1.size = H.size → va_P D cls (ws.set q0 (a, .inr (ci, fs.set k v))) H1 → va_S A H0 H1 locs1 → W p l e R s m args below meth c H1 locs1 cells slots Q (F0 m (pc + 3) ls rest)) : W p l e R s m args below meth c H locs cells slots Q (F0 m pc ls (v :: .ref a :: rest)) := by
  have hap := va_apart (own := own) hts hin ty0 hty hnm hK hc
  obtain ⟨r, h1, cell, q1, q2, q3, q4⟩ := hP q0 _ he
  have hr : r = (C, T, N) := Option.some.inj (h1.symm.trans hc)
  subst hr
  obtain ⟨hS, hfc, kC, hkC, hkind⟩ := hK.1 ci _ hc
  obtain ⟨cf, kf, fi, f, hi, hsl⟩ := hS k hk
  have hlay := hts _ (hin _ (u_in_lay hk))
  unfold u_lay at hlay
  rw [if_pos hfin] at hlay
  have hst := (u_facts hfc hkC (u_lays hts hin hk) hi).1
  have hcf : m.cls = cf := by
    obtain ⟨_, _, c', _, _, _, -, -, hf', -, -, -, hown2, -⟩ := Cond.laysFinal_spec hlay
    have e1 : c' = cf := by have := hi.symm.trans hf'; simp at this; exact this.1.symm
    rw [hdecl] at hown2
    rw [← e1]; exact Option.some.inj (hown.symm.trans hown2)
  have h6 := u_fits hfc hkC hkind (Or.inr hlay) hi hd hn hfit
  refine W.putFinK hexec hb hown hlink hi hst hcf hin2 (by rw [q2]; exact h6) q1 q3 (by rw [hsl]; exact k2_hasslot (q4 k hk)) rfl rfl hdg fun H' e1 e2 e3 => ?_
  rw [hsl] at e1 ⊢
  exact kk H' _ e2 (hP.set hD he ⟨_, hc, t_OB.to (V := updV (vp_V fs) k v) ⟨_, e1, q2, q3, t_set q4 hap hk v⟩ (fun j _ => vp_updV_set hl v j)⟩ e3) (hS0.put e2 e3 (hD.2 q0 _ he))
theorem C_putFR (C : OkC K G rk mc ms cc own) (I : IniC G) {a idx : Nat} {v : Nat} (d : decode cc pc = .ok (.putfield idx, 3)) (ci k : Nat) {r : vw_C} {ty0 : Nat → FieldType} {ty : FieldType} (hk : isK ci a) (ha : a < n) (h10 : ci < 10) (hc : cls[ci]? = some r) (hi : ∀ w ∈ u_ws r.1 r.2.1 r.2.2, w ∈ TB) (hty : ∀ k, k < r.2.2 → parseFieldDescriptor (r.2.1 k).2.2.1 = some (ty0 k)) (hnm : ∀ a, a < r.2.2 → ∀ b, b < r.2.2 → a ≠ b → (r.2.1 a).2.1 ≠ (r.2.1 b).2.1) (hkN : k < r.2.2) (hfin : (r.2.1 k).2.2.2 = true) (hdecl : (r.2.1 k).1 = own) (hd : parseFieldDescriptor (r.2.1 k).2.2.1 = some ty) (hn : narrow ty (.ref (K.2.1 v)) = .ref (K.2.1 v)) (hfit : fits ty (.ref (K.2.1 v)) = true) (hlen : k < (fldc K.2.1 mk h ci a).length) (hs : (fldc K.2.1 mk h ci a).set k (.ref (K.2.1 v)) = fldc K.2.1 (mset mk a (k + 1)) (h) ci a) (w : Cond.fieldLink own idx (r.2.1 k).1 (r.2.1 k).2.1 (r.2.1 k).2.2.1 ∈ TB) (q : Nat) (hq : pc + 3 = q) (nx : AtC K G cn sn n (mset mk a (k + 1)) (h) q lv st) : AtC K G cn sn n mk h pc lv (.ref (K.2.1 v) :: .ref (K.2.1 a) :: st) := by
  subst hq
  obtain ⟨p, l, e, R, s, m, args, below, meth, c, Q, z1, z2, nL⟩ := G
  obtain ⟨hx, hb, hml, hown, hts, hK, hX, hlq, hr1, hr2, hc1, hc2, HK⟩ := id C
  have e9 := wldC_set (ad := K.2.1) (cy := K.2.2.2.2.1) (mk := mk) (mk' := mset mk a (k + 1)) (h := h) (h' := h) (a := a) (n := n) (e := .inr (ci, (fldc K.2.1 mk h ci a).set k (.ref (K.2.1 v)))) ha (by rw [celC_O hk h10, hs]) (fun b hb => celC_congr _ _ rfl rfl rfl (if_neg hb))
  intro H locs ls hz hP hS hl
  refine xa_putF hx hb hts hi ty0 hty hnm hown hK hP (wldC_D HK) hS a (by rw [wldC_get _ _ _ _ ha, celC_O hk h10]) hc k hkN (hts _ w) hfin I hdecl hd hn hfit hlen d (fun H1 locs1 z1 hP1 hS1 => ?_)
  rw [e9] at hP1
  exact nx H1 locs1 ls (z1.trans hz) hP1 hS1 hl
theorem C_putFI (C : OkC K G rk mc ms cc own) (I : IniC G) {a idx : Nat} {v : Int32} (d : decode cc pc = .ok (.putfield idx, 3)) (ci k : Nat) {r : vw_C} {ty0 : Nat → FieldType} {ty : FieldType} (hk : isK ci a) (ha : a < n) (h10 : ci < 10) (hc : cls[ci]? = some r) (hi : ∀ w ∈ u_ws r.1 r.2.1 r.2.2, w ∈ TB) (hty : ∀ k, k < r.2.2 → parseFieldDescriptor (r.2.1 k).2.2.1 = some (ty0 k)) (hnm : ∀ a, a < r.2.2 → ∀ b, b < r.2.2 → a ≠ b → (r.2.1 a).2.1 ≠ (r.2.1 b).2.1) (hkN : k < r.2.2) (hfin : (r.2.1 k).2.2.2 = true) (hdecl : (r.2.1 k).1 = own) (hd : parseFieldDescriptor (r.2.1 k).2.2.1 = some ty) (hn : narrow ty (.int v) = .int v) (hfit : fits ty (.int v) = true) (hlen : k < (fldc K.2.1 mk h ci a).length) (hs : (fldc K.2.1 mk h ci a).set k (.int v) = fldc K.2.1 (mk) (sI h a k v) ci a) (w : Cond.fieldLink own idx (r.2.1 k).1 (r.2.1 k).2.1 (r.2.1 k).2.2.1 ∈ TB) (q : Nat) (hq : pc + 3 = q) (nx : AtC K G cn sn n (mk) (sI h a k v) q lv st) : AtC K G cn sn n mk h pc lv (.int v :: .ref (K.2.1 a) :: st) := by
  subst hq
  obtain ⟨p, l, e, R, s, m, args, below, meth, c, Q, z1, z2, nL⟩ := G
  obtain ⟨hx, hb, hml, hown, hts, hK, hX, hlq, hr1, hr2, hc1, hc2, HK⟩ := id C
  have e9 := wldC_set (ad := K.2.1) (cy := K.2.2.2.2.1) (mk := mk) (mk' := mk) (h := h) (h' := sI h a k v) (a := a) (n := n) (e := .inr (ci, (fldc K.2.1 mk h ci a).set k (.int v))) ha (by rw [celC_O hk h10, hs]) (fun b hb => celC_congr _ _ (sI_o h k v hb) rfl rfl rfl)
  intro H locs ls hz hP hS hl
  refine xa_putF hx hb hts hi ty0 hty hnm hown hK hP (wldC_D HK) hS a (by rw [wldC_get _ _ _ _ ha, celC_O hk h10]) hc k hkN (hts _ w) hfin I hdecl hd hn hfit hlen d (fun H1 locs1 z1 hP1 hS1 => ?_)
  rw [e9] at hP1
  exact nx H1 locs1 ls (z1.trans hz) hP1 hS1 hl
theorem C_putI (C : OkC K G rk mc ms cc own) (I : IniC G) {a idx : Nat} {v : Int32} (d : decode cc pc = .ok (.putfield idx, 3)) (ci k : Nat) {r : vw_C} {ty0 : Nat → FieldType} {ty : FieldType} (hk : isK ci a) (ha : a < n) (h10 : ci < 10) (hc : cls[ci]? = some r) (hi : ∀ w ∈ u_ws r.1 r.2.1 r.2.2, w ∈ TB) (hty : ∀ k, k < r.2.2 → parseFieldDescriptor (r.2.1 k).2.2.1 = some (ty0 k)) (hnm : ∀ a, a < r.2.2 → ∀ b, b < r.2.2 → a ≠ b → (r.2.1 a).2.1 ≠ (r.2.1 b).2.1) (hkN : k < r.2.2) (hfin : (r.2.1 k).2.2.2 = false) (hdecl : (r.2.1 k).1 = own) (hd : parseFieldDescriptor (r.2.1 k).2.2.1 = some ty) (hn : narrow ty (.int v) = .int v) (hfit : fits ty (.int v) = true) (hlen : k < (fldc K.2.1 mk h ci a).length) (hs : (fldc K.2.1 mk h ci a).set k (.int v) = fldc K.2.1 (mk) (sI h a k v) ci a) (w : Cond.fieldLink own idx (r.2.1 k).1 (r.2.1 k).2.1 (r.2.1 k).2.2.1 ∈ TB) (q : Nat) (hq : pc + 3 = q) (nx : AtC K G cn sn n (mk) (sI h a k v) q lv st) : AtC K G cn sn n mk h pc lv (.int v :: .ref (K.2.1 a) :: st) := by
  subst hq
  obtain ⟨p, l, e, R, s, m, args, below, meth, c, Q, z1, z2, nL⟩ := G
  obtain ⟨hx, hb, hml, hown, hts, hK, hX, hlq, hr1, hr2, hc1, hc2, HK⟩ := id C
  have e9 := wldC_set (ad := K.2.1) (cy := K.2.2.2.2.1) (mk := mk) (mk' := mk) (h := h) (h' := sI h a k v) (a := a) (n := n) (e := .inr (ci, (fldc K.2.1 mk h ci a).set k (.int v))) ha (by rw [celC_O hk h10, hs]) (fun b hb => celC_congr _ _ (sI_o h k v hb) rfl rfl rfl)
  intro H locs ls hz hP hS hl
  refine xa_put hx hb hts hi ty0 hty hnm hown hK hP (wldC_D HK) hS a (by rw [wldC_get _ _ _ _ ha, celC_O hk h10]) hc k hkN (hts _ w) hfin hd hn hfit hlen d (fun H1 locs1 z1 hP1 hS1 => ?_)
  rw [e9] at hP1
  exact nx H1 locs1 ls (z1.trans hz) hP1 hS1 hl
theorem C_putR (C : OkC K G rk mc ms cc own) (I : IniC G) {a idx : Nat} {v : Nat} (d : decode cc pc = .ok (.putfield idx, 3)) (ci k : Nat) {r : vw_C} {ty0 : Nat → FieldType} {ty : FieldType} (hk : isK ci a) (ha : a < n) (h10 : ci < 10) (hc : cls[ci]? = some r) (hi : ∀ w ∈ u_ws r.1 r.2.1 r.2.2, w ∈ TB) (hty : ∀ k, k < r.2.2 → parseFieldDescriptor (r.2.1 k).2.2.1 = some (ty0 k)) (hnm : ∀ a, a < r.2.2 → ∀ b, b < r.2.2 → a ≠ b → (r.2.1 a).2.1 ≠ (r.2.1 b).2.1) (hkN : k < r.2.2) (hfin : (r.2.1 k).2.2.2 = false) (hdecl : (r.2.1 k).1 = own) (hd : parseFieldDescriptor (r.2.1 k).2.2.1 = some ty) (hn : narrow ty (.ref (K.2.1 v)) = .ref (K.2.1 v)) (hfit : fits ty (.ref (K.2.1 v)) = true) (hlen : k < (fldc K.2.1 mk h ci a).length) (hs : (fldc K.2.1 mk h ci a).set k (.ref (K.2.1 v)) = fldc K.2.1 (mk) (sR h a k v) ci a) (w : Cond.fieldLink own idx (r.2.1 k).1 (r.2.1 k).2.1 (r.2.1 k).2.2.1 ∈ TB) (q : Nat) (hq : pc + 3 = q) (nx : AtC K G cn sn n (mk) (sR h a k v) q lv st) : AtC K G cn sn n mk h pc lv (.ref (K.2.1 v) :: .ref (K.2.1 a) :: st) := by
  subst hq
  obtain ⟨p, l, e, R, s, m, args, below, meth, c, Q, z1, z2, nL⟩ := G
  obtain ⟨hx, hb, hml, hown, hts, hK, hX, hlq, hr1, hr2, hc1, hc2, HK⟩ := id C
  have e9 := wldC_set (ad := K.2.1) (cy := K.2.2.2.2.1) (mk := mk) (mk' := mk) (h := h) (h' := sR h a k v) (a := a) (n := n) (e := .inr (ci, (fldc K.2.1 mk h ci a).set k (.ref (K.2.1 v)))) ha (by rw [celC_O hk h10, hs]) (fun b hb => celC_congr _ _ rfl rfl (sR_o h k v hb) rfl)
  intro H locs ls hz hP hS hl
  refine xa_put hx hb hts hi ty0 hty hnm hown hK hP (wldC_D HK) hS a (by rw [wldC_get _ _ _ _ ha, celC_O hk h10]) hc k hkN (hts _ w) hfin hd hn hfit hlen d (fun H1 locs1 z1 hP1 hS1 => ?_)
  rw [e9] at hP1
  exact nx H1 locs1 ls (z1.trans hz) hP1 hS1 hl
theorem C_get (C : OkC K G rk mc ms cc own) {a idx : Nat} {v : Value} (d : decode cc pc = .ok (.getfield idx, 3)) (ci k : Nat) {r : vw_C} (hk : isK ci a) (ha : a < n) (h10 : ci < 10) (hc : cls[ci]? = some r) (hi : ∀ w ∈ u_ws r.1 r.2.1 r.2.2, w ∈ TB) (hkN : k < r.2.2) (hv : (fldc K.2.1 mk h ci a)[k]? = some v) (w : Cond.fieldLink own idx (r.2.1 k).1 (r.2.1 k).2.1 (r.2.1 k).2.2.1 ∈ TB) (q : Nat) (hq : pc + 3 = q) (nx : AtC K G cn sn n mk h q lv (v :: st)) : AtC K G cn sn n mk h pc lv (.ref (K.2.1 a) :: st) := by
  subst hq
  obtain ⟨p, l, e, R, s, m, args, below, meth, c, Q, z1, z2, nL⟩ := G
  obtain ⟨hx, hb, hml, hown, hts, hK, hX, hlq, hr1, hr2, hc1, hc2, HK⟩ := id C
  exact fun H locs ls hz hP hS hl => va_get hx hb hts hi hown hK hP a (by rw [wldC_get _ _ _ _ ha, celC_O hk h10]) hc k hkN (hts _ w) (fun _ z => z) hv d (nx H locs ls hz hP hS hl)
theorem xa_astq {p : Program} {l : Launch} {e : Env} {R : Room} {s : State} {m : MethodId} {args : Array Value} {below : List Frame} {meth : Method} {c : Code} {H : Heap} {locs : List Loc} {cells slots : Nat} {Q : State → Prop} {ls : Array Slot} {rest : List Value} {D : va_G} {A : Nat → Prop} {a : Nat} {tys : List (ClassId × FieldType)} {ws : va_W} {H0 : Heap} (hexec : p.tables.exec = Jvm.exec) (hb : c.code = cc) (hK : va_K D cls tys s) (hP : va_P D cls ws H) (hD : va_D A ws) (hS : va_S A H0 H locs) (q0 t0 qk ci : Nat) {cA : ClassId} {r : vw_C} {len v : Nat} {vs : List Value} {f : Nat → Option Nat} (ha : ws[q0]? = some (a, .inl (cA, len, .inr (.inr (.inr (.inr f)))))) (ht : tys[t0]? = some (cA, .object r.1)) (hv : ws[qk]? = some (v, .inr (ci, vs))) (hc : cls[ci]? = some r) {i : Int32} (hin : vp_in i len) (hdg : decode cc pc = .ok (.aastore, 1))
    (kk : ∀ (H1 : Heap) (locs1 : List Loc), H1.size = H.size → va_P D cls (ws.set q0 (a, .inl (cA, len, .inr (.inr (.inr (.inr (va_up f i.toNatClampNeg (some v)))))))) H1 → va_S A H0 H1 locs1 → W p l e R s m args below meth c H1 locs1 cells slots Q (F0 m (pc + 1) ls rest)) : W p l e R s m args below meth c H locs cells slots Q (F0 m pc ls (.ref v :: .int i :: .ref a :: rest)) := by
  have hlt : i.toNatClampNeg < len := Nat.not_le.mp fun q => hin (Or.inr q)
  have h0 : ¬ i < 0 := fun q => hin (Or.inl q)
  obtain ⟨r', hr', cellV, g1, g2, g3, -⟩ := hP qk _ hv
  have hcls := (hK.1 ci r hc).2
  obtain ⟨kA, comp, k1, k2, k3, -⟩ := (hK.2 t0 _ ht).2
  have hcomp : comp = D.1 ci := Option.some.inj (k3.symm.trans hcls.1)
  subst hcomp
  obtain ⟨kC, hkC, -⟩ := hcls.2
  refine W.aast hexec hb (hP q0 _ ha) (fun q h => by cases h) (fun h => by cases h) k1 k2 rfl hkC ⟨h0, by show _ < (arrV _ _ _).slots.size; rw [arrV_size]; exact hlt⟩ g1 (fun q h => by rw [g3] at h; cases h) (by rw [g2]; exact hkC) (by rw [g2]; exact va_assign hcls) rfl rfl hdg fun H1 e z oq => ?_
  refine kk H1 _ z (hP.set hD ha ?_ oq) (hS.put z oq (hD.2 q0 _ ha))
  show H1[a]? = some (vp_cell _ _)
  rw [e]
  rw [vp_cell_q, vp_cell_q, arrV_store]
  congr 2
  funext q
  by_cases hq : q = i.toNatClampNeg
  · subst hq
    simp [updV, va_up, va_rf]
  · simp [updV, va_up, hq]
theorem C_aast (C : OkC K G rk mc ms cc own) {a len v : Nat} {i : Int32} (d : decode cc pc = .ok (.aastore, 1)) (hk : isA 13 len a) (ha : a < n) (hv : isK 2 v) (hvn : v < n) (hin : vp_in i len) (q : Nat) (hq : pc + 1 = q) (nx : AtC K G cn sn n mk (sR h a (ix i) v) q lv st) : AtC K G cn sn n mk h pc lv (.ref (K.2.1 v) :: .int i :: .ref (K.2.1 a) :: st) := by
  subst hq
  obtain ⟨p, l, e, R, s, m, args, below, meth, c, Q, z1, z2, nL⟩ := G
  obtain ⟨hx, hb, hml, hown, hts, hK, hX, hlq, hr1, hr2, hc1, hc2, HK⟩ := id C
  have e9 := wldC_set (ad := K.2.1) (cy := K.2.2.2.2.1) (mk := mk) (mk' := mk) (h := h) (h' := sR h a (ix i) v) (a := a) (n := n) (e := .inl (K.2.2.2.2.1.2.2.2, len, .inr (.inr (.inr (.inr (va_up (fun j => if h.2.2 a j < NW then some (K.2.1 (h.2.2 a j)) else none) (ix i) (some (K.2.1 v)))))))) ha (by
    rw [celC_N hk]
    congr 7
    funext j
    by_cases e : j = ix i
    · subst e
      simp only [sR, va_up, and_self, if_true, if_pos hv.1]
    · simp [sR, va_up, e]) (fun b hb => celC_congr _ _ rfl rfl (sR_o h _ _ hb) rfl)
  intro H locs ls hz hP hS hl
  refine xa_astq hx hb hK hP (wldC_D HK) hS a 3 v 2 (r := (RX2, TX2, 7)) (by rw [wldC_get _ _ _ _ ha, celC_N hk]) rfl (by rw [wldC_get _ _ _ _ hvn, celC_O hv (by decide)]) rfl hin d (fun H1 locs1 z1 hP1 hS1 => ?_)
  rw [show i.toNatClampNeg = ix i from rfl, e9] at hP1
  exact nx H1 locs1 ls (z1.trans hz) hP1 hS1 hl
theorem C_vret (C : OkC K G rk mc ms cc own) {n' : Nat} {mk' : MK} {h' : HH} (d : decode cc pc = .ok (.return_, 1)) (E : EndC K G mc ms n' mk' h') (hcn : cn = mc) (hsn : sn = ms) (en : n = n') (em : mk = mk') (eh : h = h') : AtC K G cn sn n mk h pc lv [] := by
  subst hcn hsn en em eh
  obtain ⟨p, l, e, R, s, m, args, below, meth, c, Q, z1, z2, nL⟩ := G
  obtain ⟨hx, hb, hml, hown, hts, hK, hX, hlq, hr1, hr2, hc1, hc2, HK⟩ := id C
  obtain ⟨rfl, hrt, hlk⟩ := E
  exact fun H locs ls hz hP hS hl => W.vret hx hb hrt (fun t ht _ => ⟨rfl, by rw [ht]; exact hz, by rw [ht]; exact hP, hS.F ht⟩) hS.2.2 d hlk
theorem C_back {p : Program} {l : Launch} {e : Env} {R : Room} {s : State} {m : MethodId} {args : Array Value} {below : List Frame} {meth : Method} {c : Code} {H : Heap} {locs : List Loc} {cells slots mc' ms' : Nat} {Q : State → Prop} {ls : Array Slot} {st0 rest : List Value} {a : Array Value} {n' : Nat} {mk' : MK} {h' : HH}
    (hr : va_Run p l e R s m args below meth c H locs cells slots mc' ms' (F0 m pc ls st0) rest (PostC K n' mk' h' a) K.2.2.1) (hS : va_S K.2.2.1 s.heap H locs)
    (kk : ∀ (H1 : Heap) (locs1 : List Loc), H1.size = K.2.1 n' → va_P K.2.2.2.1 cls (wldC K.2.1 K.2.2.2.2.1 mk' h' n') H1 → va_S K.2.2.1 s.heap H1 locs1 → W p l e R s m args below meth c H1 locs1 (cells + mc') (slots + ms') Q (F0 m (pc + 3) ls rest)) : W p l e R s m args below meth c H locs cells slots Q (F0 m pc ls st0) := by
  intro T hT X
  obtain ⟨v', st₀, t, T', L, h0, X', hL, e1, e2, ⟨hv, hs, hp, hz, hk⟩, st⟩ := hr T hT X
  cases hv
  rw [h0] at hz hk
  obtain ⟨t2, a1, b1⟩ := kk T'.heap (locs ++ L) (by rw [e1]; exact hs) (by rw [e1]; exact hp)
    ⟨Nat.le_trans hS.1 (by rw [e1]; exact hz), fun q h1 h2 => by rw [e1, hk q (Nat.lt_of_lt_of_le h1 hS.1) h2]; exact hS.2.1 q h1 h2, fun q hq => by
      rcases List.mem_append.mp hq with h | h
      · exact hS.2.2 q h
      · exact hL q h⟩ T' rfl X'
  exact ⟨t2, st t2 a1, b1⟩
def LkI (own : String) (idx : Nat) (y : MethodName) (b : ByteArray) (nL na : Nat) : Prop := Cond.methodLink own idx y ∈ TB ∧ Cond.instanceMethod y ∈ TB ∧ Cond.initialized y.cls ∈ TB ∧ Cond.code y b nL none ∈ TB ∧ y.name = "<init>" ∧ (y.cls ≠ "java/lang/invoke/MethodHandle" ∧ y.cls ≠ "java/lang/invoke/VarHandle" ∧ (parseMethodDescriptor y.desc).map (fun d => d.parameters.length) = some na)
def LkIN (y : MethodName) (b : ByteArray) (nL na : Nat) : Prop := Cond.instanceMethod y ∈ TB ∧ Cond.initialized y.cls ∈ TB ∧ Cond.code y b nL none ∈ TB ∧ y.name = "<init>" ∧ (y.cls ≠ "java/lang/invoke/MethodHandle" ∧ y.cls ≠ "java/lang/invoke/VarHandle" ∧ (parseMethodDescriptor y.desc).map (fun d => d.parameters.length) = some na)
theorem C_call (C : OkC K G rk mc ms cc own) {a idx : Nat} {y : MethodName} {b : ByteArray} {nL' na rk' mc' ms' : Nat} {As : List Value} {n' : Nat} {mk' : MK} {h' : HH} (d : decode cc pc = .ok (.invokespecial idx, 3)) (hM : MC K y b nL' rk' mc' ms' (.ref (K.2.1 a) :: As) n mk h n' mk' h') (lk : LkI own idx y b nL' na) (hrk : rk' + 1 ≤ rk) (hn80 : nL' ≤ 80) (hna : As.length = na) (cn' sn' : Nat) (hcn : cn + mc' = cn') (hsn : sn + ms' = sn') (hcm : cn' ≤ mc) (hsm : sn' ≤ ms) (rest : List Value) (hst : st = As.reverse ++ .ref (K.2.1 a) :: rest) (hW : (rest.map fun v => v.category).sum ≤ 8) (q : Nat) (hq : pc + 3 = q) (nx : AtC K G cn' sn' n' mk' h' q lv rest) : AtC K G cn sn n mk h pc lv st := by
  subst hq hst hcn hsn
  obtain ⟨p, l, e, R, s, m, args, below, meth, c, Q, z1, z2, nL⟩ := G
  obtain ⟨hx, hb, hml, hown, hts, hK, hX, hlq, hr1, hr2, hc1, hc2, HK⟩ := id C
  obtain ⟨k1, k2, k4, k5, k6, k7⟩ := lk
  subst hlq
  intro H locs ls hz hP hS hl
  exact C_back (va_runI (As := As) (rest := rest) ⟨hx, hb, hml, hown, hts⟩ hM ⟨callB_of na hts (good_wsY k5) rfl rfl rfl (hts _ k4) (hts _ k1) k7 ⟨by show rk' + 1 ≤ _; omega, by show _ + 100 * rk' ≤ _; omega⟩, k6, hts _ k2⟩ ⟨PreC.blind K n mk h _, fun U hU hW => ⟨rfl, by rw [hU]; exact hz, by rw [hU]; exact hP, va_K.moved hW.alike hK, hX.go (fun _ _ _ _ z => z.warmM hW) hW.alike⟩⟩ rfl hna hl.1 rfl (lv_room hW) d ⟨by omega, by omega⟩) hS (fun H1 locs1 z1 hP1 hS1 => nx H1 locs1 ls z1 hP1 hS1 hl)
theorem C_callN (C : OkC K G rk mc ms cc own) {a idx : Nat} {y : MethodName} {b : ByteArray} {nL' na rk' mc' ms' : Nat} {As : List Value} {n' : Nat} {mk' : MK} {h' : HH} {host : String} (d : decode cc pc = .ok (.invokespecial idx, 3)) (hN : ∀ s : State, AuxC s → va_Nw (.methodLinkNest own idx y host) s) (hM : MC K y b nL' rk' mc' ms' (.ref (K.2.1 a) :: As) n mk h n' mk' h') (lk : LkIN y b nL' na) (hrk : rk' + 1 ≤ rk) (hn80 : nL' ≤ 80) (hna : As.length = na) (cn' sn' : Nat) (hcn : cn + mc' = cn') (hsn : sn + ms' = sn') (hcm : cn' ≤ mc) (hsm : sn' ≤ ms) (rest : List Value) (hst : st = As.reverse ++ .ref (K.2.1 a) :: rest) (hW : (rest.map fun v => v.category).sum ≤ 8) (q : Nat) (hq : pc + 3 = q) (nx : AtC K G cn' sn' n' mk' h' q lv rest) : AtC K G cn sn n mk h pc lv st := by
  subst hq hst hcn hsn
  obtain ⟨p, l, e, R, s, m, args, below, meth, c, Q, z1, z2, nL⟩ := G
  obtain ⟨hx, hb, hml, hown, hts, hK, hX, hlq, hr1, hr2, hc1, hc2, HK⟩ := id C
  obtain ⟨k2, k4, k5, k6, k7⟩ := lk
  subst hlq
  intro H locs ls hz hP hS hl
  exact C_back (va_runIN (As := As) (rest := rest) ⟨hx, hb, hml, hown, hts⟩ hM ⟨va_cnB na hts (good_wsY k5) rfl rfl rfl (hN s hX) (hts _ k4) k7 ⟨by show rk' + 1 ≤ _; omega, by show _ + 100 * rk' ≤ _; omega⟩, k6, hts _ k2⟩ ⟨PreC.blind K n mk h _, fun U hU hW => ⟨rfl, by rw [hU]; exact hz, by rw [hU]; exact hP, va_K.moved hW.alike hK, hX.go (fun _ _ _ _ z => z.warmM hW) hW.alike⟩⟩ rfl hna hl.1 rfl (lv_room hW) d ⟨by omega, by omega⟩) hS (fun H1 locs1 z1 hP1 hS1 => nx H1 locs1 ls z1 hP1 hS1 hl)

end CROWS
