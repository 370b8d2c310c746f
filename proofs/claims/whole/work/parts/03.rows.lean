def yQuot : MethodName := ⟨RX8, "quotient", "(JJ)J"⟩
def strl : List (String × Nat × String) := [("AsleepInside$Reade\x72", 83, "dream"), ("AsleepInside$Reade\x72", 94, "head"), ("AsleepInside$Reade\x72", 99, "sleepe\x72"), ("AsleepInside$Reade\x72", 108, "down"), ("AsleepInside$Reade\x72", 119, "up"), ("AsleepInside$Reade\x72", 124, "knock"), ("AsleepInside$Reade\x72", 132, "task"), ("AsleepInside$Reade\x72", 140, "pays"), ("AsleepInside$Reade\x72", 145, "thinks"), ("AsleepInside$Reade\x72", 150, "felt"), ("AsleepInside$Reade\x72", 158, "came"), ("AsleepInside$Reade\x72", 169, "did"), ("AsleepInside$Reade\x72", 177, "rates"), ("AsleepInside$Reade\x72", 185, "fall"), ("AsleepInside$Reade\x72", 196, "morning"), ("AsleepInside$Reade\x72", 241, "plain"), ("AsleepInside$Reade\x72", 243, "light"), ("AsleepInside$Reade\x72", 245, "heavy"), ("AsleepInside$Reade\x72", 247, "fond"), ("AsleepInside$Reade\x72", 231, "deaf"), ("AsleepInside$Reade\x72", 237, "dread"), ("AsleepInside$Reade\x72", 239, "chance"), ("AsleepInside$Reade\x72", 249, "afte\x72"), ("AsleepInside$Reade\x72", 254, "floo\x72"), ("AsleepInside$Reade\x72", 256, "at"), ("AsleepInside$Reade\x72", 257, "strong"), ("AsleepInside$Reade\x72", 259, "minutes"), ("AsleepInside$Reade\x72", 261, "risk"), ("AsleepInside$Reade\x72", 263, "awake"), ("AsleepInsideModel", 141, "dream"), ("AsleepInsideModel", 254, "rates"), ("AsleepInsideModel", 260, "fall"), ("AsleepInsideModel", 266, "morning"), ("AsleepInsideModel", 143, "head"), ("AsleepInsideModel", 145, "sleepe\x72"), ("AsleepInsideModel", 147, "down"), ("AsleepInsideModel", 149, "up"), ("AsleepInsideModel", 151, "knock"), ("AsleepInsideModel", 153, "task"), ("AsleepInsideModel", 155, "pays"), ("AsleepInsideModel", 157, "thinks"), ("AsleepInsideModel", 159, "felt"), ("AsleepInsideModel", 161, "came"), ("AsleepInsideModel", 162, "did"), ("AsleepInsideModel", 272, "plain"), ("AsleepInsideModel", 274, "light"), ("AsleepInsideModel", 276, "heavy"), ("AsleepInsideModel", 278, "fond"), ("AsleepInsideModel", 280, "deaf"), ("AsleepInsideModel", 282, "dread"), ("AsleepInsideModel", 284, "chance"), ("AsleepInsideModel", 292, "afte\x72"), ("AsleepInsideModel", 293, "floo\x72"), ("AsleepInsideModel", 295, "at"), ("AsleepInsideModel", 296, "strong"), ("AsleepInsideModel", 298, "minutes"), ("AsleepInsideModel", 300, "risk"), ("AsleepInsideModel", 302, "awake")]
def strb : List (List Int32) := [[100, 114, 101, 97, 109], [104, 101, 97, 100], [115, 108, 101, 101, 112, 101, 114], [100, 111, 119, 110], [117, 112], [107, 110, 111, 99, 107], [116, 97, 115, 107], [112, 97, 121, 115], [116, 104, 105, 110, 107, 115], [102, 101, 108, 116], [99, 97, 109, 101], [100, 105, 100], [114, 97, 116, 101, 115], [102, 97, 108, 108], [109, 111, 114, 110, 105, 110, 103], [112, 108, 97, 105, 110], [108, 105, 103, 104, 116], [104, 101, 97, 118, 121], [102, 111, 110, 100], [100, 101, 97, 102], [100, 114, 101, 97, 100], [99, 104, 97, 110, 99, 101], [97, 102, 116, 101, 114], [102, 108, 111, 111, 114], [97, 116], [115, 116, 114, 111, 110, 103], [109, 105, 110, 117, 116, 101, 115], [114, 105, 115, 107], [97, 119, 97, 107, 101], [100, 114, 101, 97, 109], [114, 97, 116, 101, 115], [102, 97, 108, 108], [109, 111, 114, 110, 105, 110, 103], [104, 101, 97, 100], [115, 108, 101, 101, 112, 101, 114], [100, 111, 119, 110], [117, 112], [107, 110, 111, 99, 107], [116, 97, 115, 107], [112, 97, 121, 115], [116, 104, 105, 110, 107, 115], [102, 101, 108, 116], [99, 97, 109, 101], [100, 105, 100], [112, 108, 97, 105, 110], [108, 105, 103, 104, 116], [104, 101, 97, 118, 121], [102, 111, 110, 100], [100, 101, 97, 102], [100, 114, 101, 97, 100], [99, 104, 97, 110, 99, 101], [97, 102, 116, 101, 114], [102, 108, 111, 111, 114], [97, 116], [115, 116, 114, 111, 110, 103], [109, 105, 110, 117, 116, 101, 115], [114, 105, 115, 107], [97, 119, 97, 107, 101]]
abbrev KX : Type := Launch × (Nat → Nat) × (Nat → Prop) × va_G × CY × (Nat → Nat) × (Nat → Nat)
abbrev GX : Type := Program × Launch × Env × Room × State × MethodId × Array Value × List Frame × Method × Code × (State → Prop) × Nat × Nat × Nat
def tys (cy : CY) : List (ClassId × FieldType) := [(cy.1, .byte), (cy.2.1, .int), (cy.2.2.1, .long), (cy.2.2.2, .object RX2)]
/-- a String constant's cells: outside of A -/
def strOK (K : KX) (i : Nat) (U : State) : Prop :=
  vk_R (strl.getD i ("", 0, "")).1 (strl.getD i ("", 0, "")).2.1 (strl.getD i ("", 0, "")).2.2 (K.2.2.2.2.2.1 i) U ∧
  va_O "java/lang/String" (K.2.2.2.2.2.1 i) K.2.2.1 U U.heap ∧ va_OF "java/lang/String" "code\x72" "B" (.int 0) (K.2.2.2.2.2.1 i) K.2.2.1 U U.heap ∧
  va_OF "java/lang/String" "value" "[B" (.ref (K.2.2.2.2.2.2 i)) (K.2.2.2.2.2.1 i) K.2.2.1 U U.heap ∧
  va_T .byte (K.2.2.2.2.2.2 i) (strb.getD i []).length (fun j => .int ((strb.getD i []).getD j 0)) K.2.2.1 U U.heap
def Aux (K : KX) (U : State) : Prop :=
  (va_Nw (.methodLinkNest RX3 94 yQuot RX8) U ∧ va_Nw (.methodLinkNest RX0 84 yQuot RX8) U ∧ va_Nw (.methodLinkNest RX1 49 yQuot RX8) U) ∧
  va_Z "java/lang/String" "COMPACT_STRINGS" "Z" (.int 1) K.2.2.1 U U.heap ∧
  (∃ z : Nat, va_Z "jdk/internal/util/Preconditions" "SIOOBE_FORMATTER" "Ljava/util/function/BiFunction;" (.ref z) K.2.2.1 U U.heap ∨ va_Z "jdk/internal/util/Preconditions" "SIOOBE_FORMATTER" "Ljava/util/function/BiFunction;" .null K.2.2.1 U U.heap) ∧
  ∀ i, i < 58 → strOK K i U
theorem strOK.go {K : KX} {i : Nat} {s U : State} (h : strOK K i s) (hR : vk_R (strl.getD i ("", 0, "")).1 (strl.getD i ("", 0, "")).2.1 (strl.getD i ("", 0, "")).2.2 (K.2.2.2.2.2.1 i) s → vk_R (strl.getD i ("", 0, "")).1 (strl.getD i ("", 0, "")).2.1 (strl.getD i ("", 0, "")).2.2 (K.2.2.2.2.2.1 i) U) (hvm : s.vm.Alike U.vm) (hq : ∀ a : Nat, a < s.heap.size → ¬ K.2.2.1 a → U.heap[a]? = s.heap[a]?) : strOK K i U :=
  ⟨hR h.1, (va_O.moved hvm h.2.1).kept hq, (va_OF.moved hvm h.2.2.1).kept hq, (va_OF.moved hvm h.2.2.2.1).kept hq, (va_T.moved hvm h.2.2.2.2).kept hq⟩
theorem Aux.go {K : KX} {s U : State} (h : Aux K s) (hN : ∀ a i y z, va_Nw (.methodLinkNest a i y z) s → va_Nw (.methodLinkNest a i y z) U) (hR : ∀ a b c d, vk_R a b c d s → vk_R a b c d U) (hvm : s.vm.Alike U.vm) (hq : ∀ a : Nat, a < s.heap.size → ¬ K.2.2.1 a → U.heap[a]? = s.heap[a]?) : Aux K U := by
  obtain ⟨⟨n1, n2, n3⟩, z1, ⟨z, z2⟩, hs⟩ := h
  refine ⟨⟨hN _ _ _ _ n1, hN _ _ _ _ n2, hN _ _ _ _ n3⟩, (va_Z.moved hvm z1).kept hq, ⟨z, ?_⟩, fun i hi => (hs i hi).go (hR _ _ _ _) hvm hq⟩
  rcases z2 with q | q
  · exact Or.inl ((va_Z.moved hvm q).kept hq)
  · exact Or.inr ((va_Z.moved hvm q).kept hq)
theorem Aux.warm {K : KX} {s U : State} {H : Heap} {locs : List Loc} (h : Aux K s) (hU : U.heap = H) (hW : s.WarmedH U.vm) (hS : va_S K.2.2.1 s.heap H locs) : Aux K U :=
  h.go (fun _ _ _ _ q => q.warmM hW) (fun _ _ _ _ q => q.warm hW) hW.alike (fun a h1 h2 => by rw [hU]; exact hS.2.1 a h1 h2)
theorem Aux.same {K : KX} {s U : State} (h : Aux K s) (h1 : U.heap = s.heap) (h2 : U.vm = s.vm) : Aux K U :=
  h.go (fun _ _ _ _ q => q.same rfl h2.symm) (fun _ _ _ _ q => q.same h2) (by rw [h2]; exact Vm.Alike.refl _) (fun a _ _ => by rw [h1])
theorem va_D_wld {A : Nat → Prop} {ad : Nat → Nat} {cy : CY} {h : HH} (h' : HH) (hD : va_D A (wld ad cy h)) : va_D A (wld ad cy h') := by
  have e : ∀ (k : Nat) (q : Nat × va_E), (wld ad cy h')[k]? = some q → (wld ad cy h)[k]? = some (q.1, cel ad cy h k) := by
    intro k q hq
    have hk : k < NW := by
      have := (List.getElem?_eq_some_iff.mp hq).1
      simpa [wld] using this
    rw [wld_get ad cy h' hk] at hq
    rw [wld_get ad cy h hk]
    obtain rfl := Option.some.inj hq
    rfl
  exact ⟨fun i j p q hp hq he => hD.1 i j _ _ (e i p hp) (e j q hq) he, fun k q hq => hD.2 k (q.1, cel ad cy h k) (e k q hq)⟩
def Pre (K : KX) (h : HH) (U : State) : Prop := va_P K.2.2.2.1 cls (wld K.2.1 K.2.2.2.2.1 h) U.heap ∧ va_K K.2.2.2.1 cls (tys K.2.2.2.2.1) U ∧ va_D K.2.2.1 (wld K.2.1 K.2.2.2.2.1 h) ∧ Aux K U
theorem Pre.blind (K : KX) (h : HH) (as : List Value) : FrameBlind (va_Pc as (Pre K h)) := fun _ U _ _ q => ⟨q.1, q.2.1, va_K.moved (Vm.Alike.refl U.vm) q.2.2.1, q.2.2.2.1, q.2.2.2.2.same rfl rfl⟩
def Post (K : KX) (v : Option Value) (h : HH) : Array Value → State → Outcome → State → Prop := fun _ st o t => o = .returned v ∧ va_P K.2.2.2.1 cls (wld K.2.1 K.2.2.2.2.1 h) t.heap ∧ va_F K.2.2.1 st t
def rmk (rk : Nat) : Room := { frames := rk, cells := 0, slots := 0, locals := 100 * rk }
def wsY (y : MethodName) (b : ByteArray) (n : Nat) (r : Option FieldType) : List Cond := .code y b n r :: TB
/-- A METHOD'S CONTRACT: from the picture h it returns v, with the picture h' -/
def MR (K : KX) (y : MethodName) (b : ByteArray) (n : Nat) (ret : Option FieldType) (rk : Nat) (as : List Value) (h : HH) (v : Option Value) (h' : HH) : Prop :=
  Met K.1 y (wsY y b n ret) (rmk rk) (va_Pc as (Pre K h)) (Post K v h') 0 0 K.2.2.1
/-- the machine at pc, with these locals, this stack and this picture, comes to its end -/
def At (K : KX) (G : GX) (pc : Nat) (lv : List (Nat × Value)) (st : List Value) (h : HH) : Prop := match G with
  | (p, l, e, R, s, m, args, below, meth, c, Q, cells, slots, nL) => ∀ (H : Heap) (locs : List Loc) (ls : Array Slot), va_P K.2.2.2.1 cls (wld K.2.1 K.2.2.2.2.1 h) H → va_D K.2.2.1 (wld K.2.1 K.2.2.2.2.1 h) → va_S K.2.2.1 s.heap H locs → lv_has ls nL lv → W p l e R s m args below meth c H locs cells slots Q (F0 m pc ls st)
def Ok (K : KX) (G : GX) (rk : Nat) (cc : ByteArray) (own : String) : Prop := match G with
  | (p, l, e, R, s, m, args, below, meth, c, Q, cells, slots, nL) => p.tables.exec = Jvm.exec ∧ c.code = cc ∧ c.maxLocals = nL ∧ s.vm.findClass own = some m.cls ∧ (∀ w ∈ TB, w.before args s = true) ∧ va_K K.2.2.2.1 cls (tys K.2.2.2.2.1) s ∧ Aux K s ∧ l = K.1 ∧ rk ≤ R.frames ∧ 100 * rk ≤ R.locals ∧ cells ≤ R.cells ∧ slots ≤ R.slots
def Endd (K : KX) (G : GX) (ret : Option FieldType) (v : Option Value) (h : HH) : Prop := match G with
  | (p, l, e, R, s, m, args, below, meth, c, Q, cells, slots, nL) => Q = MQ below (Post K v h) args s cells slots K.2.2.1 ∧ meth.sig.returnType = ret ∧ meth.locks = false
theorem MR_of {K : KX} {y : MethodName} {b : ByteArray} {n : Nat} {ret : Option FieldType} {rk : Nat} {as : List Value} {h h' : HH} {v : Option Value} (hy : plainName y.cls = true) (hn : (lg_sl as).length ≤ n)
    (body : ∀ G : GX, Ok K G rk b y.cls → Endd K G ret v h' → G.2.2.2.2.2.2.2.2.2.2.2.2.2 = n → At K G 0 (lv_args 0 as) [] h) : MR K y b n ret rk as h v h' := by
  refine Met.ofW (cc := b) (maxL := n) (ret := ret) hy rfl ?_
  intro p e s m args below meth c s₁ B hml hv
  obtain ⟨rfl, hP, hK, hD, hX⟩ := hv
  have hts := atoms_spec (ws := wsY y b n ret) B.pre
  have hl := lv_entry as hn
  rw [lg_entry_eq]
  generalize (lg_sl as ++ List.replicate (n - (lg_sl as).length) Slot.unset).toArray = ls at hl ⊢
  exact body (p, K.1, e, (headSpec (wsY y b n ret) (rmk rk)).room, s, m, as.toArray, below, meth, c, MQ below (Post K v h') as.toArray s 0 0 K.2.2.1, 0, 0, n)
    ⟨B.exec, B.bytes, hml, findClass_of_methodNamed B.named, fun w hw => hts w (List.mem_cons_of_mem _ hw), hK, hX, rfl, Nat.le_refl _, Nat.le_refl _, Nat.le_refl _, Nat.le_refl _⟩
    ⟨rfl, B.returns, B.notSynchronized⟩ rfl s.heap [] ls hP hD va_S.rf hl
/-! guards, binds -/
def gd {α : Type} (b : Bool) (x : Option α) : Option α := bif b then x else none
theorem gd_t {α : Type} {b : Bool} {x : Option α} {r : α} (h : gd b x = some r) : b = true ∧ x = some r := by
  cases b
  · cases h
  · exact ⟨rfl, h⟩
def bd {α β : Type} (x : Option (α × HH)) (f : α → HH → Option β) : Option β := match x with
  | none => none
  | some q => f q.1 q.2
theorem bd_t {α β : Type} {x : Option (α × HH)} {f : α → HH → Option β} {r : β} (h : bd x f = some r) : ∃ a h1, x = some (a, h1) ∧ f a h1 = some r := by
  cases x with
  | none => cases h
  | some q => exact ⟨q.1, q.2, rfl, h⟩
def bv {β : Type} (x : Option HH) (f : HH → Option β) : Option β := match x with
  | none => none
  | some q => f q
theorem bv_t {β : Type} {x : Option HH} {f : HH → Option β} {r : β} (h : bv x f = some r) : ∃ h1, x = some h1 ∧ f h1 = some r := by
  cases x with
  | none => cases h
  | some q => exact ⟨q, rfl, h⟩
def ix (i : Int32) : Nat := i.toNatClampNeg
def inb (i : Int32) (n : Nat) : Bool := decide (¬ i < 0) && decide (ix i < n)
theorem inb_in {i : Int32} {n : Nat} (h : inb i n = true) : vp_in i n := by
  simp only [inb, Bool.and_eq_true, decide_eq_true_eq] at h
  intro q
  rcases q with q | q
  · exact h.1 q
  · have h2 : i.toNatClampNeg < n := h.2
    omega
def b2i (b : Bool) : Int32 := bif b then 1 else 0
theorem b2i_narrow (b : Bool) : narrow .boolean (.int (b2i b)) = .int (b2i b) := by cases b <;> rfl
theorem b2i_0 {b : Bool} : b2i b = 0 ↔ b = false := by cases b <;> decide
section ROWS
variable {K : KX} {G : GX} {rk : Nat} {cc : ByteArray} {own : String} {pc : Nat} {lv : List (Nat × Value)} {st : List Value} {h : HH}
theorem A_sub (ks : List Nat) {lv' : List (Nat × Value)} (hl : lv_pick lv ks = lv') (nx : At K G pc lv' st h) : At K G pc lv st h := by
  obtain ⟨p, l, e, R, s, m, args, below, meth, c, Q, cells, slots, nL⟩ := G
  exact fun H locs ls hP hD hS hl0 => nx H locs ls hP hD hS (lv_sub hl0 ks hl)
theorem A_iconst (C : Ok K G rk cc own) {n : Int} {v : Int32} (d : decode cc pc = .ok (.iconst n, 1)) (hv : Int32.ofInt n = v) (q : Nat) (hq : pc + 1 = q) (nx : At K G q lv (.int v :: st) h) : At K G pc lv (st) h := by
  subst hq
  obtain ⟨p, l, e, R, s, m, args, below, meth, c, Q, cells, slots, nL⟩ := G
  obtain ⟨hx, hb, hml, hown, hts, hK, hX, hlq, hr1, hr2, hc1, hc2⟩ := id C
  exact fun H locs ls hP hD hS hl => lv_iconst hx hb d hv (nx H locs ls hP hD hS hl)
theorem A_bipush (C : Ok K G rk cc own) {n : Int} {v : Int32} (d : decode cc pc = .ok (.bipush n, 2)) (hv : (Int8.ofInt n).toInt32 = v) (q : Nat) (hq : pc + 2 = q) (nx : At K G q lv (.int v :: st) h) : At K G pc lv (st) h := by
  subst hq
  obtain ⟨p, l, e, R, s, m, args, below, meth, c, Q, cells, slots, nL⟩ := G
  obtain ⟨hx, hb, hml, hown, hts, hK, hX, hlq, hr1, hr2, hc1, hc2⟩ := id C
  exact fun H locs ls hP hD hS hl => lv_bipush hx hb d hv (nx H locs ls hP hD hS hl)
theorem A_sipush (C : Ok K G rk cc own) {n : Int} {v : Int32} (d : decode cc pc = .ok (.sipush n, 3)) (hv : (Int16.ofInt n).toInt32 = v) (q : Nat) (hq : pc + 3 = q) (nx : At K G q lv (.int v :: st) h) : At K G pc lv (st) h := by
  subst hq
  obtain ⟨p, l, e, R, s, m, args, below, meth, c, Q, cells, slots, nL⟩ := G
  obtain ⟨hx, hb, hml, hown, hts, hK, hX, hlq, hr1, hr2, hc1, hc2⟩ := id C
  exact fun H locs ls hP hD hS hl => lv_sipush hx hb d hv (nx H locs ls hP hD hS hl)
theorem A_lconst (C : Ok K G rk cc own) {n : Fin 2} {v : Int64} (d : decode cc pc = .ok (.lconst n, 1)) (hv : Int64.ofNat (n : Nat) = v) (q : Nat) (hq : pc + 1 = q) (nx : At K G q lv (.long v :: st) h) : At K G pc lv (st) h := by
  subst hq
  obtain ⟨p, l, e, R, s, m, args, below, meth, c, Q, cells, slots, nL⟩ := G
  obtain ⟨hx, hb, hml, hown, hts, hK, hX, hlq, hr1, hr2, hc1, hc2⟩ := id C
  exact fun H locs ls hP hD hS hl => lv_lconst hx hb d hv (nx H locs ls hP hD hS hl)
theorem A_iload_n (C : Ok K G rk cc own) {k : Fin 4} {i : Nat} {x : Int32} (d : decode cc pc = .ok (.iload_n k, 1)) (hi : (k : Nat) = i) (j : Nat) (hk : lv[j]? = some (i, .int x)) (q : Nat) (hq : pc + 1 = q) (nx : At K G q lv (.int x :: st) h) : At K G pc lv (st) h := by
  subst hq
  obtain ⟨p, l, e, R, s, m, args, below, meth, c, Q, cells, slots, nL⟩ := G
  obtain ⟨hx, hb, hml, hown, hts, hK, hX, hlq, hr1, hr2, hc1, hc2⟩ := id C
  exact fun H locs ls hP hD hS hl => lv_iload_n hx hb d hi (lv_at hl j hk) (nx H locs ls hP hD hS hl)
theorem A_iload (C : Ok K G rk cc own) {i : Nat} {x : Int32} (d : decode cc pc = .ok (.iload i, 2)) (j : Nat) (hk : lv[j]? = some (i, .int x)) (q : Nat) (hq : pc + 2 = q) (nx : At K G q lv (.int x :: st) h) : At K G pc lv (st) h := by
  subst hq
  obtain ⟨p, l, e, R, s, m, args, below, meth, c, Q, cells, slots, nL⟩ := G
  obtain ⟨hx, hb, hml, hown, hts, hK, hX, hlq, hr1, hr2, hc1, hc2⟩ := id C
  exact fun H locs ls hP hD hS hl => lv_iload hx hb d (lv_at hl j hk) (nx H locs ls hP hD hS hl)
theorem A_lload_n (C : Ok K G rk cc own) {k : Fin 4} {i : Nat} {x : Int64} (d : decode cc pc = .ok (.lload_n k, 1)) (hi : (k : Nat) = i) (j : Nat) (hk : lv[j]? = some (i, .long x)) (q : Nat) (hq : pc + 1 = q) (nx : At K G q lv (.long x :: st) h) : At K G pc lv (st) h := by
  subst hq
  obtain ⟨p, l, e, R, s, m, args, below, meth, c, Q, cells, slots, nL⟩ := G
  obtain ⟨hx, hb, hml, hown, hts, hK, hX, hlq, hr1, hr2, hc1, hc2⟩ := id C
  exact fun H locs ls hP hD hS hl => lv_lload_n hx hb d hi (lv_at hl j hk) (nx H locs ls hP hD hS hl)
theorem A_lload (C : Ok K G rk cc own) {i : Nat} {x : Int64} (d : decode cc pc = .ok (.lload i, 2)) (j : Nat) (hk : lv[j]? = some (i, .long x)) (q : Nat) (hq : pc + 2 = q) (nx : At K G q lv (.long x :: st) h) : At K G pc lv (st) h := by
  subst hq
  obtain ⟨p, l, e, R, s, m, args, below, meth, c, Q, cells, slots, nL⟩ := G
  obtain ⟨hx, hb, hml, hown, hts, hK, hX, hlq, hr1, hr2, hc1, hc2⟩ := id C
  exact fun H locs ls hP hD hS hl => lv_lload hx hb d (lv_at hl j hk) (nx H locs ls hP hD hS hl)
theorem A_aload_n (C : Ok K G rk cc own) {k : Fin 4} {i : Nat} {x : Nat} (d : decode cc pc = .ok (.aload_n k, 1)) (hi : (k : Nat) = i) (j : Nat) (hk : lv[j]? = some (i, .ref x)) (q : Nat) (hq : pc + 1 = q) (nx : At K G q lv (.ref x :: st) h) : At K G pc lv (st) h := by
  subst hq
  obtain ⟨p, l, e, R, s, m, args, below, meth, c, Q, cells, slots, nL⟩ := G
  obtain ⟨hx, hb, hml, hown, hts, hK, hX, hlq, hr1, hr2, hc1, hc2⟩ := id C
  exact fun H locs ls hP hD hS hl => lv_aload_n hx hb d hi (lv_at hl j hk) (nx H locs ls hP hD hS hl)
theorem A_aload (C : Ok K G rk cc own) {i : Nat} {x : Nat} (d : decode cc pc = .ok (.aload i, 2)) (j : Nat) (hk : lv[j]? = some (i, .ref x)) (q : Nat) (hq : pc + 2 = q) (nx : At K G q lv (.ref x :: st) h) : At K G pc lv (st) h := by
  subst hq
  obtain ⟨p, l, e, R, s, m, args, below, meth, c, Q, cells, slots, nL⟩ := G
  obtain ⟨hx, hb, hml, hown, hts, hK, hX, hlq, hr1, hr2, hc1, hc2⟩ := id C
  exact fun H locs ls hP hD hS hl => lv_aload hx hb d (lv_at hl j hk) (nx H locs ls hP hD hS hl)
theorem A_istore_n (C : Ok K G rk cc own) {k : Fin 4} {i : Nat} {x : Int32} (d : decode cc pc = .ok (.istore_n k, 1)) (hi : (k : Nat) = i) (lv' : List (Nat × Value)) (hn : i < G.2.2.2.2.2.2.2.2.2.2.2.2.2) (hl9 : (i, Value.int x) :: lv.filter (fun q => !(q.1 == i) && !(q.1 + 1 == i && q.2.category == 2)) = lv') (q : Nat) (hq : pc + 1 = q) (nx : At K G q lv' st h) : At K G pc lv (.int x :: st) h := by
  subst hq
  obtain ⟨p, l, e, R, s, m, args, below, meth, c, Q, cells, slots, nL⟩ := G
  obtain ⟨hx, hb, hml, hown, hts, hK, hX, hlq, hr1, hr2, hc1, hc2⟩ := id C
  exact fun H locs ls hP hD hS hl => lv_istore_n hx hb d hi hl hn hl9 (fun ls' hl' => nx H locs ls' hP hD hS hl')
theorem A_istore (C : Ok K G rk cc own) {i : Nat} {x : Int32} (d : decode cc pc = .ok (.istore i, 2)) (lv' : List (Nat × Value)) (hn : i < G.2.2.2.2.2.2.2.2.2.2.2.2.2) (hl9 : (i, Value.int x) :: lv.filter (fun q => !(q.1 == i) && !(q.1 + 1 == i && q.2.category == 2)) = lv') (q : Nat) (hq : pc + 2 = q) (nx : At K G q lv' st h) : At K G pc lv (.int x :: st) h := by
  subst hq
  obtain ⟨p, l, e, R, s, m, args, below, meth, c, Q, cells, slots, nL⟩ := G
  obtain ⟨hx, hb, hml, hown, hts, hK, hX, hlq, hr1, hr2, hc1, hc2⟩ := id C
  exact fun H locs ls hP hD hS hl => lv_istore hx hb d hl hn hl9 (fun ls' hl' => nx H locs ls' hP hD hS hl')
theorem A_lstore_n (C : Ok K G rk cc own) {k : Fin 4} {i : Nat} {x : Int64} (d : decode cc pc = .ok (.lstore_n k, 1)) (hi : (k : Nat) = i) (lv' : List (Nat × Value)) (hn : i + 1 < G.2.2.2.2.2.2.2.2.2.2.2.2.2) (hl9 : (i, Value.long x) :: lv.filter (fun q => !(q.1 == i) && (!(q.1 == i + 1) && !(q.1 + 1 == i && q.2.category == 2))) = lv') (q : Nat) (hq : pc + 1 = q) (nx : At K G q lv' st h) : At K G pc lv (.long x :: st) h := by
  subst hq
  obtain ⟨p, l, e, R, s, m, args, below, meth, c, Q, cells, slots, nL⟩ := G
  obtain ⟨hx, hb, hml, hown, hts, hK, hX, hlq, hr1, hr2, hc1, hc2⟩ := id C
  exact fun H locs ls hP hD hS hl => lv_lstore_n hx hb d hi hl hn hl9 (fun ls' hl' => nx H locs ls' hP hD hS hl')
theorem A_lstore (C : Ok K G rk cc own) {i : Nat} {x : Int64} (d : decode cc pc = .ok (.lstore i, 2)) (lv' : List (Nat × Value)) (hn : i + 1 < G.2.2.2.2.2.2.2.2.2.2.2.2.2) (hl9 : (i, Value.long x) :: lv.filter (fun q => !(q.1 == i) && (!(q.1 == i + 1) && !(q.1 + 1 == i && q.2.category == 2))) = lv') (q : Nat) (hq : pc + 2 = q) (nx : At K G q lv' st h) : At K G pc lv (.long x :: st) h := by
  subst hq
  obtain ⟨p, l, e, R, s, m, args, below, meth, c, Q, cells, slots, nL⟩ := G
  obtain ⟨hx, hb, hml, hown, hts, hK, hX, hlq, hr1, hr2, hc1, hc2⟩ := id C
  exact fun H locs ls hP hD hS hl => lv_lstore hx hb d hl hn hl9 (fun ls' hl' => nx H locs ls' hP hD hS hl')
theorem A_astore_n (C : Ok K G rk cc own) {k : Fin 4} {i : Nat} {x : Nat} (d : decode cc pc = .ok (.astore_n k, 1)) (hi : (k : Nat) = i) (lv' : List (Nat × Value)) (hn : i < G.2.2.2.2.2.2.2.2.2.2.2.2.2) (hl9 : (i, Value.ref x) :: lv.filter (fun q => !(q.1 == i) && !(q.1 + 1 == i && q.2.category == 2)) = lv') (q : Nat) (hq : pc + 1 = q) (nx : At K G q lv' st h) : At K G pc lv (.ref x :: st) h := by
  subst hq
  obtain ⟨p, l, e, R, s, m, args, below, meth, c, Q, cells, slots, nL⟩ := G
  obtain ⟨hx, hb, hml, hown, hts, hK, hX, hlq, hr1, hr2, hc1, hc2⟩ := id C
  exact fun H locs ls hP hD hS hl => lv_astore_n hx hb d hi hl hn hl9 (fun ls' hl' => nx H locs ls' hP hD hS hl')
theorem A_astore (C : Ok K G rk cc own) {i : Nat} {x : Nat} (d : decode cc pc = .ok (.astore i, 2)) (lv' : List (Nat × Value)) (hn : i < G.2.2.2.2.2.2.2.2.2.2.2.2.2) (hl9 : (i, Value.ref x) :: lv.filter (fun q => !(q.1 == i) && !(q.1 + 1 == i && q.2.category == 2)) = lv') (q : Nat) (hq : pc + 2 = q) (nx : At K G q lv' st h) : At K G pc lv (.ref x :: st) h := by
  subst hq
  obtain ⟨p, l, e, R, s, m, args, below, meth, c, Q, cells, slots, nL⟩ := G
  obtain ⟨hx, hb, hml, hown, hts, hK, hX, hlq, hr1, hr2, hc1, hc2⟩ := id C
  exact fun H locs ls hP hD hS hl => lv_astore hx hb d hl hn hl9 (fun ls' hl' => nx H locs ls' hP hD hS hl')
theorem A_iinc (C : Ok K G rk cc own) {i : Nat} {n : Int} {x v : Int32} (d : decode cc pc = .ok (.iinc i n, 3)) (j : Nat) (hk : lv[j]? = some (i, .int x)) (hv : x + Int32.ofInt n = v) (lv' : List (Nat × Value)) (hn : i < G.2.2.2.2.2.2.2.2.2.2.2.2.2) (hl9 : (i, Value.int v) :: lv.filter (fun q => !(q.1 == i) && !(q.1 + 1 == i && q.2.category == 2)) = lv') (q : Nat) (hq : pc + 3 = q) (nx : At K G q lv' st h) : At K G pc lv st h := by
  subst hq
  obtain ⟨p, l, e, R, s, m, args, below, meth, c, Q, cells, slots, nL⟩ := G
  obtain ⟨hx, hb, hml, hown, hts, hK, hX, hlq, hr1, hr2, hc1, hc2⟩ := id C
  exact fun H locs ls hP hD hS hl => lv_iinc hx hb d hl hk hv hn hl9 (fun ls' hl' => nx H locs ls' hP hD hS hl')
theorem A_iadd (C : Ok K G rk cc own) {x y : Int32} (d : decode cc pc = .ok (.iadd, 1))  (q : Nat) (hq : pc + 1 = q) (nx : At K G q lv (.int (x + y) :: st) h) : At K G pc lv (.int y :: .int x :: st) h := by
  subst hq
  obtain ⟨p, l, e, R, s, m, args, below, meth, c, Q, cells, slots, nL⟩ := G
  obtain ⟨hx, hb, hml, hown, hts, hK, hX, hlq, hr1, hr2, hc1, hc2⟩ := id C
  exact fun H locs ls hP hD hS hl => lv_iadd hx hb d (nx H locs ls hP hD hS hl)
theorem A_isub (C : Ok K G rk cc own) {x y : Int32} (d : decode cc pc = .ok (.isub, 1))  (q : Nat) (hq : pc + 1 = q) (nx : At K G q lv (.int (x - y) :: st) h) : At K G pc lv (.int y :: .int x :: st) h := by
  subst hq
  obtain ⟨p, l, e, R, s, m, args, below, meth, c, Q, cells, slots, nL⟩ := G
  obtain ⟨hx, hb, hml, hown, hts, hK, hX, hlq, hr1, hr2, hc1, hc2⟩ := id C
  exact fun H locs ls hP hD hS hl => lv_isub hx hb d (nx H locs ls hP hD hS hl)
theorem A_imul (C : Ok K G rk cc own) {x y : Int32} (d : decode cc pc = .ok (.imul, 1))  (q : Nat) (hq : pc + 1 = q) (nx : At K G q lv (.int (x * y) :: st) h) : At K G pc lv (.int y :: .int x :: st) h := by
  subst hq
  obtain ⟨p, l, e, R, s, m, args, below, meth, c, Q, cells, slots, nL⟩ := G
  obtain ⟨hx, hb, hml, hown, hts, hK, hX, hlq, hr1, hr2, hc1, hc2⟩ := id C
  exact fun H locs ls hP hD hS hl => lv_imul hx hb d (nx H locs ls hP hD hS hl)
theorem A_iand (C : Ok K G rk cc own) {x y : Int32} (d : decode cc pc = .ok (.iand, 1))  (q : Nat) (hq : pc + 1 = q) (nx : At K G q lv (.int (x &&& y) :: st) h) : At K G pc lv (.int y :: .int x :: st) h := by
  subst hq
  obtain ⟨p, l, e, R, s, m, args, below, meth, c, Q, cells, slots, nL⟩ := G
  obtain ⟨hx, hb, hml, hown, hts, hK, hX, hlq, hr1, hr2, hc1, hc2⟩ := id C
  exact fun H locs ls hP hD hS hl => lv_iand hx hb d (nx H locs ls hP hD hS hl)
theorem A_ior (C : Ok K G rk cc own) {x y : Int32} (d : decode cc pc = .ok (.ior, 1))  (q : Nat) (hq : pc + 1 = q) (nx : At K G q lv (.int (x ||| y) :: st) h) : At K G pc lv (.int y :: .int x :: st) h := by
  subst hq
  obtain ⟨p, l, e, R, s, m, args, below, meth, c, Q, cells, slots, nL⟩ := G
  obtain ⟨hx, hb, hml, hown, hts, hK, hX, hlq, hr1, hr2, hc1, hc2⟩ := id C
  exact fun H locs ls hP hD hS hl => lv_ior hx hb d (nx H locs ls hP hD hS hl)
theorem A_ishl (C : Ok K G rk cc own) {x y : Int32} (d : decode cc pc = .ok (.ishl, 1))  (q : Nat) (hq : pc + 1 = q) (nx : At K G q lv (.int (x <<< (y &&& 31)) :: st) h) : At K G pc lv (.int y :: .int x :: st) h := by
  subst hq
  obtain ⟨p, l, e, R, s, m, args, below, meth, c, Q, cells, slots, nL⟩ := G
  obtain ⟨hx, hb, hml, hown, hts, hK, hX, hlq, hr1, hr2, hc1, hc2⟩ := id C
  exact fun H locs ls hP hD hS hl => lv_ishl hx hb d (nx H locs ls hP hD hS hl)
theorem A_ishr (C : Ok K G rk cc own) {x y : Int32} (d : decode cc pc = .ok (.ishr, 1))  (q : Nat) (hq : pc + 1 = q) (nx : At K G q lv (.int (x >>> (y &&& 31)) :: st) h) : At K G pc lv (.int y :: .int x :: st) h := by
  subst hq
  obtain ⟨p, l, e, R, s, m, args, below, meth, c, Q, cells, slots, nL⟩ := G
  obtain ⟨hx, hb, hml, hown, hts, hK, hX, hlq, hr1, hr2, hc1, hc2⟩ := id C
  exact fun H locs ls hP hD hS hl => lv_ishr hx hb d (nx H locs ls hP hD hS hl)
theorem A_iushr (C : Ok K G rk cc own) {x y : Int32} (d : decode cc pc = .ok (.iushr, 1))  (q : Nat) (hq : pc + 1 = q) (nx : At K G q lv (.int ((x.toUInt32 >>> (y.toUInt32 &&& Int32.toUInt32 31)).toInt32) :: st) h) : At K G pc lv (.int y :: .int x :: st) h := by
  subst hq
  obtain ⟨p, l, e, R, s, m, args, below, meth, c, Q, cells, slots, nL⟩ := G
  obtain ⟨hx, hb, hml, hown, hts, hK, hX, hlq, hr1, hr2, hc1, hc2⟩ := id C
  exact fun H locs ls hP hD hS hl => lv_iushr hx hb d rfl (nx H locs ls hP hD hS hl)
theorem A_idiv (C : Ok K G rk cc own) {x y : Int32} (d : decode cc pc = .ok (.idiv, 1)) (hne : ¬ y = 0) (q : Nat) (hq : pc + 1 = q) (nx : At K G q lv (.int (x / y) :: st) h) : At K G pc lv (.int y :: .int x :: st) h := by
  subst hq
  obtain ⟨p, l, e, R, s, m, args, below, meth, c, Q, cells, slots, nL⟩ := G
  obtain ⟨hx, hb, hml, hown, hts, hK, hX, hlq, hr1, hr2, hc1, hc2⟩ := id C
  exact fun H locs ls hP hD hS hl => lv_idiv hx hb d hne (nx H locs ls hP hD hS hl)
theorem A_irem (C : Ok K G rk cc own) {x y : Int32} (d : decode cc pc = .ok (.irem, 1)) (hne : ¬ y = 0) (q : Nat) (hq : pc + 1 = q) (nx : At K G q lv (.int (x - x / y * y) :: st) h) : At K G pc lv (.int y :: .int x :: st) h := by
  subst hq
  obtain ⟨p, l, e, R, s, m, args, below, meth, c, Q, cells, slots, nL⟩ := G
  obtain ⟨hx, hb, hml, hown, hts, hK, hX, hlq, hr1, hr2, hc1, hc2⟩ := id C
  exact fun H locs ls hP hD hS hl => lv_irem hx hb d hne (nx H locs ls hP hD hS hl)
theorem A_ladd (C : Ok K G rk cc own) {x y : Int64} (d : decode cc pc = .ok (.ladd, 1))  (q : Nat) (hq : pc + 1 = q) (nx : At K G q lv (.long (x + y) :: st) h) : At K G pc lv (.long y :: .long x :: st) h := by
  subst hq
  obtain ⟨p, l, e, R, s, m, args, below, meth, c, Q, cells, slots, nL⟩ := G
  obtain ⟨hx, hb, hml, hown, hts, hK, hX, hlq, hr1, hr2, hc1, hc2⟩ := id C
  exact fun H locs ls hP hD hS hl => lv_ladd hx hb d (nx H locs ls hP hD hS hl)
theorem A_lsub (C : Ok K G rk cc own) {x y : Int64} (d : decode cc pc = .ok (.lsub, 1))  (q : Nat) (hq : pc + 1 = q) (nx : At K G q lv (.long (x - y) :: st) h) : At K G pc lv (.long y :: .long x :: st) h := by
  subst hq
  obtain ⟨p, l, e, R, s, m, args, below, meth, c, Q, cells, slots, nL⟩ := G
  obtain ⟨hx, hb, hml, hown, hts, hK, hX, hlq, hr1, hr2, hc1, hc2⟩ := id C
  exact fun H locs ls hP hD hS hl => lv_lsub hx hb d (nx H locs ls hP hD hS hl)
theorem A_lmul (C : Ok K G rk cc own) {x y : Int64} (d : decode cc pc = .ok (.lmul, 1))  (q : Nat) (hq : pc + 1 = q) (nx : At K G q lv (.long (x * y) :: st) h) : At K G pc lv (.long y :: .long x :: st) h := by
  subst hq
  obtain ⟨p, l, e, R, s, m, args, below, meth, c, Q, cells, slots, nL⟩ := G
  obtain ⟨hx, hb, hml, hown, hts, hK, hX, hlq, hr1, hr2, hc1, hc2⟩ := id C
  exact fun H locs ls hP hD hS hl => lv_lmul hx hb d (nx H locs ls hP hD hS hl)
theorem A_lor (C : Ok K G rk cc own) {x y : Int64} (d : decode cc pc = .ok (.lor, 1))  (q : Nat) (hq : pc + 1 = q) (nx : At K G q lv (.long (x ||| y) :: st) h) : At K G pc lv (.long y :: .long x :: st) h := by
  subst hq
  obtain ⟨p, l, e, R, s, m, args, below, meth, c, Q, cells, slots, nL⟩ := G
  obtain ⟨hx, hb, hml, hown, hts, hK, hX, hlq, hr1, hr2, hc1, hc2⟩ := id C
  exact fun H locs ls hP hD hS hl => lv_lor hx hb d (nx H locs ls hP hD hS hl)
theorem A_ldiv (C : Ok K G rk cc own) {x y : Int64} (d : decode cc pc = .ok (.ldiv, 1)) (hne : ¬ y = 0) (q : Nat) (hq : pc + 1 = q) (nx : At K G q lv (.long (x / y) :: st) h) : At K G pc lv (.long y :: .long x :: st) h := by
  subst hq
  obtain ⟨p, l, e, R, s, m, args, below, meth, c, Q, cells, slots, nL⟩ := G
  obtain ⟨hx, hb, hml, hown, hts, hK, hX, hlq, hr1, hr2, hc1, hc2⟩ := id C
  exact fun H locs ls hP hD hS hl => lv_ldiv hx hb d hne (nx H locs ls hP hD hS hl)
theorem A_lrem (C : Ok K G rk cc own) {x y : Int64} (d : decode cc pc = .ok (.lrem, 1)) (hne : ¬ y = 0) (q : Nat) (hq : pc + 1 = q) (nx : At K G q lv (.long (x - x / y * y) :: st) h) : At K G pc lv (.long y :: .long x :: st) h := by
  subst hq
  obtain ⟨p, l, e, R, s, m, args, below, meth, c, Q, cells, slots, nL⟩ := G
  obtain ⟨hx, hb, hml, hown, hts, hK, hX, hlq, hr1, hr2, hc1, hc2⟩ := id C
  exact fun H locs ls hP hD hS hl => lv_lrem hx hb d hne (nx H locs ls hP hD hS hl)
theorem A_lshl (C : Ok K G rk cc own) {x : Int64} {y : Int32} (d : decode cc pc = .ok (.lshl, 1))  (q : Nat) (hq : pc + 1 = q) (nx : At K G q lv (.long (x <<< (y.toInt64 &&& 63)) :: st) h) : At K G pc lv (.int y :: .long x :: st) h := by
  subst hq
  obtain ⟨p, l, e, R, s, m, args, below, meth, c, Q, cells, slots, nL⟩ := G
  obtain ⟨hx, hb, hml, hown, hts, hK, hX, hlq, hr1, hr2, hc1, hc2⟩ := id C
  exact fun H locs ls hP hD hS hl => lv_lshl hx hb d rfl (nx H locs ls hP hD hS hl)
theorem A_i2l (C : Ok K G rk cc own) {x : Int32} (d : decode cc pc = .ok (.i2l, 1))  (q : Nat) (hq : pc + 1 = q) (nx : At K G q lv (.long x.toInt64 :: st) h) : At K G pc lv (.int x :: st) h := by
  subst hq
  obtain ⟨p, l, e, R, s, m, args, below, meth, c, Q, cells, slots, nL⟩ := G
  obtain ⟨hx, hb, hml, hown, hts, hK, hX, hlq, hr1, hr2, hc1, hc2⟩ := id C
  exact fun H locs ls hP hD hS hl => lv_i2l hx hb d rfl (nx H locs ls hP hD hS hl)
theorem A_l2i (C : Ok K G rk cc own) {x : Int64} (d : decode cc pc = .ok (.l2i, 1))  (q : Nat) (hq : pc + 1 = q) (nx : At K G q lv (.int x.toInt32 :: st) h) : At K G pc lv (.long x :: st) h := by
  subst hq
  obtain ⟨p, l, e, R, s, m, args, below, meth, c, Q, cells, slots, nL⟩ := G
  obtain ⟨hx, hb, hml, hown, hts, hK, hX, hlq, hr1, hr2, hc1, hc2⟩ := id C
  exact fun H locs ls hP hD hS hl => lv_l2i hx hb d rfl (nx H locs ls hP hD hS hl)
theorem A_i2b (C : Ok K G rk cc own) {x : Int32} (d : decode cc pc = .ok (.i2b, 1))  (q : Nat) (hq : pc + 1 = q) (nx : At K G q lv (.int x.toInt8.toInt32 :: st) h) : At K G pc lv (.int x :: st) h := by
  subst hq
  obtain ⟨p, l, e, R, s, m, args, below, meth, c, Q, cells, slots, nL⟩ := G
  obtain ⟨hx, hb, hml, hown, hts, hK, hX, hlq, hr1, hr2, hc1, hc2⟩ := id C
  exact fun H locs ls hP hD hS hl => lv_i2b hx hb d rfl (nx H locs ls hP hD hS hl)
theorem A_dup (C : Ok K G rk cc own) {va : Value} (d : decode cc pc = .ok (.dup, 1)) (hva : va.category = 1) (q : Nat) (hq : pc + 1 = q) (nx : At K G q lv (va :: va :: st) h) : At K G pc lv (va :: st) h := by
  subst hq
  obtain ⟨p, l, e, R, s, m, args, below, meth, c, Q, cells, slots, nL⟩ := G
  obtain ⟨hx, hb, hml, hown, hts, hK, hX, hlq, hr1, hr2, hc1, hc2⟩ := id C
  exact fun H locs ls hP hD hS hl => lv_dup hx hb d hva (nx H locs ls hP hD hS hl)
theorem A_pop (C : Ok K G rk cc own) {va : Value} (d : decode cc pc = .ok (.pop, 1)) (hva : va.category = 1) (q : Nat) (hq : pc + 1 = q) (nx : At K G q lv (st) h) : At K G pc lv (va :: st) h := by
  subst hq
  obtain ⟨p, l, e, R, s, m, args, below, meth, c, Q, cells, slots, nL⟩ := G
  obtain ⟨hx, hb, hml, hown, hts, hK, hX, hlq, hr1, hr2, hc1, hc2⟩ := id C
  exact fun H locs ls hP hD hS hl => lv_pop hx hb d hva (nx H locs ls hP hD hS hl)
theorem A_goto (C : Ok K G rk cc own) {off : Int} (d : decode cc pc = .ok (.goto off, 3)) (tgt : Nat) (ht : (pc : Int) + off = (tgt : Int)) (nx : At K G tgt lv st h) : At K G pc lv st h := by
  obtain ⟨p, l, e, R, s, m, args, below, meth, c, Q, cells, slots, nL⟩ := G
  obtain ⟨hx, hb, hml, hown, hts, hK, hX, hlq, hr1, hr2, hc1, hc2⟩ := id C
  exact fun H locs ls hP hD hS hl => lv_goto hx hb d ht (nx H locs ls hP hD hS hl)
theorem B_if_eq (C : Ok K G rk cc own) {x : Int32} {off : Int} (d : decode cc pc = .ok (.ifCond .eq off, 3)) (tgt : Nat) (ht : (pc : Int) + off = (tgt : Int)) (q : Nat) (hq : pc + 3 = q) (kt : x = 0 → At K G tgt lv st h) (kf : ¬ x = 0 → At K G q lv st h) : At K G pc lv (.int x :: st) h := by
  subst hq
  obtain ⟨p, l, e, R, s, m, args, below, meth, c, Q, cells, slots, nL⟩ := G
  obtain ⟨hx, hb, hml, hown, hts, hK, hX, hlq, hr1, hr2, hc1, hc2⟩ := id C
  exact fun H locs ls hP hD hS hl => lv_if_eq hx hb d ht (fun z => kt z H locs ls hP hD hS hl) (fun z => kf z H locs ls hP hD hS hl)
theorem A_if_eq (C : Ok K G rk cc own) {x : Int32} {off : Int} {α : Type} {T F : Option α} {r : α} (d : decode cc pc = .ok (.ifCond .eq off, 3)) (tgt : Nat) (ht : (pc : Int) + off = (tgt : Int)) (q : Nat) (hq : pc + 3 = q) (hf : (if x = 0 then T else F) = some r) (kt : x = 0 → T = some r → At K G tgt lv st h) (kf : ¬ x = 0 → F = some r → At K G q lv st h) : At K G pc lv (.int x :: st) h :=
  B_if_eq C d tgt ht q hq (fun z => kt z (by rw [if_pos z] at hf; exact hf)) (fun z => kf z (by rw [if_neg z] at hf; exact hf))
theorem B_icmp_eq (C : Ok K G rk cc own) {x y : Int32} {off : Int} (d : decode cc pc = .ok (.if_icmp .eq off, 3)) (tgt : Nat) (ht : (pc : Int) + off = (tgt : Int)) (q : Nat) (hq : pc + 3 = q) (kt : x = y → At K G tgt lv st h) (kf : ¬ x = y → At K G q lv st h) : At K G pc lv (.int y :: .int x :: st) h := by
  subst hq
  obtain ⟨p, l, e, R, s, m, args, below, meth, c, Q, cells, slots, nL⟩ := G
  obtain ⟨hx, hb, hml, hown, hts, hK, hX, hlq, hr1, hr2, hc1, hc2⟩ := id C
  exact fun H locs ls hP hD hS hl => lv_icmp_eq hx hb d ht (fun z => kt z H locs ls hP hD hS hl) (fun z => kf z H locs ls hP hD hS hl)
theorem A_icmp_eq (C : Ok K G rk cc own) {x y : Int32} {off : Int} {α : Type} {T F : Option α} {r : α} (d : decode cc pc = .ok (.if_icmp .eq off, 3)) (tgt : Nat) (ht : (pc : Int) + off = (tgt : Int)) (q : Nat) (hq : pc + 3 = q) (hf : (if x = y then T else F) = some r) (kt : x = y → T = some r → At K G tgt lv st h) (kf : ¬ x = y → F = some r → At K G q lv st h) : At K G pc lv (.int y :: .int x :: st) h :=
  B_icmp_eq C d tgt ht q hq (fun z => kt z (by rw [if_pos z] at hf; exact hf)) (fun z => kf z (by rw [if_neg z] at hf; exact hf))
theorem B_l_eq (C : Ok K G rk cc own) {x y : Int64} {off : Int} (d1 : decode cc pc = .ok (.lcmp, 1)) (d : decode cc (pc + 1) = .ok (.ifCond .eq off, 3)) (tgt : Nat) (ht : ((pc + 1 : Nat) : Int) + off = (tgt : Int)) (q : Nat) (hq : pc + 4 = q) (kt : x = y → At K G tgt lv st h) (kf : ¬ x = y → At K G q lv st h) : At K G pc lv (.long y :: .long x :: st) h := by
  subst hq
  obtain ⟨p, l, e, R, s, m, args, below, meth, c, Q, cells, slots, nL⟩ := G
  obtain ⟨hx, hb, hml, hown, hts, hK, hX, hlq, hr1, hr2, hc1, hc2⟩ := id C
  exact fun H locs ls hP hD hS hl => W.lcmp hx hb d1 (lv_if_eq hx hb d ht (fun z => kt ((lg_cmp_eq _ _).mp z) H locs ls hP hD hS hl) (fun z => kf (fun w => z ((lg_cmp_eq _ _).mpr w)) H locs ls hP hD hS hl))
theorem A_l_eq (C : Ok K G rk cc own) {x y : Int64} {off : Int} {α : Type} {T F : Option α} {r : α} (d1 : decode cc pc = .ok (.lcmp, 1)) (d : decode cc (pc + 1) = .ok (.ifCond .eq off, 3)) (tgt : Nat) (ht : ((pc + 1 : Nat) : Int) + off = (tgt : Int)) (q : Nat) (hq : pc + 4 = q) (hf : (if x = y then T else F) = some r) (kt : x = y → T = some r → At K G tgt lv st h) (kf : ¬ x = y → F = some r → At K G q lv st h) : At K G pc lv (.long y :: .long x :: st) h :=
  B_l_eq C d1 d tgt ht q hq (fun z => kt z (by rw [if_pos z] at hf; exact hf)) (fun z => kf z (by rw [if_neg z] at hf; exact hf))
theorem B_if_ne (C : Ok K G rk cc own) {x : Int32} {off : Int} (d : decode cc pc = .ok (.ifCond .ne off, 3)) (tgt : Nat) (ht : (pc : Int) + off = (tgt : Int)) (q : Nat) (hq : pc + 3 = q) (kt : ¬ x = 0 → At K G tgt lv st h) (kf : x = 0 → At K G q lv st h) : At K G pc lv (.int x :: st) h := by
  subst hq
  obtain ⟨p, l, e, R, s, m, args, below, meth, c, Q, cells, slots, nL⟩ := G
  obtain ⟨hx, hb, hml, hown, hts, hK, hX, hlq, hr1, hr2, hc1, hc2⟩ := id C
  exact fun H locs ls hP hD hS hl => lv_if_ne hx hb d ht (fun z => kt z H locs ls hP hD hS hl) (fun z => kf z H locs ls hP hD hS hl)
theorem A_if_ne (C : Ok K G rk cc own) {x : Int32} {off : Int} {α : Type} {T F : Option α} {r : α} (d : decode cc pc = .ok (.ifCond .ne off, 3)) (tgt : Nat) (ht : (pc : Int) + off = (tgt : Int)) (q : Nat) (hq : pc + 3 = q) (hf : (if x = 0 then T else F) = some r) (kt : ¬ x = 0 → F = some r → At K G tgt lv st h) (kf : x = 0 → T = some r → At K G q lv st h) : At K G pc lv (.int x :: st) h :=
  B_if_ne C d tgt ht q hq (fun z => kt z (by rw [if_neg z] at hf; exact hf)) (fun z => kf z (by rw [if_pos z] at hf; exact hf))
theorem B_icmp_ne (C : Ok K G rk cc own) {x y : Int32} {off : Int} (d : decode cc pc = .ok (.if_icmp .ne off, 3)) (tgt : Nat) (ht : (pc : Int) + off = (tgt : Int)) (q : Nat) (hq : pc + 3 = q) (kt : ¬ x = y → At K G tgt lv st h) (kf : x = y → At K G q lv st h) : At K G pc lv (.int y :: .int x :: st) h := by
  subst hq
  obtain ⟨p, l, e, R, s, m, args, below, meth, c, Q, cells, slots, nL⟩ := G
  obtain ⟨hx, hb, hml, hown, hts, hK, hX, hlq, hr1, hr2, hc1, hc2⟩ := id C
  exact fun H locs ls hP hD hS hl => lv_icmp_ne hx hb d ht (fun z => kt z H locs ls hP hD hS hl) (fun z => kf z H locs ls hP hD hS hl)
theorem A_icmp_ne (C : Ok K G rk cc own) {x y : Int32} {off : Int} {α : Type} {T F : Option α} {r : α} (d : decode cc pc = .ok (.if_icmp .ne off, 3)) (tgt : Nat) (ht : (pc : Int) + off = (tgt : Int)) (q : Nat) (hq : pc + 3 = q) (hf : (if x = y then T else F) = some r) (kt : ¬ x = y → F = some r → At K G tgt lv st h) (kf : x = y → T = some r → At K G q lv st h) : At K G pc lv (.int y :: .int x :: st) h :=
  B_icmp_ne C d tgt ht q hq (fun z => kt z (by rw [if_neg z] at hf; exact hf)) (fun z => kf z (by rw [if_pos z] at hf; exact hf))
theorem B_l_ne (C : Ok K G rk cc own) {x y : Int64} {off : Int} (d1 : decode cc pc = .ok (.lcmp, 1)) (d : decode cc (pc + 1) = .ok (.ifCond .ne off, 3)) (tgt : Nat) (ht : ((pc + 1 : Nat) : Int) + off = (tgt : Int)) (q : Nat) (hq : pc + 4 = q) (kt : ¬ x = y → At K G tgt lv st h) (kf : x = y → At K G q lv st h) : At K G pc lv (.long y :: .long x :: st) h := by
  subst hq
  obtain ⟨p, l, e, R, s, m, args, below, meth, c, Q, cells, slots, nL⟩ := G
  obtain ⟨hx, hb, hml, hown, hts, hK, hX, hlq, hr1, hr2, hc1, hc2⟩ := id C
  exact fun H locs ls hP hD hS hl => W.lcmp hx hb d1 (lv_if_ne hx hb d ht (fun z => kt (fun w => z ((lg_cmp_eq _ _).mpr w)) H locs ls hP hD hS hl) (fun z => kf ((lg_cmp_eq _ _).mp z) H locs ls hP hD hS hl))
theorem A_l_ne (C : Ok K G rk cc own) {x y : Int64} {off : Int} {α : Type} {T F : Option α} {r : α} (d1 : decode cc pc = .ok (.lcmp, 1)) (d : decode cc (pc + 1) = .ok (.ifCond .ne off, 3)) (tgt : Nat) (ht : ((pc + 1 : Nat) : Int) + off = (tgt : Int)) (q : Nat) (hq : pc + 4 = q) (hf : (if x = y then T else F) = some r) (kt : ¬ x = y → F = some r → At K G tgt lv st h) (kf : x = y → T = some r → At K G q lv st h) : At K G pc lv (.long y :: .long x :: st) h :=
  B_l_ne C d1 d tgt ht q hq (fun z => kt z (by rw [if_neg z] at hf; exact hf)) (fun z => kf z (by rw [if_pos z] at hf; exact hf))
theorem B_if_lt (C : Ok K G rk cc own) {x : Int32} {off : Int} (d : decode cc pc = .ok (.ifCond .lt off, 3)) (tgt : Nat) (ht : (pc : Int) + off = (tgt : Int)) (q : Nat) (hq : pc + 3 = q) (kt : x < 0 → At K G tgt lv st h) (kf : ¬ x < 0 → At K G q lv st h) : At K G pc lv (.int x :: st) h := by
  subst hq
  obtain ⟨p, l, e, R, s, m, args, below, meth, c, Q, cells, slots, nL⟩ := G
  obtain ⟨hx, hb, hml, hown, hts, hK, hX, hlq, hr1, hr2, hc1, hc2⟩ := id C
  exact fun H locs ls hP hD hS hl => lv_if_lt hx hb d ht (fun z => kt z H locs ls hP hD hS hl) (fun z => kf z H locs ls hP hD hS hl)
theorem A_if_lt (C : Ok K G rk cc own) {x : Int32} {off : Int} {α : Type} {T F : Option α} {r : α} (d : decode cc pc = .ok (.ifCond .lt off, 3)) (tgt : Nat) (ht : (pc : Int) + off = (tgt : Int)) (q : Nat) (hq : pc + 3 = q) (hf : (if x < 0 then T else F) = some r) (kt : x < 0 → T = some r → At K G tgt lv st h) (kf : ¬ x < 0 → F = some r → At K G q lv st h) : At K G pc lv (.int x :: st) h :=
  B_if_lt C d tgt ht q hq (fun z => kt z (by rw [if_pos z] at hf; exact hf)) (fun z => kf z (by rw [if_neg z] at hf; exact hf))
theorem B_icmp_lt (C : Ok K G rk cc own) {x y : Int32} {off : Int} (d : decode cc pc = .ok (.if_icmp .lt off, 3)) (tgt : Nat) (ht : (pc : Int) + off = (tgt : Int)) (q : Nat) (hq : pc + 3 = q) (kt : x < y → At K G tgt lv st h) (kf : ¬ x < y → At K G q lv st h) : At K G pc lv (.int y :: .int x :: st) h := by
  subst hq
  obtain ⟨p, l, e, R, s, m, args, below, meth, c, Q, cells, slots, nL⟩ := G
  obtain ⟨hx, hb, hml, hown, hts, hK, hX, hlq, hr1, hr2, hc1, hc2⟩ := id C
  exact fun H locs ls hP hD hS hl => lv_icmp_lt hx hb d ht (fun z => kt z H locs ls hP hD hS hl) (fun z => kf z H locs ls hP hD hS hl)
theorem A_icmp_lt (C : Ok K G rk cc own) {x y : Int32} {off : Int} {α : Type} {T F : Option α} {r : α} (d : decode cc pc = .ok (.if_icmp .lt off, 3)) (tgt : Nat) (ht : (pc : Int) + off = (tgt : Int)) (q : Nat) (hq : pc + 3 = q) (hf : (if x < y then T else F) = some r) (kt : x < y → T = some r → At K G tgt lv st h) (kf : ¬ x < y → F = some r → At K G q lv st h) : At K G pc lv (.int y :: .int x :: st) h :=
  B_icmp_lt C d tgt ht q hq (fun z => kt z (by rw [if_pos z] at hf; exact hf)) (fun z => kf z (by rw [if_neg z] at hf; exact hf))
theorem B_l_lt (C : Ok K G rk cc own) {x y : Int64} {off : Int} (d1 : decode cc pc = .ok (.lcmp, 1)) (d : decode cc (pc + 1) = .ok (.ifCond .lt off, 3)) (tgt : Nat) (ht : ((pc + 1 : Nat) : Int) + off = (tgt : Int)) (q : Nat) (hq : pc + 4 = q) (kt : x < y → At K G tgt lv st h) (kf : ¬ x < y → At K G q lv st h) : At K G pc lv (.long y :: .long x :: st) h := by
  subst hq
  obtain ⟨p, l, e, R, s, m, args, below, meth, c, Q, cells, slots, nL⟩ := G
  obtain ⟨hx, hb, hml, hown, hts, hK, hX, hlq, hr1, hr2, hc1, hc2⟩ := id C
  exact fun H locs ls hP hD hS hl => W.lcmp hx hb d1 (lv_if_lt hx hb d ht (fun z => kt ((lg_cmp_lt _ _).mp z) H locs ls hP hD hS hl) (fun z => kf (fun w => z ((lg_cmp_lt _ _).mpr w)) H locs ls hP hD hS hl))
theorem A_l_lt (C : Ok K G rk cc own) {x y : Int64} {off : Int} {α : Type} {T F : Option α} {r : α} (d1 : decode cc pc = .ok (.lcmp, 1)) (d : decode cc (pc + 1) = .ok (.ifCond .lt off, 3)) (tgt : Nat) (ht : ((pc + 1 : Nat) : Int) + off = (tgt : Int)) (q : Nat) (hq : pc + 4 = q) (hf : (if x < y then T else F) = some r) (kt : x < y → T = some r → At K G tgt lv st h) (kf : ¬ x < y → F = some r → At K G q lv st h) : At K G pc lv (.long y :: .long x :: st) h :=
  B_l_lt C d1 d tgt ht q hq (fun z => kt z (by rw [if_pos z] at hf; exact hf)) (fun z => kf z (by rw [if_neg z] at hf; exact hf))
theorem B_if_ge (C : Ok K G rk cc own) {x : Int32} {off : Int} (d : decode cc pc = .ok (.ifCond .ge off, 3)) (tgt : Nat) (ht : (pc : Int) + off = (tgt : Int)) (q : Nat) (hq : pc + 3 = q) (kt : 0 ≤ x → At K G tgt lv st h) (kf : ¬ 0 ≤ x → At K G q lv st h) : At K G pc lv (.int x :: st) h := by
  subst hq
  obtain ⟨p, l, e, R, s, m, args, below, meth, c, Q, cells, slots, nL⟩ := G
  obtain ⟨hx, hb, hml, hown, hts, hK, hX, hlq, hr1, hr2, hc1, hc2⟩ := id C
  exact fun H locs ls hP hD hS hl => lv_if_ge hx hb d ht (fun z => kt z H locs ls hP hD hS hl) (fun z => kf z H locs ls hP hD hS hl)
theorem A_if_ge (C : Ok K G rk cc own) {x : Int32} {off : Int} {α : Type} {T F : Option α} {r : α} (d : decode cc pc = .ok (.ifCond .ge off, 3)) (tgt : Nat) (ht : (pc : Int) + off = (tgt : Int)) (q : Nat) (hq : pc + 3 = q) (hf : (if 0 ≤ x then T else F) = some r) (kt : 0 ≤ x → T = some r → At K G tgt lv st h) (kf : ¬ 0 ≤ x → F = some r → At K G q lv st h) : At K G pc lv (.int x :: st) h :=
  B_if_ge C d tgt ht q hq (fun z => kt z (by rw [if_pos z] at hf; exact hf)) (fun z => kf z (by rw [if_neg z] at hf; exact hf))
theorem B_icmp_ge (C : Ok K G rk cc own) {x y : Int32} {off : Int} (d : decode cc pc = .ok (.if_icmp .ge off, 3)) (tgt : Nat) (ht : (pc : Int) + off = (tgt : Int)) (q : Nat) (hq : pc + 3 = q) (kt : y ≤ x → At K G tgt lv st h) (kf : ¬ y ≤ x → At K G q lv st h) : At K G pc lv (.int y :: .int x :: st) h := by
  subst hq
  obtain ⟨p, l, e, R, s, m, args, below, meth, c, Q, cells, slots, nL⟩ := G
  obtain ⟨hx, hb, hml, hown, hts, hK, hX, hlq, hr1, hr2, hc1, hc2⟩ := id C
  exact fun H locs ls hP hD hS hl => lv_icmp_ge hx hb d ht (fun z => kt z H locs ls hP hD hS hl) (fun z => kf z H locs ls hP hD hS hl)
theorem A_icmp_ge (C : Ok K G rk cc own) {x y : Int32} {off : Int} {α : Type} {T F : Option α} {r : α} (d : decode cc pc = .ok (.if_icmp .ge off, 3)) (tgt : Nat) (ht : (pc : Int) + off = (tgt : Int)) (q : Nat) (hq : pc + 3 = q) (hf : (if y ≤ x then T else F) = some r) (kt : y ≤ x → T = some r → At K G tgt lv st h) (kf : ¬ y ≤ x → F = some r → At K G q lv st h) : At K G pc lv (.int y :: .int x :: st) h :=
  B_icmp_ge C d tgt ht q hq (fun z => kt z (by rw [if_pos z] at hf; exact hf)) (fun z => kf z (by rw [if_neg z] at hf; exact hf))
theorem B_l_ge (C : Ok K G rk cc own) {x y : Int64} {off : Int} (d1 : decode cc pc = .ok (.lcmp, 1)) (d : decode cc (pc + 1) = .ok (.ifCond .ge off, 3)) (tgt : Nat) (ht : ((pc + 1 : Nat) : Int) + off = (tgt : Int)) (q : Nat) (hq : pc + 4 = q) (kt : y ≤ x → At K G tgt lv st h) (kf : ¬ y ≤ x → At K G q lv st h) : At K G pc lv (.long y :: .long x :: st) h := by
  subst hq
  obtain ⟨p, l, e, R, s, m, args, below, meth, c, Q, cells, slots, nL⟩ := G
  obtain ⟨hx, hb, hml, hown, hts, hK, hX, hlq, hr1, hr2, hc1, hc2⟩ := id C
  exact fun H locs ls hP hD hS hl => W.lcmp hx hb d1 (lv_if_ge hx hb d ht (fun z => kt ((lg_cmp_ge _ _).mp z) H locs ls hP hD hS hl) (fun z => kf (fun w => z ((lg_cmp_ge _ _).mpr w)) H locs ls hP hD hS hl))
theorem A_l_ge (C : Ok K G rk cc own) {x y : Int64} {off : Int} {α : Type} {T F : Option α} {r : α} (d1 : decode cc pc = .ok (.lcmp, 1)) (d : decode cc (pc + 1) = .ok (.ifCond .ge off, 3)) (tgt : Nat) (ht : ((pc + 1 : Nat) : Int) + off = (tgt : Int)) (q : Nat) (hq : pc + 4 = q) (hf : (if y ≤ x then T else F) = some r) (kt : y ≤ x → T = some r → At K G tgt lv st h) (kf : ¬ y ≤ x → F = some r → At K G q lv st h) : At K G pc lv (.long y :: .long x :: st) h :=
  B_l_ge C d1 d tgt ht q hq (fun z => kt z (by rw [if_pos z] at hf; exact hf)) (fun z => kf z (by rw [if_neg z] at hf; exact hf))
theorem B_if_gt (C : Ok K G rk cc own) {x : Int32} {off : Int} (d : decode cc pc = .ok (.ifCond .gt off, 3)) (tgt : Nat) (ht : (pc : Int) + off = (tgt : Int)) (q : Nat) (hq : pc + 3 = q) (kt : 0 < x → At K G tgt lv st h) (kf : ¬ 0 < x → At K G q lv st h) : At K G pc lv (.int x :: st) h := by
  subst hq
  obtain ⟨p, l, e, R, s, m, args, below, meth, c, Q, cells, slots, nL⟩ := G
  obtain ⟨hx, hb, hml, hown, hts, hK, hX, hlq, hr1, hr2, hc1, hc2⟩ := id C
  exact fun H locs ls hP hD hS hl => lv_if_gt hx hb d ht (fun z => kt z H locs ls hP hD hS hl) (fun z => kf z H locs ls hP hD hS hl)
theorem A_if_gt (C : Ok K G rk cc own) {x : Int32} {off : Int} {α : Type} {T F : Option α} {r : α} (d : decode cc pc = .ok (.ifCond .gt off, 3)) (tgt : Nat) (ht : (pc : Int) + off = (tgt : Int)) (q : Nat) (hq : pc + 3 = q) (hf : (if 0 < x then T else F) = some r) (kt : 0 < x → T = some r → At K G tgt lv st h) (kf : ¬ 0 < x → F = some r → At K G q lv st h) : At K G pc lv (.int x :: st) h :=
  B_if_gt C d tgt ht q hq (fun z => kt z (by rw [if_pos z] at hf; exact hf)) (fun z => kf z (by rw [if_neg z] at hf; exact hf))
theorem B_icmp_gt (C : Ok K G rk cc own) {x y : Int32} {off : Int} (d : decode cc pc = .ok (.if_icmp .gt off, 3)) (tgt : Nat) (ht : (pc : Int) + off = (tgt : Int)) (q : Nat) (hq : pc + 3 = q) (kt : y < x → At K G tgt lv st h) (kf : ¬ y < x → At K G q lv st h) : At K G pc lv (.int y :: .int x :: st) h := by
  subst hq
  obtain ⟨p, l, e, R, s, m, args, below, meth, c, Q, cells, slots, nL⟩ := G
  obtain ⟨hx, hb, hml, hown, hts, hK, hX, hlq, hr1, hr2, hc1, hc2⟩ := id C
  exact fun H locs ls hP hD hS hl => lv_icmp_gt hx hb d ht (fun z => kt z H locs ls hP hD hS hl) (fun z => kf z H locs ls hP hD hS hl)
theorem A_icmp_gt (C : Ok K G rk cc own) {x y : Int32} {off : Int} {α : Type} {T F : Option α} {r : α} (d : decode cc pc = .ok (.if_icmp .gt off, 3)) (tgt : Nat) (ht : (pc : Int) + off = (tgt : Int)) (q : Nat) (hq : pc + 3 = q) (hf : (if y < x then T else F) = some r) (kt : y < x → T = some r → At K G tgt lv st h) (kf : ¬ y < x → F = some r → At K G q lv st h) : At K G pc lv (.int y :: .int x :: st) h :=
  B_icmp_gt C d tgt ht q hq (fun z => kt z (by rw [if_pos z] at hf; exact hf)) (fun z => kf z (by rw [if_neg z] at hf; exact hf))
theorem B_l_gt (C : Ok K G rk cc own) {x y : Int64} {off : Int} (d1 : decode cc pc = .ok (.lcmp, 1)) (d : decode cc (pc + 1) = .ok (.ifCond .gt off, 3)) (tgt : Nat) (ht : ((pc + 1 : Nat) : Int) + off = (tgt : Int)) (q : Nat) (hq : pc + 4 = q) (kt : y < x → At K G tgt lv st h) (kf : ¬ y < x → At K G q lv st h) : At K G pc lv (.long y :: .long x :: st) h := by
  subst hq
  obtain ⟨p, l, e, R, s, m, args, below, meth, c, Q, cells, slots, nL⟩ := G
  obtain ⟨hx, hb, hml, hown, hts, hK, hX, hlq, hr1, hr2, hc1, hc2⟩ := id C
  exact fun H locs ls hP hD hS hl => W.lcmp hx hb d1 (lv_if_gt hx hb d ht (fun z => kt ((lg_cmp_gt _ _).mp z) H locs ls hP hD hS hl) (fun z => kf (fun w => z ((lg_cmp_gt _ _).mpr w)) H locs ls hP hD hS hl))
theorem A_l_gt (C : Ok K G rk cc own) {x y : Int64} {off : Int} {α : Type} {T F : Option α} {r : α} (d1 : decode cc pc = .ok (.lcmp, 1)) (d : decode cc (pc + 1) = .ok (.ifCond .gt off, 3)) (tgt : Nat) (ht : ((pc + 1 : Nat) : Int) + off = (tgt : Int)) (q : Nat) (hq : pc + 4 = q) (hf : (if y < x then T else F) = some r) (kt : y < x → T = some r → At K G tgt lv st h) (kf : ¬ y < x → F = some r → At K G q lv st h) : At K G pc lv (.long y :: .long x :: st) h :=
  B_l_gt C d1 d tgt ht q hq (fun z => kt z (by rw [if_pos z] at hf; exact hf)) (fun z => kf z (by rw [if_neg z] at hf; exact hf))
theorem B_if_le (C : Ok K G rk cc own) {x : Int32} {off : Int} (d : decode cc pc = .ok (.ifCond .le off, 3)) (tgt : Nat) (ht : (pc : Int) + off = (tgt : Int)) (q : Nat) (hq : pc + 3 = q) (kt : x ≤ 0 → At K G tgt lv st h) (kf : ¬ x ≤ 0 → At K G q lv st h) : At K G pc lv (.int x :: st) h := by
  subst hq
  obtain ⟨p, l, e, R, s, m, args, below, meth, c, Q, cells, slots, nL⟩ := G
  obtain ⟨hx, hb, hml, hown, hts, hK, hX, hlq, hr1, hr2, hc1, hc2⟩ := id C
  exact fun H locs ls hP hD hS hl => lv_if_le hx hb d ht (fun z => kt z H locs ls hP hD hS hl) (fun z => kf z H locs ls hP hD hS hl)
theorem A_if_le (C : Ok K G rk cc own) {x : Int32} {off : Int} {α : Type} {T F : Option α} {r : α} (d : decode cc pc = .ok (.ifCond .le off, 3)) (tgt : Nat) (ht : (pc : Int) + off = (tgt : Int)) (q : Nat) (hq : pc + 3 = q) (hf : (if x ≤ 0 then T else F) = some r) (kt : x ≤ 0 → T = some r → At K G tgt lv st h) (kf : ¬ x ≤ 0 → F = some r → At K G q lv st h) : At K G pc lv (.int x :: st) h :=
  B_if_le C d tgt ht q hq (fun z => kt z (by rw [if_pos z] at hf; exact hf)) (fun z => kf z (by rw [if_neg z] at hf; exact hf))
theorem B_icmp_le (C : Ok K G rk cc own) {x y : Int32} {off : Int} (d : decode cc pc = .ok (.if_icmp .le off, 3)) (tgt : Nat) (ht : (pc : Int) + off = (tgt : Int)) (q : Nat) (hq : pc + 3 = q) (kt : x ≤ y → At K G tgt lv st h) (kf : ¬ x ≤ y → At K G q lv st h) : At K G pc lv (.int y :: .int x :: st) h := by
  subst hq
  obtain ⟨p, l, e, R, s, m, args, below, meth, c, Q, cells, slots, nL⟩ := G
  obtain ⟨hx, hb, hml, hown, hts, hK, hX, hlq, hr1, hr2, hc1, hc2⟩ := id C
  exact fun H locs ls hP hD hS hl => lv_icmp_le hx hb d ht (fun z => kt z H locs ls hP hD hS hl) (fun z => kf z H locs ls hP hD hS hl)
theorem A_icmp_le (C : Ok K G rk cc own) {x y : Int32} {off : Int} {α : Type} {T F : Option α} {r : α} (d : decode cc pc = .ok (.if_icmp .le off, 3)) (tgt : Nat) (ht : (pc : Int) + off = (tgt : Int)) (q : Nat) (hq : pc + 3 = q) (hf : (if x ≤ y then T else F) = some r) (kt : x ≤ y → T = some r → At K G tgt lv st h) (kf : ¬ x ≤ y → F = some r → At K G q lv st h) : At K G pc lv (.int y :: .int x :: st) h :=
  B_icmp_le C d tgt ht q hq (fun z => kt z (by rw [if_pos z] at hf; exact hf)) (fun z => kf z (by rw [if_neg z] at hf; exact hf))
theorem B_l_le (C : Ok K G rk cc own) {x y : Int64} {off : Int} (d1 : decode cc pc = .ok (.lcmp, 1)) (d : decode cc (pc + 1) = .ok (.ifCond .le off, 3)) (tgt : Nat) (ht : ((pc + 1 : Nat) : Int) + off = (tgt : Int)) (q : Nat) (hq : pc + 4 = q) (kt : x ≤ y → At K G tgt lv st h) (kf : ¬ x ≤ y → At K G q lv st h) : At K G pc lv (.long y :: .long x :: st) h := by
  subst hq
  obtain ⟨p, l, e, R, s, m, args, below, meth, c, Q, cells, slots, nL⟩ := G
  obtain ⟨hx, hb, hml, hown, hts, hK, hX, hlq, hr1, hr2, hc1, hc2⟩ := id C
  exact fun H locs ls hP hD hS hl => W.lcmp hx hb d1 (lv_if_le hx hb d ht (fun z => kt ((lg_cmp_le _ _).mp z) H locs ls hP hD hS hl) (fun z => kf (fun w => z ((lg_cmp_le _ _).mpr w)) H locs ls hP hD hS hl))
theorem A_l_le (C : Ok K G rk cc own) {x y : Int64} {off : Int} {α : Type} {T F : Option α} {r : α} (d1 : decode cc pc = .ok (.lcmp, 1)) (d : decode cc (pc + 1) = .ok (.ifCond .le off, 3)) (tgt : Nat) (ht : ((pc + 1 : Nat) : Int) + off = (tgt : Int)) (q : Nat) (hq : pc + 4 = q) (hf : (if x ≤ y then T else F) = some r) (kt : x ≤ y → T = some r → At K G tgt lv st h) (kf : ¬ x ≤ y → F = some r → At K G q lv st h) : At K G pc lv (.long y :: .long x :: st) h :=
  B_l_le C d1 d tgt ht q hq (fun z => kt z (by rw [if_pos z] at hf; exact hf)) (fun z => kf z (by rw [if_neg z] at hf; exact hf))
theorem A_z_eq (C : Ok K G rk cc own) {b : Bool} {off : Int} {α : Type} {T F : Option α} {r : α} (d : decode cc pc = .ok (.ifCond .eq off, 3)) (tgt : Nat) (ht : (pc : Int) + off = (tgt : Int)) (q : Nat) (hq : pc + 3 = q) (hf : (bif b then T else F) = some r) (kt : b = false → F = some r → At K G tgt lv st h) (kf : b = true → T = some r → At K G q lv st h) : At K G pc lv (.int (b2i b) :: st) h := by
  cases b
  · exact B_if_eq C d tgt ht q hq (fun _ => kt rfl hf) (fun z => absurd rfl z)
  · exact B_if_eq C d tgt ht q hq (fun z => absurd z (by decide)) (fun _ => kf rfl hf)
theorem A_z_ne (C : Ok K G rk cc own) {b : Bool} {off : Int} {α : Type} {T F : Option α} {r : α} (d : decode cc pc = .ok (.ifCond .ne off, 3)) (tgt : Nat) (ht : (pc : Int) + off = (tgt : Int)) (q : Nat) (hq : pc + 3 = q) (hf : (bif b then T else F) = some r) (kt : b = true → T = some r → At K G tgt lv st h) (kf : b = false → F = some r → At K G q lv st h) : At K G pc lv (.int (b2i b) :: st) h := by
  cases b
  · exact B_if_ne C d tgt ht q hq (fun z => absurd rfl z) (fun _ => kf rfl hf)
  · exact B_if_ne C d tgt ht q hq (fun _ => kt rfl hf) (fun z => absurd z (by decide))
theorem A_ldc (C : Ok K G rk cc own) {index : Nat} {v : Int32} (d : decode cc pc = .ok (.ldc index, 2)) (w : Cond.constant own index v ∈ TB) (q : Nat) (hq : pc + 2 = q) (nx : At K G q lv (.int v :: st) h) : At K G pc lv (st) h := by
  subst hq
  obtain ⟨p, l, e, R, s, m, args, below, meth, c, Q, cells, slots, nL⟩ := G
  obtain ⟨hx, hb, hml, hown, hts, hK, hX, hlq, hr1, hr2, hc1, hc2⟩ := id C
  exact fun H locs ls hP hD hS hl => lv_ldc hx hb hown (hts _ w) d (nx H locs ls hP hD hS hl)
theorem A_ldcw (C : Ok K G rk cc own) {index : Nat} {v : Int32} (d : decode cc pc = .ok (.ldc_w index, 3)) (w : Cond.constant own index v ∈ TB) (q : Nat) (hq : pc + 3 = q) (nx : At K G q lv (.int v :: st) h) : At K G pc lv (st) h := by
  subst hq
  obtain ⟨p, l, e, R, s, m, args, below, meth, c, Q, cells, slots, nL⟩ := G
  obtain ⟨hx, hb, hml, hown, hts, hK, hX, hlq, hr1, hr2, hc1, hc2⟩ := id C
  exact fun H locs ls hP hD hS hl => lv_ldcw hx hb hown (hts _ w) d (nx H locs ls hP hD hS hl)
theorem A_ldc2 (C : Ok K G rk cc own) {index : Nat} {v : Int64} (d : decode cc pc = .ok (.ldc2_w index, 3)) (w : Cond.constantLong own index v ∈ TB) (q : Nat) (hq : pc + 3 = q) (nx : At K G q lv (.long v :: st) h) : At K G pc lv (st) h := by
  subst hq
  obtain ⟨p, l, e, R, s, m, args, below, meth, c, Q, cells, slots, nL⟩ := G
  obtain ⟨hx, hb, hml, hown, hts, hK, hX, hlq, hr1, hr2, hc1, hc2⟩ := id C
  exact fun H locs ls hP hD hS hl => lv_ldc2 hx hb hown (hts _ w) d (nx H locs ls hP hD hS hl)
theorem A_get (C : Ok K G rk cc own) {a idx : Nat} {v : Value} (d : decode cc pc = .ok (.getfield idx, 3)) (ci k : Nat) {r : vw_C} (hk : isK ci a) (h10 : ci < 10) (hc : cls[ci]? = some r) (hi : ∀ w ∈ u_ws r.1 r.2.1 r.2.2, w ∈ TB) (hkN : k < r.2.2) (hv : (fldv K.2.1 h ci a)[k]? = some v) (w : Cond.fieldLink own idx (r.2.1 k).1 (r.2.1 k).2.1 (r.2.1 k).2.2.1 ∈ TB) (q : Nat) (hq : pc + 3 = q) (nx : At K G q lv (v :: st) h) : At K G pc lv (.ref (K.2.1 a) :: st) h := by
  subst hq
  obtain ⟨p, l, e, R, s, m, args, below, meth, c, Q, cells, slots, nL⟩ := G
  obtain ⟨hx, hb, hml, hown, hts, hK, hX, hlq, hr1, hr2, hc1, hc2⟩ := id C
  exact fun H locs ls hP hD hS hl => va_get hx hb hts hi hown hK hP a (by rw [wld_get _ _ _ hk.1, cel_O hk h10]) hc k hkN (hts _ w) (fun _ z => z) hv d (nx H locs ls hP hD hS hl)
theorem A_putI (C : Ok K G rk cc own) {a idx : Nat} {v : Int32} (d : decode cc pc = .ok (.putfield idx, 3)) (ci k : Nat) {r : vw_C} {ty0 : Nat → FieldType} {ty : FieldType} (hk : isK ci a) (h10 : ci < 10) (hc : cls[ci]? = some r) (hi : ∀ w ∈ u_ws r.1 r.2.1 r.2.2, w ∈ TB) (hty : ∀ k, k < r.2.2 → parseFieldDescriptor (r.2.1 k).2.2.1 = some (ty0 k)) (hnm : ∀ a, a < r.2.2 → ∀ b, b < r.2.2 → a ≠ b → (r.2.1 a).2.1 ≠ (r.2.1 b).2.1) (hkN : k < r.2.2) (hfin : (r.2.1 k).2.2.2 = false) (hd : parseFieldDescriptor (r.2.1 k).2.2.1 = some ty) (hn : narrow ty (.int v) = .int v) (hfit : fits ty (.int v) = true) (hlen : k < (fldv K.2.1 h ci a).length) (hs : (fldv K.2.1 h ci a).set k (.int v) = fldv K.2.1 (sI h a k v) ci a) (w : Cond.fieldLink own idx (r.2.1 k).1 (r.2.1 k).2.1 (r.2.1 k).2.2.1 ∈ TB) (q : Nat) (hq : pc + 3 = q) (nx : At K G q lv st (sI h a k v)) : At K G pc lv (.int v :: .ref (K.2.1 a) :: st) h := by
  subst hq
  obtain ⟨p, l, e, R, s, m, args, below, meth, c, Q, cells, slots, nL⟩ := G
  obtain ⟨hx, hb, hml, hown, hts, hK, hX, hlq, hr1, hr2, hc1, hc2⟩ := id C
  have e9 := wld_set (ad := K.2.1) (cy := K.2.2.2.2.1) (h := h) (h' := sI h a k v) (a := a) (e := .inr (ci, (fldv K.2.1 h ci a).set k (.int v))) (by rw [cel_O hk h10, hs]) cel_sI
  exact fun H locs ls hP hD hS hl => va_put hx hb hts hi ty0 hty hnm hown hK hP hD hS a (by rw [wld_get _ _ _ hk.1, cel_O hk h10]) hc k hkN (hts _ w) (fun _ z => z) hfin hd hn hfit hlen d (fun H1 locs1 hP1 hD1 hS1 => nx H1 locs1 ls (by rw [← e9]; exact hP1) (by rw [← e9]; exact hD1) hS1 hl)
theorem A_putL (C : Ok K G rk cc own) {a idx : Nat} {v : Int64} (d : decode cc pc = .ok (.putfield idx, 3)) (ci k : Nat) {r : vw_C} {ty0 : Nat → FieldType} {ty : FieldType} (hk : isK ci a) (h10 : ci < 10) (hc : cls[ci]? = some r) (hi : ∀ w ∈ u_ws r.1 r.2.1 r.2.2, w ∈ TB) (hty : ∀ k, k < r.2.2 → parseFieldDescriptor (r.2.1 k).2.2.1 = some (ty0 k)) (hnm : ∀ a, a < r.2.2 → ∀ b, b < r.2.2 → a ≠ b → (r.2.1 a).2.1 ≠ (r.2.1 b).2.1) (hkN : k < r.2.2) (hfin : (r.2.1 k).2.2.2 = false) (hd : parseFieldDescriptor (r.2.1 k).2.2.1 = some ty) (hn : narrow ty (.long v) = .long v) (hfit : fits ty (.long v) = true) (hlen : k < (fldv K.2.1 h ci a).length) (hs : (fldv K.2.1 h ci a).set k (.long v) = fldv K.2.1 (sL h a k v) ci a) (w : Cond.fieldLink own idx (r.2.1 k).1 (r.2.1 k).2.1 (r.2.1 k).2.2.1 ∈ TB) (q : Nat) (hq : pc + 3 = q) (nx : At K G q lv st (sL h a k v)) : At K G pc lv (.long v :: .ref (K.2.1 a) :: st) h := by
  subst hq
  obtain ⟨p, l, e, R, s, m, args, below, meth, c, Q, cells, slots, nL⟩ := G
  obtain ⟨hx, hb, hml, hown, hts, hK, hX, hlq, hr1, hr2, hc1, hc2⟩ := id C
  have e9 := wld_set (ad := K.2.1) (cy := K.2.2.2.2.1) (h := h) (h' := sL h a k v) (a := a) (e := .inr (ci, (fldv K.2.1 h ci a).set k (.long v))) (by rw [cel_O hk h10, hs]) cel_sL
  exact fun H locs ls hP hD hS hl => va_put hx hb hts hi ty0 hty hnm hown hK hP hD hS a (by rw [wld_get _ _ _ hk.1, cel_O hk h10]) hc k hkN (hts _ w) (fun _ z => z) hfin hd hn hfit hlen d (fun H1 locs1 hP1 hD1 hS1 => nx H1 locs1 ls (by rw [← e9]; exact hP1) (by rw [← e9]; exact hD1) hS1 hl)
theorem A_putR (C : Ok K G rk cc own) {a idx v : Nat} (d : decode cc pc = .ok (.putfield idx, 3)) (ci k : Nat) {r : vw_C} {ty0 : Nat → FieldType} {ty : FieldType} (hk : isK ci a) (hv : v < NW) (h10 : ci < 10) (hc : cls[ci]? = some r) (hi : ∀ w ∈ u_ws r.1 r.2.1 r.2.2, w ∈ TB) (hty : ∀ k, k < r.2.2 → parseFieldDescriptor (r.2.1 k).2.2.1 = some (ty0 k)) (hnm : ∀ a, a < r.2.2 → ∀ b, b < r.2.2 → a ≠ b → (r.2.1 a).2.1 ≠ (r.2.1 b).2.1) (hkN : k < r.2.2) (hfin : (r.2.1 k).2.2.2 = false) (hd : parseFieldDescriptor (r.2.1 k).2.2.1 = some ty) (hn : ∀ z, narrow ty (.ref z) = .ref z) (hfit : ∀ z, fits ty (.ref z) = true) (hlen : k < (fldv K.2.1 h ci a).length) (hs : (fldv K.2.1 h ci a).set k (rfv K.2.1 v) = fldv K.2.1 (sR h a k v) ci a) (w : Cond.fieldLink own idx (r.2.1 k).1 (r.2.1 k).2.1 (r.2.1 k).2.2.1 ∈ TB) (q : Nat) (hq : pc + 3 = q) (nx : At K G q lv st (sR h a k v)) : At K G pc lv (.ref (K.2.1 v) :: .ref (K.2.1 a) :: st) h := by
  subst hq
  obtain ⟨p, l, e, R, s, m, args, below, meth, c, Q, cells, slots, nL⟩ := G
  obtain ⟨hx, hb, hml, hown, hts, hK, hX, hlq, hr1, hr2, hc1, hc2⟩ := id C
  rw [show rfv K.2.1 v = .ref (K.2.1 v) from if_pos hv] at hs
  have e9 := wld_set (ad := K.2.1) (cy := K.2.2.2.2.1) (h := h) (h' := sR h a k v) (a := a) (e := .inr (ci, (fldv K.2.1 h ci a).set k (.ref (K.2.1 v)))) (by rw [cel_O hk h10, hs]) cel_sR
  exact fun H locs ls hP hD hS hl => va_put hx hb hts hi ty0 hty hnm hown hK hP hD hS a (by rw [wld_get _ _ _ hk.1, cel_O hk h10]) hc k hkN (hts _ w) (fun _ z => z) hfin hd (hn _) (hfit _) hlen d (fun H1 locs1 hP1 hD1 hS1 => nx H1 locs1 ls (by rw [← e9]; exact hP1) (by rw [← e9]; exact hD1) hS1 hl)
theorem A_iald (C : Ok K G rk cc own) {a n : Nat} {i : Int32} {α : Type} {X : Option α} {r : α} (d : decode cc pc = .ok (.iaload, 1)) (hk : isA 11 n a) (hf : gd (inb i n) X = some r) (q : Nat) (hq : pc + 1 = q) (nx : X = some r → At K G q lv (.int (gI h a (ix i)) :: st) h) : At K G pc lv (.int i :: .ref (K.2.1 a) :: st) h := by
  subst hq
  obtain ⟨p, l, e, R, s, m, args, below, meth, c, Q, cells, slots, nL⟩ := G
  obtain ⟨hx, hb, hml, hown, hts, hK, hX, hlq, hr1, hr2, hc1, hc2⟩ := id C
  obtain ⟨hin, hf⟩ := gd_t hf
  exact fun H locs ls hP hD hS hl => va_iald hx hb hK hP a 1 (by rw [wld_get _ _ _ hk.1, cel_I hk]; rfl) rfl (inb_in hin) d (nx hf H locs ls hP hD hS hl)
theorem A_bald (C : Ok K G rk cc own) {a n : Nat} {i : Int32} {α : Type} {X : Option α} {r : α} (d : decode cc pc = .ok (.baload, 1)) (hk : isA 10 n a) (hf : gd (inb i n) X = some r) (q : Nat) (hq : pc + 1 = q) (nx : X = some r → At K G q lv (.int (gI h a (ix i)) :: st) h) : At K G pc lv (.int i :: .ref (K.2.1 a) :: st) h := by
  subst hq
  obtain ⟨p, l, e, R, s, m, args, below, meth, c, Q, cells, slots, nL⟩ := G
  obtain ⟨hx, hb, hml, hown, hts, hK, hX, hlq, hr1, hr2, hc1, hc2⟩ := id C
  obtain ⟨hin, hf⟩ := gd_t hf
  exact fun H locs ls hP hD hS hl => va_bald hx hb hK hP a 0 (by rw [wld_get _ _ _ hk.1, cel_B hk]; rfl) rfl (inb_in hin) d (nx hf H locs ls hP hD hS hl)
theorem A_lald (C : Ok K G rk cc own) {a n : Nat} {i : Int32} {α : Type} {X : Option α} {r : α} (d : decode cc pc = .ok (.laload, 1)) (hk : isA 12 n a) (hf : gd (inb i n) X = some r) (q : Nat) (hq : pc + 1 = q) (nx : X = some r → At K G q lv (.long (gL h a (ix i)) :: st) h) : At K G pc lv (.int i :: .ref (K.2.1 a) :: st) h := by
  subst hq
  obtain ⟨p, l, e, R, s, m, args, below, meth, c, Q, cells, slots, nL⟩ := G
  obtain ⟨hx, hb, hml, hown, hts, hK, hX, hlq, hr1, hr2, hc1, hc2⟩ := id C
  obtain ⟨hin, hf⟩ := gd_t hf
  exact fun H locs ls hP hD hS hl => va_lald hx hb hK hP a 2 (by rw [wld_get _ _ _ hk.1, cel_J hk]; rfl) rfl (inb_in hin) d (nx hf H locs ls hP hD hS hl)
theorem A_iast (C : Ok K G rk cc own) {a n : Nat} {i : Int32} {x : Int32} {α : Type} {X : Option α} {r : α} (d : decode cc pc = .ok (.iastore, 1)) (hk : isA 11 n a) (hf : gd (inb i n) X = some r) (q : Nat) (hq : pc + 1 = q) (nx : X = some r → At K G q lv st (sI h a (ix i) x)) : At K G pc lv (.int x :: .int i :: .ref (K.2.1 a) :: st) h := by
  subst hq
  obtain ⟨p, l, e, R, s, m, args, below, meth, c, Q, cells, slots, nL⟩ := G
  obtain ⟨hx, hb, hml, hown, hts, hK, hX, hlq, hr1, hr2, hc1, hc2⟩ := id C
  obtain ⟨hin, hf⟩ := gd_t hf
  have e9 := wld_set (ad := K.2.1) (cy := K.2.2.2.2.1) (h := h) (h' := sI h a (ix i) x) (a := a) (e := .inl (K.2.2.2.2.1.2.1, n, .inl (upd (h.1 a) (ix i) x))) (by rw [cel_I hk, sI_1]) cel_sI
  exact fun H locs ls hP hD hS hl => va_iast hx hb hK hP hD hS a 1 (by rw [wld_get _ _ _ hk.1, cel_I hk]) rfl (inb_in hin) d (fun H1 locs1 hP1 hD1 hS1 => nx hf H1 locs1 ls (by rw [← e9]; exact hP1) (by rw [← e9]; exact hD1) hS1 hl)
theorem A_bast (C : Ok K G rk cc own) {a n : Nat} {i : Int32} {x : Int32} {α : Type} {X : Option α} {r : α} (d : decode cc pc = .ok (.bastore, 1)) (hk : isA 10 n a) (hf : gd (inb i n) X = some r) (q : Nat) (hq : pc + 1 = q) (nx : X = some r → At K G q lv st (sI h a (ix i) (vp_nar .byte x))) : At K G pc lv (.int x :: .int i :: .ref (K.2.1 a) :: st) h := by
  subst hq
  obtain ⟨p, l, e, R, s, m, args, below, meth, c, Q, cells, slots, nL⟩ := G
  obtain ⟨hx, hb, hml, hown, hts, hK, hX, hlq, hr1, hr2, hc1, hc2⟩ := id C
  obtain ⟨hin, hf⟩ := gd_t hf
  have e9 := wld_set (ad := K.2.1) (cy := K.2.2.2.2.1) (h := h) (h' := sI h a (ix i) (vp_nar .byte x)) (a := a) (e := .inl (K.2.2.2.2.1.1, n, .inl (upd (h.1 a) (ix i) (vp_nar .byte x)))) (by rw [cel_B hk, sI_1]) cel_sI
  exact fun H locs ls hP hD hS hl => va_bast hx hb hK hP hD hS a 0 (by rw [wld_get _ _ _ hk.1, cel_B hk]) rfl (inb_in hin) d (fun H1 locs1 hP1 hD1 hS1 => nx hf H1 locs1 ls (by rw [← e9]; exact hP1) (by rw [← e9]; exact hD1) hS1 hl)
theorem A_last (C : Ok K G rk cc own) {a n : Nat} {i : Int32} {x : Int64} {α : Type} {X : Option α} {r : α} (d : decode cc pc = .ok (.lastore, 1)) (hk : isA 12 n a) (hf : gd (inb i n) X = some r) (q : Nat) (hq : pc + 1 = q) (nx : X = some r → At K G q lv st (sL h a (ix i) x)) : At K G pc lv (.long x :: .int i :: .ref (K.2.1 a) :: st) h := by
  subst hq
  obtain ⟨p, l, e, R, s, m, args, below, meth, c, Q, cells, slots, nL⟩ := G
  obtain ⟨hx, hb, hml, hown, hts, hK, hX, hlq, hr1, hr2, hc1, hc2⟩ := id C
  obtain ⟨hin, hf⟩ := gd_t hf
  have e9 := wld_set (ad := K.2.1) (cy := K.2.2.2.2.1) (h := h) (h' := sL h a (ix i) x) (a := a) (e := .inl (K.2.2.2.2.1.2.2.1, n, .inr (.inl (vp_updL (h.2.1 a) (ix i) x)))) (by rw [cel_J hk, sL_1]) cel_sL
  exact fun H locs ls hP hD hS hl => va_last hx hb hK hP hD hS a 2 (by rw [wld_get _ _ _ hk.1, cel_J hk]) rfl (inb_in hin) d (fun H1 locs1 hP1 hD1 hS1 => nx hf H1 locs1 ls (by rw [← e9]; exact hP1) (by rw [← e9]; exact hD1) hS1 hl)
theorem A_alen (C : Ok K G rk cc own) {a n kk : Nat} {v : Int32} (d : decode cc pc = .ok (.arraylength, 1)) (hk : isA kk n a) (h4 : kk = 10 ∨ kk = 11) (hv : Int32.ofNat n = v) (q : Nat) (hq : pc + 1 = q) (nx : At K G q lv (.int v :: st) h) : At K G pc lv (.ref (K.2.1 a) :: st) h := by
  subst hq
  obtain ⟨p, l, e, R, s, m, args, below, meth, c, Q, cells, slots, nL⟩ := G
  obtain ⟨hx, hb, hml, hown, hts, hK, hX, hlq, hr1, hr2, hc1, hc2⟩ := id C
  intro H locs ls hP hD hS hl
  rcases h4 with rfl | rfl
  · exact va_alen hx hb hK hP a 0 (by rw [wld_get _ _ _ hk.1, cel_B hk]) rfl hv d (nx H locs ls hP hD hS hl)
  · exact va_alen hx hb hK hP a 1 (by rw [wld_get _ _ _ hk.1, cel_I hk]) rfl hv d (nx H locs ls hP hD hS hl)
theorem A_ifnull (C : Ok K G rk cc own) {a : Nat} {off : Int} (d : decode cc pc = .ok (.ifnull off, 3)) (q : Nat) (hq : pc + 3 = q) (nx : At K G q lv st h) : At K G pc lv (.ref (K.2.1 a) :: st) h := by
  subst hq
  obtain ⟨p, l, e, R, s, m, args, below, meth, c, Q, cells, slots, nL⟩ := G
  obtain ⟨hx, hb, hml, hown, hts, hK, hX, hlq, hr1, hr2, hc1, hc2⟩ := id C
  exact fun H locs ls hP hD hS hl => lv_ifnull hx hb d (nx H locs ls hP hD hS hl)
theorem A_iret (C : Ok K G rk cc own) {x r : Int32} {h' : HH} (d : decode cc pc = .ok (.ireturn, 1)) (E : Endd K G (some .int) (some (.int r)) h') (hf : some (x, h) = some (r, h')) : At K G pc lv [.int x] h := by
  obtain ⟨p, l, e, R, s, m, args, below, meth, c, Q, cells, slots, nL⟩ := G
  obtain ⟨hx, hb, hml, hown, hts, hK, hX, hlq, hr1, hr2, hc1, hc2⟩ := id C
  obtain ⟨rfl, hrt, hlk⟩ := E
  cases hf
  exact fun H locs ls hP hD hS hl => W.iret hx hb hrt (fun t ht _ => ⟨rfl, by rw [ht]; exact hP, hS.F ht⟩) hS.2.2 d hlk
theorem A_lret (C : Ok K G rk cc own) {x r : Int64} {h' : HH} (d : decode cc pc = .ok (.lreturn, 1)) (E : Endd K G (some .long) (some (.long r)) h') (hf : some (x, h) = some (r, h')) : At K G pc lv [.long x] h := by
  obtain ⟨p, l, e, R, s, m, args, below, meth, c, Q, cells, slots, nL⟩ := G
  obtain ⟨hx, hb, hml, hown, hts, hK, hX, hlq, hr1, hr2, hc1, hc2⟩ := id C
  obtain ⟨rfl, hrt, hlk⟩ := E
  cases hf
  exact fun H locs ls hP hD hS hl => W.lret hx hb hrt (fun t ht _ => ⟨rfl, by rw [ht]; exact hP, hS.F ht⟩) hS.2.2 d hlk
theorem A_zret (C : Ok K G rk cc own) {x r : Bool} {h' : HH} (d : decode cc pc = .ok (.ireturn, 1)) (E : Endd K G (some .boolean) (some (.int (b2i r))) h') (hf : some (x, h) = some (r, h')) : At K G pc lv [.int (b2i x)] h := by
  obtain ⟨p, l, e, R, s, m, args, below, meth, c, Q, cells, slots, nL⟩ := G
  obtain ⟨hx, hb, hml, hown, hts, hK, hX, hlq, hr1, hr2, hc1, hc2⟩ := id C
  obtain ⟨rfl, hrt, hlk⟩ := E
  cases hf
  exact fun H locs ls hP hD hS hl => W.zret hx hb hrt (b2i_narrow _) (fun t ht _ => ⟨rfl, by rw [ht]; exact hP, hS.F ht⟩) hS.2.2 d hlk
theorem A_vret (C : Ok K G rk cc own) {h' : HH} (d : decode cc pc = .ok (.return_, 1)) (E : Endd K G none none h') (hf : some h = some h') : At K G pc lv [] h := by
  obtain ⟨p, l, e, R, s, m, args, below, meth, c, Q, cells, slots, nL⟩ := G
  obtain ⟨hx, hb, hml, hown, hts, hK, hX, hlq, hr1, hr2, hc1, hc2⟩ := id C
  obtain ⟨rfl, hrt, hlk⟩ := E
  cases hf
  exact fun H locs ls hP hD hS hl => W.vret hx hb hrt (fun t ht _ => ⟨rfl, by rw [ht]; exact hP, hS.F ht⟩) hS.2.2 d hlk
/-- what the tables say of a call of an instance method, of a static one, of a nest mate's static one -/
def LkV (own : String) (idx : Nat) (y : MethodName) (b : ByteArray) (n : Nat) (ret : Option FieldType) (na : Nat) : Prop := Cond.methodLink own idx y ∈ TB ∧ Cond.instanceMethod y ∈ TB ∧ Cond.selects y.cls y y ∈ TB ∧ Cond.initialized y.cls ∈ TB ∧ Cond.code y b n ret ∈ TB ∧ (y.cls ≠ "java/lang/invoke/MethodHandle" ∧ y.cls ≠ "java/lang/invoke/VarHandle" ∧ (parseMethodDescriptor y.desc).map (fun d => d.parameters.length) = some na)
def LkS (own : String) (idx : Nat) (y : MethodName) (b : ByteArray) (n : Nat) (ret : Option FieldType) (na : Nat) : Prop := Cond.methodLink own idx y ∈ TB ∧ Cond.static y ∈ TB ∧ Cond.initialized y.cls ∈ TB ∧ Cond.code y b n ret ∈ TB ∧ (y.cls ≠ "java/lang/invoke/MethodHandle" ∧ y.cls ≠ "java/lang/invoke/VarHandle" ∧ (parseMethodDescriptor y.desc).map (fun d => d.parameters.length) = some na)
def LkN (y : MethodName) (b : ByteArray) (n : Nat) (ret : Option FieldType) (na : Nat) : Prop := Cond.static y ∈ TB ∧ Cond.initialized y.cls ∈ TB ∧ Cond.code y b n ret ∈ TB ∧ (y.cls ≠ "java/lang/invoke/MethodHandle" ∧ y.cls ≠ "java/lang/invoke/VarHandle" ∧ (parseMethodDescriptor y.desc).map (fun d => d.parameters.length) = some na)
theorem good_wsY {y : MethodName} {b : ByteArray} {n : Nat} {r : Option FieldType} (hc : Cond.code y b n r ∈ TB) : GoodIn TB (wsY y b n r) := fun w hw => by
  rcases List.mem_cons.mp hw with e | e
  · rw [e]; exact tb_good _ hc
  · exact tb_good w e
theorem A_back {p : Program} {l : Launch} {e : Env} {R : Room} {s : State} {m : MethodId} {args : Array Value} {below : List Frame} {meth : Method} {c : Code} {H : Heap} {locs : List Loc} {cells slots : Nat} {Q : State → Prop} {ls : Array Slot} {st0 rest : List Value} {a : Array Value} {v : Option Value} {h' : HH}
    (hr : va_Run p l e R s m args below meth c H locs cells slots 0 0 (F0 m pc ls st0) rest (Post K v h' a) K.2.2.1) (hS : va_S K.2.2.1 s.heap H locs)
    (kk : ∀ (H1 : Heap) (locs1 : List Loc), va_P K.2.2.2.1 cls (wld K.2.1 K.2.2.2.2.1 h') H1 → va_S K.2.2.1 s.heap H1 locs1 → W p l e R s m args below meth c H1 locs1 cells slots Q (F0 m (pc + 3) ls (v.toList ++ rest))) : W p l e R s m args below meth c H locs cells slots Q (F0 m pc ls st0) := by
  intro T hT X
  obtain ⟨v', st₀, t, T', L, h0, X', hL, e1, e2, ⟨hv, hp, hz, hk⟩, st⟩ := hr T hT X
  cases hv
  rw [h0] at hz hk
  obtain ⟨t2, a1, b1⟩ := kk T'.heap (locs ++ L) (by rw [e1]; exact hp)
    ⟨Nat.le_trans hS.1 (by rw [e1]; exact hz), fun q h1 h2 => by rw [e1, hk q (Nat.lt_of_lt_of_le h1 hS.1) h2]; exact hS.2.1 q h1 h2, fun q hq => by
      rcases List.mem_append.mp hq with h | h
      · exact hS.2.2 q h
      · exact hL q h⟩ T' rfl X'
  exact ⟨t2, st t2 a1, b1⟩
theorem xa_runV {p : Program} {l : Launch} {e : Env} {R : Room} {s : State} {m : MethodId} {args : Array Value} {below : List Frame} {meth : Method} {c : Code} {H : Heap} {locs : List Loc} {cells slots : Nat} {y : MethodName} {bytes cc : ByteArray} {maxL nL mc ms n index : Nat} {ret : Option FieldType} {ws : List Cond} {rm : Room} {Pc : Array Value → State → Prop} {Qc : Array Value → State → Outcome → State → Prop} {free : Addr → Prop} {Ts : List Cond} {own C : String} {b : Addr} {As rest : List Value} {g : JFrame} (hlo : 20 + (maxL + 11) + rm.locals ≤ R.locals) (S : CallFix p m c cc nL s args Ts own) (hM : Met l y ws rm Pc Qc mc ms free) (cw : CallW R s args own C index y bytes maxL ret ws rm mc ms n) (hp : PreV s H C b Pc As)
    (hg : g.method = m) (hn : As.length = n) (hsize : g.locals.size = nL) (hstack : g.stack = As.reverse ++ .ref b :: rest) (hW : 2 * g.monitorRoom + (rest.map fun v => v.category).sum ≤ 20) (hdg : decode cc g.pc = .ok (.invokevirtual index, 3)) (hf : cells + mc ≤ R.cells ∧ slots + ms ≤ R.slots) :
    va_Run p l e R s m args below meth c H locs cells slots mc ms g rest (Qc (Value.ref b :: As).toArray) (free) := by
  obtain ⟨⟨hrc, hrs, hfr, -, hws, hcw, hcode, hini, hy, hlen, hl⟩, hin, hse⟩ := cw
  have hK : Back l R p e below s args y 3 20 (PreOf R mc ms Pc) (PostOf Qc mc ms free) := back_of (bytes := bytes) (maxL := maxL) (ret := ret) hM hp.1 hrc hrs hfr hlo hws hcw (fun a' U hW => word_at hW (Or.inl (by first | rfl | simp [Cond.onTables, Cond.keeps, Cond.steady])) hini)
  obtain ⟨hx, hb, hml, ho, -⟩ := S
  obtain ⟨-, ⟨cellB, hcB, hoB, hclB⟩, hPc⟩ := hp
  intro T hT X
  obtain ⟨v, vm₁, ⟨U', l2, c2, s2⟩, hW₁, X', ⟨g', mk, t, L, e1, e2, hq, h1, hL, h2, h3⟩, st⟩ := callV X hx (C := C) (bytes := bytes) (maxL := maxL) (ret := ret) ho hl hin hse hcode hy hK (by rw [hT]; exact hcB) hoB hclB hg (hsize.trans hml.symm) (argsL := As) (rest := rest) (fun sig h => hn.trans (hlen sig h)) hstack hW (by rw [hb]; exact hdg)
    (fun vm₁ hW₁ => ⟨hf.1, hf.2, hPc (T.setVm vm₁) hT hW₁⟩)
  dsimp only [Pt.U, Pt.locs, Pt.cells, Pt.slots] at X' e1 e2 h1 h2 h3 st
  subst h1; subst h2; subst h3
  exact ⟨v, (T.setVm vm₁).calling g' mk (Value.ref b :: As).toArray, t, U', L, hT, X', hL, e1, e2, hq, st⟩
theorem A_callV (C : Ok K G rk cc own) {a idx : Nat} {y : MethodName} {b : ByteArray} {n na rk' : Nat} {ret : Option FieldType} {As : List Value} {v : Option Value} {h' : HH} (d : decode cc pc = .ok (.invokevirtual idx, 3)) (ci : Nat) {r : vw_C} (hk : isK ci a) (h10 : ci < 10) (hc : cls[ci]? = some r) (hy : r.1 = y.cls) (hM : MR K y b n ret rk' (.ref (K.2.1 a) :: As) h v h') (lk : LkV own idx y b n ret na) (hrk : rk' + 1 ≤ rk) (hn80 : n ≤ 60) (hna : As.length = na) (rest : List Value) (hst : st = As.reverse ++ .ref (K.2.1 a) :: rest) (hW : (rest.map fun v => v.category).sum ≤ 20) (q : Nat) (hq : pc + 3 = q) (nx : At K G q lv (v.toList ++ rest) h') : At K G pc lv st h := by
  subst hq hst
  obtain ⟨p, l, e, R, s, m, args, below, meth, c, Q, cells, slots, nL⟩ := G
  obtain ⟨hx, hb, hml, hown, hts, hK, hX, hlq, hr1, hr2, hc1, hc2⟩ := id C
  obtain ⟨k1, k2, k3, k4, k5, k6⟩ := lk
  subst hlq
  intro H locs ls hP hD hS hl
  refine A_back (xa_runV (by show 20 + (n + 11) + 100 * rk' ≤ _; omega) (As := As) (rest := rest) (C := y.cls) ⟨hx, hb, hml, hown, hts⟩ hM ⟨callB_of na hts (good_wsY k5) rfl rfl rfl (hts _ k4) (hts _ k1) k6 ⟨by show rk' + 1 ≤ _; omega, by show _ + 100 * rk' ≤ _; omega⟩, hts _ k2, hts _ k3⟩ ⟨Pre.blind K h _, ?_, fun U hU hW => ⟨rfl, by rw [hU]; exact hP, va_K.moved hW.alike hK, hD, hX.warm hU hW hS⟩⟩ rfl hna hl.1 rfl (by show 2 * 0 + _ ≤ 20; omega) d ⟨by omega, by omega⟩) hS (fun H1 locs1 hP1 hS1 => nx H1 locs1 ls hP1 (va_D_wld _ hD) hS1 hl)
  rw [← hy]
  exact va_recv hK hP hc (by rw [wld_get _ _ _ hk.1, cel_O hk h10])
theorem A_callS (C : Ok K G rk cc own) {idx : Nat} {y : MethodName} {b : ByteArray} {n na rk' : Nat} {ret : Option FieldType} {As : List Value} {v : Option Value} {h' : HH} (d : decode cc pc = .ok (.invokestatic idx, 3)) (hM : MR K y b n ret rk' As h v h') (lk : LkS own idx y b n ret na) (hrk : rk' + 1 ≤ rk) (hn80 : n ≤ 80) (hna : As.length = na) (rest : List Value) (hst : st = As.reverse ++ rest) (hW : (rest.map fun v => v.category).sum ≤ 8) (q : Nat) (hq : pc + 3 = q) (nx : At K G q lv (v.toList ++ rest) h') : At K G pc lv st h := by
  subst hq hst
  obtain ⟨p, l, e, R, s, m, args, below, meth, c, Q, cells, slots, nL⟩ := G
  obtain ⟨hx, hb, hml, hown, hts, hK, hX, hlq, hr1, hr2, hc1, hc2⟩ := id C
  obtain ⟨k1, k3, k4, k5, k6⟩ := lk
  subst hlq
  intro H locs ls hP hD hS hl
  exact A_back (va_runS (As := As) (rest := rest) ⟨hx, hb, hml, hown, hts⟩ hM ⟨callB_of na hts (good_wsY k5) rfl rfl rfl (hts _ k4) (hts _ k1) k6 ⟨by show rk' + 1 ≤ _; omega, by show _ + 100 * rk' ≤ _; omega⟩, hts _ k3⟩ ⟨Pre.blind K h _, fun U hU hW => ⟨rfl, by rw [hU]; exact hP, va_K.moved hW.alike hK, hD, hX.warm hU hW hS⟩⟩ rfl hna hl.1 rfl (lv_room hW) d ⟨by omega, by omega⟩) hS (fun H1 locs1 hP1 hS1 => nx H1 locs1 ls hP1 (va_D_wld _ hD) hS1 hl)
theorem A_callN (C : Ok K G rk cc own) {idx : Nat} {y : MethodName} {b : ByteArray} {n na rk' : Nat} {ret : Option FieldType} {As : List Value} {v : Option Value} {h' : HH} {host : String} (d : decode cc pc = .ok (.invokestatic idx, 3)) (hN : ∀ s : State, Aux K s → va_Nw (.methodLinkNest own idx y host) s) (hM : MR K y b n ret rk' As h v h') (lk : LkN y b n ret na) (hrk : rk' + 1 ≤ rk) (hn80 : n ≤ 80) (hna : As.length = na) (rest : List Value) (hst : st = As.reverse ++ rest) (hW : (rest.map fun v => v.category).sum ≤ 8) (q : Nat) (hq : pc + 3 = q) (nx : At K G q lv (v.toList ++ rest) h') : At K G pc lv st h := by
  subst hq hst
  obtain ⟨p, l, e, R, s, m, args, below, meth, c, Q, cells, slots, nL⟩ := G
  obtain ⟨hx, hb, hml, hown, hts, hK, hX, hlq, hr1, hr2, hc1, hc2⟩ := id C
  obtain ⟨k3, k4, k5, k6⟩ := lk
  subst hlq
  intro H locs ls hP hD hS hl
  exact A_back (va_runSN (As := As) (rest := rest) ⟨hx, hb, hml, hown, hts⟩ hM ⟨va_cnB na hts (good_wsY k5) rfl rfl rfl (hN s hX) (hts _ k4) k6 ⟨by show rk' + 1 ≤ _; omega, by show _ + 100 * rk' ≤ _; omega⟩, hts _ k3, trivial⟩ ⟨Pre.blind K h _, fun U hU hW => ⟨rfl, by rw [hU]; exact hP, va_K.moved hW.alike hK, hD, hX.warm hU hW hS⟩⟩ rfl hna hl.1 rfl (lv_room hW) d ⟨by omega, by omega⟩) hS (fun H1 locs1 hP1 hS1 => nx H1 locs1 ls hP1 (va_D_wld _ hD) hS1 hl)
theorem A_str (C : Ok K G rk cc own) {idx i : Nat} {tx : String} (d : decode cc pc = .ok (.ldc idx, 2)) (hi : i < 58) (hs : strl.getD i ("", 0, "") = (own, idx, tx)) (q : Nat) (hq : pc + 2 = q) (nx : At K G q lv (.ref (K.2.2.2.2.2.1 i) :: st) h) : At K G pc lv st h := by
  subst hq
  obtain ⟨p, l, e, R, s, m, args, below, meth, c, Q, cells, slots, nL⟩ := G
  obtain ⟨hx, hb, hml, hown, hts, hK, hX, hlq, hr1, hr2, hc1, hc2⟩ := id C
  have hz := (hX.2.2.2 i hi).1
  rw [hs] at hz
  exact fun H locs ls hP hD hS hl => va_ldcS hx hb hown hz d (nx H locs ls hP hD hS hl)
end ROWS
