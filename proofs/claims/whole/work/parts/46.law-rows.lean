def R_law : String := "AsleepInsideLaw"
def lw_P (b : Addr) (xs : List Int32) (args : Array Value) (s : State) : Prop := args = #[.ref b] ∧ s.IntsAt b xs ∧ xs.length ≤ 3072 ∧ (Jvm.Cond.and given_1 narrow_1).before args s = true
def lw_Q (_ : Array Value) (s : State) (o : Outcome) (t : State) : Prop := o = .returned (some (.int 1)) ∧ Framed s o t [] 601024 7293034
def lw_Z (below : List Frame) (a : Array Value) (s : State) : State → Prop := fun t => ∃ o, t.status = .running ∧ Ended t below o ∧ lw_Q a s o t
/-- the law's own end, with 1 on the stack, nothing written that was there before, its room as the claim has it -/
theorem lw_ret {p : Program} {l : Launch} {e : Env} {s : State} {m : MethodId} {below : List Frame} {meth : Method} {c : Code} {b : Nat} (hx : p.tables.exec = Jvm.exec) (hb : c.code = code) (hr : meth.sig.returnType = ret) (hlocks : meth.locks = false) {pc : Nat} {H : Heap} {ls : Array Slot} (hdg : decode code pc = .ok (.ireturn, 1)) : W p l e room_1 s m #[Value.ref b] below meth c H [] 601024 7293034 (lw_Z below #[Value.ref b] s) (F0 m pc ls [.int 1]) := by
  intro T hT X
  obtain ⟨fs, hret, hrun, hended, hW, hframe⟩ := X.leave (v := some (.int 1)) (hlocks := hlocks) (fun h => by rw [hr] at h; cases h)
  have hmeth' : T.vm.method? m = some meth := X.method'
  refine ⟨T.setFrames fs, ?_, .returned (some (.int 1)), hrun, hended, rfl, ⟨_, rfl⟩, hW, hframe⟩
  jvm_step X.here [X.here.top, hx, hb, hdg, hmeth', hr, ret, narrow_b1]
  (try refine ⟨rfl, ?_⟩); (try refine ⟨rfl, ?_⟩)
  first | (intro acts; rw [hret _ acts rfl rfl rfl]) | rw [hret _ _ rfl rfl rfl]
  exact Steps.refl _
/-- what holds at the law's entry: the machine, the code, the tables' words (any of lw_tbl by 'hts w (by decide +kernel)'), the script of L ints xs at the cell b, what the Statement gives of the start (any of its parts by flat_of_before) -/
def lw_At (p : Program) (s : State) (m : MethodId) (meth : Method) (c : Code) (b L : Nat) (xs : Nat → Int32) : Prop :=
  p.tables.exec = Jvm.exec ∧ c.code = code ∧ meth.sig.returnType = ret ∧ c.maxLocals = 7 ∧ s.vm.findClass R_law = some m.cls ∧ (∀ w ∈ lw_tbl, w.before #[Value.ref b] s = true) ∧ va_X b L xs s s.heap ∧ b < s.heap.size ∧ meth.locks = false ∧ (Jvm.Cond.and given_1 narrow_1).before #[Value.ref b] s = true

abbrev cL_law : ByteArray := code
def bump (G : GX) : GX := match G with
  | (p, l, e, R, s, m, args, below, meth, c, Q, cells, slots, nL) => (p, l, e, R, s, m, args, below, meth, c, Q, cells + 1, slots + 6, nL)
def ScrOK (K : KX) (G : GX) (b : Nat) (xs : Nat → Int32) (L : Nat) : Prop := match G with
  | (p, l, e, R, s, m, args, below, meth, c, Q, cells, slots, nL) => va_X b L xs s s.heap ∧ b < s.heap.size ∧ ¬ K.2.2.1 b ∧ L < 2 ^ 31
def EndL (K : KX) (G : GX) (b : Nat) : Prop := match G with
  | (p, l, e, R, s, m, args, below, meth, c, Q, cells, slots, nL) => Q = lw_Z below #[Value.ref b] s ∧ args = #[Value.ref b] ∧ R = room_1 ∧ meth.sig.returnType = ret ∧ meth.locks = false ∧ cells ≤ 601024 ∧ slots ≤ 7293034 ∧ (∀ q, K.2.2.1 q → s.heap.size ≤ q) ∧ AuxX K s ∧ K.1.stackTraces = false
section LROWS
variable {K : KX} {G : GX} {rk : Nat} {cc : ByteArray} {own : String} {pc : Nat} {lv : List (Nat × Value)} {st : List Value} {h : HH} {b L : Nat} {xs : Nat → Int32}
theorem A_slen (C : Ok K G rk cc own) (X : ScrOK K G b xs L) (d : decode cc pc = .ok (.arraylength, 1)) (q : Nat) (hq : pc + 1 = q) (nx : At K G q lv (.int (nI L) :: st) h) : At K G pc lv (.ref b :: st) h := by
  subst hq
  obtain ⟨p, l, e, R, s, m, args, below, meth, c, Q, cells, slots, nL⟩ := G
  obtain ⟨hx, hb, hml, hown, hts, hK, hX, hlq, hr1, hr2, hc1, hc2⟩ := id C
  obtain ⟨x1, x2, x3, x4⟩ := X
  exact fun H locs ls hP hD hS hl => va_slen hx hb x1 x2 x3 hS d (nx H locs ls hP hD hS hl)
theorem A_sld (C : Ok K G rk cc own) (X : ScrOK K G b xs L) {i : Int32} {α : Type} {Y : Option α} {r : α} (d : decode cc pc = .ok (.iaload, 1)) (hf : gd (inb i L) Y = some r) (q : Nat) (hq : pc + 1 = q) (nx : Y = some r → At K G q lv (.int (xs (ix i)) :: st) h) : At K G pc lv (.int i :: .ref b :: st) h := by
  subst hq
  obtain ⟨p, l, e, R, s, m, args, below, meth, c, Q, cells, slots, nL⟩ := G
  obtain ⟨hx, hb, hml, hown, hts, hK, hX, hlq, hr1, hr2, hc1, hc2⟩ := id C
  obtain ⟨x1, x2, x3, x4⟩ := X
  obtain ⟨hin, hf⟩ := gd_t hf
  exact fun H locs ls hP hD hS hl => va_sld hx hb x1 x2 x3 hS (inb_in hin) d (nx hf H locs ls hP hD hS hl)
theorem A_lawret0 {hv : HH} (hf : some (false, h) = some (true, hv)) : At K G pc lv st h := by cases hf
theorem A_lawret1 (C : Ok K G rk cL_law own) (EL : EndL K G b) (d : decode cL_law pc = .ok (.ireturn, 1)) : At K G pc lv [.int 1] h := by
  obtain ⟨p, l, e, R, s, m, args, below, meth, c, Q, cells, slots, nL⟩ := G
  obtain ⟨hx, hb, hml, hown, hts, hK, hX, hlq, hr1, hr2, hc1, hc2⟩ := id C
  obtain ⟨rfl, rfl, rfl, e1, e2, e3, e4, e5, -⟩ := EL
  intro H locs ls hP hD hS hl
  refine va_forget (fun q hq => e5 _ (hS.2.2 q hq)) ?_
  refine W.widen e3 e4 ?_
  exact lw_ret hx hb e1 e2 d
end LROWS
/-- led(i): the one found, or none (it throws) -/
def fX8_led_L4 (x0 : Nat) (x1 : Int32) (self4 : Int32 → Int32 → HH → Option (Option Int32 × HH)) (x2 x3 : Int32) (h : HH) : Option (Option Int32 × HH) :=
  if (gI h x0 12) = 0 then some (none, h)
  else
  gd (isKb 0 (gR h x0 10)) (
  if (gI h ((gR h x0 10) + 4) 3) ≤ x3 then some (none, h)
  else
  gd (inb x3 5) (
  if (gI h ((x0 + 6) + 1) (ix x3)) ≤ 0 then self4 x2 (x3 + 1) h
  else
  if x2 = x1 then some (some x3, h)
  else
  self4 (x2 + 1) (x3 + 1) h))
def fX8_led (x0 : Nat) (x1 : Int32) (h : HH) : Option (Option Int32 × HH) := lq2 (fX8_led_L4 x0 x1) FU 0 0 h
/-- the law's led: 0 and the answer in the long[1], or 1 -/
def fL_led (x0 : Nat) (x1 : Int32) (x2 : Nat) (h : HH) : Option (Int32 × HH) :=
  bd (fX8_led x0 x1 h) (fun r h1 => match r with
    | some v => gd (inb 0 (ln x2)) (some (0, sL h1 x2 (ix 0) v.toInt64))
    | none => some (1, h1))
