def nsE : String := "java/util/NoSuchElementException"
def atX : List Cond := vx_at0 RX8 397 nsE ["java/lang/RuntimeException", "java/lang/Exception"]
def badX : List Cond := atX.filter (fun w => !goodWord w)
def isDC : Cond → Bool
  | .declares _ => true
  | .castable _ _ => true
  | _ => false
theorem bad_dc : badX.all isDC = true := by decide +kernel
theorem good_lw : ∀ w ∈ atX.filter goodWord, w ∈ lw_tbl := by decide +kernel
theorem bad_lw : ∀ w ∈ badX, w ∈ lw_tbl := by decide +kernel
theorem at_ot : ∀ w ∈ Cond.classLink RX8 395 nsE :: Cond.initialized nsE :: atX, vx_ot w = true := by decide +kernel
theorem clX_nse : Cond.classLink RX8 395 nsE ∈ TB := tb_1 1398 (by decide +kernel) (by decide +kernel)
theorem iniNse : Cond.initialized nsE ∈ TB := tb_1 173 (by decide +kernel) (by decide +kernel)
theorem Nw_warm {w : Cond} (hw : isDC w = true) {s U : State} (hW : s.WarmedH U.vm) (h : va_Nw w s) : va_Nw w U := by
  cases w <;> first | exact va_Nw.warmD hW h | exact va_Nw.warmC hW h | cases hw
theorem Nw_same {w : Cond} (hw : isDC w = true) {s U : State} (hv : U.vm = s.vm) (h : va_Nw w s) : va_Nw w U := by
  cases w <;> first | exact va_Nw.same rfl hv.symm h | cases hw
def AuxX (K : KX) (U : State) : Prop := vx_Zq Bundle.tN "UNASSIGNED_STACK" Bundle.steD K.2.2.1 U U.heap ∧ vx_Zq Bundle.tN "SUPPRESSED_SENTINEL" Bundle.listD K.2.2.1 U U.heap ∧ va_Nw (.castable nsE nsE) U ∧ ∀ w ∈ badX, va_Nw w U
theorem AuxX.warm {K : KX} {s U : State} {H : Heap} {locs : List Loc} (h : AuxX K s) (hU : U.heap = H) (hW : s.WarmedH U.vm) (hS : va_S K.2.2.1 s.heap H locs) : AuxX K U := by
  obtain ⟨z1, z2, c1, b1⟩ := h
  have hq : ∀ a : Nat, a < s.heap.size → ¬ K.2.2.1 a → U.heap[a]? = s.heap[a]? := fun a h1 h2 => by rw [hU]; exact hS.2.1 a h1 h2
  exact ⟨vx_Zq.moved hW.alike (z1.kept hq), vx_Zq.moved hW.alike (z2.kept hq), Nw_warm rfl hW c1, fun w hw => Nw_warm (List.all_eq_true.mp bad_dc w hw) hW (b1 w hw)⟩
theorem AuxX.same {K : KX} {s U : State} (h : AuxX K s) (h1 : U.heap = s.heap) (h2 : U.vm = s.vm) : AuxX K U := by
  obtain ⟨z1, z2, c1, b1⟩ := h
  have hq : ∀ a : Nat, a < s.heap.size → ¬ K.2.2.1 a → U.heap[a]? = s.heap[a]? := fun a _ _ => by rw [h1]
  have ha : s.vm.Alike U.vm := by rw [h2]; exact Vm.Alike.refl _
  exact ⟨vx_Zq.moved ha (z1.kept hq), vx_Zq.moved ha (z2.kept hq), Nw_same rfl h2 c1, fun w hw => Nw_same (List.all_eq_true.mp bad_dc w hw) h2 (b1 w hw)⟩
