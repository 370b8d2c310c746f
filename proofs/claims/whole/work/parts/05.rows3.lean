def nm {α β : Type} (x : α) (f : α → Option β) : Option β := f x
section ROWS3
variable {K : KX} {G : GX} {rk : Nat} {cc : ByteArray} {own : String} {pc : Nat} {lv : List (Nat × Value)} {st : List Value} {h : HH}
theorem A_namI {x : Int32} {β : Type} {F : Int32 → Option β} {r : β} (hf : nm x F = some r) (nx : ∀ y, F y = some r → At K G pc lv (.int y :: st) h) : At K G pc lv (.int x :: st) h := nx x hf
theorem A_namL {x : Int64} {β : Type} {F : Int64 → Option β} {r : β} (hf : nm x F = some r) (nx : ∀ y, F y = some r → At K G pc lv (.long y :: st) h) : At K G pc lv (.long x :: st) h := nx x hf
theorem A_namZ {x : Bool} {β : Type} {F : Bool → Option β} {r : β} (hf : nm x F = some r) (nx : ∀ y, F y = some r → At K G pc lv (.int (b2i y) :: st) h) : At K G pc lv (.int (b2i x) :: st) h := nx x hf
theorem A_namR {c x : Nat} {β : Type} {F : Nat → Option β} {r : β} (hk : isK c x) (hf : nm x F = some r) (nx : ∀ y, isK c y → F y = some r → At K G pc lv (.ref (K.2.1 y) :: st) h) : At K G pc lv (.ref (K.2.1 x) :: st) h := nx x hk hf
theorem A_namH {β : Type} {F : HH → Option β} {r : β} (hf : nm h F = some r) (nx : ∀ k, F k = some r → At K G pc lv st k) : At K G pc lv st h := nx h hf
theorem T_if_eq (C : Ok K G rk cc own) {x : Int32} {off : Int} (d : decode cc pc = .ok (.ifCond .eq off, 3)) (tgt : Nat) (ht : (pc : Int) + off = (tgt : Int)) (hc : x = 0) (nx : At K G tgt lv st h) : At K G pc lv (.int x :: st) h := B_if_eq C d tgt ht (pc + 3) rfl (fun _ => nx) (fun z => absurd hc z)
theorem N_if_eq (C : Ok K G rk cc own) {x : Int32} {off : Int} (d : decode cc pc = .ok (.ifCond .eq off, 3)) (tgt : Nat) (ht : (pc : Int) + off = (tgt : Int)) (hc : ¬ x = 0) (q : Nat) (hq : pc + 3 = q) (nx : At K G q lv st h) : At K G pc lv (.int x :: st) h := B_if_eq C d tgt ht q hq (fun z => absurd z hc) (fun _ => nx)
theorem T_icmp_eq (C : Ok K G rk cc own) {x y : Int32} {off : Int} (d : decode cc pc = .ok (.if_icmp .eq off, 3)) (tgt : Nat) (ht : (pc : Int) + off = (tgt : Int)) (hc : x = y) (nx : At K G tgt lv st h) : At K G pc lv (.int y :: .int x :: st) h := B_icmp_eq C d tgt ht (pc + 3) rfl (fun _ => nx) (fun z => absurd hc z)
theorem N_icmp_eq (C : Ok K G rk cc own) {x y : Int32} {off : Int} (d : decode cc pc = .ok (.if_icmp .eq off, 3)) (tgt : Nat) (ht : (pc : Int) + off = (tgt : Int)) (hc : ¬ x = y) (q : Nat) (hq : pc + 3 = q) (nx : At K G q lv st h) : At K G pc lv (.int y :: .int x :: st) h := B_icmp_eq C d tgt ht q hq (fun z => absurd z hc) (fun _ => nx)
theorem T_if_ne (C : Ok K G rk cc own) {x : Int32} {off : Int} (d : decode cc pc = .ok (.ifCond .ne off, 3)) (tgt : Nat) (ht : (pc : Int) + off = (tgt : Int)) (hc : ¬ x = 0) (nx : At K G tgt lv st h) : At K G pc lv (.int x :: st) h := B_if_ne C d tgt ht (pc + 3) rfl (fun _ => nx) (fun z => absurd z hc)
theorem N_if_ne (C : Ok K G rk cc own) {x : Int32} {off : Int} (d : decode cc pc = .ok (.ifCond .ne off, 3)) (tgt : Nat) (ht : (pc : Int) + off = (tgt : Int)) (hc : x = 0) (q : Nat) (hq : pc + 3 = q) (nx : At K G q lv st h) : At K G pc lv (.int x :: st) h := B_if_ne C d tgt ht q hq (fun z => absurd hc z) (fun _ => nx)
theorem T_icmp_ne (C : Ok K G rk cc own) {x y : Int32} {off : Int} (d : decode cc pc = .ok (.if_icmp .ne off, 3)) (tgt : Nat) (ht : (pc : Int) + off = (tgt : Int)) (hc : ¬ x = y) (nx : At K G tgt lv st h) : At K G pc lv (.int y :: .int x :: st) h := B_icmp_ne C d tgt ht (pc + 3) rfl (fun _ => nx) (fun z => absurd z hc)
theorem N_icmp_ne (C : Ok K G rk cc own) {x y : Int32} {off : Int} (d : decode cc pc = .ok (.if_icmp .ne off, 3)) (tgt : Nat) (ht : (pc : Int) + off = (tgt : Int)) (hc : x = y) (q : Nat) (hq : pc + 3 = q) (nx : At K G q lv st h) : At K G pc lv (.int y :: .int x :: st) h := B_icmp_ne C d tgt ht q hq (fun z => absurd hc z) (fun _ => nx)
theorem T_if_lt (C : Ok K G rk cc own) {x : Int32} {off : Int} (d : decode cc pc = .ok (.ifCond .lt off, 3)) (tgt : Nat) (ht : (pc : Int) + off = (tgt : Int)) (hc : x < 0) (nx : At K G tgt lv st h) : At K G pc lv (.int x :: st) h := B_if_lt C d tgt ht (pc + 3) rfl (fun _ => nx) (fun z => absurd hc z)
theorem N_if_lt (C : Ok K G rk cc own) {x : Int32} {off : Int} (d : decode cc pc = .ok (.ifCond .lt off, 3)) (tgt : Nat) (ht : (pc : Int) + off = (tgt : Int)) (hc : ¬ x < 0) (q : Nat) (hq : pc + 3 = q) (nx : At K G q lv st h) : At K G pc lv (.int x :: st) h := B_if_lt C d tgt ht q hq (fun z => absurd z hc) (fun _ => nx)
theorem T_icmp_lt (C : Ok K G rk cc own) {x y : Int32} {off : Int} (d : decode cc pc = .ok (.if_icmp .lt off, 3)) (tgt : Nat) (ht : (pc : Int) + off = (tgt : Int)) (hc : x < y) (nx : At K G tgt lv st h) : At K G pc lv (.int y :: .int x :: st) h := B_icmp_lt C d tgt ht (pc + 3) rfl (fun _ => nx) (fun z => absurd hc z)
theorem N_icmp_lt (C : Ok K G rk cc own) {x y : Int32} {off : Int} (d : decode cc pc = .ok (.if_icmp .lt off, 3)) (tgt : Nat) (ht : (pc : Int) + off = (tgt : Int)) (hc : ¬ x < y) (q : Nat) (hq : pc + 3 = q) (nx : At K G q lv st h) : At K G pc lv (.int y :: .int x :: st) h := B_icmp_lt C d tgt ht q hq (fun z => absurd z hc) (fun _ => nx)
theorem T_if_ge (C : Ok K G rk cc own) {x : Int32} {off : Int} (d : decode cc pc = .ok (.ifCond .ge off, 3)) (tgt : Nat) (ht : (pc : Int) + off = (tgt : Int)) (hc : 0 ≤ x) (nx : At K G tgt lv st h) : At K G pc lv (.int x :: st) h := B_if_ge C d tgt ht (pc + 3) rfl (fun _ => nx) (fun z => absurd hc z)
theorem N_if_ge (C : Ok K G rk cc own) {x : Int32} {off : Int} (d : decode cc pc = .ok (.ifCond .ge off, 3)) (tgt : Nat) (ht : (pc : Int) + off = (tgt : Int)) (hc : ¬ 0 ≤ x) (q : Nat) (hq : pc + 3 = q) (nx : At K G q lv st h) : At K G pc lv (.int x :: st) h := B_if_ge C d tgt ht q hq (fun z => absurd z hc) (fun _ => nx)
theorem T_icmp_ge (C : Ok K G rk cc own) {x y : Int32} {off : Int} (d : decode cc pc = .ok (.if_icmp .ge off, 3)) (tgt : Nat) (ht : (pc : Int) + off = (tgt : Int)) (hc : y ≤ x) (nx : At K G tgt lv st h) : At K G pc lv (.int y :: .int x :: st) h := B_icmp_ge C d tgt ht (pc + 3) rfl (fun _ => nx) (fun z => absurd hc z)
theorem N_icmp_ge (C : Ok K G rk cc own) {x y : Int32} {off : Int} (d : decode cc pc = .ok (.if_icmp .ge off, 3)) (tgt : Nat) (ht : (pc : Int) + off = (tgt : Int)) (hc : ¬ y ≤ x) (q : Nat) (hq : pc + 3 = q) (nx : At K G q lv st h) : At K G pc lv (.int y :: .int x :: st) h := B_icmp_ge C d tgt ht q hq (fun z => absurd z hc) (fun _ => nx)
theorem T_if_gt (C : Ok K G rk cc own) {x : Int32} {off : Int} (d : decode cc pc = .ok (.ifCond .gt off, 3)) (tgt : Nat) (ht : (pc : Int) + off = (tgt : Int)) (hc : 0 < x) (nx : At K G tgt lv st h) : At K G pc lv (.int x :: st) h := B_if_gt C d tgt ht (pc + 3) rfl (fun _ => nx) (fun z => absurd hc z)
theorem N_if_gt (C : Ok K G rk cc own) {x : Int32} {off : Int} (d : decode cc pc = .ok (.ifCond .gt off, 3)) (tgt : Nat) (ht : (pc : Int) + off = (tgt : Int)) (hc : ¬ 0 < x) (q : Nat) (hq : pc + 3 = q) (nx : At K G q lv st h) : At K G pc lv (.int x :: st) h := B_if_gt C d tgt ht q hq (fun z => absurd z hc) (fun _ => nx)
theorem T_icmp_gt (C : Ok K G rk cc own) {x y : Int32} {off : Int} (d : decode cc pc = .ok (.if_icmp .gt off, 3)) (tgt : Nat) (ht : (pc : Int) + off = (tgt : Int)) (hc : y < x) (nx : At K G tgt lv st h) : At K G pc lv (.int y :: .int x :: st) h := B_icmp_gt C d tgt ht (pc + 3) rfl (fun _ => nx) (fun z => absurd hc z)
theorem N_icmp_gt (C : Ok K G rk cc own) {x y : Int32} {off : Int} (d : decode cc pc = .ok (.if_icmp .gt off, 3)) (tgt : Nat) (ht : (pc : Int) + off = (tgt : Int)) (hc : ¬ y < x) (q : Nat) (hq : pc + 3 = q) (nx : At K G q lv st h) : At K G pc lv (.int y :: .int x :: st) h := B_icmp_gt C d tgt ht q hq (fun z => absurd z hc) (fun _ => nx)
theorem T_if_le (C : Ok K G rk cc own) {x : Int32} {off : Int} (d : decode cc pc = .ok (.ifCond .le off, 3)) (tgt : Nat) (ht : (pc : Int) + off = (tgt : Int)) (hc : x ≤ 0) (nx : At K G tgt lv st h) : At K G pc lv (.int x :: st) h := B_if_le C d tgt ht (pc + 3) rfl (fun _ => nx) (fun z => absurd hc z)
theorem N_if_le (C : Ok K G rk cc own) {x : Int32} {off : Int} (d : decode cc pc = .ok (.ifCond .le off, 3)) (tgt : Nat) (ht : (pc : Int) + off = (tgt : Int)) (hc : ¬ x ≤ 0) (q : Nat) (hq : pc + 3 = q) (nx : At K G q lv st h) : At K G pc lv (.int x :: st) h := B_if_le C d tgt ht q hq (fun z => absurd z hc) (fun _ => nx)
theorem T_icmp_le (C : Ok K G rk cc own) {x y : Int32} {off : Int} (d : decode cc pc = .ok (.if_icmp .le off, 3)) (tgt : Nat) (ht : (pc : Int) + off = (tgt : Int)) (hc : x ≤ y) (nx : At K G tgt lv st h) : At K G pc lv (.int y :: .int x :: st) h := B_icmp_le C d tgt ht (pc + 3) rfl (fun _ => nx) (fun z => absurd hc z)
theorem N_icmp_le (C : Ok K G rk cc own) {x y : Int32} {off : Int} (d : decode cc pc = .ok (.if_icmp .le off, 3)) (tgt : Nat) (ht : (pc : Int) + off = (tgt : Int)) (hc : ¬ x ≤ y) (q : Nat) (hq : pc + 3 = q) (nx : At K G q lv st h) : At K G pc lv (.int y :: .int x :: st) h := B_icmp_le C d tgt ht q hq (fun z => absurd z hc) (fun _ => nx)
theorem W_ldcwS {p : Program} {l : Launch} {e : Env} {R : Room} {s : State} {m : MethodId} {args : Array Value} {below : List Frame} {meth : Method} {c : Code} {H : Heap} {locs : List Loc} {cells slots : Nat} {Q : State → Prop} {ls : Array Slot} {rest : List Value} (hexec : p.tables.exec = Jvm.exec) (hb : c.code = cc) {tx : String} {index q : Nat} (hown : s.vm.findClass own = some m.cls) (hZ : vk_R own index tx q s) (hdg : decode cc pc = .ok (.ldc_w index, 3))
    (k : W p l e R s m args below meth c H locs cells slots Q (F0 m (pc + 3) ls (.ref q :: rest))) : W p l e R s m args below meth c H locs cells slots Q (F0 m pc ls rest) := by
  intro T hT X
  obtain ⟨t, a1, b1⟩ := k T hT X
  obtain ⟨kk, cf, i, a', hk, hcf, hcp, -, hr, hev'⟩ := Cond.stringRef_spec hown hZ.1
  cases hZ.2.symm.trans hev'
  obtain ⟨k', hk', he⟩ := X.warmed.alike.2.2 _ _ hk
  have hr' : k'.resolved[index]? = some (some (.string q)) := by
    rcases X.warmed.entry hk hk' index with h | ⟨h, -⟩
    · rw [h]; exact hr
    · rw [hr] at h; cases h
  have hd2 : decode c.code pc = .ok (.ldc_w index, 3) := by rw [hb]; exact hdg
  refine ⟨t, ?_, b1⟩
  jvm_step X.here [hexec, hd2, ldc_w.wp_string (e := e) (s := T) (f := F0 m pc ls rest) X.here.top hk' (by rw [he]; exact hcf) hcp hr']
  exact a1
theorem A_strw (C : Ok K G rk cc own) {idx i : Nat} {tx : String} (d : decode cc pc = .ok (.ldc_w idx, 3)) (hi : i < 58) (hs : strl.getD i ("", 0, "") = (own, idx, tx)) (q : Nat) (hq : pc + 3 = q) (nx : At K G q lv (.ref (K.2.2.2.2.2.1 i) :: st) h) : At K G pc lv st h := by
  subst hq
  obtain ⟨p, l, e, R, s, m, args, below, meth, c, Q, cells, slots, nL⟩ := G
  obtain ⟨hx, hb, hml, hown, hts, hK, hX, hlq, hr1, hr2, hc1, hc2⟩ := id C
  have hz := (hX.2.2.2 i hi).1
  rw [hs] at hz
  exact fun H locs ls hP hD hS hl => W_ldcwS hx hb hown hz d (nx H locs ls hP hD hS hl)
theorem A_callT (C : Ok K G rk cc own) {i idx : Nat} {y : MethodName} {b : ByteArray} {n na rk' : Nat} {ret : Option FieldType} {As : List Value} {v : Option Value} {h' : HH} (d : decode cc pc = .ok (.invokevirtual idx, 3)) (hi : i < 58) (hy : y.cls = "java/lang/String") (hM : MR K y b n ret rk' (.ref (K.2.2.2.2.2.1 i) :: As) h v h') (lk : LkV own idx y b n ret na) (hrk : rk' + 1 ≤ rk) (hn80 : n ≤ 80) (hna : As.length = na) (rest : List Value) (hst : st = As.reverse ++ .ref (K.2.2.2.2.2.1 i) :: rest) (hW : (rest.map fun v => v.category).sum ≤ 8) (q : Nat) (hq : pc + 3 = q) (nx : At K G q lv (v.toList ++ rest) h') : At K G pc lv st h := by
  subst hq hst
  obtain ⟨p, l, e, R, s, m, args, below, meth, c, Q, cells, slots, nL⟩ := G
  obtain ⟨hx, hb, hml, hown, hts, hK, hX, hlq, hr1, hr2, hc1, hc2⟩ := id C
  obtain ⟨k1, k2, k3, k4, k5, k6⟩ := lk
  subst hlq
  intro H locs ls hP hD hS hl
  refine A_back (va_runV (As := As) (rest := rest) (C := y.cls) ⟨hx, hb, hml, hown, hts⟩ hM ⟨callB_of na hts (good_wsY k5) rfl rfl rfl (hts _ k4) (hts _ k1) k6 ⟨by show rk' + 1 ≤ _; omega, by show _ + 100 * rk' ≤ _; omega⟩, hts _ k2, hts _ k3⟩ ⟨Pre.blind K h _, ?_, fun U hU hW => ⟨rfl, by rw [hU]; exact hP, va_K.moved hW.alike hK, hD, hX.warm hU hW hS⟩⟩ rfl hna hl.1 rfl (lv_room hW) d ⟨by omega, by omega⟩) hS (fun H1 locs1 hP1 hS1 => nx H1 locs1 ls hP1 (va_D_wld _ hD) hS1 hl)
  obtain ⟨cell, c1, c2, c3, c4⟩ := ((hX.2.2.2 i hi).2.1).kept hS.2.1
  rw [hy]
  exact ⟨cell, c1, c2, c3⟩
theorem CTi (C : Ok K G rk cc own) {i : Nat} {idx : Nat} {y : MethodName} {b : ByteArray} {n na rk' : Nat} {ret : Option FieldType} {As : List Value} {β : Type} {res : β} {X : Option (Int32 × HH)} {F : Int32 → HH → Option β} (d : decode cc pc = .ok (.invokevirtual idx, 3)) (hi : i < 58) (hf : bd X F = some res) (hM : ∀ r1 h1, X = some (r1, h1) → MR K y b n ret rk' (.ref (K.2.2.2.2.2.1 i) :: As) h (some (.int r1)) h1) (lk : LkV own idx y b n ret na) (hrk : rk' + 1 ≤ rk) (hn80 : n ≤ 80) (hna : As.length = na) (rest : List Value) (hst : st = As.reverse ++ .ref (K.2.2.2.2.2.1 i) :: rest) (hW : (rest.map fun v => v.category).sum ≤ 8) (q : Nat) (hq : pc + 3 = q) (nx : ∀ r1 h1, F r1 h1 = some res → At K G q lv (.int r1 :: rest) h1) (hy : y.cls = "java/lang/String" := by rfl) : At K G pc lv st h := by
  obtain ⟨r1, h1, e1, e2⟩ := bd_t hf
  exact A_callT C d hi hy (hM r1 h1 e1) lk hrk hn80 hna rest hst hW q hq (nx r1 h1 e2)
def jmmax (x y : Int32) : Int32 := if x < y then y else x
theorem A_mmax (C : Ok K G rk cc own) {idx : Nat} {x y : Int32} (d : decode cc pc = .ok (.invokestatic idx, 3)) (w : Cond.methodLink own idx Lib.Math.max.name ∈ TB) (w1 : Cond.static Lib.Math.max.name ∈ TB) (w2 : Cond.initialized "java/lang/Math" ∈ TB) (w3 : Cond.code Lib.Math.max.name Lib.Math.max.code 2 (some .int) ∈ TB) (hrk : 1 ≤ rk) (hW : (st.map fun v => v.category).sum ≤ 8) (q : Nat) (hq : pc + 3 = q) (nx : At K G q lv (.int (jmmax x y) :: st) h) : At K G pc lv (.int y :: .int x :: st) h := by
  subst hq
  obtain ⟨p, l, e, R, s, m, args, below, meth, c, Q, cells, slots, nL⟩ := G
  obtain ⟨hx, hb, hml, hown, hts, hK, hX, hlq, hr1, hr2, hc1, hc2⟩ := id C
  exact fun H locs ls hP hD hS hl => va_mmax hx hb (hml.trans hl.1.symm) hown (hts _ w) (hts _ w1) (hts _ w2) (hts _ w3) (by omega) (by omega) hc1 hc2 d (nx H locs ls hP hD hS hl)
def jmmin (x y : Int32) : Int32 := if y < x then y else x
theorem A_mmin (C : Ok K G rk cc own) {idx : Nat} {x y : Int32} (d : decode cc pc = .ok (.invokestatic idx, 3)) (w : Cond.methodLink own idx Lib.Math.min.name ∈ TB) (w1 : Cond.static Lib.Math.min.name ∈ TB) (w2 : Cond.initialized "java/lang/Math" ∈ TB) (w3 : Cond.code Lib.Math.min.name Lib.Math.min.code 2 (some .int) ∈ TB) (hrk : 1 ≤ rk) (hW : (st.map fun v => v.category).sum ≤ 8) (q : Nat) (hq : pc + 3 = q) (nx : At K G q lv (.int (jmmin x y) :: st) h) : At K G pc lv (.int y :: .int x :: st) h := by
  subst hq
  obtain ⟨p, l, e, R, s, m, args, below, meth, c, Q, cells, slots, nL⟩ := G
  obtain ⟨hx, hb, hml, hown, hts, hK, hX, hlq, hr1, hr2, hc1, hc2⟩ := id C
  exact fun H locs ls hP hD hS hl => va_mmin hx hb (hml.trans hl.1.symm) hown (hts _ w) (hts _ w1) (hts _ w2) (hts _ w3) (by omega) (by omega) hc1 hc2 d (nx H locs ls hP hD hS hl)
def jmmaxl (x y : Int64) : Int64 := if y < x then x else y
theorem A_mmaxl (C : Ok K G rk cc own) {idx : Nat} {x y : Int64} (d : decode cc pc = .ok (.invokestatic idx, 3)) (w : Cond.methodLink own idx Lib.MathLoose.max_long.x ∈ TB) (w1 : Cond.static Lib.MathLoose.max_long.x ∈ TB) (w2 : Cond.initialized "java/lang/Math" ∈ TB) (w3 : Cond.code Lib.MathLoose.max_long.x Lib.MathLoose.max_long.code 4 (some .long) ∈ TB) (hrk : 1 ≤ rk) (hW : (st.map fun v => v.category).sum ≤ 8) (q : Nat) (hq : pc + 3 = q) (nx : At K G q lv (.long (jmmaxl x y) :: st) h) : At K G pc lv (.long y :: .long x :: st) h := by
  subst hq
  obtain ⟨p, l, e, R, s, m, args, below, meth, c, Q, cells, slots, nL⟩ := G
  obtain ⟨hx, hb, hml, hown, hts, hK, hX, hlq, hr1, hr2, hc1, hc2⟩ := id C
  exact fun H locs ls hP hD hS hl => va_mmax_long hx hb (hml.trans hl.1.symm) hown (hts _ w) (hts _ w1) (hts _ w2) (hts _ w3) (by omega) (by omega) hc1 hc2 d (nx H locs ls hP hD hS hl)
def jmminl (x y : Int64) : Int64 := if y < x then y else x
theorem A_mminl (C : Ok K G rk cc own) {idx : Nat} {x y : Int64} (d : decode cc pc = .ok (.invokestatic idx, 3)) (w : Cond.methodLink own idx Lib.MathLoose.min_long.x ∈ TB) (w1 : Cond.static Lib.MathLoose.min_long.x ∈ TB) (w2 : Cond.initialized "java/lang/Math" ∈ TB) (w3 : Cond.code Lib.MathLoose.min_long.x Lib.MathLoose.min_long.code 4 (some .long) ∈ TB) (hrk : 1 ≤ rk) (hW : (st.map fun v => v.category).sum ≤ 8) (q : Nat) (hq : pc + 3 = q) (nx : At K G q lv (.long (jmminl x y) :: st) h) : At K G pc lv (.long y :: .long x :: st) h := by
  subst hq
  obtain ⟨p, l, e, R, s, m, args, below, meth, c, Q, cells, slots, nL⟩ := G
  obtain ⟨hx, hb, hml, hown, hts, hK, hX, hlq, hr1, hr2, hc1, hc2⟩ := id C
  exact fun H locs ls hP hD hS hl => va_mmin_long hx hb (hml.trans hl.1.symm) hown (hts _ w) (hts _ w1) (hts _ w2) (hts _ w3) (by omega) (by omega) hc1 hc2 d (nx H locs ls hP hD hS hl)
end ROWS3
