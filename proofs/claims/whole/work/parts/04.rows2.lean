theorem lt_nl {n i : Nat} {G : GX} (h : G.2.2.2.2.2.2.2.2.2.2.2.2.2 = n) (hi : i < n) : i < G.2.2.2.2.2.2.2.2.2.2.2.2.2 := by rw [h]; exact hi
theorem isA_of {c a : Nat} (h : isK c a) : isA c (ln a) a := ⟨h.1, h.2, rfl⟩
theorem isK_ofA {c n a : Nat} (h : isA c n a) : isK c a := ⟨h.1, h.2.1⟩
section ROWS2
variable {K : KX} {G : GX} {rk : Nat} {cc : ByteArray} {own : String} {pc : Nat} {lv : List (Nat × Value)} {st : List Value} {h : HH}
theorem A_getR (C : Ok K G rk cc own) {a idx : Nat} {α : Type} {X : Option α} {r : α} (d : decode cc pc = .ok (.getfield idx, 3)) (ci k kk : Nat) {rr : vw_C} (hk : isK ci a) (h10 : ci < 10) (hc : cls[ci]? = some rr) (hi : ∀ w ∈ u_ws rr.1 rr.2.1 rr.2.2, w ∈ TB) (hkN : k < rr.2.2) (hv : (fldv K.2.1 h ci a)[k]? = some (rfv K.2.1 (gR h a k))) (w : Cond.fieldLink own idx (rr.2.1 k).1 (rr.2.1 k).2.1 (rr.2.1 k).2.2.1 ∈ TB) (hf : gd (isKb kk (gR h a k)) X = some r) (q : Nat) (hq : pc + 3 = q) (nx : isK kk (gR h a k) → X = some r → At K G q lv (.ref (K.2.1 (gR h a k)) :: st) h) : At K G pc lv (.ref (K.2.1 a) :: st) h := by
  obtain ⟨e1, e2⟩ := gd_t hf
  have e3 := isK_of e1
  rw [rfv_of e3] at hv
  exact A_get C d ci k hk h10 hc hi hkN hv w q hq (nx e3 e2)
theorem A_aald (C : Ok K G rk cc own) {a n : Nat} {i : Int32} {α : Type} {X : Option α} {r : α} (d : decode cc pc = .ok (.aaload, 1)) (hk : isA 13 n a) (hf : gd (inb i n) (gd (isKb 2 (gR h a (ix i))) X) = some r) (q : Nat) (hq : pc + 1 = q) (nx : isK 2 (gR h a (ix i)) → X = some r → At K G q lv (.ref (K.2.1 (gR h a (ix i))) :: st) h) : At K G pc lv (.int i :: .ref (K.2.1 a) :: st) h := by
  subst hq
  obtain ⟨p, l, e, R, s, m, args, below, meth, c, Q, cells, slots, nL⟩ := G
  obtain ⟨hx, hb, hml, hown, hts, hK, hX, hlq, hr1, hr2, hc1, hc2⟩ := id C
  obtain ⟨hin, hf⟩ := gd_t hf
  obtain ⟨e1, hf⟩ := gd_t hf
  have e3 := isK_of e1
  intro H locs ls hP hD hS hl
  refine va_aldq hx hb hK hP a 3 (C := RX2) (n := n) (f := fun j => if h.2.2 a j < NW then some (K.2.1 (h.2.2 a j)) else none) (by rw [wld_get _ _ _ hk.1, cel_N hk]) rfl (inb_in hin) d ?_
  have e4 : (if h.2.2 a i.toNatClampNeg < NW then some (K.2.1 (h.2.2 a i.toNatClampNeg)) else none) = some (K.2.1 (gR h a (ix i))) := if_pos e3.1
  show W _ _ _ _ _ _ _ _ _ _ _ _ _ _ _ (F0 _ _ _ (va_rf (if h.2.2 a i.toNatClampNeg < NW then some (K.2.1 (h.2.2 a i.toNatClampNeg)) else none) :: st))
  rw [e4]
  exact nx e3 hf H locs ls hP hD hS hl
theorem A_aast (C : Ok K G rk cc own) {a n v : Nat} {i : Int32} {α : Type} {X : Option α} {r : α} (d : decode cc pc = .ok (.aastore, 1)) (hk : isA 13 n a) (hv : isK 2 v) (hf : gd (inb i n) X = some r) (q : Nat) (hq : pc + 1 = q) (nx : X = some r → At K G q lv st (sR h a (ix i) v)) : At K G pc lv (.ref (K.2.1 v) :: .int i :: .ref (K.2.1 a) :: st) h := by
  subst hq
  obtain ⟨p, l, e, R, s, m, args, below, meth, c, Q, cells, slots, nL⟩ := G
  obtain ⟨hx, hb, hml, hown, hts, hK, hX, hlq, hr1, hr2, hc1, hc2⟩ := id C
  obtain ⟨hin, hf⟩ := gd_t hf
  have e9 := wld_set (ad := K.2.1) (cy := K.2.2.2.2.1) (h := h) (h' := sR h a (ix i) v) (a := a) (e := .inl (K.2.2.2.2.1.2.2.2, n, .inr (.inr (.inr (.inr (va_up (fun j => if h.2.2 a j < NW then some (K.2.1 (h.2.2 a j)) else none) (ix i) (some (K.2.1 v)))))))) (by
    rw [cel_N hk]
    congr 7
    funext j
    by_cases e : j = ix i
    · subst e
      simp only [sR, va_up, and_self, if_true, if_pos hv.1]
    · simp [sR, va_up, e]) cel_sR
  exact fun H locs ls hP hD hS hl => va_astq hx hb hK hP hD hS a 3 v 2 (r := (RX2, TX2, 7)) (by rw [wld_get _ _ _ hk.1, cel_N hk]) rfl (by rw [wld_get _ _ _ hv.1, cel_O hv (by decide)]) rfl (inb_in hin) d (fun H1 locs1 hP1 hD1 hS1 => nx hf H1 locs1 ls (by rw [← e9]; exact hP1) (by rw [← e9]; exact hD1) hS1 hl)
theorem A_dup2 (C : Ok K G rk cc own) {va vb : Value} (d : decode cc pc = .ok (.dup2, 1)) (hva : va.category = 1) (hvb : vb.category = 1) (q : Nat) (hq : pc + 1 = q) (nx : At K G q lv (va :: vb :: va :: vb :: st) h) : At K G pc lv (va :: vb :: st) h := by
  subst hq
  obtain ⟨p, l, e, R, s, m, args, below, meth, c, Q, cells, slots, nL⟩ := G
  obtain ⟨hx, hb, hml, hown, hts, hK, hX, hlq, hr1, hr2, hc1, hc2⟩ := id C
  exact fun H locs ls hP hD hS hl => lv_dup2_11 hx hb d hva hvb (nx H locs ls hP hD hS hl)
theorem A_swIn (C : Ok K G rk cc own) {dflt lo hi : Int} {offs : Array Int} {len : Nat} {x v : Int32} {off : Int} (d : decode cc pc = .ok (.tableswitch dflt lo hi offs, len)) (hv : x = v) (h1 : ¬ v.toInt < lo) (h2 : ¬ hi < v.toInt) (ho : offs[(v.toInt - lo).toNat]? = some off) (tgt : Nat) (ht : (pc : Int) + off = (tgt : Int)) (nx : At K G tgt lv st h) : At K G pc lv (.int x :: st) h := by
  subst hv
  obtain ⟨p, l, e, R, s, m, args, below, meth, c, Q, cells, slots, nL⟩ := G
  obtain ⟨hx, hb, hml, hown, hts, hK, hX, hlq, hr1, hr2, hc1, hc2⟩ := id C
  exact fun H locs ls hP hD hS hl => lv_tableIn hx hb d h1 h2 ho ht (nx H locs ls hP hD hS hl)
theorem A_swOut (C : Ok K G rk cc own) {dflt lo hi : Int} {offs : Array Int} {len : Nat} {x : Int32} (d : decode cc pc = .ok (.tableswitch dflt lo hi offs, len)) (h1 : x.toInt < lo ∨ hi < x.toInt) (tgt : Nat) (ht : (pc : Int) + dflt = (tgt : Int)) (nx : At K G tgt lv st h) : At K G pc lv (.int x :: st) h := by
  obtain ⟨p, l, e, R, s, m, args, below, meth, c, Q, cells, slots, nL⟩ := G
  obtain ⟨hx, hb, hml, hown, hts, hK, hX, hlq, hr1, hr2, hc1, hc2⟩ := id C
  exact fun H locs ls hP hD hS hl => lv_tableOut hx hb d h1 ht (nx H locs ls hP hD hS hl)
theorem sw_out {x : Int32} (lo n : Nat) (hn : lo + n < 2 ^ 31) (hh : ∀ j, j < n → ¬ x = nI (lo + j)) : x.toInt < (lo : Int) ∨ (((lo + n : Nat) : Int) - 1) < x.toInt := by
  rcases Int.lt_or_le x.toInt lo with q | q
  · exact Or.inl q
  · rcases Int.lt_or_le (((lo + n : Nat) : Int) - 1) x.toInt with q2 | q2
    · exact Or.inr q2
    · exfalso
      have e : x = nI (lo + (x.toInt.toNat - lo)) := by
        apply Int32.toInt_inj.mp
        rw [nI_toInt (by omega)]
        omega
      exact hh (x.toInt.toNat - lo) (by omega) e
theorem CVi (C : Ok K G rk cc own) {a : Nat} {idx : Nat} {y : MethodName} {b : ByteArray} {n na rk' : Nat} {ret : Option FieldType} {As : List Value} {β : Type} {res : β} {X : Option (Int32 × HH)} {F : Int32 → HH → Option β} (d : decode cc pc = .ok (.invokevirtual idx, 3)) (ci : Nat) {r : vw_C} (hk : isK ci a) (h10 : ci < 10) (hc : cls[ci]? = some r) (hy : r.1 = y.cls) (hf : bd X F = some res) (hM : ∀ r1 h1, X = some (r1, h1) → MR K y b n ret rk' (.ref (K.2.1 a) :: As) h (some (.int r1)) h1) (lk : LkV own idx y b n ret na) (hrk : rk' + 1 ≤ rk) (hn80 : n ≤ 60) (hna : As.length = na) (rest : List Value) (hst : st = As.reverse ++ .ref (K.2.1 a) :: rest) (hW : (rest.map fun v => v.category).sum ≤ 20) (q : Nat) (hq : pc + 3 = q) (nx : ∀ r1 h1, F r1 h1 = some res → At K G q lv (.int r1 :: rest) h1) : At K G pc lv st h := by
  obtain ⟨r1, h1, e1, e2⟩ := bd_t hf
  exact A_callV C d ci hk h10 hc hy (hM r1 h1 e1) lk hrk hn80 hna rest hst hW q hq (nx r1 h1 e2)
theorem CVl (C : Ok K G rk cc own) {a : Nat} {idx : Nat} {y : MethodName} {b : ByteArray} {n na rk' : Nat} {ret : Option FieldType} {As : List Value} {β : Type} {res : β} {X : Option (Int64 × HH)} {F : Int64 → HH → Option β} (d : decode cc pc = .ok (.invokevirtual idx, 3)) (ci : Nat) {r : vw_C} (hk : isK ci a) (h10 : ci < 10) (hc : cls[ci]? = some r) (hy : r.1 = y.cls) (hf : bd X F = some res) (hM : ∀ r1 h1, X = some (r1, h1) → MR K y b n ret rk' (.ref (K.2.1 a) :: As) h (some (.long r1)) h1) (lk : LkV own idx y b n ret na) (hrk : rk' + 1 ≤ rk) (hn80 : n ≤ 60) (hna : As.length = na) (rest : List Value) (hst : st = As.reverse ++ .ref (K.2.1 a) :: rest) (hW : (rest.map fun v => v.category).sum ≤ 20) (q : Nat) (hq : pc + 3 = q) (nx : ∀ r1 h1, F r1 h1 = some res → At K G q lv (.long r1 :: rest) h1) : At K G pc lv st h := by
  obtain ⟨r1, h1, e1, e2⟩ := bd_t hf
  exact A_callV C d ci hk h10 hc hy (hM r1 h1 e1) lk hrk hn80 hna rest hst hW q hq (nx r1 h1 e2)
theorem CVz (C : Ok K G rk cc own) {a : Nat} {idx : Nat} {y : MethodName} {b : ByteArray} {n na rk' : Nat} {ret : Option FieldType} {As : List Value} {β : Type} {res : β} {X : Option (Bool × HH)} {F : Bool → HH → Option β} (d : decode cc pc = .ok (.invokevirtual idx, 3)) (ci : Nat) {r : vw_C} (hk : isK ci a) (h10 : ci < 10) (hc : cls[ci]? = some r) (hy : r.1 = y.cls) (hf : bd X F = some res) (hM : ∀ r1 h1, X = some (r1, h1) → MR K y b n ret rk' (.ref (K.2.1 a) :: As) h (some (.int (b2i r1))) h1) (lk : LkV own idx y b n ret na) (hrk : rk' + 1 ≤ rk) (hn80 : n ≤ 60) (hna : As.length = na) (rest : List Value) (hst : st = As.reverse ++ .ref (K.2.1 a) :: rest) (hW : (rest.map fun v => v.category).sum ≤ 20) (q : Nat) (hq : pc + 3 = q) (nx : ∀ r1 h1, F r1 h1 = some res → At K G q lv (.int (b2i r1) :: rest) h1) : At K G pc lv st h := by
  obtain ⟨r1, h1, e1, e2⟩ := bd_t hf
  exact A_callV C d ci hk h10 hc hy (hM r1 h1 e1) lk hrk hn80 hna rest hst hW q hq (nx r1 h1 e2)
theorem CVv (C : Ok K G rk cc own) {a : Nat} {idx : Nat} {y : MethodName} {b : ByteArray} {n na rk' : Nat} {ret : Option FieldType} {As : List Value} {β : Type} {res : β} {X : Option HH} {F : HH → Option β} (d : decode cc pc = .ok (.invokevirtual idx, 3)) (ci : Nat) {r : vw_C} (hk : isK ci a) (h10 : ci < 10) (hc : cls[ci]? = some r) (hy : r.1 = y.cls) (hf : bv X F = some res) (hM : ∀ h1, X = some h1 → MR K y b n ret rk' (.ref (K.2.1 a) :: As) h none h1) (lk : LkV own idx y b n ret na) (hrk : rk' + 1 ≤ rk) (hn80 : n ≤ 60) (hna : As.length = na) (rest : List Value) (hst : st = As.reverse ++ .ref (K.2.1 a) :: rest) (hW : (rest.map fun v => v.category).sum ≤ 20) (q : Nat) (hq : pc + 3 = q) (nx : ∀ h1, F h1 = some res → At K G q lv rest h1) : At K G pc lv st h := by
  obtain ⟨h1, e1, e2⟩ := bv_t hf
  exact A_callV C d ci hk h10 hc hy (hM h1 e1) lk hrk hn80 hna rest hst hW q hq (nx h1 e2)
theorem CSi (C : Ok K G rk cc own) {idx : Nat} {y : MethodName} {b : ByteArray} {n na rk' : Nat} {ret : Option FieldType} {As : List Value} {β : Type} {res : β} {X : Option (Int32 × HH)} {F : Int32 → HH → Option β} (d : decode cc pc = .ok (.invokestatic idx, 3)) (hf : bd X F = some res) (hM : ∀ r1 h1, X = some (r1, h1) → MR K y b n ret rk' As h (some (.int r1)) h1) (lk : LkS own idx y b n ret na) (hrk : rk' + 1 ≤ rk) (hn80 : n ≤ 80) (hna : As.length = na) (rest : List Value) (hst : st = As.reverse ++ rest) (hW : (rest.map fun v => v.category).sum ≤ 8) (q : Nat) (hq : pc + 3 = q) (nx : ∀ r1 h1, F r1 h1 = some res → At K G q lv (.int r1 :: rest) h1) : At K G pc lv st h := by
  obtain ⟨r1, h1, e1, e2⟩ := bd_t hf
  exact A_callS C d (hM r1 h1 e1) lk hrk hn80 hna rest hst hW q hq (nx r1 h1 e2)
theorem CSl (C : Ok K G rk cc own) {idx : Nat} {y : MethodName} {b : ByteArray} {n na rk' : Nat} {ret : Option FieldType} {As : List Value} {β : Type} {res : β} {X : Option (Int64 × HH)} {F : Int64 → HH → Option β} (d : decode cc pc = .ok (.invokestatic idx, 3)) (hf : bd X F = some res) (hM : ∀ r1 h1, X = some (r1, h1) → MR K y b n ret rk' As h (some (.long r1)) h1) (lk : LkS own idx y b n ret na) (hrk : rk' + 1 ≤ rk) (hn80 : n ≤ 80) (hna : As.length = na) (rest : List Value) (hst : st = As.reverse ++ rest) (hW : (rest.map fun v => v.category).sum ≤ 8) (q : Nat) (hq : pc + 3 = q) (nx : ∀ r1 h1, F r1 h1 = some res → At K G q lv (.long r1 :: rest) h1) : At K G pc lv st h := by
  obtain ⟨r1, h1, e1, e2⟩ := bd_t hf
  exact A_callS C d (hM r1 h1 e1) lk hrk hn80 hna rest hst hW q hq (nx r1 h1 e2)
theorem CSz (C : Ok K G rk cc own) {idx : Nat} {y : MethodName} {b : ByteArray} {n na rk' : Nat} {ret : Option FieldType} {As : List Value} {β : Type} {res : β} {X : Option (Bool × HH)} {F : Bool → HH → Option β} (d : decode cc pc = .ok (.invokestatic idx, 3)) (hf : bd X F = some res) (hM : ∀ r1 h1, X = some (r1, h1) → MR K y b n ret rk' As h (some (.int (b2i r1))) h1) (lk : LkS own idx y b n ret na) (hrk : rk' + 1 ≤ rk) (hn80 : n ≤ 80) (hna : As.length = na) (rest : List Value) (hst : st = As.reverse ++ rest) (hW : (rest.map fun v => v.category).sum ≤ 8) (q : Nat) (hq : pc + 3 = q) (nx : ∀ r1 h1, F r1 h1 = some res → At K G q lv (.int (b2i r1) :: rest) h1) : At K G pc lv st h := by
  obtain ⟨r1, h1, e1, e2⟩ := bd_t hf
  exact A_callS C d (hM r1 h1 e1) lk hrk hn80 hna rest hst hW q hq (nx r1 h1 e2)
theorem CSv (C : Ok K G rk cc own) {idx : Nat} {y : MethodName} {b : ByteArray} {n na rk' : Nat} {ret : Option FieldType} {As : List Value} {β : Type} {res : β} {X : Option HH} {F : HH → Option β} (d : decode cc pc = .ok (.invokestatic idx, 3)) (hf : bv X F = some res) (hM : ∀ h1, X = some h1 → MR K y b n ret rk' As h none h1) (lk : LkS own idx y b n ret na) (hrk : rk' + 1 ≤ rk) (hn80 : n ≤ 80) (hna : As.length = na) (rest : List Value) (hst : st = As.reverse ++ rest) (hW : (rest.map fun v => v.category).sum ≤ 8) (q : Nat) (hq : pc + 3 = q) (nx : ∀ h1, F h1 = some res → At K G q lv rest h1) : At K G pc lv st h := by
  obtain ⟨h1, e1, e2⟩ := bv_t hf
  exact A_callS C d (hM h1 e1) lk hrk hn80 hna rest hst hW q hq (nx h1 e2)
theorem CNi (C : Ok K G rk cc own) {host : String} {idx : Nat} {y : MethodName} {b : ByteArray} {n na rk' : Nat} {ret : Option FieldType} {As : List Value} {β : Type} {res : β} {X : Option (Int32 × HH)} {F : Int32 → HH → Option β} (d : decode cc pc = .ok (.invokestatic idx, 3)) (hN : ∀ s : State, Aux K s → va_Nw (.methodLinkNest own idx y host) s) (hf : bd X F = some res) (hM : ∀ r1 h1, X = some (r1, h1) → MR K y b n ret rk' As h (some (.int r1)) h1) (lk : LkN y b n ret na) (hrk : rk' + 1 ≤ rk) (hn80 : n ≤ 80) (hna : As.length = na) (rest : List Value) (hst : st = As.reverse ++ rest) (hW : (rest.map fun v => v.category).sum ≤ 8) (q : Nat) (hq : pc + 3 = q) (nx : ∀ r1 h1, F r1 h1 = some res → At K G q lv (.int r1 :: rest) h1) : At K G pc lv st h := by
  obtain ⟨r1, h1, e1, e2⟩ := bd_t hf
  exact A_callN C d hN (hM r1 h1 e1) lk hrk hn80 hna rest hst hW q hq (nx r1 h1 e2)
theorem CNl (C : Ok K G rk cc own) {host : String} {idx : Nat} {y : MethodName} {b : ByteArray} {n na rk' : Nat} {ret : Option FieldType} {As : List Value} {β : Type} {res : β} {X : Option (Int64 × HH)} {F : Int64 → HH → Option β} (d : decode cc pc = .ok (.invokestatic idx, 3)) (hN : ∀ s : State, Aux K s → va_Nw (.methodLinkNest own idx y host) s) (hf : bd X F = some res) (hM : ∀ r1 h1, X = some (r1, h1) → MR K y b n ret rk' As h (some (.long r1)) h1) (lk : LkN y b n ret na) (hrk : rk' + 1 ≤ rk) (hn80 : n ≤ 80) (hna : As.length = na) (rest : List Value) (hst : st = As.reverse ++ rest) (hW : (rest.map fun v => v.category).sum ≤ 8) (q : Nat) (hq : pc + 3 = q) (nx : ∀ r1 h1, F r1 h1 = some res → At K G q lv (.long r1 :: rest) h1) : At K G pc lv st h := by
  obtain ⟨r1, h1, e1, e2⟩ := bd_t hf
  exact A_callN C d hN (hM r1 h1 e1) lk hrk hn80 hna rest hst hW q hq (nx r1 h1 e2)
theorem CNz (C : Ok K G rk cc own) {host : String} {idx : Nat} {y : MethodName} {b : ByteArray} {n na rk' : Nat} {ret : Option FieldType} {As : List Value} {β : Type} {res : β} {X : Option (Bool × HH)} {F : Bool → HH → Option β} (d : decode cc pc = .ok (.invokestatic idx, 3)) (hN : ∀ s : State, Aux K s → va_Nw (.methodLinkNest own idx y host) s) (hf : bd X F = some res) (hM : ∀ r1 h1, X = some (r1, h1) → MR K y b n ret rk' As h (some (.int (b2i r1))) h1) (lk : LkN y b n ret na) (hrk : rk' + 1 ≤ rk) (hn80 : n ≤ 80) (hna : As.length = na) (rest : List Value) (hst : st = As.reverse ++ rest) (hW : (rest.map fun v => v.category).sum ≤ 8) (q : Nat) (hq : pc + 3 = q) (nx : ∀ r1 h1, F r1 h1 = some res → At K G q lv (.int (b2i r1) :: rest) h1) : At K G pc lv st h := by
  obtain ⟨r1, h1, e1, e2⟩ := bd_t hf
  exact A_callN C d hN (hM r1 h1 e1) lk hrk hn80 hna rest hst hW q hq (nx r1 h1 e2)
theorem CNv (C : Ok K G rk cc own) {host : String} {idx : Nat} {y : MethodName} {b : ByteArray} {n na rk' : Nat} {ret : Option FieldType} {As : List Value} {β : Type} {res : β} {X : Option HH} {F : HH → Option β} (d : decode cc pc = .ok (.invokestatic idx, 3)) (hN : ∀ s : State, Aux K s → va_Nw (.methodLinkNest own idx y host) s) (hf : bv X F = some res) (hM : ∀ h1, X = some h1 → MR K y b n ret rk' As h none h1) (lk : LkN y b n ret na) (hrk : rk' + 1 ≤ rk) (hn80 : n ≤ 80) (hna : As.length = na) (rest : List Value) (hst : st = As.reverse ++ rest) (hW : (rest.map fun v => v.category).sum ≤ 8) (q : Nat) (hq : pc + 3 = q) (nx : ∀ h1, F h1 = some res → At K G q lv rest h1) : At K G pc lv st h := by
  obtain ⟨h1, e1, e2⟩ := bv_t hf
  exact A_callN C d hN (hM h1 e1) lk hrk hn80 hna rest hst hW q hq (nx h1 e2)
theorem A_idivG (C : Ok K G rk cc own) {x y : Int32} {α : Type} {X : Option α} {r : α} (d : decode cc pc = .ok (.idiv, 1)) (hf : gd (!(y == 0)) X = some r) (q : Nat) (hq : pc + 1 = q) (nx : X = some r → At K G q lv (.int (x / y) :: st) h) : At K G pc lv (.int y :: .int x :: st) h := by
  obtain ⟨e1, e2⟩ := gd_t hf
  exact A_idiv C d (by simpa using e1) q hq (nx e2)
theorem A_iremG (C : Ok K G rk cc own) {x y : Int32} {α : Type} {X : Option α} {r : α} (d : decode cc pc = .ok (.irem, 1)) (hf : gd (!(y == 0)) X = some r) (q : Nat) (hq : pc + 1 = q) (nx : X = some r → At K G q lv (.int (x - x / y * y) :: st) h) : At K G pc lv (.int y :: .int x :: st) h := by
  obtain ⟨e1, e2⟩ := gd_t hf
  exact A_irem C d (by simpa using e1) q hq (nx e2)
theorem A_ldivG (C : Ok K G rk cc own) {x y : Int64} {α : Type} {X : Option α} {r : α} (d : decode cc pc = .ok (.ldiv, 1)) (hf : gd (!(y == 0)) X = some r) (q : Nat) (hq : pc + 1 = q) (nx : X = some r → At K G q lv (.long (x / y) :: st) h) : At K G pc lv (.long y :: .long x :: st) h := by
  obtain ⟨e1, e2⟩ := gd_t hf
  exact A_ldiv C d (by simpa using e1) q hq (nx e2)
theorem A_lremG (C : Ok K G rk cc own) {x y : Int64} {α : Type} {X : Option α} {r : α} (d : decode cc pc = .ok (.lrem, 1)) (hf : gd (!(y == 0)) X = some r) (q : Nat) (hq : pc + 1 = q) (nx : X = some r → At K G q lv (.long (x - x / y * y) :: st) h) : At K G pc lv (.long y :: .long x :: st) h := by
  obtain ⟨e1, e2⟩ := gd_t hf
  exact A_lrem C d (by simpa using e1) q hq (nx e2)
end ROWS2
def FU : Nat := 20000
def lq0 {β : Type} (f : (HH → Option β) → HH → Option β) : Nat → HH → Option β
  | 0 => fun _ => none
  | n + 1 => f (lq0 f n)
theorem lq0_at {β : Type} {f : (HH → Option β) → HH → Option β} {res : β} {P : HH → Prop} (step : ∀ (self : HH → Option β), (∀  (k : HH), self  k = some res → P  k) → ∀  (h : HH), f self  h = some res → P  h) : ∀ (n : Nat)  (h : HH), lq0 f n  h = some res → P  h := by
  intro n
  induction n with
  | zero => intro  h hf; cases hf
  | succ n ih => exact step _ ih
theorem lq0_rec {β : Type} {f : (HH → Option β) → HH → Option β} {P : Nat → HH → β → Prop} (step : ∀ (n : Nat) (self : HH → Option β), (∀  (k : HH) (r : β), self  k = some r → P n  k r) → ∀  (h : HH) (r : β), f self  h = some r → P (n + 1)  h r) : ∀ (n : Nat)  (h : HH) (r : β), lq0 f n  h = some r → P n  h r := by
  intro n
  induction n with
  | zero => intro  h r hf; cases hf
  | succ n ih => exact step n _ ih
def lq1 {A1 : Type} {β : Type} (f : (A1 → HH → Option β) → A1 → HH → Option β) : Nat → A1 → HH → Option β
  | 0 => fun _ _ => none
  | n + 1 => f (lq1 f n)
theorem lq1_at {A1 : Type} {β : Type} {f : (A1 → HH → Option β) → A1 → HH → Option β} {res : β} {P : A1 → HH → Prop} (step : ∀ (self : A1 → HH → Option β), (∀ (y1 : A1) (k : HH), self y1 k = some res → P y1 k) → ∀ (x1 : A1) (h : HH), f self x1 h = some res → P x1 h) : ∀ (n : Nat) (x1 : A1) (h : HH), lq1 f n x1 h = some res → P x1 h := by
  intro n
  induction n with
  | zero => intro x1 h hf; cases hf
  | succ n ih => exact step _ ih
theorem lq1_rec {A1 : Type} {β : Type} {f : (A1 → HH → Option β) → A1 → HH → Option β} {P : Nat → A1 → HH → β → Prop} (step : ∀ (n : Nat) (self : A1 → HH → Option β), (∀ (y1 : A1) (k : HH) (r : β), self y1 k = some r → P n y1 k r) → ∀ (x1 : A1) (h : HH) (r : β), f self x1 h = some r → P (n + 1) x1 h r) : ∀ (n : Nat) (x1 : A1) (h : HH) (r : β), lq1 f n x1 h = some r → P n x1 h r := by
  intro n
  induction n with
  | zero => intro x1 h r hf; cases hf
  | succ n ih => exact step n _ ih
def lq2 {A1 A2 : Type} {β : Type} (f : (A1 → A2 → HH → Option β) → A1 → A2 → HH → Option β) : Nat → A1 → A2 → HH → Option β
  | 0 => fun _ _ _ => none
  | n + 1 => f (lq2 f n)
theorem lq2_at {A1 A2 : Type} {β : Type} {f : (A1 → A2 → HH → Option β) → A1 → A2 → HH → Option β} {res : β} {P : A1 → A2 → HH → Prop} (step : ∀ (self : A1 → A2 → HH → Option β), (∀ (y1 : A1) (y2 : A2) (k : HH), self y1 y2 k = some res → P y1 y2 k) → ∀ (x1 : A1) (x2 : A2) (h : HH), f self x1 x2 h = some res → P x1 x2 h) : ∀ (n : Nat) (x1 : A1) (x2 : A2) (h : HH), lq2 f n x1 x2 h = some res → P x1 x2 h := by
  intro n
  induction n with
  | zero => intro x1 x2 h hf; cases hf
  | succ n ih => exact step _ ih
theorem lq2_rec {A1 A2 : Type} {β : Type} {f : (A1 → A2 → HH → Option β) → A1 → A2 → HH → Option β} {P : Nat → A1 → A2 → HH → β → Prop} (step : ∀ (n : Nat) (self : A1 → A2 → HH → Option β), (∀ (y1 : A1) (y2 : A2) (k : HH) (r : β), self y1 y2 k = some r → P n y1 y2 k r) → ∀ (x1 : A1) (x2 : A2) (h : HH) (r : β), f self x1 x2 h = some r → P (n + 1) x1 x2 h r) : ∀ (n : Nat) (x1 : A1) (x2 : A2) (h : HH) (r : β), lq2 f n x1 x2 h = some r → P n x1 x2 h r := by
  intro n
  induction n with
  | zero => intro x1 x2 h r hf; cases hf
  | succ n ih => exact step n _ ih
def lq3 {A1 A2 A3 : Type} {β : Type} (f : (A1 → A2 → A3 → HH → Option β) → A1 → A2 → A3 → HH → Option β) : Nat → A1 → A2 → A3 → HH → Option β
  | 0 => fun _ _ _ _ => none
  | n + 1 => f (lq3 f n)
theorem lq3_at {A1 A2 A3 : Type} {β : Type} {f : (A1 → A2 → A3 → HH → Option β) → A1 → A2 → A3 → HH → Option β} {res : β} {P : A1 → A2 → A3 → HH → Prop} (step : ∀ (self : A1 → A2 → A3 → HH → Option β), (∀ (y1 : A1) (y2 : A2) (y3 : A3) (k : HH), self y1 y2 y3 k = some res → P y1 y2 y3 k) → ∀ (x1 : A1) (x2 : A2) (x3 : A3) (h : HH), f self x1 x2 x3 h = some res → P x1 x2 x3 h) : ∀ (n : Nat) (x1 : A1) (x2 : A2) (x3 : A3) (h : HH), lq3 f n x1 x2 x3 h = some res → P x1 x2 x3 h := by
  intro n
  induction n with
  | zero => intro x1 x2 x3 h hf; cases hf
  | succ n ih => exact step _ ih
theorem lq3_rec {A1 A2 A3 : Type} {β : Type} {f : (A1 → A2 → A3 → HH → Option β) → A1 → A2 → A3 → HH → Option β} {P : Nat → A1 → A2 → A3 → HH → β → Prop} (step : ∀ (n : Nat) (self : A1 → A2 → A3 → HH → Option β), (∀ (y1 : A1) (y2 : A2) (y3 : A3) (k : HH) (r : β), self y1 y2 y3 k = some r → P n y1 y2 y3 k r) → ∀ (x1 : A1) (x2 : A2) (x3 : A3) (h : HH) (r : β), f self x1 x2 x3 h = some r → P (n + 1) x1 x2 x3 h r) : ∀ (n : Nat) (x1 : A1) (x2 : A2) (x3 : A3) (h : HH) (r : β), lq3 f n x1 x2 x3 h = some r → P n x1 x2 x3 h r := by
  intro n
  induction n with
  | zero => intro x1 x2 x3 h r hf; cases hf
  | succ n ih => exact step n _ ih
def lq4 {A1 A2 A3 A4 : Type} {β : Type} (f : (A1 → A2 → A3 → A4 → HH → Option β) → A1 → A2 → A3 → A4 → HH → Option β) : Nat → A1 → A2 → A3 → A4 → HH → Option β
  | 0 => fun _ _ _ _ _ => none
  | n + 1 => f (lq4 f n)
theorem lq4_at {A1 A2 A3 A4 : Type} {β : Type} {f : (A1 → A2 → A3 → A4 → HH → Option β) → A1 → A2 → A3 → A4 → HH → Option β} {res : β} {P : A1 → A2 → A3 → A4 → HH → Prop} (step : ∀ (self : A1 → A2 → A3 → A4 → HH → Option β), (∀ (y1 : A1) (y2 : A2) (y3 : A3) (y4 : A4) (k : HH), self y1 y2 y3 y4 k = some res → P y1 y2 y3 y4 k) → ∀ (x1 : A1) (x2 : A2) (x3 : A3) (x4 : A4) (h : HH), f self x1 x2 x3 x4 h = some res → P x1 x2 x3 x4 h) : ∀ (n : Nat) (x1 : A1) (x2 : A2) (x3 : A3) (x4 : A4) (h : HH), lq4 f n x1 x2 x3 x4 h = some res → P x1 x2 x3 x4 h := by
  intro n
  induction n with
  | zero => intro x1 x2 x3 x4 h hf; cases hf
  | succ n ih => exact step _ ih
theorem lq4_rec {A1 A2 A3 A4 : Type} {β : Type} {f : (A1 → A2 → A3 → A4 → HH → Option β) → A1 → A2 → A3 → A4 → HH → Option β} {P : Nat → A1 → A2 → A3 → A4 → HH → β → Prop} (step : ∀ (n : Nat) (self : A1 → A2 → A3 → A4 → HH → Option β), (∀ (y1 : A1) (y2 : A2) (y3 : A3) (y4 : A4) (k : HH) (r : β), self y1 y2 y3 y4 k = some r → P n y1 y2 y3 y4 k r) → ∀ (x1 : A1) (x2 : A2) (x3 : A3) (x4 : A4) (h : HH) (r : β), f self x1 x2 x3 x4 h = some r → P (n + 1) x1 x2 x3 x4 h r) : ∀ (n : Nat) (x1 : A1) (x2 : A2) (x3 : A3) (x4 : A4) (h : HH) (r : β), lq4 f n x1 x2 x3 x4 h = some r → P n x1 x2 x3 x4 h r := by
  intro n
  induction n with
  | zero => intro x1 x2 x3 x4 h r hf; cases hf
  | succ n ih => exact step n _ ih
def lq5 {A1 A2 A3 A4 A5 : Type} {β : Type} (f : (A1 → A2 → A3 → A4 → A5 → HH → Option β) → A1 → A2 → A3 → A4 → A5 → HH → Option β) : Nat → A1 → A2 → A3 → A4 → A5 → HH → Option β
  | 0 => fun _ _ _ _ _ _ => none
  | n + 1 => f (lq5 f n)
theorem lq5_at {A1 A2 A3 A4 A5 : Type} {β : Type} {f : (A1 → A2 → A3 → A4 → A5 → HH → Option β) → A1 → A2 → A3 → A4 → A5 → HH → Option β} {res : β} {P : A1 → A2 → A3 → A4 → A5 → HH → Prop} (step : ∀ (self : A1 → A2 → A3 → A4 → A5 → HH → Option β), (∀ (y1 : A1) (y2 : A2) (y3 : A3) (y4 : A4) (y5 : A5) (k : HH), self y1 y2 y3 y4 y5 k = some res → P y1 y2 y3 y4 y5 k) → ∀ (x1 : A1) (x2 : A2) (x3 : A3) (x4 : A4) (x5 : A5) (h : HH), f self x1 x2 x3 x4 x5 h = some res → P x1 x2 x3 x4 x5 h) : ∀ (n : Nat) (x1 : A1) (x2 : A2) (x3 : A3) (x4 : A4) (x5 : A5) (h : HH), lq5 f n x1 x2 x3 x4 x5 h = some res → P x1 x2 x3 x4 x5 h := by
  intro n
  induction n with
  | zero => intro x1 x2 x3 x4 x5 h hf; cases hf
  | succ n ih => exact step _ ih
theorem lq5_rec {A1 A2 A3 A4 A5 : Type} {β : Type} {f : (A1 → A2 → A3 → A4 → A5 → HH → Option β) → A1 → A2 → A3 → A4 → A5 → HH → Option β} {P : Nat → A1 → A2 → A3 → A4 → A5 → HH → β → Prop} (step : ∀ (n : Nat) (self : A1 → A2 → A3 → A4 → A5 → HH → Option β), (∀ (y1 : A1) (y2 : A2) (y3 : A3) (y4 : A4) (y5 : A5) (k : HH) (r : β), self y1 y2 y3 y4 y5 k = some r → P n y1 y2 y3 y4 y5 k r) → ∀ (x1 : A1) (x2 : A2) (x3 : A3) (x4 : A4) (x5 : A5) (h : HH) (r : β), f self x1 x2 x3 x4 x5 h = some r → P (n + 1) x1 x2 x3 x4 x5 h r) : ∀ (n : Nat) (x1 : A1) (x2 : A2) (x3 : A3) (x4 : A4) (x5 : A5) (h : HH) (r : β), lq5 f n x1 x2 x3 x4 x5 h = some r → P n x1 x2 x3 x4 x5 h r := by
  intro n
  induction n with
  | zero => intro x1 x2 x3 x4 x5 h r hf; cases hf
  | succ n ih => exact step n _ ih
def lq6 {A1 A2 A3 A4 A5 A6 : Type} {β : Type} (f : (A1 → A2 → A3 → A4 → A5 → A6 → HH → Option β) → A1 → A2 → A3 → A4 → A5 → A6 → HH → Option β) : Nat → A1 → A2 → A3 → A4 → A5 → A6 → HH → Option β
  | 0 => fun _ _ _ _ _ _ _ => none
  | n + 1 => f (lq6 f n)
theorem lq6_at {A1 A2 A3 A4 A5 A6 : Type} {β : Type} {f : (A1 → A2 → A3 → A4 → A5 → A6 → HH → Option β) → A1 → A2 → A3 → A4 → A5 → A6 → HH → Option β} {res : β} {P : A1 → A2 → A3 → A4 → A5 → A6 → HH → Prop} (step : ∀ (self : A1 → A2 → A3 → A4 → A5 → A6 → HH → Option β), (∀ (y1 : A1) (y2 : A2) (y3 : A3) (y4 : A4) (y5 : A5) (y6 : A6) (k : HH), self y1 y2 y3 y4 y5 y6 k = some res → P y1 y2 y3 y4 y5 y6 k) → ∀ (x1 : A1) (x2 : A2) (x3 : A3) (x4 : A4) (x5 : A5) (x6 : A6) (h : HH), f self x1 x2 x3 x4 x5 x6 h = some res → P x1 x2 x3 x4 x5 x6 h) : ∀ (n : Nat) (x1 : A1) (x2 : A2) (x3 : A3) (x4 : A4) (x5 : A5) (x6 : A6) (h : HH), lq6 f n x1 x2 x3 x4 x5 x6 h = some res → P x1 x2 x3 x4 x5 x6 h := by
  intro n
  induction n with
  | zero => intro x1 x2 x3 x4 x5 x6 h hf; cases hf
  | succ n ih => exact step _ ih
theorem lq6_rec {A1 A2 A3 A4 A5 A6 : Type} {β : Type} {f : (A1 → A2 → A3 → A4 → A5 → A6 → HH → Option β) → A1 → A2 → A3 → A4 → A5 → A6 → HH → Option β} {P : Nat → A1 → A2 → A3 → A4 → A5 → A6 → HH → β → Prop} (step : ∀ (n : Nat) (self : A1 → A2 → A3 → A4 → A5 → A6 → HH → Option β), (∀ (y1 : A1) (y2 : A2) (y3 : A3) (y4 : A4) (y5 : A5) (y6 : A6) (k : HH) (r : β), self y1 y2 y3 y4 y5 y6 k = some r → P n y1 y2 y3 y4 y5 y6 k r) → ∀ (x1 : A1) (x2 : A2) (x3 : A3) (x4 : A4) (x5 : A5) (x6 : A6) (h : HH) (r : β), f self x1 x2 x3 x4 x5 x6 h = some r → P (n + 1) x1 x2 x3 x4 x5 x6 h r) : ∀ (n : Nat) (x1 : A1) (x2 : A2) (x3 : A3) (x4 : A4) (x5 : A5) (x6 : A6) (h : HH) (r : β), lq6 f n x1 x2 x3 x4 x5 x6 h = some r → P n x1 x2 x3 x4 x5 x6 h r := by
  intro n
  induction n with
  | zero => intro x1 x2 x3 x4 x5 x6 h r hf; cases hf
  | succ n ih => exact step n _ ih
def lq7 {A1 A2 A3 A4 A5 A6 A7 : Type} {β : Type} (f : (A1 → A2 → A3 → A4 → A5 → A6 → A7 → HH → Option β) → A1 → A2 → A3 → A4 → A5 → A6 → A7 → HH → Option β) : Nat → A1 → A2 → A3 → A4 → A5 → A6 → A7 → HH → Option β
  | 0 => fun _ _ _ _ _ _ _ _ => none
  | n + 1 => f (lq7 f n)
theorem lq7_at {A1 A2 A3 A4 A5 A6 A7 : Type} {β : Type} {f : (A1 → A2 → A3 → A4 → A5 → A6 → A7 → HH → Option β) → A1 → A2 → A3 → A4 → A5 → A6 → A7 → HH → Option β} {res : β} {P : A1 → A2 → A3 → A4 → A5 → A6 → A7 → HH → Prop} (step : ∀ (self : A1 → A2 → A3 → A4 → A5 → A6 → A7 → HH → Option β), (∀ (y1 : A1) (y2 : A2) (y3 : A3) (y4 : A4) (y5 : A5) (y6 : A6) (y7 : A7) (k : HH), self y1 y2 y3 y4 y5 y6 y7 k = some res → P y1 y2 y3 y4 y5 y6 y7 k) → ∀ (x1 : A1) (x2 : A2) (x3 : A3) (x4 : A4) (x5 : A5) (x6 : A6) (x7 : A7) (h : HH), f self x1 x2 x3 x4 x5 x6 x7 h = some res → P x1 x2 x3 x4 x5 x6 x7 h) : ∀ (n : Nat) (x1 : A1) (x2 : A2) (x3 : A3) (x4 : A4) (x5 : A5) (x6 : A6) (x7 : A7) (h : HH), lq7 f n x1 x2 x3 x4 x5 x6 x7 h = some res → P x1 x2 x3 x4 x5 x6 x7 h := by
  intro n
  induction n with
  | zero => intro x1 x2 x3 x4 x5 x6 x7 h hf; cases hf
  | succ n ih => exact step _ ih
theorem lq7_rec {A1 A2 A3 A4 A5 A6 A7 : Type} {β : Type} {f : (A1 → A2 → A3 → A4 → A5 → A6 → A7 → HH → Option β) → A1 → A2 → A3 → A4 → A5 → A6 → A7 → HH → Option β} {P : Nat → A1 → A2 → A3 → A4 → A5 → A6 → A7 → HH → β → Prop} (step : ∀ (n : Nat) (self : A1 → A2 → A3 → A4 → A5 → A6 → A7 → HH → Option β), (∀ (y1 : A1) (y2 : A2) (y3 : A3) (y4 : A4) (y5 : A5) (y6 : A6) (y7 : A7) (k : HH) (r : β), self y1 y2 y3 y4 y5 y6 y7 k = some r → P n y1 y2 y3 y4 y5 y6 y7 k r) → ∀ (x1 : A1) (x2 : A2) (x3 : A3) (x4 : A4) (x5 : A5) (x6 : A6) (x7 : A7) (h : HH) (r : β), f self x1 x2 x3 x4 x5 x6 x7 h = some r → P (n + 1) x1 x2 x3 x4 x5 x6 x7 h r) : ∀ (n : Nat) (x1 : A1) (x2 : A2) (x3 : A3) (x4 : A4) (x5 : A5) (x6 : A6) (x7 : A7) (h : HH) (r : β), lq7 f n x1 x2 x3 x4 x5 x6 x7 h = some r → P n x1 x2 x3 x4 x5 x6 x7 h r := by
  intro n
  induction n with
  | zero => intro x1 x2 x3 x4 x5 x6 x7 h r hf; cases hf
  | succ n ih => exact step n _ ih
def lq8 {A1 A2 A3 A4 A5 A6 A7 A8 : Type} {β : Type} (f : (A1 → A2 → A3 → A4 → A5 → A6 → A7 → A8 → HH → Option β) → A1 → A2 → A3 → A4 → A5 → A6 → A7 → A8 → HH → Option β) : Nat → A1 → A2 → A3 → A4 → A5 → A6 → A7 → A8 → HH → Option β
  | 0 => fun _ _ _ _ _ _ _ _ _ => none
  | n + 1 => f (lq8 f n)
theorem lq8_at {A1 A2 A3 A4 A5 A6 A7 A8 : Type} {β : Type} {f : (A1 → A2 → A3 → A4 → A5 → A6 → A7 → A8 → HH → Option β) → A1 → A2 → A3 → A4 → A5 → A6 → A7 → A8 → HH → Option β} {res : β} {P : A1 → A2 → A3 → A4 → A5 → A6 → A7 → A8 → HH → Prop} (step : ∀ (self : A1 → A2 → A3 → A4 → A5 → A6 → A7 → A8 → HH → Option β), (∀ (y1 : A1) (y2 : A2) (y3 : A3) (y4 : A4) (y5 : A5) (y6 : A6) (y7 : A7) (y8 : A8) (k : HH), self y1 y2 y3 y4 y5 y6 y7 y8 k = some res → P y1 y2 y3 y4 y5 y6 y7 y8 k) → ∀ (x1 : A1) (x2 : A2) (x3 : A3) (x4 : A4) (x5 : A5) (x6 : A6) (x7 : A7) (x8 : A8) (h : HH), f self x1 x2 x3 x4 x5 x6 x7 x8 h = some res → P x1 x2 x3 x4 x5 x6 x7 x8 h) : ∀ (n : Nat) (x1 : A1) (x2 : A2) (x3 : A3) (x4 : A4) (x5 : A5) (x6 : A6) (x7 : A7) (x8 : A8) (h : HH), lq8 f n x1 x2 x3 x4 x5 x6 x7 x8 h = some res → P x1 x2 x3 x4 x5 x6 x7 x8 h := by
  intro n
  induction n with
  | zero => intro x1 x2 x3 x4 x5 x6 x7 x8 h hf; cases hf
  | succ n ih => exact step _ ih
theorem lq8_rec {A1 A2 A3 A4 A5 A6 A7 A8 : Type} {β : Type} {f : (A1 → A2 → A3 → A4 → A5 → A6 → A7 → A8 → HH → Option β) → A1 → A2 → A3 → A4 → A5 → A6 → A7 → A8 → HH → Option β} {P : Nat → A1 → A2 → A3 → A4 → A5 → A6 → A7 → A8 → HH → β → Prop} (step : ∀ (n : Nat) (self : A1 → A2 → A3 → A4 → A5 → A6 → A7 → A8 → HH → Option β), (∀ (y1 : A1) (y2 : A2) (y3 : A3) (y4 : A4) (y5 : A5) (y6 : A6) (y7 : A7) (y8 : A8) (k : HH) (r : β), self y1 y2 y3 y4 y5 y6 y7 y8 k = some r → P n y1 y2 y3 y4 y5 y6 y7 y8 k r) → ∀ (x1 : A1) (x2 : A2) (x3 : A3) (x4 : A4) (x5 : A5) (x6 : A6) (x7 : A7) (x8 : A8) (h : HH) (r : β), f self x1 x2 x3 x4 x5 x6 x7 x8 h = some r → P (n + 1) x1 x2 x3 x4 x5 x6 x7 x8 h r) : ∀ (n : Nat) (x1 : A1) (x2 : A2) (x3 : A3) (x4 : A4) (x5 : A5) (x6 : A6) (x7 : A7) (x8 : A8) (h : HH) (r : β), lq8 f n x1 x2 x3 x4 x5 x6 x7 x8 h = some r → P n x1 x2 x3 x4 x5 x6 x7 x8 h r := by
  intro n
  induction n with
  | zero => intro x1 x2 x3 x4 x5 x6 x7 x8 h r hf; cases hf
  | succ n ih => exact step n _ ih
def lq9 {A1 A2 A3 A4 A5 A6 A7 A8 A9 : Type} {β : Type} (f : (A1 → A2 → A3 → A4 → A5 → A6 → A7 → A8 → A9 → HH → Option β) → A1 → A2 → A3 → A4 → A5 → A6 → A7 → A8 → A9 → HH → Option β) : Nat → A1 → A2 → A3 → A4 → A5 → A6 → A7 → A8 → A9 → HH → Option β
  | 0 => fun _ _ _ _ _ _ _ _ _ _ => none
  | n + 1 => f (lq9 f n)
theorem lq9_at {A1 A2 A3 A4 A5 A6 A7 A8 A9 : Type} {β : Type} {f : (A1 → A2 → A3 → A4 → A5 → A6 → A7 → A8 → A9 → HH → Option β) → A1 → A2 → A3 → A4 → A5 → A6 → A7 → A8 → A9 → HH → Option β} {res : β} {P : A1 → A2 → A3 → A4 → A5 → A6 → A7 → A8 → A9 → HH → Prop} (step : ∀ (self : A1 → A2 → A3 → A4 → A5 → A6 → A7 → A8 → A9 → HH → Option β), (∀ (y1 : A1) (y2 : A2) (y3 : A3) (y4 : A4) (y5 : A5) (y6 : A6) (y7 : A7) (y8 : A8) (y9 : A9) (k : HH), self y1 y2 y3 y4 y5 y6 y7 y8 y9 k = some res → P y1 y2 y3 y4 y5 y6 y7 y8 y9 k) → ∀ (x1 : A1) (x2 : A2) (x3 : A3) (x4 : A4) (x5 : A5) (x6 : A6) (x7 : A7) (x8 : A8) (x9 : A9) (h : HH), f self x1 x2 x3 x4 x5 x6 x7 x8 x9 h = some res → P x1 x2 x3 x4 x5 x6 x7 x8 x9 h) : ∀ (n : Nat) (x1 : A1) (x2 : A2) (x3 : A3) (x4 : A4) (x5 : A5) (x6 : A6) (x7 : A7) (x8 : A8) (x9 : A9) (h : HH), lq9 f n x1 x2 x3 x4 x5 x6 x7 x8 x9 h = some res → P x1 x2 x3 x4 x5 x6 x7 x8 x9 h := by
  intro n
  induction n with
  | zero => intro x1 x2 x3 x4 x5 x6 x7 x8 x9 h hf; cases hf
  | succ n ih => exact step _ ih
theorem lq9_rec {A1 A2 A3 A4 A5 A6 A7 A8 A9 : Type} {β : Type} {f : (A1 → A2 → A3 → A4 → A5 → A6 → A7 → A8 → A9 → HH → Option β) → A1 → A2 → A3 → A4 → A5 → A6 → A7 → A8 → A9 → HH → Option β} {P : Nat → A1 → A2 → A3 → A4 → A5 → A6 → A7 → A8 → A9 → HH → β → Prop} (step : ∀ (n : Nat) (self : A1 → A2 → A3 → A4 → A5 → A6 → A7 → A8 → A9 → HH → Option β), (∀ (y1 : A1) (y2 : A2) (y3 : A3) (y4 : A4) (y5 : A5) (y6 : A6) (y7 : A7) (y8 : A8) (y9 : A9) (k : HH) (r : β), self y1 y2 y3 y4 y5 y6 y7 y8 y9 k = some r → P n y1 y2 y3 y4 y5 y6 y7 y8 y9 k r) → ∀ (x1 : A1) (x2 : A2) (x3 : A3) (x4 : A4) (x5 : A5) (x6 : A6) (x7 : A7) (x8 : A8) (x9 : A9) (h : HH) (r : β), f self x1 x2 x3 x4 x5 x6 x7 x8 x9 h = some r → P (n + 1) x1 x2 x3 x4 x5 x6 x7 x8 x9 h r) : ∀ (n : Nat) (x1 : A1) (x2 : A2) (x3 : A3) (x4 : A4) (x5 : A5) (x6 : A6) (x7 : A7) (x8 : A8) (x9 : A9) (h : HH) (r : β), lq9 f n x1 x2 x3 x4 x5 x6 x7 x8 x9 h = some r → P n x1 x2 x3 x4 x5 x6 x7 x8 x9 h r := by
  intro n
  induction n with
  | zero => intro x1 x2 x3 x4 x5 x6 x7 x8 x9 h r hf; cases hf
  | succ n ih => exact step n _ ih
def lq10 {A1 A2 A3 A4 A5 A6 A7 A8 A9 A10 : Type} {β : Type} (f : (A1 → A2 → A3 → A4 → A5 → A6 → A7 → A8 → A9 → A10 → HH → Option β) → A1 → A2 → A3 → A4 → A5 → A6 → A7 → A8 → A9 → A10 → HH → Option β) : Nat → A1 → A2 → A3 → A4 → A5 → A6 → A7 → A8 → A9 → A10 → HH → Option β
  | 0 => fun _ _ _ _ _ _ _ _ _ _ _ => none
  | n + 1 => f (lq10 f n)
theorem lq10_at {A1 A2 A3 A4 A5 A6 A7 A8 A9 A10 : Type} {β : Type} {f : (A1 → A2 → A3 → A4 → A5 → A6 → A7 → A8 → A9 → A10 → HH → Option β) → A1 → A2 → A3 → A4 → A5 → A6 → A7 → A8 → A9 → A10 → HH → Option β} {res : β} {P : A1 → A2 → A3 → A4 → A5 → A6 → A7 → A8 → A9 → A10 → HH → Prop} (step : ∀ (self : A1 → A2 → A3 → A4 → A5 → A6 → A7 → A8 → A9 → A10 → HH → Option β), (∀ (y1 : A1) (y2 : A2) (y3 : A3) (y4 : A4) (y5 : A5) (y6 : A6) (y7 : A7) (y8 : A8) (y9 : A9) (y10 : A10) (k : HH), self y1 y2 y3 y4 y5 y6 y7 y8 y9 y10 k = some res → P y1 y2 y3 y4 y5 y6 y7 y8 y9 y10 k) → ∀ (x1 : A1) (x2 : A2) (x3 : A3) (x4 : A4) (x5 : A5) (x6 : A6) (x7 : A7) (x8 : A8) (x9 : A9) (x10 : A10) (h : HH), f self x1 x2 x3 x4 x5 x6 x7 x8 x9 x10 h = some res → P x1 x2 x3 x4 x5 x6 x7 x8 x9 x10 h) : ∀ (n : Nat) (x1 : A1) (x2 : A2) (x3 : A3) (x4 : A4) (x5 : A5) (x6 : A6) (x7 : A7) (x8 : A8) (x9 : A9) (x10 : A10) (h : HH), lq10 f n x1 x2 x3 x4 x5 x6 x7 x8 x9 x10 h = some res → P x1 x2 x3 x4 x5 x6 x7 x8 x9 x10 h := by
  intro n
  induction n with
  | zero => intro x1 x2 x3 x4 x5 x6 x7 x8 x9 x10 h hf; cases hf
  | succ n ih => exact step _ ih
theorem lq10_rec {A1 A2 A3 A4 A5 A6 A7 A8 A9 A10 : Type} {β : Type} {f : (A1 → A2 → A3 → A4 → A5 → A6 → A7 → A8 → A9 → A10 → HH → Option β) → A1 → A2 → A3 → A4 → A5 → A6 → A7 → A8 → A9 → A10 → HH → Option β} {P : Nat → A1 → A2 → A3 → A4 → A5 → A6 → A7 → A8 → A9 → A10 → HH → β → Prop} (step : ∀ (n : Nat) (self : A1 → A2 → A3 → A4 → A5 → A6 → A7 → A8 → A9 → A10 → HH → Option β), (∀ (y1 : A1) (y2 : A2) (y3 : A3) (y4 : A4) (y5 : A5) (y6 : A6) (y7 : A7) (y8 : A8) (y9 : A9) (y10 : A10) (k : HH) (r : β), self y1 y2 y3 y4 y5 y6 y7 y8 y9 y10 k = some r → P n y1 y2 y3 y4 y5 y6 y7 y8 y9 y10 k r) → ∀ (x1 : A1) (x2 : A2) (x3 : A3) (x4 : A4) (x5 : A5) (x6 : A6) (x7 : A7) (x8 : A8) (x9 : A9) (x10 : A10) (h : HH) (r : β), f self x1 x2 x3 x4 x5 x6 x7 x8 x9 x10 h = some r → P (n + 1) x1 x2 x3 x4 x5 x6 x7 x8 x9 x10 h r) : ∀ (n : Nat) (x1 : A1) (x2 : A2) (x3 : A3) (x4 : A4) (x5 : A5) (x6 : A6) (x7 : A7) (x8 : A8) (x9 : A9) (x10 : A10) (h : HH) (r : β), lq10 f n x1 x2 x3 x4 x5 x6 x7 x8 x9 x10 h = some r → P n x1 x2 x3 x4 x5 x6 x7 x8 x9 x10 h r := by
  intro n
  induction n with
  | zero => intro x1 x2 x3 x4 x5 x6 x7 x8 x9 x10 h r hf; cases hf
  | succ n ih => exact step n _ ih
def lq11 {A1 A2 A3 A4 A5 A6 A7 A8 A9 A10 A11 : Type} {β : Type} (f : (A1 → A2 → A3 → A4 → A5 → A6 → A7 → A8 → A9 → A10 → A11 → HH → Option β) → A1 → A2 → A3 → A4 → A5 → A6 → A7 → A8 → A9 → A10 → A11 → HH → Option β) : Nat → A1 → A2 → A3 → A4 → A5 → A6 → A7 → A8 → A9 → A10 → A11 → HH → Option β
  | 0 => fun _ _ _ _ _ _ _ _ _ _ _ _ => none
  | n + 1 => f (lq11 f n)
theorem lq11_at {A1 A2 A3 A4 A5 A6 A7 A8 A9 A10 A11 : Type} {β : Type} {f : (A1 → A2 → A3 → A4 → A5 → A6 → A7 → A8 → A9 → A10 → A11 → HH → Option β) → A1 → A2 → A3 → A4 → A5 → A6 → A7 → A8 → A9 → A10 → A11 → HH → Option β} {res : β} {P : A1 → A2 → A3 → A4 → A5 → A6 → A7 → A8 → A9 → A10 → A11 → HH → Prop} (step : ∀ (self : A1 → A2 → A3 → A4 → A5 → A6 → A7 → A8 → A9 → A10 → A11 → HH → Option β), (∀ (y1 : A1) (y2 : A2) (y3 : A3) (y4 : A4) (y5 : A5) (y6 : A6) (y7 : A7) (y8 : A8) (y9 : A9) (y10 : A10) (y11 : A11) (k : HH), self y1 y2 y3 y4 y5 y6 y7 y8 y9 y10 y11 k = some res → P y1 y2 y3 y4 y5 y6 y7 y8 y9 y10 y11 k) → ∀ (x1 : A1) (x2 : A2) (x3 : A3) (x4 : A4) (x5 : A5) (x6 : A6) (x7 : A7) (x8 : A8) (x9 : A9) (x10 : A10) (x11 : A11) (h : HH), f self x1 x2 x3 x4 x5 x6 x7 x8 x9 x10 x11 h = some res → P x1 x2 x3 x4 x5 x6 x7 x8 x9 x10 x11 h) : ∀ (n : Nat) (x1 : A1) (x2 : A2) (x3 : A3) (x4 : A4) (x5 : A5) (x6 : A6) (x7 : A7) (x8 : A8) (x9 : A9) (x10 : A10) (x11 : A11) (h : HH), lq11 f n x1 x2 x3 x4 x5 x6 x7 x8 x9 x10 x11 h = some res → P x1 x2 x3 x4 x5 x6 x7 x8 x9 x10 x11 h := by
  intro n
  induction n with
  | zero => intro x1 x2 x3 x4 x5 x6 x7 x8 x9 x10 x11 h hf; cases hf
  | succ n ih => exact step _ ih
theorem lq11_rec {A1 A2 A3 A4 A5 A6 A7 A8 A9 A10 A11 : Type} {β : Type} {f : (A1 → A2 → A3 → A4 → A5 → A6 → A7 → A8 → A9 → A10 → A11 → HH → Option β) → A1 → A2 → A3 → A4 → A5 → A6 → A7 → A8 → A9 → A10 → A11 → HH → Option β} {P : Nat → A1 → A2 → A3 → A4 → A5 → A6 → A7 → A8 → A9 → A10 → A11 → HH → β → Prop} (step : ∀ (n : Nat) (self : A1 → A2 → A3 → A4 → A5 → A6 → A7 → A8 → A9 → A10 → A11 → HH → Option β), (∀ (y1 : A1) (y2 : A2) (y3 : A3) (y4 : A4) (y5 : A5) (y6 : A6) (y7 : A7) (y8 : A8) (y9 : A9) (y10 : A10) (y11 : A11) (k : HH) (r : β), self y1 y2 y3 y4 y5 y6 y7 y8 y9 y10 y11 k = some r → P n y1 y2 y3 y4 y5 y6 y7 y8 y9 y10 y11 k r) → ∀ (x1 : A1) (x2 : A2) (x3 : A3) (x4 : A4) (x5 : A5) (x6 : A6) (x7 : A7) (x8 : A8) (x9 : A9) (x10 : A10) (x11 : A11) (h : HH) (r : β), f self x1 x2 x3 x4 x5 x6 x7 x8 x9 x10 x11 h = some r → P (n + 1) x1 x2 x3 x4 x5 x6 x7 x8 x9 x10 x11 h r) : ∀ (n : Nat) (x1 : A1) (x2 : A2) (x3 : A3) (x4 : A4) (x5 : A5) (x6 : A6) (x7 : A7) (x8 : A8) (x9 : A9) (x10 : A10) (x11 : A11) (h : HH) (r : β), lq11 f n x1 x2 x3 x4 x5 x6 x7 x8 x9 x10 x11 h = some r → P n x1 x2 x3 x4 x5 x6 x7 x8 x9 x10 x11 h r := by
  intro n
  induction n with
  | zero => intro x1 x2 x3 x4 x5 x6 x7 x8 x9 x10 x11 h r hf; cases hf
  | succ n ih => exact step n _ ih
def lq12 {A1 A2 A3 A4 A5 A6 A7 A8 A9 A10 A11 A12 : Type} {β : Type} (f : (A1 → A2 → A3 → A4 → A5 → A6 → A7 → A8 → A9 → A10 → A11 → A12 → HH → Option β) → A1 → A2 → A3 → A4 → A5 → A6 → A7 → A8 → A9 → A10 → A11 → A12 → HH → Option β) : Nat → A1 → A2 → A3 → A4 → A5 → A6 → A7 → A8 → A9 → A10 → A11 → A12 → HH → Option β
  | 0 => fun _ _ _ _ _ _ _ _ _ _ _ _ _ => none
  | n + 1 => f (lq12 f n)
theorem lq12_at {A1 A2 A3 A4 A5 A6 A7 A8 A9 A10 A11 A12 : Type} {β : Type} {f : (A1 → A2 → A3 → A4 → A5 → A6 → A7 → A8 → A9 → A10 → A11 → A12 → HH → Option β) → A1 → A2 → A3 → A4 → A5 → A6 → A7 → A8 → A9 → A10 → A11 → A12 → HH → Option β} {res : β} {P : A1 → A2 → A3 → A4 → A5 → A6 → A7 → A8 → A9 → A10 → A11 → A12 → HH → Prop} (step : ∀ (self : A1 → A2 → A3 → A4 → A5 → A6 → A7 → A8 → A9 → A10 → A11 → A12 → HH → Option β), (∀ (y1 : A1) (y2 : A2) (y3 : A3) (y4 : A4) (y5 : A5) (y6 : A6) (y7 : A7) (y8 : A8) (y9 : A9) (y10 : A10) (y11 : A11) (y12 : A12) (k : HH), self y1 y2 y3 y4 y5 y6 y7 y8 y9 y10 y11 y12 k = some res → P y1 y2 y3 y4 y5 y6 y7 y8 y9 y10 y11 y12 k) → ∀ (x1 : A1) (x2 : A2) (x3 : A3) (x4 : A4) (x5 : A5) (x6 : A6) (x7 : A7) (x8 : A8) (x9 : A9) (x10 : A10) (x11 : A11) (x12 : A12) (h : HH), f self x1 x2 x3 x4 x5 x6 x7 x8 x9 x10 x11 x12 h = some res → P x1 x2 x3 x4 x5 x6 x7 x8 x9 x10 x11 x12 h) : ∀ (n : Nat) (x1 : A1) (x2 : A2) (x3 : A3) (x4 : A4) (x5 : A5) (x6 : A6) (x7 : A7) (x8 : A8) (x9 : A9) (x10 : A10) (x11 : A11) (x12 : A12) (h : HH), lq12 f n x1 x2 x3 x4 x5 x6 x7 x8 x9 x10 x11 x12 h = some res → P x1 x2 x3 x4 x5 x6 x7 x8 x9 x10 x11 x12 h := by
  intro n
  induction n with
  | zero => intro x1 x2 x3 x4 x5 x6 x7 x8 x9 x10 x11 x12 h hf; cases hf
  | succ n ih => exact step _ ih
theorem lq12_rec {A1 A2 A3 A4 A5 A6 A7 A8 A9 A10 A11 A12 : Type} {β : Type} {f : (A1 → A2 → A3 → A4 → A5 → A6 → A7 → A8 → A9 → A10 → A11 → A12 → HH → Option β) → A1 → A2 → A3 → A4 → A5 → A6 → A7 → A8 → A9 → A10 → A11 → A12 → HH → Option β} {P : Nat → A1 → A2 → A3 → A4 → A5 → A6 → A7 → A8 → A9 → A10 → A11 → A12 → HH → β → Prop} (step : ∀ (n : Nat) (self : A1 → A2 → A3 → A4 → A5 → A6 → A7 → A8 → A9 → A10 → A11 → A12 → HH → Option β), (∀ (y1 : A1) (y2 : A2) (y3 : A3) (y4 : A4) (y5 : A5) (y6 : A6) (y7 : A7) (y8 : A8) (y9 : A9) (y10 : A10) (y11 : A11) (y12 : A12) (k : HH) (r : β), self y1 y2 y3 y4 y5 y6 y7 y8 y9 y10 y11 y12 k = some r → P n y1 y2 y3 y4 y5 y6 y7 y8 y9 y10 y11 y12 k r) → ∀ (x1 : A1) (x2 : A2) (x3 : A3) (x4 : A4) (x5 : A5) (x6 : A6) (x7 : A7) (x8 : A8) (x9 : A9) (x10 : A10) (x11 : A11) (x12 : A12) (h : HH) (r : β), f self x1 x2 x3 x4 x5 x6 x7 x8 x9 x10 x11 x12 h = some r → P (n + 1) x1 x2 x3 x4 x5 x6 x7 x8 x9 x10 x11 x12 h r) : ∀ (n : Nat) (x1 : A1) (x2 : A2) (x3 : A3) (x4 : A4) (x5 : A5) (x6 : A6) (x7 : A7) (x8 : A8) (x9 : A9) (x10 : A10) (x11 : A11) (x12 : A12) (h : HH) (r : β), lq12 f n x1 x2 x3 x4 x5 x6 x7 x8 x9 x10 x11 x12 h = some r → P n x1 x2 x3 x4 x5 x6 x7 x8 x9 x10 x11 x12 h r := by
  intro n
  induction n with
  | zero => intro x1 x2 x3 x4 x5 x6 x7 x8 x9 x10 x11 x12 h r hf; cases hf
  | succ n ih => exact step n _ ih
