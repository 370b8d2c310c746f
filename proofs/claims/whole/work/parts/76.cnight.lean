set_option maxRecDepth 100000 in
theorem gIs (h : HH) (a k : Nat) (v : Int32) : gI (sI h a k v) a k = v := by rw [gI_sI, if_pos ⟨rfl, rfl⟩]
set_option maxRecDepth 100000 in
theorem gIa {h : HH} {a k b j : Nat} {v : Int32} (n : b ≠ a) : gI (sI h a k v) b j = gI h b j := by rw [gI_sI, if_neg (fun z => n z.1)]
set_option maxRecDepth 100000 in
theorem gIk {h : HH} {a k b j : Nat} {v : Int32} (n : j ≠ k) : gI (sI h a k v) b j = gI h b j := by rw [gI_sI, if_neg (fun z => n z.2)]
set_option maxRecDepth 100000 in
theorem gLs (h : HH) (a k : Nat) (v : Int64) : gL (sL h a k v) a k = v := by rw [gL_sL, if_pos ⟨rfl, rfl⟩]
set_option maxRecDepth 100000 in
theorem gLa {h : HH} {a k b j : Nat} {v : Int64} (n : b ≠ a) : gL (sL h a k v) b j = gL h b j := by rw [gL_sL, if_neg (fun z => n z.1)]
set_option maxRecDepth 100000 in
theorem gLk {h : HH} {a k b j : Nat} {v : Int64} (n : j ≠ k) : gL (sL h a k v) b j = gL h b j := by rw [gL_sL, if_neg (fun z => n z.2)]
set_option maxRecDepth 100000 in
theorem gRs (h : HH) (a k : Nat) (v : Nat) : gR (sR h a k v) a k = v := by rw [gR_sR, if_pos ⟨rfl, rfl⟩]
set_option maxRecDepth 100000 in
theorem gRa {h : HH} {a k b j : Nat} {v : Nat} (n : b ≠ a) : gR (sR h a k v) b j = gR h b j := by rw [gR_sR, if_neg (fun z => n z.1)]
set_option maxRecDepth 100000 in
theorem gRk {h : HH} {a k b j : Nat} {v : Nat} (n : j ≠ k) : gR (sR h a k v) b j = gR h b j := by rw [gR_sR, if_neg (fun z => n z.2)]
/-- outside of the night at a -/
def PN (a b k : Nat) : Prop := ¬ (a ≤ b ∧ b ≤ a + 6)
set_option maxRecDepth 100000 in
theorem kpN1 {a : Nat} {h h' : HH} (K : Keep (PN a) h h') {b k : Nat} {v : Int32} (h1 : a ≤ b) (h2 : b ≤ a + 6) : Keep (PN a) h (sI h' b k v) := Keep.sI K (fun z => z ⟨h1, h2⟩)
def Keep.N1 {a : Nat} {h h' : HH} (K : Keep (PN a) h h') {b k : Nat} {v : Int32} (h1 : a ≤ b) (h2 : b ≤ a + 6) := kpN1 K (b := b) (k := k) (v := v) h1 h2
set_option maxRecDepth 100000 in
theorem kpN2 {a : Nat} {h h' : HH} (K : Keep (PN a) h h') {b k : Nat} {v : Int64} (h1 : a ≤ b) (h2 : b ≤ a + 6) : Keep (PN a) h (sL h' b k v) := Keep.sL K (fun z => z ⟨h1, h2⟩)
def Keep.N2 {a : Nat} {h h' : HH} (K : Keep (PN a) h h') {b k : Nat} {v : Int64} (h1 : a ≤ b) (h2 : b ≤ a + 6) := kpN2 K (b := b) (k := k) (v := v) h1 h2
set_option maxRecDepth 100000 in
theorem DRep.N {h h' : HH} {d a : Nat} {R : Nat → Nat} (D : DRep h d R) (K : Keep (PN a) h h') (hda : a + 6 < d) : DRep h' d R := D.keep K (fun b k h1 h2 z => by omega)
section CNI
variable {h : HH} {d a : Nat} {R : Nat → Nat} {σ : ST} {B : Nat}
/-! what he has spent so far -/
set_option maxRecDepth 100000 in
theorem spent_cm {s fl hd : Nat} {p : Nat} (hs : s < 5) (hp : p + (σ.2 0 - σ.2 (1 + s)) * qk R (σ.1 (4 * s + 0)) = σ.2 (6 + 5 * s + 0) * qk R 0 + σ.2 (6 + 5 * s + 1) * qk R 1 + σ.2 (6 + 5 * s + 2) * qk R 2 + σ.2 (6 + 5 * s + 3) * qk R 3 + σ.2 (6 + 5 * s + 4) * qk R 4) : p + (σ.2 0 - σ.2 (1 + s)) * qk R (σ.1 (4 * s + 0)) + ((cmS s fl hd σ).2 0 - (cmS s fl hd σ).2 (1 + s)) * qk R ((cmS s fl hd σ).1 (4 * s + 0)) = (cmS s fl hd σ).2 (6 + 5 * s + 0) * qk R 0 + (cmS s fl hd σ).2 (6 + 5 * s + 1) * qk R 1 + (cmS s fl hd σ).2 (6 + 5 * s + 2) * qk R 2 + (cmS s fl hd σ).2 (6 + 5 * s + 3) * qk R 3 + (cmS s fl hd σ).2 (6 + 5 * s + 4) * qk R 4 := by
  rw [cm_t, cm_to (j := 0) (by omega), cm_to (j := 6 + 5 * s + 0) (by omega), cm_to (j := 6 + 5 * s + 1) (by omega), cm_to (j := 6 + 5 * s + 2) (by omega), cm_to (j := 6 + 5 * s + 3) (by omega), cm_to (j := 6 + 5 * s + 4) (by omega), Nat.sub_self, Nat.zero_mul, Nat.add_zero]
  exact hp
/-! the picture behind a coming, by what its cells hold -/
set_option maxRecDepth 100000 in
theorem NRep.cm (Q : NRep h a R σ.1 σ.2) (W : VN R σ.1 σ.2 B) {s fl hd p : Nat} (hs : s < R 4) (h5 : R 4 ≤ 5) {h' : HH} (hp : gL h (a + 6) s = lN p) (hp2 : p + (σ.2 0 - σ.2 (1 + s)) * qk R (σ.1 (4 * s + 0)) = σ.2 (6 + 5 * s + 0) * qk R 0 + σ.2 (6 + 5 * s + 1) * qk R 1 + σ.2 (6 + 5 * s + 2) * qk R 2 + σ.2 (6 + 5 * s + 3) * qk R 3 + σ.2 (6 + 5 * s + 4) * qk R 4) (e1 : gI h' (a + 1) s = nI fl) (e2 : gI h' (a + 2) s = les M2 (if fl = 0 then 0 else hd)) (e5 : gL h' (a + 5) s = lN (σ.2 0)) (e6 : gL h' (a + 6) s = lN (p + (σ.2 0 - σ.2 (1 + s)) * qk R (σ.1 (4 * s + 0))))
    (k0 : gL h' a 6 = gL h a 6) (k3 : gI h' (a + 3) s = gI h (a + 3) s) (k4 : gI h' (a + 4) s = gI h (a + 4) s) (ko : ∀ b q, a ≤ b → b ≤ a + 6 → q ≠ s → q < 5 → gI h' b q = gI h b q ∧ gL h' b q = gL h b q) : NRep h' a R (cmS s fl hd σ).1 (cmS s fl hd σ).2 := by
  obtain ⟨q1, q2, q3⟩ := Q
  refine ⟨?_, fun q hq => ?_, fun q hq => ?_⟩
  · rw [k0, cm_to (by omega)]; exact q1
  · by_cases e : q = s
    · subst e
      have := q2 q hq
      rw [e1, e2, e5, k3, k4, cm_0, cm_1, cm_t, cm_o (j := 4 * q + 2) (by omega) (by omega), cm_o (j := 4 * q + 3) (by omega) (by omega)]
      exact ⟨rfl, rfl, this.2.2.1, this.2.2.2.1, rfl⟩
    · rw [(ko (a + 1) q (by omega) (by omega) e hq).1, (ko (a + 2) q (by omega) (by omega) e hq).1, (ko (a + 3) q (by omega) (by omega) e hq).1, (ko (a + 4) q (by omega) (by omega) e hq).1, (ko (a + 5) q (by omega) (by omega) e hq).2, cm_o (j := 4 * q + 0) (by omega) (by omega), cm_o (j := 4 * q + 1) (by omega) (by omega), cm_o (j := 4 * q + 2) (by omega) (by omega), cm_o (j := 4 * q + 3) (by omega) (by omega), cm_to (j := 1 + q) (by omega)]
      exact q2 q hq
  · by_cases e : q = s
    · subst e
      exact ⟨_, e6, spent_cm (by omega) hp2⟩
    · rw [(ko (a + 6) q (by omega) (by omega) e (by omega)).2, cm_o (j := 4 * q + 0) (by omega) (by omega), cm_to (j := 1 + q) (by omega), cm_to (j := 0) (by omega), cm_to (j := 6 + 5 * q + 0) (by omega), cm_to (j := 6 + 5 * q + 1) (by omega), cm_to (j := 6 + 5 * q + 2) (by omega), cm_to (j := 6 + 5 * q + 3) (by omega), cm_to (j := 6 + 5 * q + 4) (by omega)]
      exact q3 q hq
set_option maxRecDepth 100000 in
theorem cCome (D : DRep h d R) (hda : a + 6 < d) (v : VR R) (Q : NRep h a R σ.1 σ.2) (W : VN R σ.1 σ.2 B) (hB : B ≤ 2000) {s fl hd : Nat} (hs : s < R 4) {x3 x4 : Int32} (e3 : jmmax (nI 0) (jmmin x3 (nI (R 0))) = nI fl) (hfl : fl ≤ R 0) (e4 : fl ≠ 0 → σ.1 (4 * s + 0) = 0 → x4 = les M2 hd) : ∃ h', fX2_comeTo a d (nI s) x3 x4 h = some h' ∧ NRep h' a R (cmS s fl (if σ.1 (4 * s + 0) = 0 then hd else σ.1 (4 * s + 1)) σ).1 (cmS s fl (if σ.1 (4 * s + 0) = 0 then hd else σ.1 (4 * s + 1)) σ).2 ∧ Keep (PN a) h h' := by
  have vF := v.F
  have vS := v.S
  have hT := VN.t v W hB
  have q := Q.2.1 s (by omega)
  obtain ⟨p, p1, p2⟩ := Q.2.2 s hs
  have w := W.2.1 s (by omega)
  have hc := w.2.2.2.2
  have hq := v.qk w.1
  have f9 := D.2.2.1.1
  have Q0 := Q.1
  by_cases c0 : σ.1 (4 * s + 0) = 0
  · rw [if_pos c0]
    by_cases c1 : fl = 0
    · subst c1
      simp (disch := omega) only [lI, gd_1, bd_1, nm_1, ixN, inbN, eqN, nI_l, lN_sub, lN_mul, lN_add, neg2, fX2_comeTo, q, Q0, p1, cQuick D v w.1, gIs, gIa, gIk, gLs, gLa, gLk, gI_sL, gL_sI, eq_true c0, if_true, f9, e3]
      exact ⟨_, rfl, NRep.cm Q W hs vS.2 p1 p2 (by simp (disch := omega) only [gIs, gIa, gI_sL]) (by simp (disch := omega) only [gIs, gIa, gI_sL]; rfl) (by simp (disch := omega) only [gL_sI, gLs, gLa]) (by simp (disch := omega) only [gL_sI, gLs, gLa]) (by simp (disch := omega) only [gL_sI, gLs, gLa]) (by simp (disch := omega) only [gIs, gIa, gI_sL]) (by simp (disch := omega) only [gIs, gIa, gI_sL]) (fun b q _ _ h3 h4 => ⟨by simp (disch := omega) only [gIk, gI_sL], by simp (disch := omega) only [gLk, gL_sI]⟩), ((((Keep.rfl.N2 (by omega) (by omega)).N2 (by omega) (by omega)).N1 (by omega) (by omega)).N1 (by omega) (by omega)).N1 (by omega) (by omega)⟩
    · have e5 := e4 c1 c0
      subst e5
      simp (disch := omega) only [lI, gd_1, bd_1, nm_1, ixN, inbN, eqN, nI_l, lN_sub, lN_mul, lN_add, neg2, fX2_comeTo, q, Q0, p1, cQuick D v w.1, gIs, gIa, gIk, gLs, gLa, gLk, gI_sL, gL_sI, eq_true c0, if_true, f9, e3, c1, if_false]
      exact ⟨_, rfl, NRep.cm Q W hs vS.2 p1 p2 (by simp (disch := omega) only [gIs, gIa, gI_sL]) (by simp (disch := omega) only [gIs, gIa, gI_sL, c1, if_false]) (by simp (disch := omega) only [gL_sI, gLs, gLa]) (by simp (disch := omega) only [gL_sI, gLs, gLa]) (by simp (disch := omega) only [gL_sI, gLs, gLa]) (by simp (disch := omega) only [gIs, gIa, gI_sL]) (by simp (disch := omega) only [gIs, gIa, gI_sL]) (fun b q _ _ h3 h4 => ⟨by simp (disch := omega) only [gIk, gI_sL], by simp (disch := omega) only [gLk, gL_sI]⟩), (((Keep.rfl.N2 (by omega) (by omega)).N2 (by omega) (by omega)).N1 (by omega) (by omega)).N1 (by omega) (by omega)⟩
  · rw [if_neg c0]
    by_cases c1 : fl = 0
    · subst c1
      simp (disch := omega) only [lI, gd_1, bd_1, nm_1, ixN, inbN, eqN, nI_l, lN_sub, lN_mul, lN_add, neg2, fX2_comeTo, q, Q0, p1, cQuick D v w.1, gIs, gIa, gIk, gLs, gLa, gLk, gI_sL, gL_sI, c0, if_true, if_false, f9, e3]
      exact ⟨_, rfl, NRep.cm Q W hs vS.2 p1 p2 (by simp (disch := omega) only [gIs, gIa, gI_sL]) (by simp (disch := omega) only [gIs, gIa, gI_sL]; rfl) (by simp (disch := omega) only [gL_sI, gLs, gLa]) (by simp (disch := omega) only [gL_sI, gLs, gLa]) (by simp (disch := omega) only [gL_sI, gLs, gLa]) (by simp (disch := omega) only [gIs, gIa, gI_sL]) (by simp (disch := omega) only [gIs, gIa, gI_sL]) (fun b q _ _ h3 h4 => ⟨by simp (disch := omega) only [gIk, gI_sL], by simp (disch := omega) only [gLk, gL_sI]⟩), (((Keep.rfl.N2 (by omega) (by omega)).N2 (by omega) (by omega)).N1 (by omega) (by omega)).N1 (by omega) (by omega)⟩
    · simp (disch := omega) only [lI, gd_1, bd_1, nm_1, ixN, inbN, eqN, nI_l, lN_sub, lN_mul, lN_add, neg2, fX2_comeTo, q, Q0, p1, cQuick D v w.1, gIs, gIa, gIk, gLs, gLa, gLk, gI_sL, gL_sI, c0, if_true, if_false, f9, e3, c1]
      exact ⟨_, rfl, NRep.cm Q W hs vS.2 p1 p2 (by simp (disch := omega) only [gIs, gIa, gI_sL]) (by simp (disch := omega) only [gIs, gIa, gI_sL, q, c1, if_false]) (by simp (disch := omega) only [gL_sI, gLs, gLa]) (by simp (disch := omega) only [gL_sI, gLs, gLa]) (by simp (disch := omega) only [gL_sI, gLs, gLa]) (by simp (disch := omega) only [gIs, gIa, gI_sL]) (by simp (disch := omega) only [gIs, gIa, gI_sL]) (fun b q _ _ h3 h4 => ⟨by simp (disch := omega) only [gIk, gI_sL], by simp (disch := omega) only [gLk, gL_sI]⟩), ((Keep.rfl.N2 (by omega) (by omega)).N2 (by omega) (by omega)).N1 (by omega) (by omega)⟩
/-! a count of done ones grows -/
set_option maxRecDepth 100000 in
theorem NRep.done (Q : NRep h a R σ.1 σ.2) {s n : Nat} (hs : s < 5) : NRep (sI h (a + 3) s (nI n)) a R (up σ.1 (4 * s + 2) n) σ.2 := by
  obtain ⟨q1, q2, q3⟩ := Q
  refine ⟨q1, fun q hq => ?_, fun q hq => ?_⟩
  · have := q2 q hq
    rw [gL_sI, gIa (b := a + 1) (by omega), gIa (b := a + 2) (by omega), gIa (b := a + 4) (by omega), up_o (j := 4 * q + 0) (by omega), up_o (j := 4 * q + 1) (by omega), up_o (j := 4 * q + 3) (by omega)]
    by_cases e : q = s
    · subst e; rw [gIs, up_s]; exact ⟨this.1, this.2.1, rfl, this.2.2.2.1, this.2.2.2.2⟩
    · rw [gIk e, up_o (by omega)]; exact this
  · rw [gL_sI, up_o (j := 4 * q + 0) (by omega)]; exact q3 q hq
set_option maxRecDepth 100000 in
theorem NRep.rous (Q : NRep h a R σ.1 σ.2) {s n : Nat} (hs : s < 5) : NRep (sI h (a + 4) s (nI n)) a R (up σ.1 (4 * s + 3) n) σ.2 := by
  obtain ⟨q1, q2, q3⟩ := Q
  refine ⟨q1, fun q hq => ?_, fun q hq => ?_⟩
  · have := q2 q hq
    rw [gL_sI, gIa (b := a + 1) (by omega), gIa (b := a + 2) (by omega), gIa (b := a + 3) (by omega), up_o (j := 4 * q + 0) (by omega), up_o (j := 4 * q + 1) (by omega), up_o (j := 4 * q + 2) (by omega)]
    by_cases e : q = s
    · subst e; rw [gIs, up_s]; exact ⟨this.1, this.2.1, this.2.2.1, rfl, this.2.2.2.2⟩
    · rw [gIk e, up_o (by omega)]; exact this
  · rw [gL_sI, up_o (j := 4 * q + 0) (by omega)]; exact q3 q hq
set_option maxRecDepth 100000 in
theorem clU {f F : Nat} (hf : f ≤ F) (hF : F < 2 ^ 31) : jmmax (nI 0) (jmmin (nI f - nI 1) (nI F)) = nI (f - 1) := by
  rcases Nat.eq_zero_or_pos f with z | z
  · subst z
    have e : nI 0 - nI 1 = M1 := by decide +kernel
    have e2 : jmmin M1 (nI F) = M1 := by unfold jmmin; rw [if_neg]; rw [M1h hF]; exact fun z => z
    rw [e, e2]
    decide +kernel
  · rw [pk_sub z, minN (by omega) hF, maxN (by omega) (by omega)]
    congr 1 <;> omega
set_option maxRecDepth 100000 in
theorem clD {f F : Nat} (hf : f ≤ F) (hF : F < 2 ^ 30) : jmmax (nI 0) (jmmin (nI f + nI 1) (nI F)) = nI (min (f + 1) F) := by
  rw [nI_add, minN (by omega) (by omega), maxN (by omega) (by omega)]
  congr 1 <;> omega
set_option maxRecDepth 100000 in
theorem clK {f F : Nat} (hf : f ≤ F) (hF : F < 2 ^ 31) : jmmax (nI 0) (jmmin (nI f) (nI F)) = nI f := by
  rw [minN (by omega) hF, maxN (by omega) (by omega)]
  congr 1 <;> omega
set_option maxRecDepth 100000 in
theorem cTake (D : DRep h d R) (hD : isD d) (hda : a + 6 < d) (v : VR R) (Q : NRep h a R σ.1 σ.2) (W : VN R σ.1 σ.2 B) (hB : B ≤ 2000) {s k : Nat} (hs : s < R 4) (hk : nst R s (σ.1 (4 * s + 2)) = some k) : ∃ h', fX2_takeStep a d (nI s) h = some h' ∧ NRep h' a R (stB R s k σ).1 (stB R s k σ).2 ∧ Keep (PN a) h h' := by
  have vF := v.F
  have vS := v.S
  have v5 := v.2.1
  have q := Q.2.1 s (by omega)
  have w := W.2.1 s (by omega)
  obtain ⟨k1, k2, k3⟩ := nst_some hk
  have hc := nst_cnt hk
  have hcl := cnt_le R s (R 5)
  have vk := v.2.2.2.1 k k1
  have dk := D.2.2.2.2.2.1 k k1
  have cs := cStep D hD v hs (n := σ.1 (4 * s + 2)) (by omega)
  rw [hk] at cs
  have K1 : Keep (PN a) h (sI h (a + 3) s (nI (σ.1 (4 * s + 2) + 1))) := Keep.rfl.N1 (by omega) (by omega)
  have Q1 : NRep (sI h (a + 3) s (nI (σ.1 (4 * s + 2) + 1))) a R (up σ.1 (4 * s + 2) (σ.1 (4 * s + 2) + 1), σ.2).1 (up σ.1 (4 * s + 2) (σ.1 (4 * s + 2) + 1), σ.2).2 := Q.done (by omega)
  have W1 : VN R (up σ.1 (4 * s + 2) (σ.1 (4 * s + 2) + 1), σ.2).1 (up σ.1 (4 * s + 2) (σ.1 (4 * s + 2) + 1), σ.2).2 B := VN.upd W hc
  have D1 := D.N K1 hda
  have u0 : (up σ.1 (4 * s + 2) (σ.1 (4 * s + 2) + 1), σ.2).1 (4 * s + 0) = σ.1 (4 * s + 0) := up_o (by omega)
  have u1 : (up σ.1 (4 * s + 2) (σ.1 (4 * s + 2) + 1), σ.2).1 (4 * s + 1) = σ.1 (4 * s + 1) := up_o (by omega)
  have cst := cSt D hD v k1 (k := 1) (by omega)
  rw [dk.2.1] at cst
  by_cases c : R (40 + 3 * k + 1) = 0
  · obtain ⟨h', e, Q', K'⟩ := cCome D1 hda v Q1 W1 hB hs (fl := σ.1 (4 * s + 0) - 1) (hd := R (40 + 3 * k + 1)) (x3 := nI (σ.1 (4 * s + 0)) - nI 1) (x4 := M1) (clU w.1 (by omega)) (by omega) (fun h1 h2 => by rw [u0] at h2; omega)
    rw [u0, u1] at Q'
    rw [c] at cst
    have cst' : fX7_at (d + 6) (nI k) (nI 1) h = some (M1, h) := cst
    refine ⟨h', ?_, ?_, K1.trans K'⟩
    · simp (disch := omega) only [lI, gd_1, bd_1, bv_1, nm_1, ixN, inbN, nI_add, neg1, fX2_takeStep, q, cs, iv, cst', if_true, gIs, gIa, e]
    · unfold stB; rw [if_pos c]; exact Q'
  · obtain ⟨j, hj⟩ : ∃ j, R (40 + 3 * k + 1) = j + 1 := ⟨R (40 + 3 * k + 1) - 1, by omega⟩
    obtain ⟨h', e, Q', K'⟩ := cCome D1 hda v Q1 W1 hB hs (fl := min (σ.1 (4 * s + 0) + 1) (R 0)) (hd := R (40 + 3 * k + 1)) (x3 := nI (σ.1 (4 * s + 0)) + nI 1) (x4 := nI j) (clD w.1 (by omega)) (by omega) (fun h1 h2 => by rw [hj]; rfl)
    rw [u0, u1] at Q'
    rw [hj] at cst
    have cst' : fX7_at (d + 6) (nI k) (nI 1) h = some (nI j, h) := cst
    have hjb : j < 2 ^ 31 := by have := v.H; omega
    refine ⟨h', ?_, ?_, K1.trans K'⟩
    · rw [nI_add] at e
      simp (disch := omega) only [lI, gd_1, bd_1, bv_1, nm_1, ixN, inbN, nI_add, neg1, M1f, fX2_takeStep, q, cs, iv, cst', if_false, gIs, gIa, e]
    · unfold stB; rw [if_neg c]; exact Q'
set_option maxRecDepth 100000 in
theorem NVe : (1152921504606846976 : Int64) = lN NV := Eq.trans rfl rfl
set_option maxRecDepth 100000 in
theorem dvG (u : Option Nat) : dv u = lN (u.getD NV) := by cases u <;> rfl
set_option maxRecDepth 100000 in
theorem cTakeW (hD : isD d) (hda : a + 6 < d) (v : VR R) (hB : B ≤ 2000) {s : Nat} (hs : s < R 4) (kk : HH → Option HH) : ∀ n i f (h : HH) (σ : ST), i + n = 20 → n < f → DRep h d R → NRep h a R σ.1 σ.2 → VN R σ.1 σ.2 B → ∃ h', lq1 (fX2_takeDueSteps_L15 kk a d (nI s)) f (nI i) h = kk h' ∧ NRep h' a R (stW R s n σ).1 (stW R s n σ).2 ∧ Keep (PN a) h h' := by
  intro n
  induction n with
  | zero =>
    intro i f h σ e hf D Q W
    obtain ⟨f, rfl⟩ : ∃ q, f = q + 1 := ⟨f - 1, by omega⟩
    have h1 : 20 ≤ i := by omega
    refine ⟨h, ?_, Q, Keep.rfl⟩
    simp (disch := omega) only [lI, leN, lq1, fX2_takeDueSteps_L15, h1, if_true]
  | succ n ih =>
    intro i f h σ e hf D Q W
    obtain ⟨f, rfl⟩ : ∃ q, f = q + 1 := ⟨f - 1, by omega⟩
    have h1 : ¬ 20 ≤ i := by omega
    have hT := VN.t v W hB
    have cd := cDue D hD v Q W hB hs
    rw [dvG] at cd
    cases hd : due R σ.1 σ.2 s with
    | none =>
      rw [hd] at cd
      have h2 : σ.2 0 < NV := by unfold NV; omega
      refine ⟨h, ?_, ?_, Keep.rfl⟩
      · simp (disch := first | omega | decide) only [lI, leN, bd_1, lq1, fX2_takeDueSteps_L15, h1, if_false, cd, Option.getD_none, Q.1, ltL, h2, if_true]
      · rw [stW_none hd]; exact Q
    | some t =>
      rw [hd] at cd
      have ht := due_le v W hs hd
      by_cases c : t ≤ σ.2 0
      · obtain ⟨k, hk, -⟩ := due_some hd
        obtain ⟨h2, e2, Q2, K2⟩ := cTake D hD hda v Q W hB hs hk
        obtain ⟨h3, e3, Q3, K3⟩ := ih (i + 1) f h2 (stB R s k σ) (by omega) (by omega) (D.N K2 hda) Q2 (VN.st v W hs hk)
        have h4 : ¬ σ.2 0 < t := by omega
        refine ⟨h3, ?_, ?_, K2.trans K3⟩
        · simp (disch := omega) only [lI, leN, bd_1, bv_1, nI_add, lq1, fX2_takeDueSteps_L15, h1, if_false, cd, Option.getD_some, Q.1, ltL, h4, e2]
          exact e3
        · rw [stW_le hd c hk]; exact Q3
      · have h4 : σ.2 0 < t := by omega
        refine ⟨h, ?_, ?_, Keep.rfl⟩
        · simp (disch := omega) only [lI, leN, bd_1, lq1, fX2_takeDueSteps_L15, h1, if_false, cd, Option.getD_some, Q.1, ltL, h4, if_true]
        · rw [stW_gt hd c]; exact Q
set_option maxRecDepth 100000 in
theorem cSteps (D : DRep h d R) (hD : isD d) (hda : a + 6 < d) (v : VR R) (Q : NRep h a R σ.1 σ.2) (W : VN R σ.1 σ.2 B) (hB : B ≤ 2000) : ∃ h', fX2_takeDueSteps a d h = some h' ∧ NRep h' a R (stA R (R 4) σ).1 (stA R (R 4) σ).2 ∧ Keep (PN a) h h' := by
  have vS := v.S
  have main : ∀ m i f (g : HH), i + m = R 4 → m < f → Keep (PN a) h g → NRep g a R (stA R i σ).1 (stA R i σ).2 → ∃ h', lq1 (fX2_takeDueSteps_L2 a d) f (nI i) g = some h' ∧ NRep h' a R (stA R (R 4) σ).1 (stA R (R 4) σ).2 ∧ Keep (PN a) h h' := by
    intro m
    induction m with
    | zero =>
      intro i f g e hf K Qi
      obtain ⟨f, rfl⟩ : ∃ q, f = q + 1 := ⟨f - 1, by omega⟩
      have : i = R 4 := by omega
      subst this
      have Dg := D.N K hda
      refine ⟨g, ?_, Qi, K⟩
      simp (disch := omega) only [lq1, fX2_takeDueSteps_L2, Dg.2.2.2.1.1.2, leN, Nat.le_refl, if_true]
    | succ m ih =>
      intro i f g e hf K Qi
      obtain ⟨f, rfl⟩ : ∃ q, f = q + 1 := ⟨f - 1, by omega⟩
      have Dg := D.N K hda
      have n1 : ¬ R 4 ≤ i := by omega
      obtain ⟨h2, e2, Q2, K2⟩ := cTakeW hD hda v hB (s := i) (by omega) (fun h => lq1 (fX2_takeDueSteps_L2 a d) f (nI i + nI 1) h) 20 0 FU g (stA R i σ) (by omega) (by unfold FU; omega) Dg Qi (stA_ok v i σ (by omega) W).1
      obtain ⟨h3, e3, Q3, K3⟩ := ih (i + 1) f h2 (by omega) (by omega) (K.trans K2) Q2
      refine ⟨h3, ?_, Q3, K3⟩
      rw [← e3, ← nI_add]
      simp (disch := omega) only [lI, lq1, fX2_takeDueSteps_L2, Dg.2.2.2.1.1.2, leN, n1, if_false]
      exact e2
  exact main (R 4) 0 FU h (by omega) (by unfold FU; omega) Keep.rfl Q
/-! knocks -/
set_option maxRecDepth 100000 in
theorem cKn1 (D : DRep h d R) (hD : isD d) (hda : a + 6 < d) (v : VR R) (Q : NRep h a R σ.1 σ.2) (W : VN R σ.1 σ.2 B) (hB : B ≤ 2000) {hd fl st s : Nat} (hs : s < R 4) (hhd : hd < R 3) (hfl : fl < R 0) (hst : st ≤ 99) (x : Int32) (self : Int32 → Int32 → HH → Option (Int32 × HH)) : ∃ h', fX2_hearKnock_L6 a d (nI hd) (nI fl) (nI st) self x (nI s) h = self (knB R hd fl st s σ x) (nI (s + 1)) h' ∧ NRep h' a R (kn1 R hd fl st s σ).1 (kn1 R hd fl st s σ).2 ∧ Keep (PN a) h h' := by
  have vF := v.F
  have vS := v.S
  have vH := v.H
  have q := Q.2.1 s (by omega)
  have w := W.2.1 s (by omega)
  have n1 : ¬ R 4 ≤ s := by omega
  have d4 := D.2.2.2.1.1.2
  by_cases c1 : σ.1 (4 * s + 1) = hd + 1
  · by_cases c2 : fl < σ.1 (4 * s + 0)
    · have hb := br_le R (s := s) (st := st) c2
      have cb := cBr D hD v hs c2 w.1 hst
      by_cases c3 : br R s (σ.1 (4 * s + 0)) fl st = σ.1 (4 * s + 0)
      · have nk : ¬ knc R hd fl st s σ := fun z => z.2.2 c3
        refine ⟨h, ?_, ?_, Keep.rfl⟩
        · unfold knB; rw [if_neg nk]
          simp (disch := omega) only [lI, gd_1, bd_1, nm_1, ixN, inbN, nI_add, eqN, leN, les_n, fX2_hearKnock_L6, fX2_hearKnock_b55, d4, n1, if_false, q, eq_true c1, if_true, cb, eq_true c3]
        · unfold kn1; rw [if_neg nk]; exact Q
      · have nk : knc R hd fl st s σ := ⟨c1, c2, c3⟩
        obtain ⟨h', e, Q', K'⟩ := cCome D hda v Q W hB hs (fl := br R s (σ.1 (4 * s + 0)) fl st) (hd := 0) (x3 := nI (br R s (σ.1 (4 * s + 0)) fl st)) (x4 := nI hd) (clK (by omega) (by omega)) (by omega) (fun h1 h2 => by omega)
        rw [if_neg (show ¬ σ.1 (4 * s + 0) = 0 by omega)] at Q'
        have q4 := (Q'.2.1 s (by omega)).2.2.2.1
        rw [cm_o (j := 4 * s + 3) (by omega) (by omega)] at q4
        refine ⟨sI h' (a + 4) s (nI (σ.1 (4 * s + 3) + 1)), ?_, ?_, K'.N1 (by omega) (by omega)⟩
        · unfold knB; rw [if_pos nk]
          simp (disch := omega) only [lI, gd_1, bd_1, bv_1, nm_1, ixN, inbN, nI_add, eqN, leN, les_n, fX2_hearKnock_L6, fX2_hearKnock_b55, d4, n1, if_false, q, eq_true c1, if_true, cb, c3, e, q4]
        · unfold kn1; rw [if_pos nk]
          exact Q'.rous (by omega)
    · have nk : ¬ knc R hd fl st s σ := fun z => c2 z.2.1
      have cb := cBr0 (h := h) (d := d) (s := s) (nI st) (show σ.1 (4 * s + 0) ≤ fl by omega) (by omega)
      refine ⟨h, ?_, ?_, Keep.rfl⟩
      · unfold knB; rw [if_neg nk]
        simp (disch := omega) only [lI, gd_1, bd_1, nm_1, ixN, inbN, nI_add, eqN, leN, les_n, fX2_hearKnock_L6, fX2_hearKnock_b55, d4, n1, if_false, q, eq_true c1, if_true, cb]
      · unfold kn1; rw [if_neg nk]; exact Q
  · have nk : ¬ knc R hd fl st s σ := fun z => c1 z.1
    refine ⟨h, ?_, ?_, Keep.rfl⟩
    · unfold knB; rw [if_neg nk]
      simp (disch := omega) only [lI, gd_1, bd_1, nm_1, ixN, inbN, nI_add, eqN, leN, les_n, fX2_hearKnock_L6, fX2_hearKnock_b55, d4, n1, if_false, q, c1, if_true]
    · unfold kn1; rw [if_neg nk]; exact Q
set_option maxRecDepth 100000 in
theorem cKnock (D : DRep h d R) (hD : isD d) (hda : a + 6 < d) (v : VR R) (Q : NRep h a R σ.1 σ.2) (W : VN R σ.1 σ.2 B) (hB : B ≤ 2000) {hd fl st : Nat} (hhd : hd < R 3) (hfl : fl < R 0) (hst : st ≤ 99) : ∃ h', fX2_hearKnock a d (nI hd) (nI fl) (nI st) h = some (knX R hd fl st (R 4) σ, h') ∧ NRep h' a R (knS R hd fl st (R 4) σ).1 (knS R hd fl st (R 4) σ).2 ∧ Keep (PN a) h h' := by
  have vS := v.S
  have main : ∀ m i f (g : HH), i + m = R 4 → m < f → Keep (PN a) h g → NRep g a R (knS R hd fl st i σ).1 (knS R hd fl st i σ).2 → ∃ h', lq2 (fX2_hearKnock_L6 a d (nI hd) (nI fl) (nI st)) f (knX R hd fl st i σ) (nI i) g = some (knX R hd fl st (R 4) σ, h') ∧ NRep h' a R (knS R hd fl st (R 4) σ).1 (knS R hd fl st (R 4) σ).2 ∧ Keep (PN a) h h' := by
    intro m
    induction m with
    | zero =>
      intro i f g e hf K Qi
      obtain ⟨f, rfl⟩ : ∃ q, f = q + 1 := ⟨f - 1, by omega⟩
      have : i = R 4 := by omega
      subst this
      have Dg := D.N K hda
      refine ⟨g, ?_, Qi, K⟩
      simp (disch := omega) only [lq2, fX2_hearKnock_L6, Dg.2.2.2.1.1.2, leN, Nat.le_refl, if_true]
    | succ m ih =>
      intro i f g e hf K Qi
      obtain ⟨f, rfl⟩ : ∃ q, f = q + 1 := ⟨f - 1, by omega⟩
      have Dg := D.N K hda
      obtain ⟨h2, e2, Q2, K2⟩ := cKn1 Dg hD hda v Qi (knS_ok v i σ (by omega) W).1 hB (s := i) (by omega) hhd hfl hst (knX R hd fl st i σ) (lq2 (fX2_hearKnock_L6 a d (nI hd) (nI fl) (nI st)) f)
      obtain ⟨h3, e3, Q3, K3⟩ := ih (i + 1) f h2 (by omega) (by omega) (K.trans K2) Q2
      exact ⟨h3, e2.trans e3, Q3, K3⟩
  exact main (R 4) 0 FU h (by omega) (by unfold FU; omega) Keep.rfl Q
set_option maxRecDepth 100000 in
theorem cKt (D : DRep h d R) (hD : isD d) (v : VR R) {k : Nat} (hk : k < R 6) : fX0_knockTick d (nI k) h = some (lN (ktk R k), h) := by
  have v5 := v.2.1
  have vk := v.2.2.2.2.1 k hk
  have dk := D.2.2.2.2.2.2.2.1 k hk
  have vb := v.bt
  simp (disch := omega) only [lI, lJ, gd_1, bd_1, bv_1, nm_1, ixN, inbN, eqN, leN, ltN, eqL, leL, ltL, beqN, beqL, nI_add, pk_mul, lN_add, lN_mul, nI_l, lN_i, pk_div, pk_lDiv, pk_sub, lN_sub, remN, remL, neg1, neg2, negL, negL2, M1e, M1f, M1g, M1h, M1i, M1j, M2e, M2f, L1g, L1h, L1i, L1j, les_eq, les_e, les_n, les_m, fX0_knockTick, cKn D hD v hk, dk, cBottom D v, ktk]
set_option maxRecDepth 100000 in
theorem cTold (D : DRep h d R) (hD : isD d) (hda : a + 6 < d) (v : VR R) (Q : NRep h a R σ.1 σ.2) (W : VN R σ.1 σ.2 B) (hB : B ≤ 2000) : ∃ h', fX2_hearToldKnocks a d h = some h' ∧ NRep h' a R (kN R (R 6) σ).1 (kN R (R 6) σ).2 ∧ Keep (PN a) h h' := by
  have v5 := v.2.1
  have vF := v.F
  have vH := v.H
  have main : ∀ m i f (g : HH), i + m = R 6 → m < f → Keep (PN a) h g → NRep g a R (kN R i σ).1 (kN R i σ).2 → ∃ h', lq1 (fX2_hearToldKnocks_L7 a d (d + 8)) f (nI i) g = some h' ∧ NRep h' a R (kN R (R 6) σ).1 (kN R (R 6) σ).2 ∧ Keep (PN a) h h' := by
    intro m
    induction m with
    | zero =>
      intro i f g e hf K Qi
      obtain ⟨f, rfl⟩ : ∃ q, f = q + 1 := ⟨f - 1, by omega⟩
      have : i = R 6 := by omega
      subst this
      have Dg := D.N K hda
      refine ⟨g, ?_, Qi, K⟩
      simp (disch := omega) only [lq1, fX2_hearToldKnocks_L7, Dg.2.2.2.1.2.2.1.2, leN, Nat.le_refl, if_true]
    | succ m ih =>
      intro i f g e hf K Qi
      obtain ⟨f, rfl⟩ : ∃ q, f = q + 1 := ⟨f - 1, by omega⟩
      have Dg := D.N K hda
      have n1 : ¬ R 6 ≤ i := by omega
      have hi : i < R 6 := by omega
      have Wi := (kN_ok v i σ W).1
      have hT := VN.t v Wi hB
      have hk := ktk_le v hi
      have vk := v.2.2.2.2.1 i hi
      have dk := Dg.2.2.2.2.2.2.2.1 i hi
      have ek : kN R (i + 1) σ = if ktk R i = (kN R i σ).2 0 then knS R (R (100 + 4 * i)) (R (100 + 4 * i + 1)) (R (100 + 4 * i + 3)) (R 4) (kN R i σ) else kN R i σ := rfl
      by_cases c : ktk R i = (kN R i σ).2 0
      · rw [if_pos c] at ek
        obtain ⟨h2, e2, Q2, K2⟩ := cKnock Dg hD hda v Qi Wi hB (hd := R (100 + 4 * i)) (fl := R (100 + 4 * i + 1)) (st := R (100 + 4 * i + 3)) vk.1 vk.2.1 vk.2.2.2.2
        rw [← ek] at Q2
        obtain ⟨h3, e3, Q3, K3⟩ := ih (i + 1) f h2 (by omega) (by omega) (K.trans K2) Q2
        refine ⟨h3, ?_, Q3, K3⟩
        simp (disch := omega) only [lI, bd_1, nI_add, lq1, fX2_hearToldKnocks_L7, Dg.2.2.2.1.2.2.1.2, leN, n1, if_false, cKt Dg hD v hi, Qi.1, eqL, eq_true c, if_true, cKn Dg hD v hi, dk, e2]
        exact e3
      · rw [if_neg c] at ek
        rw [← ek] at Qi
        obtain ⟨h3, e3, Q3, K3⟩ := ih (i + 1) f g (by omega) (by omega) K Qi
        rw [ek] at Qi
        refine ⟨h3, ?_, Q3, K3⟩
        simp (disch := omega) only [lI, bd_1, nI_add, lq1, fX2_hearToldKnocks_L7, Dg.2.2.2.1.2.2.1.2, leN, n1, if_false, cKt Dg hD v hi, Qi.1, eqL, c]
        exact e3
  exact main (R 6) 0 FU h (by omega) (by unfold FU; omega) Keep.rfl Q
/-! the next change -/
set_option maxRecDepth 100000 in
theorem duN_le (v : VR R) (W : VN R σ.1 σ.2 B) (hB : B ≤ 2000) {s : Nat} (hs : s < R 4) : duN R σ s ≤ NV := by
  unfold duN
  have hT := VN.t v W hB
  cases hd : due R σ.1 σ.2 s with
  | none => exact Nat.le_refl _
  | some t =>
    have := due_le v W hs hd
    show t ≤ NV
    unfold NV; omega
set_option maxRecDepth 100000 in
theorem ktN_le (v : VR R) {k : Nat} (hk : k < R 6) : ktN R σ k ≤ NV := by
  unfold ktN
  have := ktk_le v hk
  split
  · unfold NV; omega
  · exact Nat.le_refl _
set_option maxRecDepth 100000 in
theorem NVb {n : Nat} (h : n ≤ NV) : n < 2 ^ 63 := by unfold NV at h; omega
set_option maxRecDepth 100000 in
theorem cNext (D : DRep h d R) (hD : isD d) (v : VR R) (Q : NRep h a R σ.1 σ.2) (W : VN R σ.1 σ.2 B) (hB : B ≤ 2000) : fX2_nextChange a d h = some (lN (nxt R σ), h) := by
  have v5 := v.2.1
  have hT := VN.t v W hB
  have m2 : ∀ m i f, i + m = R 6 → m < f → lq2 (fX2_nextChange_L40 a d) f (lN (mnf (ktN R σ) (mnf (duN R σ) NV (R 4)) i)) (nI i) h = some (lN (nxt R σ), h) := by
    intro m
    induction m with
    | zero =>
      intro i f e hf
      obtain ⟨f, rfl⟩ : ∃ q, f = q + 1 := ⟨f - 1, by omega⟩
      have : i = R 6 := by omega
      subst this
      simp (disch := omega) only [lq2, fX2_nextChange_L40, D.2.2.2.1.2.2.1.2, leN, Nat.le_refl, if_true]
      rfl
    | succ m ih =>
      intro i f e hf
      obtain ⟨f, rfl⟩ : ∃ q, f = q + 1 := ⟨f - 1, by omega⟩
      have n1 : ¬ R 6 ≤ i := by omega
      have hi : i < R 6 := by omega
      have hk := ktk_le v hi
      have hx := NVb (Nat.le_trans (mnf_le (ktN R σ) (mnf (duN R σ) NV (R 4)) i) (mnf_le (duN R σ) NV (R 4)))
      have key := ih (i + 1) f (by omega) (by omega)
      have e1 : mnf (ktN R σ) (mnf (duN R σ) NV (R 4)) (i + 1) = min (mnf (ktN R σ) (mnf (duN R σ) NV (R 4)) i) (ktN R σ i) := rfl
      rw [e1] at key
      unfold ktN at key e1 hx ⊢
      by_cases c : σ.2 0 < ktk R i
      · have c' : ¬ ktk R i ≤ σ.2 0 := by omega
        rw [if_pos c] at key
        simp (disch := omega) only [lI, bd_1, nm_1, nI_add, lq2, fX2_nextChange_L40, D.2.2.2.1.2.2.1.2, leN, n1, if_false, cKt D hD v hi, Q.1, leL, c', minL]
        exact key
      · have c' : ktk R i ≤ σ.2 0 := by omega
        rw [if_neg c, Nat.min_eq_left (Nat.le_trans (mnf_le _ _ i) (mnf_le _ _ (R 4)))] at key
        simp (disch := omega) only [lI, bd_1, nm_1, nI_add, lq2, fX2_nextChange_L40, D.2.2.2.1.2.2.1.2, leN, n1, if_false, cKt D hD v hi, Q.1, leL, c', if_true]
        exact key
  have vS := v.S
  have m1 : ∀ m i f, i + m = R 4 → m < f → lq2 (fX2_nextChange_L7 (fun x2 h => lq2 (fX2_nextChange_L40 a d) FU x2 (nI 0) h) a d) f (lN (mnf (duN R σ) NV i)) (nI i) h = some (lN (nxt R σ), h) := by
    intro m
    induction m with
    | zero =>
      intro i f e hf
      obtain ⟨f, rfl⟩ : ∃ q, f = q + 1 := ⟨f - 1, by omega⟩
      have : i = R 4 := by omega
      subst this
      simp (disch := omega) only [lq2, fX2_nextChange_L7, D.2.2.2.1.1.2, leN, Nat.le_refl, if_true]
      exact m2 (R 6) 0 FU (by omega) (by unfold FU; omega)
    | succ m ih =>
      intro i f e hf
      obtain ⟨f, rfl⟩ : ∃ q, f = q + 1 := ⟨f - 1, by omega⟩
      have n1 : ¬ R 4 ≤ i := by omega
      have hi : i < R 4 := by omega
      have hx := NVb (mnf_le (duN R σ) NV i)
      have hy := NVb (duN_le v W hB hi)
      have cd := cDue D hD v Q W hB hi
      rw [dvG] at cd
      have cd' : fX2_dueTick a d (nI i) h = some (lN (duN R σ i), h) := cd
      have key := ih (i + 1) f (by omega) (by omega)
      rw [show mnf (duN R σ) NV (i + 1) = min (mnf (duN R σ) NV i) (duN R σ i) from rfl] at key
      simp (disch := omega) only [lI, bd_1, nm_1, nI_add, lq2, fX2_nextChange_L7, D.2.2.2.1.1.2, leN, n1, if_false, cd', minL]
      exact key
  have := m1 (R 4) 0 FU (by omega) (by unfold FU; omega)
  exact this
set_option maxRecDepth 100000 in
theorem NRep.adw (Q : NRep h a R σ.1 σ.2) (v : VR R) (W : VN R σ.1 σ.2 B) {t : Nat} (ht : σ.2 0 ≤ t) : NRep (sL h a 6 (lN t)) a R (adv R t σ).1 (adv R t σ).2 := by
  have vF := v.F
  have vS := v.S
  obtain ⟨q1, q2, q3⟩ := Q
  refine ⟨by rw [gLs, adv_0], fun q hq => ?_, fun q hq => ?_⟩
  · rw [gI_sL, gI_sL, gI_sL, gI_sL, gLa (by omega), adv_c (j := 1 + q) (by omega) (by omega)]
    exact q2 q hq
  · obtain ⟨p, p1, p2⟩ := q3 q hq
    have w := W.2.1 q (by omega)
    refine ⟨p, by rw [gLa (by omega)]; exact p1, ?_⟩
    rw [adv_l hq (by omega), adv_l hq (by omega), adv_l hq (by omega), adv_l hq (by omega), adv_l hq (by omega), adv_0, adv_c (j := 1 + q) (by omega) (by omega)]
    show p + (t - σ.2 (1 + q)) * qk R (σ.1 (4 * q + 0)) = _
    have hz : (t - σ.2 (1 + q)) * qk R (σ.1 (4 * q + 0)) = (σ.2 0 - σ.2 (1 + q)) * qk R (σ.1 (4 * q + 0)) + (t - σ.2 0) * qk R (σ.1 (4 * q + 0)) := by
      rw [← Nat.add_mul]; congr 1; omega
    rw [hz, ← Nat.add_assoc, p2]
    rcases (show σ.1 (4 * q + 0) = 0 ∨ σ.1 (4 * q + 0) = 1 ∨ σ.1 (4 * q + 0) = 2 ∨ σ.1 (4 * q + 0) = 3 ∨ σ.1 (4 * q + 0) = 4 by omega) with e | e | e | e | e <;>
      (simp only [e]; simp only [if_true, Nat.reduceEqDiff, if_false, Nat.add_mul, Nat.zero_mul]; omega)
set_option maxRecDepth 100000 in
theorem cRun (D : DRep h d R) (hD : isD d) (hda : a + 6 < d) (v : VR R) (Q : NRep h a R σ.1 σ.2) (W : VN R σ.1 σ.2 B) (hB : B ≤ 2000) (S : SN R σ.1 σ.2) {t : Nat} (ht : σ.2 0 ≤ t) (htB : t ≤ B * bt R) : ∃ h', fX2_runTo a d (lN t) h = some h' ∧ NRep h' a R (run R t 29 σ).1 (run R t 29 σ).2 ∧ Keep (PN a) h h' := by
  have htN := bt2 v hB htB
  have main : ∀ n i f (g : HH) (τ : ST), i + n = 29 → n < f → Keep (PN a) h g → NRep g a R τ.1 τ.2 → VN R τ.1 τ.2 B → SN R τ.1 τ.2 → τ.2 0 ≤ t → ∃ h', lq1 (fX2_runTo_L3 a d (lN t)) f (nI i) g = some h' ∧ NRep h' a R (run R t n τ).1 (run R t n τ).2 ∧ Keep (PN a) h h' := by
    intro n
    induction n with
    | zero =>
      intro i f g τ e hf K Qi Wi Si hti
      obtain ⟨f, rfl⟩ : ∃ q, f = q + 1 := ⟨f - 1, by omega⟩
      have n1 : 28 < i := by omega
      refine ⟨_, ?_, Qi.adw v Wi hti, K.N2 (by omega) (by omega)⟩
      simp (disch := omega) only [lI, lq1, fX2_runTo_L3, ltN, n1, if_true]
    | succ n ih =>
      intro i f g τ e hf K Qi Wi Si hti
      obtain ⟨f, rfl⟩ : ∃ q, f = q + 1 := ⟨f - 1, by omega⟩
      have n1 : ¬ 28 < i := by omega
      have Dg := D.N K hda
      have hg := nxt_gt v Wi hB Si
      have hx : nxt R τ < 2 ^ 63 := NVb (Nat.le_trans (mnf_le _ _ _) (mnf_le _ _ _))
      have hy : t < 2 ^ 63 := NVb (Nat.le_of_lt htN)
      by_cases c : nxt R τ ≤ t
      · have K1 : Keep (PN a) h (sL g a 6 (lN (nxt R τ))) := K.N2 (by omega) (by omega)
        have Q1 := Qi.adw v Wi (Nat.le_of_lt hg)
        have W1 := VN.adw v Wi (Nat.le_of_lt hg) (Nat.le_trans c htB)
        obtain ⟨h2, e2, Q2, K2⟩ := cTold (D.N K1 hda) hD hda v Q1 W1 hB
        have W2 := (kN_ok v (R 6) _ W1).1
        obtain ⟨h3, e3, Q3, K3⟩ := cSteps (D.N (K1.trans K2) hda) hD hda v Q2 W2 hB
        obtain ⟨a1, a2, a3, -⟩ := ev_ok v Wi (Nat.le_of_lt hg) (Nat.le_trans c htB)
        obtain ⟨h4, e4, Q4, K4⟩ := ih (i + 1) f h3 (ev R (nxt R τ) τ) (by omega) (by omega) ((K1.trans K2).trans K3) Q3 a1 a2 (by omega)
        refine ⟨h4, ?_, by rw [run_le c]; exact Q4, K4⟩
        simp (disch := omega) only [lI, bd_1, bv_1, nI_add, lq1, fX2_runTo_L3, ltN, n1, if_false, cNext Dg hD v Qi Wi hB, leL, c, if_true, e2, e3]
        exact e4
      · have Q1 := Qi.adw v Wi hti
        refine ⟨_, ?_, by rw [run_gt (by omega)]; exact Q1, K.N2 (by omega) (by omega)⟩
        simp (disch := omega) only [lI, bd_1, bv_1, nI_add, lq1, fX2_runTo_L3, ltN, n1, if_false, cNext Dg hD v Qi Wi hB, leL, c]
  exact main 29 0 FU h σ (by omega) (by unfold FU; omega) Keep.rfl Q W S ht
end CNI
