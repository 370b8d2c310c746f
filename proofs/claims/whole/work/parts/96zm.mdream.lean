/-! the model reads a text -/
def dK77 : HH → Option (Int32 × HH) := fun h => if (gI h 181 13) = 0 then if (gI h 181 6) = 0 then fX9_dream_b127 181 h else bv (fX9_wrong 181 1 (gI h 181 4) h) (fun h124 => fX9_dream_b127 181 h124) else fX9_dream_b127 181 h
def dF2 : HH → Option (Int32 × HH) := fun h => nm (sI (sI h 181 14 1) 181 25 0) (fun g5 => bv (fX9_knocksNow 181 (sI g5 181 26 0)) (fun h258 => bv (fX9_stepsNow 181 h258) (fun h262 => gd (inb 4 316) (some ((gI h262 (181 + 3) (ix 4)), h262)))))
def dF1 : HH → Option (Int32 × HH) := fun h => lq1 (fX9_dream_L223 dF2 181) FU 0 h
def dFin : HH → Option (Int32 × HH) := fun h => bv (fX9_copy (181 + 4) 0 (181 + 3) 0 316 h) (fun h197 => lq1 (fX9_dream_L202 dF1 181) FU 0 h197)
def dNo : HH → Option (Int32 × HH) := fun h => bd (fX9_no 181 4 h) (fun r180 h180 => some (r180, h180))
def MD (TP : Nat → Nat) (n : Nat) (g0 : HH) (o : Out) (r : Option (Int32 × HH)) : Prop := o.el
  (fun q p => ∃ g', r = dNo g' ∧ FLT g' q p ∧ Keep PMd g0 g')
  (fun F e => ∃ g', r = dFin g' ∧ MS TP n g' F e ∧ VQ F ∧ F 3 ≠ 0 ∧ F 4 ≠ 0 ∧ Keep PMd g0 g')
section MDR
variable {TP : Nat → Nat} {n e : Nat} {F : Nat → Nat} {g g0 g1 : HH}
set_option maxRecDepth 100000 in
theorem MD.tr {o : Out} {r : Option (Int32 × HH)} (C : MD TP n g1 o r) (K : Keep PMd g0 g1) : MD TP n g0 o r := by
  rcases o.cs with ⟨q, p, rfl⟩ | ⟨F, e, rfl⟩
  · obtain ⟨g', a1, a2, a3⟩ := C
    exact ⟨g', a1, a2, K.trans a3⟩
  · obtain ⟨g', a1, a2, a3, a4, a5, a6⟩ := C
    exact ⟨g', a1, a2, a3, a4, a5, K.trans a6⟩
set_option maxRecDepth 100000 in
theorem b127_no (h13 : gI g 181 13 = nI 1) : fX9_dream_b127 181 g = dNo g := by
  unfold fX9_dream_b127
  rw [h13, if_neg (show ¬ nI 1 = (0 : Int32) by decide +kernel), if_neg (show ¬ nI 1 = (0 : Int32) by decide +kernel)]
  rfl
set_option maxRecDepth 100000 in
theorem b127_ok (M : MS TP n g F e) (V : VQ F) : (F 3 ≠ 0 → F 4 ≠ 0 → fX9_dream_b127 181 g = dFin g) ∧ (F 3 = 0 ∨ F 4 = 0 → fX9_dream_b127 181 g = dNo (flt g 6 (tA TP n e))) := by
  have f13 : ∀ (g : HH) q p, gI (flt g q p) 181 13 = nI 1 := fun g q p => flt_F.1
  have h13 := M.2.2.1
  have w6 := wr_ok (g := g) (q := 6) h13 (vq := nI 6) rfl M.2.1.1
  have b2 := V.2.1.2.1
  have b2' := V.2.1.2.2.1
  have b3 := V.2.1.2.2.2.1
  have b4 := V.2.1.2.2.2.2.1
  have r2 := FRa M.2.2.2.1 (show 2 < 316 by omega) (show (2 : Int32) = nI 2 from rfl)
  have r3 := FRa M.2.2.2.1 (show 3 < 316 by omega) (show (3 : Int32) = nI 3 from rfl)
  have r4 := FRa M.2.2.2.1 (show 4 < 316 by omega) (show (4 : Int32) = nI 4 from rfl)
  have i2 : inb 2 316 = true := inbN (n := 2) (by omega) (by omega)
  have i3 : inb 3 316 = true := inbN (n := 3) (by omega) (by omega)
  have i4 : inb 4 316 = true := inbN (n := 4) (by omega) (by omega)
  have zz : nI 0 = (0 : Int32) := rfl
  have z1 : ¬ nI 1 = (0 : Int32) := by decide +kernel
  have ne : ∀ c, F c < 1000 → F c ≠ 0 → ¬ nI (F c) = (0 : Int32) := fun c h1 h2 => by
    show ¬ nI (F c) = nI 0
    rw [eqN (by omega) (by omega)]; exact h2
  constructor
  · intro q3 q4
    unfold fX9_dream_b127
    rw [h13, if_pos zz, i2, gd_1, r2, if_neg (ne 2 (by omega) (by omega)), i3, gd_1, r3, if_neg (ne 3 (by omega) q3), i4, gd_1, r4, if_neg (ne 4 (by omega) q4), if_pos zz]
    rfl
  · intro q
    unfold fX9_dream_b127
    rw [h13, if_pos zz, i2, gd_1, r2, if_neg (ne 2 (by omega) (by omega)), i3, gd_1, r3]
    by_cases q3 : F 3 = 0
    · rw [if_pos (show nI (F 3) = (0 : Int32) by rw [q3]; rfl), show (6 : Int32) = nI 6 from rfl, w6, bv_1, f13, if_neg z1]
      rfl
    · rw [if_neg (ne 3 (by omega) q3), i4, gd_1, r4, if_pos (show nI (F 4) = (0 : Int32) by rw [show F 4 = 0 by omega]; rfl), show (6 : Int32) = nI 6 from rfl, w6, bv_1, f13, if_neg z1]
      rfl
set_option maxRecDepth 100000 in
theorem mLoopR (H : HT TP n) : ∀ f F e g f', VP F → MS TP n g F e → n + 1 ≤ e + f → f ≤ f' → MD TP n g (sRest TP n f F e) (bv (fX9_readLine 181 g) (fun h => lq0 (fX9_dream_L77 dK77 181) f' h)) := by
  intro f
  induction f with
  | zero =>
    intro F e g f' V M hf hf'
    have := M.2.2.2.2.1
    omega
  | succ f ih =>
    intro F e g f' V M hf hf'
    obtain ⟨f', rfl⟩ : ∃ q, f' = q + 1 := ⟨f' - 1, by omega⟩
    have cl := mline H V M rfl
    have ok := okLine (TP := TP) V M.2.2.2.2.1
    have LI := ih
    show MD TP n g ((sLine TP n F e).bind (fun F1 e1 => if tK TP n e1 = 5 then (if F1 2 = 0 ∨ F1 3 = 0 ∨ F1 4 = 0 then .bad 6 (tA TP n e1) else .ok F1 e1) else if tK TP n e1 = 3 then sRest TP n f F1 (tE TP n e1) else .bad 1 (tA TP n e1))) _
    have ue : ∀ h, lq0 (fX9_dream_L77 dK77 181) (f' + 1) h = fX9_dream_L77 dK77 181 (lq0 (fX9_dream_L77 dK77 181) f') h := fun h => rfl
    have LI2 : ∀ F e g, VP F → MS TP n g F e → n + 1 ≤ e + f → MD TP n g (sRest TP n f F e) (bv (fX9_readLine 181 g) (fun h => lq0 (fX9_dream_L77 dK77 181) f' h)) := fun F e g a b c => LI F e g f' a b c (by omega)
    rcases (sLine TP n F e).cs with ⟨q, p, eo⟩ | ⟨F1, e1, eo⟩
    · rw [eo] at cl ok ⊢
      obtain ⟨g', a1, a2, a3⟩ := cl
      rw [a1, bv_1, ue]
      refine ⟨g', ?_, a2, a3⟩
      unfold fX9_dream_L77 dK77
      rw [a2.1, if_neg (show ¬ nI 1 = (0 : Int32) by decide +kernel), if_neg (show ¬ nI 1 = (0 : Int32) by decide +kernel)]
      exact b127_no a2.1
    · rw [eo] at cl ok ⊢
      obtain ⟨g', a1, a2, a3⟩ : ∃ g', fX9_readLine 181 g = some g' ∧ MS TP n g' F1 e1 ∧ Keep PMd g g' := cl
      obtain ⟨V1, o1, o2⟩ : VQ F1 ∧ e < e1 ∧ e1 ≤ n := ok
      obtain ⟨kb, -, -, -, k3, k5⟩ := tmk (kbk (TP := TP) (n := n) (e := e1))
      have h13 := a2.2.2.1
      have t3 := a2.2.1.2.2.1
      have w1 := wr_ok (g := g') (q := 1) h13 (vq := nI 1) rfl a2.2.1.1
      have b2 := V1.2.1.2.1
      obtain ⟨x1, x2⟩ := b127_ok a2 V1
      rw [a1, bv_1, ue]
      show MD TP n g (if tK TP n e1 = 5 then (if F1 2 = 0 ∨ F1 3 = 0 ∨ F1 4 = 0 then .bad 6 (tA TP n e1) else .ok F1 e1) else if tK TP n e1 = 3 then sRest TP n f F1 (tE TP n e1) else .bad 1 (tA TP n e1)) (if gI g' 181 13 = nI 0 then if gI g' 181 6 = nI 59 then bv (fX9_next 181 g') (fun h94 => bv (fX9_readLine 181 h94) (fun h98 => lq0 (fX9_dream_L77 dK77 181) f' h98)) else dK77 g' else dK77 g')
      rw [h13, if_pos rfl, t3]
      have dk : tK TP n e1 ≠ 3 → dK77 g' = if tK TP n e1 = 5 then fX9_dream_b127 181 g' else fX9_dream_b127 181 (flt g' 1 (tA TP n e1)) := fun z => by
        show (if gI g' 181 13 = nI 0 then if gI g' 181 6 = nI 0 then fX9_dream_b127 181 g' else bv (fX9_wrong 181 (nI 1) (gI g' 181 4) g') (fun h124 => fX9_dream_b127 181 h124) else fX9_dream_b127 181 g') = _
        rw [h13, if_pos rfl, t3]
        by_cases d5 : tK TP n e1 = 5
        · rw [if_pos d5, k5.2 d5, if_pos rfl]
        · rw [if_neg d5, if_neg (show ¬ nI (tm (tK TP n e1)) = nI 0 by rw [eqN (by omega) (by omega)]; exact fun q => d5 (k5.1 q)), w1, bv_1]
      by_cases d3 : tK TP n e1 = 3
      · rw [if_neg (show ¬ tK TP n e1 = 5 by omega), if_pos d3, k3.2 d3, if_pos rfl]
        obtain ⟨g2, n1, n2, n3⟩ := a2.nx H
        have gt := tE_gt (TP := TP) o2 (show tK TP n e1 ≠ 5 by omega)
        have hA := tA_le (TP := TP) o2
        rw [n1, bv_1]
        exact (LI2 F1 (tE TP n e1) g2 (Or.inr V1) n2 (by omega)).tr (a3.trans n3)
      · rw [if_neg (show ¬ nI (tm (tK TP n e1)) = nI 59 by rw [eqN (by omega) (by omega)]; exact fun q => d3 (k3.1 q)), dk d3]
        by_cases d5 : tK TP n e1 = 5
        · rw [if_pos d5, if_pos d5]
          by_cases c : F1 2 = 0 ∨ F1 3 = 0 ∨ F1 4 = 0
          · rw [if_pos c, x2 (by omega)]
            exact ⟨_, rfl, flt_F, a3.trans flt_K⟩
          · rw [if_neg c, x1 (by omega) (by omega)]
            have n3 : F1 3 ≠ 0 := by omega
            have n4 : F1 4 ≠ 0 := by omega
            exact ⟨_, rfl, a2, V1, n3, n4, a3⟩
        · rw [if_neg d5, if_neg d5, if_neg d3, b127_no flt_F.1]
          exact ⟨_, rfl, flt_F, a3.trans flt_K⟩
set_option maxRecDepth 100000 in
theorem m39 {K : HH → Option (Int32 × HH)} {x : Int32} : ∀ q i f g, i + q = 316 → q < f → ∃ g', lq1 (fX9_dream_L39 K 181 x) f (nI i) g = K g' ∧ (∀ k, i ≤ k → k < 316 → gI g' 185 k = nI 0) ∧ Keep (fun b k => b ≠ 185 ∨ k < i) g g' := by
  intro q
  induction q with
  | zero =>
    intro i f g h1 h2
    obtain ⟨f, rfl⟩ : ∃ q, f = q + 1 := ⟨f - 1, by omega⟩
    refine ⟨g, ?_, fun k a b => by omega, Keep.rfl⟩
    have c : 316 ≤ i := by omega
    simp (disch := omega) only [lI, lq1, fX9_dream_L39, leN, c, if_true]
  | succ q ih =>
    intro i f g h1 h2
    obtain ⟨f, rfl⟩ : ∃ q, f = q + 1 := ⟨f - 1, by omega⟩
    obtain ⟨g', e1, e2, e3⟩ := ih (i + 1) f (sI g 185 i (nI 0)) (by omega) (by omega)
    refine ⟨g', ?_, fun k a b => ?_, Keep.trans (Keep.sI Keep.rfl (by omega)) (e3.mono (fun b k hp => by omega))⟩
    · rw [← e1]
      have c : ¬ 316 ≤ i := by omega
      simp (disch := omega) only [lI, lq1, fX9_dream_L39, leN, c, if_false, inbN, ixN, gd_1, nI_add, Nat.reduceAdd]
    · by_cases z : k = i
      · subst z
        rw [(e3 185 k (by omega)).1, gIs]
      · exact e2 k (by omega) b
def PMe (b k : Nat) : Prop := ¬ (b = 181 ∧ (k = 0 ∨ (2 ≤ k ∧ k ≤ 11) ∨ k = 13)) ∧ b ≠ 183 ∧ b ≠ 185
set_option maxRecDepth 100000 in
theorem mReads {h : HH} {tz : Nat} (H : HT TP n) (htz : tz ≤ 1000) (hn : n ≤ tz) (h2 : gI h 181 2 = nI tz) (hB : ∀ k, k < n → gI h 182 k = nI (TP k)) : ∃ g, Keep PMe h g ∧ gI g 181 2 = nI 0 ∧ gI g 181 11 = nI 0 ∧ gI g 181 9 = nI 0 ∧ MD TP n g (sRead TP n) (fX9_dream 181 (nI n) h) := by
  obtain ⟨g1, eg1⟩ : ∃ g1, g1 = sI (sI h 181 0 (nI 0)) 181 11 (nI 0) := ⟨_, rfl⟩
  obtain ⟨g2, eg2⟩ : ∃ g2, g2 = sI (sI (sI g1 181 2 (nI 0)) 181 9 (nI 0)) 181 13 (nI 0) := ⟨_, rfl⟩
  have wi : fX9_within (nI n) (nI 0) (nI tz) g1 = some (true, g1) := wit3 (by omega) hn (by omega)
  obtain ⟨g3, e3, z3, K3⟩ := m39 (K := fun h => nm (sI (sI h 181 3 (nI n)) 181 5 (nI 0)) (fun g2 => bv (fX9_next 181 g2) (fun h70 => bv (fX9_readLine 181 h70) (fun h74 => lq0 (fX9_dream_L77 dK77 181) FU h74)))) (x := nI n) 316 0 FU g2 (by omega) (by unfold FU; omega)
  obtain ⟨g4, eg4⟩ : ∃ g4, g4 = sI (sI g3 181 3 (nI n)) 181 5 (nI 0) := ⟨_, rfl⟩
  have KK : Keep PMe h g4 := by
    rw [eg4]
    refine Keep.sI (Keep.sI (Keep.trans ?_ (K3.mono (fun b k hp => Or.inl hp.2.2))) (fun z => z.1 (by omega))) (fun z => z.1 (by omega))
    rw [eg2, eg1]
    exact Keep.sI (Keep.sI (Keep.sI (Keep.sI (Keep.sI Keep.rfl (fun z => z.1 (by omega))) (fun z => z.1 (by omega))) (fun z => z.1 (by omega))) (fun z => z.1 (by omega))) (fun z => z.1 (by omega))
  have p4 : ∀ k, k ≠ 3 → k ≠ 5 → gI g4 181 k = gI g2 181 k := fun k a b => by rw [eg4, gIk b, gIk a]; exact (K3 181 k (by omega)).1
  have q2 : gI g4 181 2 = nI 0 := by rw [p4 2 (by omega) (by omega), eg2, gIk (by omega), gIk (by omega), gIs]
  have q9 : gI g4 181 9 = nI 0 := by rw [p4 9 (by omega) (by omega), eg2, gIk (by omega), gIs]
  have q13 : gI g4 181 13 = nI 0 := by rw [p4 13 (by omega) (by omega), eg2, gIs]
  have q11 : gI g4 181 11 = nI 0 := by rw [p4 11 (by omega) (by omega), eg2, gIk (by omega), gIk (by omega), gIk (by omega), eg1, gIs]
  have q5 : gI g4 181 5 = nI 0 := by rw [eg4, gIs]
  have C : MT g4 TP n := ⟨by rw [eg4, gIk (by omega), gIs], fun k hk => (KK 182 k ⟨by omega, by omega, by omega⟩).1.trans (hB k hk)⟩
  have R : FR g4 (fun _ => 0) := fun k hk => by
    rw [eg4, gIa (by omega), gIa (by omega)]
    exact z3 k (by omega) hk
  obtain ⟨g5, e5, t5, K5⟩ := mNxt H C (show 0 ≤ n by omega) q5
  have M : MS TP n g5 (fun _ => 0) 0 := ⟨C.tk K5, t5, (K5 181 13 (by unfold PTm; omega)).1.trans q13, fun k hk => (K5 185 k (by unfold PTm; omega)).1.trans (R k hk), by omega, (K5 181 9 (by unfold PTm; omega)).1.trans q9⟩
  have ml := mLoopR H (n + 1) (fun _ => 0) 0 g5 FU (Or.inl (fun _ _ => rfl)) M (by omega) (by unfold FU; have := H.1; omega)
  have h2' : gI g1 181 2 = nI tz := by rw [eg1, gIk (by omega), gIk (by omega)]; exact h2
  refine ⟨g5, KK.trans (K5.mono (fun b k hp => by unfold PMe at hp; unfold PTm; omega)), (K5 181 2 (by unfold PTm; omega)).1.trans q2, (K5 181 11 (by unfold PTm; omega)).1.trans q11, (K5 181 9 (by unfold PTm; omega)).1.trans q9, ?_⟩
  have ee : fX9_dream 181 (nI n) h = bv (fX9_readLine 181 g5) (fun h74 => lq0 (fX9_dream_L77 dK77 181) FU h74) := by
    unfold fX9_dream
    show bv (fX9_good 181 h) _ = _
    rw [show fX9_good 181 h = some g1 from by rw [eg1]; rfl, bv_1, h2']
    show bd (fX9_within (nI n) (nI 0) (nI tz) g1) _ = _
    rw [wi, bd_1, cond_true, nm_1]
    show lq1 (fX9_dream_L39 (fun h => nm (sI (sI h 181 3 (nI n)) 181 5 (nI 0)) (fun g2 => bv (fX9_next 181 g2) (fun h70 => bv (fX9_readLine 181 h70) (fun h74 => lq0 (fX9_dream_L77 dK77 181) FU h74)))) 181 (nI n)) FU (nI 0) (sI (sI (sI g1 181 2 (nI 0)) 181 9 (nI 0)) 181 13 (nI 0)) = _
    rw [← eg2, e3, nm_1, ← eg4, e5, bv_1]
  rw [ee]
  exact ml
end MDR
