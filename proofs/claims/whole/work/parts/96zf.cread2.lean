/-! the class reads a text -/
def PRx (d b k : Nat) : Prop := b ≠ 2 ∧ PRd d b k
def clr (h : HH) (d : Nat) : HH := sI (sI (sI (sI (sI (sI (sI (sI (sI (sI (sI (sI h (d + 4) 3 (nI 0)) (d + 6) 3 (nI 0)) (d + 8) 3 (nI 0)) (d + 10) 3 (nI 0)) (d + 12) 3 (nI 0)) (d + 14) 3 (nI 0)) (d + 1) 0 (nI 1)) d 9 (nI 0)) d 10 (nI 0)) d 11 (nI 0)) d 12 (nI 0)) d 13 (nI 0)
section CRE
variable {TP : Nat → Nat} {n d : Nat} {h : HH}
set_option maxRecDepth 100000 in
theorem clr_eq : fX0_clear d h = some (clr h d) := rfl
set_option maxRecDepth 100000 in
theorem clr_k (hd : isD d) : Keep (PRx d) h (clr h d) := by
  unfold isD at hd
  unfold clr
  refine Keep.sI (Keep.sI (Keep.sI (Keep.sI (Keep.sI (Keep.sI (Keep.sI (Keep.sI (Keep.sI (Keep.sI (Keep.sI (Keep.sI Keep.rfl ?_) ?_) ?_) ?_) ?_) ?_) ?_) ?_) ?_) ?_) ?_) ?_
  all_goals (intro z; have := z.2.2 (by omega) (by omega); omega)
set_option maxRecDepth 100000 in
theorem clr_D (hd : isD d) (RM : ROM h) : DRep (clr h d) d (fun _ => 0) := by
  obtain ⟨r1, r2, r3, r4, r5, r6⟩ := RM d hd
  have d4 : ∀ j, j = 4 ∨ j = 6 ∨ j = 8 ∨ j = 10 ∨ j = 12 ∨ j = 14 → gI (clr h d) (d + j) 3 = nI 0 := by
    intro j hj
    unfold clr
    rcases hj with rfl | rfl | rfl | rfl | rfl | rfl
    all_goals simp (disch := omega) only [gIs, gIk, gIa]
  have d1 : ∀ j, j = 4 ∨ j = 6 ∨ j = 8 ∨ j = 10 ∨ j = 12 ∨ j = 14 → gI (clr h d) (d + j) 1 = gI h (d + j) 1 := by
    intro j hj
    unfold clr
    simp (disch := omega) only [gIk, gIa]
  have c9 : ∀ j, 9 ≤ j → j ≤ 13 → gI (clr h d) d j = nI 0 := by
    intro j h1 h2
    have : j = 9 ∨ j = 10 ∨ j = 11 ∨ j = 12 ∨ j = 13 := by omega
    unfold clr
    rcases this with rfl | rfl | rfl | rfl | rfl
    all_goals simp (disch := omega) only [gIs, gIk, gIa]
  refine ⟨fun f hf => ?_, fun z => ?_, ⟨c9 9 (by omega) (by omega), c9 10 (by omega) (by omega), c9 11 (by omega) (by omega), c9 12 (by omega) (by omega), c9 13 (by omega) (by omega)⟩, ⟨⟨(d1 4 (by omega)).trans r1.2, d4 4 (by omega)⟩, ⟨(d1 6 (by omega)).trans r2.2, d4 6 (by omega)⟩, ⟨(d1 8 (by omega)).trans r3.2, d4 8 (by omega)⟩, ⟨(d1 10 (by omega)).trans r4.2, d4 10 (by omega)⟩, ⟨(d1 12 (by omega)).trans r5.2, d4 12 (by omega)⟩, ⟨(d1 14 (by omega)).trans r6.2, d4 14 (by omega)⟩⟩, ?_, ?_, ?_, ?_, ?_, ?_, ?_⟩
  · have f0 : f = 0 := Nat.le_zero.1 hf
    subst f0
    unfold clr
    simp (disch := omega) only [gIs, gIk, gIa]
    rfl
  · exact absurd z (by decide)
  all_goals (intro k hk; exact absurd hk (Nat.not_lt_zero _))
set_option maxRecDepth 100000 in
theorem cRead (H : HT TP n) (hd : isD d) (RM : ROM h) (hB : ∀ k, k < n → gI h 1 k &&& nI 255 = nI (TP k)) : ∃ g, Keep (PRx d) h g ∧ CRr d g (sRead TP n) (fX5_read 2 1 (nI n) d h) := by
  have hn := H.1
  have kd : isKb 0 d = true := by
    rcases hd with rfl | rfl
    · decide +kernel
    · decide +kernel
  have l1 : ln 1 = 1000 := kb10.2
  have mn : jmmin (nI n) (Int32.ofNat (ln 1)) = nI n := by
    rw [l1]
    show jmmin (nI n) (nI 1000) = nI n
    rw [minN (by omega) (by omega), Nat.min_eq_left hn]
  obtain ⟨g0, eg0⟩ : ∃ g0, g0 = sR (sI (sR h 2 4 1) 2 5 (nI n)) 2 6 d := ⟨_, rfl⟩
  obtain ⟨g, eg⟩ : ∃ g, g = sI (sI (sI (clr g0 d) 2 3 (nI 0)) 2 7 (nI 0)) 2 9 (nI 0) := ⟨_, rfl⟩
  have K0 : Keep (PRx d) h g0 := by
    rw [eg0]
    exact Keep.sR (Keep.sI (Keep.sR Keep.rfl (fun z => z.1 rfl)) (fun z => z.1 rfl)) (fun z => z.1 rfl)
  have hd6 : 44 ≤ d := by unfold isD at hd; omega
  have RM0 : ROM g0 := by
    intro d' hd'
    have e : ∀ j k, 1 ≤ j → gI g0 (d' + j) k = gI h (d' + j) k := fun j k hj => by
      rw [eg0]
      unfold isD at hd'
      rw [gI_sR, gIa (by omega), gI_sR]
    have := RM d' hd'
    rw [e 4 0 (by omega), e 4 1 (by omega), e 6 0 (by omega), e 6 1 (by omega), e 8 0 (by omega), e 8 1 (by omega), e 10 0 (by omega), e 10 1 (by omega), e 12 0 (by omega), e 12 1 (by omega), e 14 0 (by omega), e 14 1 (by omega)]
    exact this
  have K2 : Keep (fun b k => b ≠ 2 ∨ (k ≠ 3 ∧ k ≠ 7 ∧ k ≠ 9)) (clr g0 d) g := by
    rw [eg]
    exact Keep.sI (Keep.sI (Keep.sI Keep.rfl (by omega)) (by omega)) (by omega)
  have D : DRep g d (fun _ => 0) := (clr_D hd RM0).keep K2 (fun b k h1 h2 => by omega)
  have KC : Keep (fun b _ => b ≤ 40) g0 (clr g0 d) := by
    unfold clr
    exact Keep.sI (Keep.sI (Keep.sI (Keep.sI (Keep.sI (Keep.sI (Keep.sI (Keep.sI (Keep.sI (Keep.sI (Keep.sI (Keep.sI Keep.rfl (by omega)) (by omega)) (by omega)) (by omega)) (by omega)) (by omega)) (by omega)) (by omega)) (by omega)) (by omega)) (by omega)) (by omega)
  have Kg : Keep (PRx d) h g := (K0.trans (clr_k hd)).trans (K2.mono (fun b k hp => Or.inl hp.1))
  have RMg : ROM g := by
    intro d' hd'
    have e : ∀ j k, (j = 4 ∨ j = 6 ∨ j = 8 ∨ j = 10 ∨ j = 12 ∨ j = 14) → (k = 0 ∨ k = 1) → gI g (d' + j) k = gI h (d' + j) k := fun j k hj hk => by
      refine (Kg _ _ ⟨by unfold isD at hd'; omega, ⟨by unfold isD at hd'; omega, by unfold isD at hd'; omega⟩, fun _ _ => by unfold isD at hd hd'; omega⟩).1
    have := RM d' hd'
    rw [e 4 0 (by omega) (by omega), e 4 1 (by omega) (by omega), e 6 0 (by omega) (by omega), e 6 1 (by omega) (by omega), e 8 0 (by omega) (by omega), e 8 1 (by omega) (by omega), e 10 0 (by omega) (by omega), e 10 1 (by omega) (by omega), e 12 0 (by omega) (by omega), e 12 1 (by omega) (by omega), e 14 0 (by omega) (by omega), e 14 1 (by omega) (by omega)]
    exact this
  have C : CT g TP n := by
    refine ⟨?_, ?_, fun k hk => ?_⟩
    · rw [(K2 2 4 (by omega)).2.2, (KC 2 4 (by omega)).2.2, eg0, gRk (by omega), gR_sI, gRs]
    · rw [(K2 2 5 (by omega)).1, (KC 2 5 (by omega)).1, eg0, gI_sR, gIs]
    · rw [(Kg 1 k ⟨by omega, ⟨by omega, by omega⟩, fun _ _ => by omega⟩).1]; exact hB k hk
  have r6 : gR g 2 6 = d := by rw [(K2 2 6 (by omega)).2.2, (KC 2 6 (by omega)).2.2, eg0, gRs]
  have g9 : gI g 2 9 = nI 0 := by rw [eg, gIs]
  have g3 : gI g 2 3 = nI 0 := by rw [eg, gIk (by omega), gIk (by omega), gIs]
  obtain ⟨h', n1, n2, n3⟩ := cNxt H C (show 0 ≤ n by omega) g9
  have KP : Keep (PRd d) g h' := kRd hd (kfk n3)
  have CNz : CN h' (fun _ => 0) 0 := ⟨(n3 2 3 (by unfold PTk; omega)).1.trans g3, by omega, fun _ => 0, fun i hi => absurd hi (Nat.not_lt_zero _), fun m hm hz => absurd hz (Nat.not_lt_zero _)⟩
  have L : LnS TP n d h' (fun _ => 0) 0 := ⟨hd, ⟨C.tk n3, n2, (n3 2 6 (by unfold PTk; omega)).2.2.trans r6, by omega⟩, D.keep n3 (fun b k h1 h2 => by unfold PTk; omega), CNz, RMg.kp hd KP⟩
  have cl := cLoop H (n + 1) 0 (fun _ => 0) 0 h' FU (Or.inl (fun _ _ => rfl)) L (by omega) (by omega) (by unfold FU; omega)
  have e6 : gR g0 2 6 = d := by rw [eg0, gRs]
  have e : fX5_read 2 1 (nI n) d h = lq1 (fX5_read_L49 rdK 2) FU (nI 0) h' := by
    unfold fX5_read
    rw [mn]
    show gd (isKb 0 (gR (sR (sI (sR h 2 4 1) 2 5 (nI n)) 2 6 d) 2 6)) (bv (fX0_clear (gR (sR (sI (sR h 2 4 1) 2 5 (nI n)) 2 6 d) 2 6) (sR (sI (sR h 2 4 1) 2 5 (nI n)) 2 6 d)) (fun h24 => bv (fX5_next 2 (sI (sI (sI h24 2 3 (nI 0)) 2 7 (nI 0)) 2 9 (nI 0))) (fun h43 => lq1 (fX5_read_L49 rdK 2) FU (nI 0) h43))) = _
    rw [← eg0, e6, kd, gd_1, clr_eq, bv_1, ← eg, n1, bv_1]
  refine ⟨h', Kg.trans (KP.mono (fun b k hp => hp.2)), ?_⟩
  rw [e]
  exact cl
end CRE
