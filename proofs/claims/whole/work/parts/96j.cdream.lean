/-! a row more: the class's dream -/
set_option maxRecDepth 100000 in
theorem qk_cg {F G : Nat → Nat} : ∀ f, (∀ i, i < f → F (11 + i) = G (11 + i)) → qk F f = qk G f
  | 0, _ => rfl
  | f + 1, h => by
    show qk F f * F (11 + f) = qk G f * G (11 + f)
    rw [qk_cg f (fun i hi => h i (by omega)), h f (by omega)]
set_option maxRecDepth 100000 in
theorem cnt_cg {F G : Nat → Nat} (s : Nat) : ∀ k, (∀ i, i < k → F (40 + 3 * i) = G (40 + 3 * i)) → cnt F s k = cnt G s k
  | 0, _ => rfl
  | k + 1, h => by
    show cnt F s k + (if F (40 + 3 * k) = s then 1 else 0) = cnt G s k + (if G (40 + 3 * k) = s then 1 else 0)
    rw [cnt_cg s k (fun i hi => h i (by omega)), h k (by omega)]
set_option maxRecDepth 100000 in
theorem cnt_0 {F : Nat → Nat} (s : Nat) : ∀ k, (∀ i, i < k → F (40 + 3 * i) ≠ s) → cnt F s k = 0
  | 0, _ => rfl
  | k + 1, h => by
    show cnt F s k + (if F (40 + 3 * k) = s then 1 else 0) = 0
    rw [cnt_0 s k (fun i hi => h i (by omega)), if_neg (h k (by omega))]
/-- the counts keep to their rooms -/
def BD (R : Nat → Nat) : Prop := R 0 ≤ 4 ∧ R 4 ≤ 5 ∧ R 5 ≤ 20 ∧ R 6 ≤ 8 ∧ R 7 ≤ 6 ∧ R 8 ≤ 6 ∧ R 9 ≤ 6
set_option maxRecDepth 100000 in
theorem xD4 {h1 h : HH} {d : Nat} {F F' : Nat → Nat} {vs : Nat → Int32} (D : DRep h1 d F) (hd : isD d) (B : BD F) (R : RW h1 h (d + 4) 6 (F 4) vs) (hm : F 4 < 5) (hlo : ∀ k, k < 190 → k ≠ 4 → ¬ (15 + 5 * F 4 ≤ k ∧ k < 15 + 5 * F 4 + 5) → F' k = F k) (ht : F' 4 = F 4 + 1) (hv : ∀ j, j < 4 → vs j = nI (F' (15 + 5 * F 4 + j))) (hv4 : vs 4 = les M2 (F' (15 + 5 * F 4 + 4))) (hv5 : vs 5 = nI 0) (hst : ∀ k, k < F 5 → F (40 + 3 * k) < F 4) : DRep h d F' := by
  obtain ⟨B0, B4, B5, B6, B7, B8, B9⟩ := B
  obtain ⟨r1, r2, r3, r4⟩ := R
  have e : ∀ b k, d ≤ b → b ≤ d + 15 → ¬ (b = d + 4 ∧ k = 3) → ¬ (b = d + 4 + 1 ∧ F 4 * 6 ≤ k ∧ k < F 4 * 6 + 6) → gI h b k = gI h1 b k := fun b k q1 q2 q3 q4 => (r1 b k ⟨by unfold isD at hd; unfold PFN; omega, q3, q4⟩).1
  obtain ⟨a1, a2, a3, a4, a5, a6, a7, a8, a9, a10, a11⟩ := D
  have f0 : F' 0 = F 0 := hlo 0 (by omega) (by omega) (by omega)
  have f1 : F' 1 = F 1 := hlo 1 (by omega) (by omega) (by omega)
  have f2 : F' 2 = F 2 := hlo 2 (by omega) (by omega) (by omega)
  have f3 : F' 3 = F 3 := hlo 3 (by omega) (by omega) (by omega)
  have f10 : F' 10 = F 10 := hlo 10 (by omega) (by omega) (by omega)
  have f5 : F' 5 = F 5 := hlo 5 (by omega) (by omega) (by omega)
  have f6 : F' 6 = F 6 := hlo 6 (by omega) (by omega) (by omega)
  have f7 : F' 7 = F 7 := hlo 7 (by omega) (by omega) (by omega)
  have f8 : F' 8 = F 8 := hlo 8 (by omega) (by omega) (by omega)
  have f9 : F' 9 = F 9 := hlo 9 (by omega) (by omega) (by omega)
  have fq : ∀ f, f ≤ F 0 → qk F' f = qk F f := fun f hf => qk_cg f (fun i hi => hlo _ (by omega) (by omega) (by omega))
  refine ⟨fun f hf => ?_, fun q1 f q2 hf => ?_, ?_, ?_, fun s hs => ?_, fun k hk => ?_, fun k hk => ?_, fun k hk => ?_, fun k hk => ?_, fun k hk => ?_, fun k hk => ?_⟩
  · rw [f0] at hf
    rw [e _ _ (by omega) (by omega) (by omega) (by omega), fq f hf]; exact a1 f hf
  · rw [f0] at hf
    rw [f10] at q1
    rw [e _ _ (by omega) (by omega) (by omega) (by omega), hlo _ (by omega) (by omega) (by omega)]; exact a2 q1 f q2 hf
  · rw [f0, f1, f2, f3, f10, e _ _ (by omega) (by omega) (by omega) (by omega), e _ _ (by omega) (by omega) (by omega) (by omega), e _ _ (by omega) (by omega) (by omega) (by omega), e _ _ (by omega) (by omega) (by omega) (by omega), e _ _ (by omega) (by omega) (by omega) (by omega)]; exact a3
  · obtain ⟨b4, b5, b6, b7, b8, b9⟩ := a4
    refine ⟨?_, ?_, ?_, ?_, ?_, ?_⟩
    · rw [ht]; exact ⟨r3, r2⟩
    · rw [f5]; exact ⟨(e _ _ (by omega) (by omega) (by omega) (by omega)).trans b5.1, (e _ _ (by omega) (by omega) (by omega) (by omega)).trans b5.2⟩
    · rw [f6]; exact ⟨(e _ _ (by omega) (by omega) (by omega) (by omega)).trans b6.1, (e _ _ (by omega) (by omega) (by omega) (by omega)).trans b6.2⟩
    · rw [f7]; exact ⟨(e _ _ (by omega) (by omega) (by omega) (by omega)).trans b7.1, (e _ _ (by omega) (by omega) (by omega) (by omega)).trans b7.2⟩
    · rw [f8]; exact ⟨(e _ _ (by omega) (by omega) (by omega) (by omega)).trans b8.1, (e _ _ (by omega) (by omega) (by omega) (by omega)).trans b8.2⟩
    · rw [f9]; exact ⟨(e _ _ (by omega) (by omega) (by omega) (by omega)).trans b9.1, (e _ _ (by omega) (by omega) (by omega) (by omega)).trans b9.2⟩
  · rw [ht] at hs
    by_cases y : s < F 4
    · have hs := y
      refine ⟨fun c hc => ?_, ?_, ?_⟩
      · rw [e _ _ (by omega) (by omega) (by omega) (by omega), hlo _ (by omega) (by omega) (by omega)]; exact (a5 s hs).1 c hc
      · rw [e _ _ (by omega) (by omega) (by omega) (by omega), hlo _ (by omega) (by omega) (by omega)]; exact (a5 s hs).2.1
      · rw [e _ _ (by omega) (by omega) (by omega) (by omega), f5, cnt_cg s _ (fun i hi => hlo _ (by omega) (by omega) (by omega))]; exact (a5 s hs).2.2
    · have y2 : s = F 4 := by omega
      subst y2
      refine ⟨fun c hc => ?_, ?_, ?_⟩
      · exact (r4 c (by omega)).trans (hv c hc)
      · exact (r4 4 (by omega)).trans hv4
      · rw [f5, cnt_0 _ _ (fun i hi => by rw [hlo _ (by omega) (by omega) (by omega)]; have := hst i hi; omega)]
        exact (r4 5 (by omega)).trans hv5
  · rw [f5] at hk
    rw [e _ _ (by omega) (by omega) (by omega) (by omega), e _ _ (by omega) (by omega) (by omega) (by omega), e _ _ (by omega) (by omega) (by omega) (by omega), hlo _ (by omega) (by omega) (by omega), hlo _ (by omega) (by omega) (by omega), hlo _ (by omega) (by omega) (by omega)]; exact a6 k hk
  · rw [f5] at hk
    rw [hlo _ (by omega) (by omega) (by omega), cnt_cg _ _ (fun i hi => hlo _ (by omega) (by omega) (by omega)), e _ _ (by omega) (by omega) (by omega) (by omega)]; exact a7 k hk
  · rw [f6] at hk
    rw [e _ _ (by omega) (by omega) (by omega) (by omega), e _ _ (by omega) (by omega) (by omega) (by omega), e _ _ (by omega) (by omega) (by omega) (by omega), e _ _ (by omega) (by omega) (by omega) (by omega), hlo _ (by omega) (by omega) (by omega), hlo _ (by omega) (by omega) (by omega), hlo _ (by omega) (by omega) (by omega), hlo _ (by omega) (by omega) (by omega)]; exact a8 k hk
  · rw [f7] at hk
    rw [e _ _ (by omega) (by omega) (by omega) (by omega), e _ _ (by omega) (by omega) (by omega) (by omega), e _ _ (by omega) (by omega) (by omega) (by omega), hlo _ (by omega) (by omega) (by omega), hlo _ (by omega) (by omega) (by omega), hlo _ (by omega) (by omega) (by omega)]; exact a9 k hk
  · rw [f8] at hk
    rw [e _ _ (by omega) (by omega) (by omega) (by omega), e _ _ (by omega) (by omega) (by omega) (by omega), e _ _ (by omega) (by omega) (by omega) (by omega), hlo _ (by omega) (by omega) (by omega), hlo _ (by omega) (by omega) (by omega), hlo _ (by omega) (by omega) (by omega)]; exact a10 k hk
  · rw [f9] at hk
    rw [e _ _ (by omega) (by omega) (by omega) (by omega), e _ _ (by omega) (by omega) (by omega) (by omega), e _ _ (by omega) (by omega) (by omega) (by omega), hlo _ (by omega) (by omega) (by omega), hlo _ (by omega) (by omega) (by omega), hlo _ (by omega) (by omega) (by omega)]; exact a11 k hk
set_option maxRecDepth 100000 in
theorem xD6 {h1 h : HH} {d : Nat} {F F' : Nat → Nat} {vs : Nat → Int32} (D : DRep h1 d F) (hd : isD d) (B : BD F) (R : RW h1 h (d + 8) 4 (F 6) vs) (hm : F 6 < 8) (hlo : ∀ k, k < 190 → k ≠ 6 → ¬ (100 + 4 * F 6 ≤ k ∧ k < 100 + 4 * F 6 + 4) → F' k = F k) (ht : F' 6 = F 6 + 1) (hv : ∀ j, j < 4 → vs j = nI (F' (100 + 4 * F 6 + j))) : DRep h d F' := by
  obtain ⟨B0, B4, B5, B6, B7, B8, B9⟩ := B
  obtain ⟨r1, r2, r3, r4⟩ := R
  have e : ∀ b k, d ≤ b → b ≤ d + 15 → ¬ (b = d + 8 ∧ k = 3) → ¬ (b = d + 8 + 1 ∧ F 6 * 4 ≤ k ∧ k < F 6 * 4 + 4) → gI h b k = gI h1 b k := fun b k q1 q2 q3 q4 => (r1 b k ⟨by unfold isD at hd; unfold PFN; omega, q3, q4⟩).1
  obtain ⟨a1, a2, a3, a4, a5, a6, a7, a8, a9, a10, a11⟩ := D
  have f0 : F' 0 = F 0 := hlo 0 (by omega) (by omega) (by omega)
  have f1 : F' 1 = F 1 := hlo 1 (by omega) (by omega) (by omega)
  have f2 : F' 2 = F 2 := hlo 2 (by omega) (by omega) (by omega)
  have f3 : F' 3 = F 3 := hlo 3 (by omega) (by omega) (by omega)
  have f10 : F' 10 = F 10 := hlo 10 (by omega) (by omega) (by omega)
  have f4 : F' 4 = F 4 := hlo 4 (by omega) (by omega) (by omega)
  have f5 : F' 5 = F 5 := hlo 5 (by omega) (by omega) (by omega)
  have f7 : F' 7 = F 7 := hlo 7 (by omega) (by omega) (by omega)
  have f8 : F' 8 = F 8 := hlo 8 (by omega) (by omega) (by omega)
  have f9 : F' 9 = F 9 := hlo 9 (by omega) (by omega) (by omega)
  have fq : ∀ f, f ≤ F 0 → qk F' f = qk F f := fun f hf => qk_cg f (fun i hi => hlo _ (by omega) (by omega) (by omega))
  refine ⟨fun f hf => ?_, fun q1 f q2 hf => ?_, ?_, ?_, fun s hs => ?_, fun k hk => ?_, fun k hk => ?_, fun k hk => ?_, fun k hk => ?_, fun k hk => ?_, fun k hk => ?_⟩
  · rw [f0] at hf
    rw [e _ _ (by omega) (by omega) (by omega) (by omega), fq f hf]; exact a1 f hf
  · rw [f0] at hf
    rw [f10] at q1
    rw [e _ _ (by omega) (by omega) (by omega) (by omega), hlo _ (by omega) (by omega) (by omega)]; exact a2 q1 f q2 hf
  · rw [f0, f1, f2, f3, f10, e _ _ (by omega) (by omega) (by omega) (by omega), e _ _ (by omega) (by omega) (by omega) (by omega), e _ _ (by omega) (by omega) (by omega) (by omega), e _ _ (by omega) (by omega) (by omega) (by omega), e _ _ (by omega) (by omega) (by omega) (by omega)]; exact a3
  · obtain ⟨b4, b5, b6, b7, b8, b9⟩ := a4
    refine ⟨?_, ?_, ?_, ?_, ?_, ?_⟩
    · rw [f4]; exact ⟨(e _ _ (by omega) (by omega) (by omega) (by omega)).trans b4.1, (e _ _ (by omega) (by omega) (by omega) (by omega)).trans b4.2⟩
    · rw [f5]; exact ⟨(e _ _ (by omega) (by omega) (by omega) (by omega)).trans b5.1, (e _ _ (by omega) (by omega) (by omega) (by omega)).trans b5.2⟩
    · rw [ht]; exact ⟨r3, r2⟩
    · rw [f7]; exact ⟨(e _ _ (by omega) (by omega) (by omega) (by omega)).trans b7.1, (e _ _ (by omega) (by omega) (by omega) (by omega)).trans b7.2⟩
    · rw [f8]; exact ⟨(e _ _ (by omega) (by omega) (by omega) (by omega)).trans b8.1, (e _ _ (by omega) (by omega) (by omega) (by omega)).trans b8.2⟩
    · rw [f9]; exact ⟨(e _ _ (by omega) (by omega) (by omega) (by omega)).trans b9.1, (e _ _ (by omega) (by omega) (by omega) (by omega)).trans b9.2⟩
  · rw [f4] at hs
    refine ⟨fun c hc => ?_, ?_, ?_⟩
    · rw [e _ _ (by omega) (by omega) (by omega) (by omega), hlo _ (by omega) (by omega) (by omega)]; exact (a5 s hs).1 c hc
    · rw [e _ _ (by omega) (by omega) (by omega) (by omega), hlo _ (by omega) (by omega) (by omega)]; exact (a5 s hs).2.1
    · rw [e _ _ (by omega) (by omega) (by omega) (by omega), f5, cnt_cg s _ (fun i hi => hlo _ (by omega) (by omega) (by omega))]; exact (a5 s hs).2.2
  · rw [f5] at hk
    rw [e _ _ (by omega) (by omega) (by omega) (by omega), e _ _ (by omega) (by omega) (by omega) (by omega), e _ _ (by omega) (by omega) (by omega) (by omega), hlo _ (by omega) (by omega) (by omega), hlo _ (by omega) (by omega) (by omega), hlo _ (by omega) (by omega) (by omega)]; exact a6 k hk
  · rw [f5] at hk
    rw [hlo _ (by omega) (by omega) (by omega), cnt_cg _ _ (fun i hi => hlo _ (by omega) (by omega) (by omega)), e _ _ (by omega) (by omega) (by omega) (by omega)]; exact a7 k hk
  · rw [ht] at hk
    by_cases y : k < F 6
    · have hk := y
      rw [e _ _ (by omega) (by omega) (by omega) (by omega), e _ _ (by omega) (by omega) (by omega) (by omega), e _ _ (by omega) (by omega) (by omega) (by omega), e _ _ (by omega) (by omega) (by omega) (by omega), hlo _ (by omega) (by omega) (by omega), hlo _ (by omega) (by omega) (by omega), hlo _ (by omega) (by omega) (by omega), hlo _ (by omega) (by omega) (by omega)]; exact a8 k hk
    · have y2 : k = F 6 := by omega
      subst y2
      exact ⟨(r4 0 (by omega)).trans (hv 0 (by omega)), (r4 1 (by omega)).trans (hv 1 (by omega)), (r4 2 (by omega)).trans (hv 2 (by omega)), (r4 3 (by omega)).trans (hv 3 (by omega))⟩
  · rw [f7] at hk
    rw [e _ _ (by omega) (by omega) (by omega) (by omega), e _ _ (by omega) (by omega) (by omega) (by omega), e _ _ (by omega) (by omega) (by omega) (by omega), hlo _ (by omega) (by omega) (by omega), hlo _ (by omega) (by omega) (by omega), hlo _ (by omega) (by omega) (by omega)]; exact a9 k hk
  · rw [f8] at hk
    rw [e _ _ (by omega) (by omega) (by omega) (by omega), e _ _ (by omega) (by omega) (by omega) (by omega), e _ _ (by omega) (by omega) (by omega) (by omega), hlo _ (by omega) (by omega) (by omega), hlo _ (by omega) (by omega) (by omega), hlo _ (by omega) (by omega) (by omega)]; exact a10 k hk
  · rw [f9] at hk
    rw [e _ _ (by omega) (by omega) (by omega) (by omega), e _ _ (by omega) (by omega) (by omega) (by omega), e _ _ (by omega) (by omega) (by omega) (by omega), hlo _ (by omega) (by omega) (by omega), hlo _ (by omega) (by omega) (by omega), hlo _ (by omega) (by omega) (by omega)]; exact a11 k hk
set_option maxRecDepth 100000 in
theorem xD7 {h1 h : HH} {d : Nat} {F F' : Nat → Nat} {vs : Nat → Int32} (D : DRep h1 d F) (hd : isD d) (B : BD F) (R : RW h1 h (d + 10) 3 (F 7) vs) (hm : F 7 < 6) (hlo : ∀ k, k < 190 → k ≠ 7 → ¬ (132 + 3 * F 7 ≤ k ∧ k < 132 + 3 * F 7 + 3) → F' k = F k) (ht : F' 7 = F 7 + 1) (hv : ∀ j, j < 3 → vs j = nI (F' (132 + 3 * F 7 + j))) : DRep h d F' := by
  obtain ⟨B0, B4, B5, B6, B7, B8, B9⟩ := B
  obtain ⟨r1, r2, r3, r4⟩ := R
  have e : ∀ b k, d ≤ b → b ≤ d + 15 → ¬ (b = d + 10 ∧ k = 3) → ¬ (b = d + 10 + 1 ∧ F 7 * 3 ≤ k ∧ k < F 7 * 3 + 3) → gI h b k = gI h1 b k := fun b k q1 q2 q3 q4 => (r1 b k ⟨by unfold isD at hd; unfold PFN; omega, q3, q4⟩).1
  obtain ⟨a1, a2, a3, a4, a5, a6, a7, a8, a9, a10, a11⟩ := D
  have f0 : F' 0 = F 0 := hlo 0 (by omega) (by omega) (by omega)
  have f1 : F' 1 = F 1 := hlo 1 (by omega) (by omega) (by omega)
  have f2 : F' 2 = F 2 := hlo 2 (by omega) (by omega) (by omega)
  have f3 : F' 3 = F 3 := hlo 3 (by omega) (by omega) (by omega)
  have f10 : F' 10 = F 10 := hlo 10 (by omega) (by omega) (by omega)
  have f4 : F' 4 = F 4 := hlo 4 (by omega) (by omega) (by omega)
  have f5 : F' 5 = F 5 := hlo 5 (by omega) (by omega) (by omega)
  have f6 : F' 6 = F 6 := hlo 6 (by omega) (by omega) (by omega)
  have f8 : F' 8 = F 8 := hlo 8 (by omega) (by omega) (by omega)
  have f9 : F' 9 = F 9 := hlo 9 (by omega) (by omega) (by omega)
  have fq : ∀ f, f ≤ F 0 → qk F' f = qk F f := fun f hf => qk_cg f (fun i hi => hlo _ (by omega) (by omega) (by omega))
  refine ⟨fun f hf => ?_, fun q1 f q2 hf => ?_, ?_, ?_, fun s hs => ?_, fun k hk => ?_, fun k hk => ?_, fun k hk => ?_, fun k hk => ?_, fun k hk => ?_, fun k hk => ?_⟩
  · rw [f0] at hf
    rw [e _ _ (by omega) (by omega) (by omega) (by omega), fq f hf]; exact a1 f hf
  · rw [f0] at hf
    rw [f10] at q1
    rw [e _ _ (by omega) (by omega) (by omega) (by omega), hlo _ (by omega) (by omega) (by omega)]; exact a2 q1 f q2 hf
  · rw [f0, f1, f2, f3, f10, e _ _ (by omega) (by omega) (by omega) (by omega), e _ _ (by omega) (by omega) (by omega) (by omega), e _ _ (by omega) (by omega) (by omega) (by omega), e _ _ (by omega) (by omega) (by omega) (by omega), e _ _ (by omega) (by omega) (by omega) (by omega)]; exact a3
  · obtain ⟨b4, b5, b6, b7, b8, b9⟩ := a4
    refine ⟨?_, ?_, ?_, ?_, ?_, ?_⟩
    · rw [f4]; exact ⟨(e _ _ (by omega) (by omega) (by omega) (by omega)).trans b4.1, (e _ _ (by omega) (by omega) (by omega) (by omega)).trans b4.2⟩
    · rw [f5]; exact ⟨(e _ _ (by omega) (by omega) (by omega) (by omega)).trans b5.1, (e _ _ (by omega) (by omega) (by omega) (by omega)).trans b5.2⟩
    · rw [f6]; exact ⟨(e _ _ (by omega) (by omega) (by omega) (by omega)).trans b6.1, (e _ _ (by omega) (by omega) (by omega) (by omega)).trans b6.2⟩
    · rw [ht]; exact ⟨r3, r2⟩
    · rw [f8]; exact ⟨(e _ _ (by omega) (by omega) (by omega) (by omega)).trans b8.1, (e _ _ (by omega) (by omega) (by omega) (by omega)).trans b8.2⟩
    · rw [f9]; exact ⟨(e _ _ (by omega) (by omega) (by omega) (by omega)).trans b9.1, (e _ _ (by omega) (by omega) (by omega) (by omega)).trans b9.2⟩
  · rw [f4] at hs
    refine ⟨fun c hc => ?_, ?_, ?_⟩
    · rw [e _ _ (by omega) (by omega) (by omega) (by omega), hlo _ (by omega) (by omega) (by omega)]; exact (a5 s hs).1 c hc
    · rw [e _ _ (by omega) (by omega) (by omega) (by omega), hlo _ (by omega) (by omega) (by omega)]; exact (a5 s hs).2.1
    · rw [e _ _ (by omega) (by omega) (by omega) (by omega), f5, cnt_cg s _ (fun i hi => hlo _ (by omega) (by omega) (by omega))]; exact (a5 s hs).2.2
  · rw [f5] at hk
    rw [e _ _ (by omega) (by omega) (by omega) (by omega), e _ _ (by omega) (by omega) (by omega) (by omega), e _ _ (by omega) (by omega) (by omega) (by omega), hlo _ (by omega) (by omega) (by omega), hlo _ (by omega) (by omega) (by omega), hlo _ (by omega) (by omega) (by omega)]; exact a6 k hk
  · rw [f5] at hk
    rw [hlo _ (by omega) (by omega) (by omega), cnt_cg _ _ (fun i hi => hlo _ (by omega) (by omega) (by omega)), e _ _ (by omega) (by omega) (by omega) (by omega)]; exact a7 k hk
  · rw [f6] at hk
    rw [e _ _ (by omega) (by omega) (by omega) (by omega), e _ _ (by omega) (by omega) (by omega) (by omega), e _ _ (by omega) (by omega) (by omega) (by omega), e _ _ (by omega) (by omega) (by omega) (by omega), hlo _ (by omega) (by omega) (by omega), hlo _ (by omega) (by omega) (by omega), hlo _ (by omega) (by omega) (by omega), hlo _ (by omega) (by omega) (by omega)]; exact a8 k hk
  · rw [ht] at hk
    by_cases y : k < F 7
    · have hk := y
      rw [e _ _ (by omega) (by omega) (by omega) (by omega), e _ _ (by omega) (by omega) (by omega) (by omega), e _ _ (by omega) (by omega) (by omega) (by omega), hlo _ (by omega) (by omega) (by omega), hlo _ (by omega) (by omega) (by omega), hlo _ (by omega) (by omega) (by omega)]; exact a9 k hk
    · have y2 : k = F 7 := by omega
      subst y2
      exact ⟨(r4 0 (by omega)).trans (hv 0 (by omega)), (r4 1 (by omega)).trans (hv 1 (by omega)), (r4 2 (by omega)).trans (hv 2 (by omega))⟩
  · rw [f8] at hk
    rw [e _ _ (by omega) (by omega) (by omega) (by omega), e _ _ (by omega) (by omega) (by omega) (by omega), e _ _ (by omega) (by omega) (by omega) (by omega), hlo _ (by omega) (by omega) (by omega), hlo _ (by omega) (by omega) (by omega), hlo _ (by omega) (by omega) (by omega)]; exact a10 k hk
  · rw [f9] at hk
    rw [e _ _ (by omega) (by omega) (by omega) (by omega), e _ _ (by omega) (by omega) (by omega) (by omega), e _ _ (by omega) (by omega) (by omega) (by omega), hlo _ (by omega) (by omega) (by omega), hlo _ (by omega) (by omega) (by omega), hlo _ (by omega) (by omega) (by omega)]; exact a11 k hk
set_option maxRecDepth 100000 in
theorem xD8 {h1 h : HH} {d : Nat} {F F' : Nat → Nat} {vs : Nat → Int32} (D : DRep h1 d F) (hd : isD d) (B : BD F) (R : RW h1 h (d + 12) 3 (F 8) vs) (hm : F 8 < 6) (hlo : ∀ k, k < 190 → k ≠ 8 → ¬ (154 + 3 * F 8 ≤ k ∧ k < 154 + 3 * F 8 + 3) → F' k = F k) (ht : F' 8 = F 8 + 1) (hv : ∀ j, j < 3 → vs j = nI (F' (154 + 3 * F 8 + j))) : DRep h d F' := by
  obtain ⟨B0, B4, B5, B6, B7, B8, B9⟩ := B
  obtain ⟨r1, r2, r3, r4⟩ := R
  have e : ∀ b k, d ≤ b → b ≤ d + 15 → ¬ (b = d + 12 ∧ k = 3) → ¬ (b = d + 12 + 1 ∧ F 8 * 3 ≤ k ∧ k < F 8 * 3 + 3) → gI h b k = gI h1 b k := fun b k q1 q2 q3 q4 => (r1 b k ⟨by unfold isD at hd; unfold PFN; omega, q3, q4⟩).1
  obtain ⟨a1, a2, a3, a4, a5, a6, a7, a8, a9, a10, a11⟩ := D
  have f0 : F' 0 = F 0 := hlo 0 (by omega) (by omega) (by omega)
  have f1 : F' 1 = F 1 := hlo 1 (by omega) (by omega) (by omega)
  have f2 : F' 2 = F 2 := hlo 2 (by omega) (by omega) (by omega)
  have f3 : F' 3 = F 3 := hlo 3 (by omega) (by omega) (by omega)
  have f10 : F' 10 = F 10 := hlo 10 (by omega) (by omega) (by omega)
  have f4 : F' 4 = F 4 := hlo 4 (by omega) (by omega) (by omega)
  have f5 : F' 5 = F 5 := hlo 5 (by omega) (by omega) (by omega)
  have f6 : F' 6 = F 6 := hlo 6 (by omega) (by omega) (by omega)
  have f7 : F' 7 = F 7 := hlo 7 (by omega) (by omega) (by omega)
  have f9 : F' 9 = F 9 := hlo 9 (by omega) (by omega) (by omega)
  have fq : ∀ f, f ≤ F 0 → qk F' f = qk F f := fun f hf => qk_cg f (fun i hi => hlo _ (by omega) (by omega) (by omega))
  refine ⟨fun f hf => ?_, fun q1 f q2 hf => ?_, ?_, ?_, fun s hs => ?_, fun k hk => ?_, fun k hk => ?_, fun k hk => ?_, fun k hk => ?_, fun k hk => ?_, fun k hk => ?_⟩
  · rw [f0] at hf
    rw [e _ _ (by omega) (by omega) (by omega) (by omega), fq f hf]; exact a1 f hf
  · rw [f0] at hf
    rw [f10] at q1
    rw [e _ _ (by omega) (by omega) (by omega) (by omega), hlo _ (by omega) (by omega) (by omega)]; exact a2 q1 f q2 hf
  · rw [f0, f1, f2, f3, f10, e _ _ (by omega) (by omega) (by omega) (by omega), e _ _ (by omega) (by omega) (by omega) (by omega), e _ _ (by omega) (by omega) (by omega) (by omega), e _ _ (by omega) (by omega) (by omega) (by omega), e _ _ (by omega) (by omega) (by omega) (by omega)]; exact a3
  · obtain ⟨b4, b5, b6, b7, b8, b9⟩ := a4
    refine ⟨?_, ?_, ?_, ?_, ?_, ?_⟩
    · rw [f4]; exact ⟨(e _ _ (by omega) (by omega) (by omega) (by omega)).trans b4.1, (e _ _ (by omega) (by omega) (by omega) (by omega)).trans b4.2⟩
    · rw [f5]; exact ⟨(e _ _ (by omega) (by omega) (by omega) (by omega)).trans b5.1, (e _ _ (by omega) (by omega) (by omega) (by omega)).trans b5.2⟩
    · rw [f6]; exact ⟨(e _ _ (by omega) (by omega) (by omega) (by omega)).trans b6.1, (e _ _ (by omega) (by omega) (by omega) (by omega)).trans b6.2⟩
    · rw [f7]; exact ⟨(e _ _ (by omega) (by omega) (by omega) (by omega)).trans b7.1, (e _ _ (by omega) (by omega) (by omega) (by omega)).trans b7.2⟩
    · rw [ht]; exact ⟨r3, r2⟩
    · rw [f9]; exact ⟨(e _ _ (by omega) (by omega) (by omega) (by omega)).trans b9.1, (e _ _ (by omega) (by omega) (by omega) (by omega)).trans b9.2⟩
  · rw [f4] at hs
    refine ⟨fun c hc => ?_, ?_, ?_⟩
    · rw [e _ _ (by omega) (by omega) (by omega) (by omega), hlo _ (by omega) (by omega) (by omega)]; exact (a5 s hs).1 c hc
    · rw [e _ _ (by omega) (by omega) (by omega) (by omega), hlo _ (by omega) (by omega) (by omega)]; exact (a5 s hs).2.1
    · rw [e _ _ (by omega) (by omega) (by omega) (by omega), f5, cnt_cg s _ (fun i hi => hlo _ (by omega) (by omega) (by omega))]; exact (a5 s hs).2.2
  · rw [f5] at hk
    rw [e _ _ (by omega) (by omega) (by omega) (by omega), e _ _ (by omega) (by omega) (by omega) (by omega), e _ _ (by omega) (by omega) (by omega) (by omega), hlo _ (by omega) (by omega) (by omega), hlo _ (by omega) (by omega) (by omega), hlo _ (by omega) (by omega) (by omega)]; exact a6 k hk
  · rw [f5] at hk
    rw [hlo _ (by omega) (by omega) (by omega), cnt_cg _ _ (fun i hi => hlo _ (by omega) (by omega) (by omega)), e _ _ (by omega) (by omega) (by omega) (by omega)]; exact a7 k hk
  · rw [f6] at hk
    rw [e _ _ (by omega) (by omega) (by omega) (by omega), e _ _ (by omega) (by omega) (by omega) (by omega), e _ _ (by omega) (by omega) (by omega) (by omega), e _ _ (by omega) (by omega) (by omega) (by omega), hlo _ (by omega) (by omega) (by omega), hlo _ (by omega) (by omega) (by omega), hlo _ (by omega) (by omega) (by omega), hlo _ (by omega) (by omega) (by omega)]; exact a8 k hk
  · rw [f7] at hk
    rw [e _ _ (by omega) (by omega) (by omega) (by omega), e _ _ (by omega) (by omega) (by omega) (by omega), e _ _ (by omega) (by omega) (by omega) (by omega), hlo _ (by omega) (by omega) (by omega), hlo _ (by omega) (by omega) (by omega), hlo _ (by omega) (by omega) (by omega)]; exact a9 k hk
  · rw [ht] at hk
    by_cases y : k < F 8
    · have hk := y
      rw [e _ _ (by omega) (by omega) (by omega) (by omega), e _ _ (by omega) (by omega) (by omega) (by omega), e _ _ (by omega) (by omega) (by omega) (by omega), hlo _ (by omega) (by omega) (by omega), hlo _ (by omega) (by omega) (by omega), hlo _ (by omega) (by omega) (by omega)]; exact a10 k hk
    · have y2 : k = F 8 := by omega
      subst y2
      exact ⟨(r4 0 (by omega)).trans (hv 0 (by omega)), (r4 1 (by omega)).trans (hv 1 (by omega)), (r4 2 (by omega)).trans (hv 2 (by omega))⟩
  · rw [f9] at hk
    rw [e _ _ (by omega) (by omega) (by omega) (by omega), e _ _ (by omega) (by omega) (by omega) (by omega), e _ _ (by omega) (by omega) (by omega) (by omega), hlo _ (by omega) (by omega) (by omega), hlo _ (by omega) (by omega) (by omega), hlo _ (by omega) (by omega) (by omega)]; exact a11 k hk
set_option maxRecDepth 100000 in
theorem xD9 {h1 h : HH} {d : Nat} {F F' : Nat → Nat} {vs : Nat → Int32} (D : DRep h1 d F) (hd : isD d) (B : BD F) (R : RW h1 h (d + 14) 3 (F 9) vs) (hm : F 9 < 6) (hlo : ∀ k, k < 190 → k ≠ 9 → ¬ (172 + 3 * F 9 ≤ k ∧ k < 172 + 3 * F 9 + 3) → F' k = F k) (ht : F' 9 = F 9 + 1) (hv : ∀ j, j < 3 → vs j = nI (F' (172 + 3 * F 9 + j))) : DRep h d F' := by
  obtain ⟨B0, B4, B5, B6, B7, B8, B9⟩ := B
  obtain ⟨r1, r2, r3, r4⟩ := R
  have e : ∀ b k, d ≤ b → b ≤ d + 15 → ¬ (b = d + 14 ∧ k = 3) → ¬ (b = d + 14 + 1 ∧ F 9 * 3 ≤ k ∧ k < F 9 * 3 + 3) → gI h b k = gI h1 b k := fun b k q1 q2 q3 q4 => (r1 b k ⟨by unfold isD at hd; unfold PFN; omega, q3, q4⟩).1
  obtain ⟨a1, a2, a3, a4, a5, a6, a7, a8, a9, a10, a11⟩ := D
  have f0 : F' 0 = F 0 := hlo 0 (by omega) (by omega) (by omega)
  have f1 : F' 1 = F 1 := hlo 1 (by omega) (by omega) (by omega)
  have f2 : F' 2 = F 2 := hlo 2 (by omega) (by omega) (by omega)
  have f3 : F' 3 = F 3 := hlo 3 (by omega) (by omega) (by omega)
  have f10 : F' 10 = F 10 := hlo 10 (by omega) (by omega) (by omega)
  have f4 : F' 4 = F 4 := hlo 4 (by omega) (by omega) (by omega)
  have f5 : F' 5 = F 5 := hlo 5 (by omega) (by omega) (by omega)
  have f6 : F' 6 = F 6 := hlo 6 (by omega) (by omega) (by omega)
  have f7 : F' 7 = F 7 := hlo 7 (by omega) (by omega) (by omega)
  have f8 : F' 8 = F 8 := hlo 8 (by omega) (by omega) (by omega)
  have fq : ∀ f, f ≤ F 0 → qk F' f = qk F f := fun f hf => qk_cg f (fun i hi => hlo _ (by omega) (by omega) (by omega))
  refine ⟨fun f hf => ?_, fun q1 f q2 hf => ?_, ?_, ?_, fun s hs => ?_, fun k hk => ?_, fun k hk => ?_, fun k hk => ?_, fun k hk => ?_, fun k hk => ?_, fun k hk => ?_⟩
  · rw [f0] at hf
    rw [e _ _ (by omega) (by omega) (by omega) (by omega), fq f hf]; exact a1 f hf
  · rw [f0] at hf
    rw [f10] at q1
    rw [e _ _ (by omega) (by omega) (by omega) (by omega), hlo _ (by omega) (by omega) (by omega)]; exact a2 q1 f q2 hf
  · rw [f0, f1, f2, f3, f10, e _ _ (by omega) (by omega) (by omega) (by omega), e _ _ (by omega) (by omega) (by omega) (by omega), e _ _ (by omega) (by omega) (by omega) (by omega), e _ _ (by omega) (by omega) (by omega) (by omega), e _ _ (by omega) (by omega) (by omega) (by omega)]; exact a3
  · obtain ⟨b4, b5, b6, b7, b8, b9⟩ := a4
    refine ⟨?_, ?_, ?_, ?_, ?_, ?_⟩
    · rw [f4]; exact ⟨(e _ _ (by omega) (by omega) (by omega) (by omega)).trans b4.1, (e _ _ (by omega) (by omega) (by omega) (by omega)).trans b4.2⟩
    · rw [f5]; exact ⟨(e _ _ (by omega) (by omega) (by omega) (by omega)).trans b5.1, (e _ _ (by omega) (by omega) (by omega) (by omega)).trans b5.2⟩
    · rw [f6]; exact ⟨(e _ _ (by omega) (by omega) (by omega) (by omega)).trans b6.1, (e _ _ (by omega) (by omega) (by omega) (by omega)).trans b6.2⟩
    · rw [f7]; exact ⟨(e _ _ (by omega) (by omega) (by omega) (by omega)).trans b7.1, (e _ _ (by omega) (by omega) (by omega) (by omega)).trans b7.2⟩
    · rw [f8]; exact ⟨(e _ _ (by omega) (by omega) (by omega) (by omega)).trans b8.1, (e _ _ (by omega) (by omega) (by omega) (by omega)).trans b8.2⟩
    · rw [ht]; exact ⟨r3, r2⟩
  · rw [f4] at hs
    refine ⟨fun c hc => ?_, ?_, ?_⟩
    · rw [e _ _ (by omega) (by omega) (by omega) (by omega), hlo _ (by omega) (by omega) (by omega)]; exact (a5 s hs).1 c hc
    · rw [e _ _ (by omega) (by omega) (by omega) (by omega), hlo _ (by omega) (by omega) (by omega)]; exact (a5 s hs).2.1
    · rw [e _ _ (by omega) (by omega) (by omega) (by omega), f5, cnt_cg s _ (fun i hi => hlo _ (by omega) (by omega) (by omega))]; exact (a5 s hs).2.2
  · rw [f5] at hk
    rw [e _ _ (by omega) (by omega) (by omega) (by omega), e _ _ (by omega) (by omega) (by omega) (by omega), e _ _ (by omega) (by omega) (by omega) (by omega), hlo _ (by omega) (by omega) (by omega), hlo _ (by omega) (by omega) (by omega), hlo _ (by omega) (by omega) (by omega)]; exact a6 k hk
  · rw [f5] at hk
    rw [hlo _ (by omega) (by omega) (by omega), cnt_cg _ _ (fun i hi => hlo _ (by omega) (by omega) (by omega)), e _ _ (by omega) (by omega) (by omega) (by omega)]; exact a7 k hk
  · rw [f6] at hk
    rw [e _ _ (by omega) (by omega) (by omega) (by omega), e _ _ (by omega) (by omega) (by omega) (by omega), e _ _ (by omega) (by omega) (by omega) (by omega), e _ _ (by omega) (by omega) (by omega) (by omega), hlo _ (by omega) (by omega) (by omega), hlo _ (by omega) (by omega) (by omega), hlo _ (by omega) (by omega) (by omega), hlo _ (by omega) (by omega) (by omega)]; exact a8 k hk
  · rw [f7] at hk
    rw [e _ _ (by omega) (by omega) (by omega) (by omega), e _ _ (by omega) (by omega) (by omega) (by omega), e _ _ (by omega) (by omega) (by omega) (by omega), hlo _ (by omega) (by omega) (by omega), hlo _ (by omega) (by omega) (by omega), hlo _ (by omega) (by omega) (by omega)]; exact a9 k hk
  · rw [f8] at hk
    rw [e _ _ (by omega) (by omega) (by omega) (by omega), e _ _ (by omega) (by omega) (by omega) (by omega), e _ _ (by omega) (by omega) (by omega) (by omega), hlo _ (by omega) (by omega) (by omega), hlo _ (by omega) (by omega) (by omega), hlo _ (by omega) (by omega) (by omega)]; exact a10 k hk
  · rw [ht] at hk
    by_cases y : k < F 9
    · have hk := y
      rw [e _ _ (by omega) (by omega) (by omega) (by omega), e _ _ (by omega) (by omega) (by omega) (by omega), e _ _ (by omega) (by omega) (by omega) (by omega), hlo _ (by omega) (by omega) (by omega), hlo _ (by omega) (by omega) (by omega), hlo _ (by omega) (by omega) (by omega)]; exact a11 k hk
    · have y2 : k = F 9 := by omega
      subst y2
      exact ⟨(r4 0 (by omega)).trans (hv 0 (by omega)), (r4 1 (by omega)).trans (hv 1 (by omega)), (r4 2 (by omega)).trans (hv 2 (by omega))⟩
