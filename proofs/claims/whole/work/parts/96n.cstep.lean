/-! the class's lines: steps -/
section CST
set_option maxRecDepth 100000 in
theorem bdA {α β γ : Type} {x : Option (α × HH)} {f : α → HH → Option (β × HH)} {g : β → HH → Option γ} : bd (bd x f) g = bd x (fun a h => bd (f a h) g) := by
  cases x with
  | none => rfl
  | some y => rfl
set_option maxRecDepth 100000 in
theorem bdV {β γ : Type} {x : Option HH} {f : HH → Option (β × HH)} {g : β → HH → Option γ} : bd (bv x f) g = bv x (fun h => bd (f h) g) := by
  cases x with
  | none => rfl
  | some y => rfl
set_option maxRecDepth 100000 in
theorem bdB {β γ : Type} {b : Bool} {x y : Option (β × HH)} {g : β → HH → Option γ} : bd (bif b then x else y) g = bif b then bd x g else bd y g := by
  cases b with
  | true => rfl
  | false => rfl
set_option maxRecDepth 100000 in
theorem bdG {β γ : Type} {b : Bool} {x : Option (β × HH)} {g : β → HH → Option γ} : bd (gd b x) g = gd b (bd x g) := by
  cases b with
  | true => rfl
  | false => rfl
variable {TP : Nat → Nat} {n d e : Nat} {h : HH} {F : Nat → Nat}
set_option maxRecDepth 100000 in
theorem xD5 {h1 h h2 : HH} {F' : Nat → Nat} {vs : Nat → Int32} {s : Nat} (D : DRep h1 d F) (hd : isD d) (B : BD F) (R : RW h1 h (d + 6) 3 (F 5) vs) (hm : F 5 < 20) (hlo : ∀ k, k < 190 → k ≠ 5 → ¬ (40 + 3 * F 5 ≤ k ∧ k < 40 + 3 * F 5 + 3) → F' k = F k) (ht : F' 5 = F 5 + 1) (hs4 : s < F 4) (hst : ∀ k, k < F 5 → F (40 + 3 * k) < F 4) (hv0 : vs 0 = nI s) (hf0 : F' (40 + 3 * F 5) = s) (hv1 : vs 1 = les M1 (F' (40 + 3 * F 5 + 1))) (hv2 : vs 2 = nI (F' (40 + 3 * F 5 + 2))) (e2 : h2 = sI (sI h (d + 3) (s * 20 + cnt F s (F 5)) (nI (F 5))) (d + 5) (s * 6 + 5) (nI (cnt F s (F 5) + 1))) : DRep h2 d F' := by
  obtain ⟨B0, B4, B5, B6, B7, B8, B9⟩ := B
  obtain ⟨r1, r2, r3, r4⟩ := R
  have e : ∀ b k, d ≤ b → b ≤ d + 15 → ¬ (b = d + 6 ∧ k = 3) → ¬ (b = d + 6 + 1 ∧ F 5 * 3 ≤ k ∧ k < F 5 * 3 + 3) → ¬ (b = d + 3 ∧ k = s * 20 + cnt F s (F 5)) → ¬ (b = d + 5 ∧ k = s * 6 + 5) → gI h2 b k = gI h1 b k := fun b k q1 q2 q3 q4 q5 q6 => by
    rw [e2, gI_sI, if_neg q6, gI_sI, if_neg q5]
    exact (r1 b k ⟨by unfold isD at hd; unfold PFN; omega, q3, q4⟩).1
  have e6 : ∀ k, gI h2 (d + 6) k = gI h (d + 6) k := fun k => by rw [e2, gIa (by omega), gIa (by omega)]
  have e7 : ∀ k, gI h2 (d + 7) k = gI h (d + 7) k := fun k => by rw [e2, gIa (by omega), gIa (by omega)]
  obtain ⟨a1, a2, a3, a4, a5, a6, a7, a8, a9, a10, a11⟩ := D
  have f0 : F' 0 = F 0 := hlo 0 (by omega) (by omega) (by omega)
  have f1 : F' 1 = F 1 := hlo 1 (by omega) (by omega) (by omega)
  have f2 : F' 2 = F 2 := hlo 2 (by omega) (by omega) (by omega)
  have f3 : F' 3 = F 3 := hlo 3 (by omega) (by omega) (by omega)
  have f10 : F' 10 = F 10 := hlo 10 (by omega) (by omega) (by omega)
  have f4 : F' 4 = F 4 := hlo 4 (by omega) (by omega) (by omega)
  have f6 : F' 6 = F 6 := hlo 6 (by omega) (by omega) (by omega)
  have f7 : F' 7 = F 7 := hlo 7 (by omega) (by omega) (by omega)
  have f8 : F' 8 = F 8 := hlo 8 (by omega) (by omega) (by omega)
  have f9 : F' 9 = F 9 := hlo 9 (by omega) (by omega) (by omega)
  have fq : ∀ f, f ≤ F 0 → qk F' f = qk F f := fun f hf => qk_cg f (fun i hi => hlo _ (by omega) (by omega) (by omega))
  have fc : ∀ t k, k ≤ F 5 → cnt F' t k = cnt F t k := fun t k hk => cnt_cg t k (fun i hi => hlo _ (by omega) (by omega) (by omega))
  have cl : ∀ t k, cnt F t k ≤ k := fun t k => cnt_le F t k
  refine ⟨fun f hf => ?_, fun q1 f q2 hf => ?_, ?_, ?_, fun t hs => ?_, fun k hk => ?_, fun k hk => ?_, fun k hk => ?_, fun k hk => ?_, fun k hk => ?_, fun k hk => ?_⟩
  · rw [f0] at hf
    rw [e _ _ (by omega) (by omega) (by omega) (by omega) (by omega) (by omega), fq f hf]; exact a1 f hf
  · rw [f0] at hf
    rw [f10] at q1
    rw [e _ _ (by omega) (by omega) (by omega) (by omega) (by omega) (by omega), hlo _ (by omega) (by omega) (by omega)]; exact a2 q1 f q2 hf
  · rw [f0, f1, f2, f3, f10, e _ _ (by omega) (by omega) (by omega) (by omega) (by omega) (by omega), e _ _ (by omega) (by omega) (by omega) (by omega) (by omega) (by omega), e _ _ (by omega) (by omega) (by omega) (by omega) (by omega) (by omega), e _ _ (by omega) (by omega) (by omega) (by omega) (by omega) (by omega), e _ _ (by omega) (by omega) (by omega) (by omega) (by omega) (by omega)]; exact a3
  · obtain ⟨b4, b5, b6, b7, b8, b9⟩ := a4
    have ee : ∀ b k, d ≤ b → b ≤ d + 15 → b ≠ d + 6 → b ≠ d + 7 → b ≠ d + 3 → b ≠ d + 5 → gI h2 b k = gI h1 b k := fun b k q1 q2 q3 q4 q5 q6 => e b k q1 q2 (by omega) (by omega) (by omega) (by omega)
    refine ⟨?_, ?_, ?_, ?_, ?_, ?_⟩
    · rw [f4]; exact ⟨(ee _ _ (by omega) (by omega) (by omega) (by omega) (by omega) (by omega)).trans b4.1, (ee _ _ (by omega) (by omega) (by omega) (by omega) (by omega) (by omega)).trans b4.2⟩
    · rw [ht]; exact ⟨(e6 1).trans r3, (e6 3).trans r2⟩
    · rw [f6]; exact ⟨(ee _ _ (by omega) (by omega) (by omega) (by omega) (by omega) (by omega)).trans b6.1, (ee _ _ (by omega) (by omega) (by omega) (by omega) (by omega) (by omega)).trans b6.2⟩
    · rw [f7]; exact ⟨(ee _ _ (by omega) (by omega) (by omega) (by omega) (by omega) (by omega)).trans b7.1, (ee _ _ (by omega) (by omega) (by omega) (by omega) (by omega) (by omega)).trans b7.2⟩
    · rw [f8]; exact ⟨(ee _ _ (by omega) (by omega) (by omega) (by omega) (by omega) (by omega)).trans b8.1, (ee _ _ (by omega) (by omega) (by omega) (by omega) (by omega) (by omega)).trans b8.2⟩
    · rw [f9]; exact ⟨(ee _ _ (by omega) (by omega) (by omega) (by omega) (by omega) (by omega)).trans b9.1, (ee _ _ (by omega) (by omega) (by omega) (by omega) (by omega) (by omega)).trans b9.2⟩
  · rw [f4] at hs
    obtain ⟨c1, c2, c3⟩ := a5 t hs
    refine ⟨fun c hc => ?_, ?_, ?_⟩
    · rw [e _ _ (by omega) (by omega) (by omega) (by omega) (by omega) (by omega), hlo _ (by omega) (by omega) (by omega)]; exact c1 c hc
    · rw [e _ _ (by omega) (by omega) (by omega) (by omega) (by omega) (by omega), hlo _ (by omega) (by omega) (by omega)]; exact c2
    · rw [ht]
      show _ = nI (cnt F' t (F 5) + (if F' (40 + 3 * F 5) = t then 1 else 0))
      rw [hf0, fc t (F 5) (Nat.le_refl _)]
      by_cases y : s = t
      · subst y; rw [if_pos rfl, e2, gIs]
      · rw [if_neg y, Nat.add_zero, e _ _ (by omega) (by omega) (by omega) (by omega) (by omega) (by omega)]; exact c3
  · rw [ht] at hk
    by_cases y : k < F 5
    · rw [e _ _ (by omega) (by omega) (by omega) (by omega) (by omega) (by omega), e _ _ (by omega) (by omega) (by omega) (by omega) (by omega) (by omega), e _ _ (by omega) (by omega) (by omega) (by omega) (by omega) (by omega), hlo _ (by omega) (by omega) (by omega), hlo _ (by omega) (by omega) (by omega), hlo _ (by omega) (by omega) (by omega)]; exact a6 k y
    · have y2 : k = F 5 := by omega
      subst y2
      refine ⟨(e7 _).trans ((r4 0 (by omega)).trans ?_), (e7 _).trans ((r4 1 (by omega)).trans hv1), (e7 _).trans ((r4 2 (by omega)).trans hv2)⟩
      rw [hv0, hf0]
  · rw [ht] at hk
    rw [fc _ k (by omega)]
    by_cases y : k < F 5
    · rw [hlo (40 + 3 * k) (by omega) (by omega) (by omega)]
      have q1 := hst k y
      have q2 := cl (F (40 + 3 * k)) k
      have q3 := cl s (F 5)
      have q4 : F (40 + 3 * k) = s → cnt F s k + 1 ≤ cnt F s (F 5) := fun z => by
        have w1 := cnt_mono F s (show k + 1 ≤ F 5 by omega)
        have w2 : cnt F s (k + 1) = cnt F s k + (if F (40 + 3 * k) = s then 1 else 0) := rfl
        rw [if_pos z] at w2
        omega
      have q5 : ¬ (F (40 + 3 * k) * 20 + cnt F (F (40 + 3 * k)) k = s * 20 + cnt F s (F 5)) := fun z => by
        by_cases x : F (40 + 3 * k) = s
        · have := q4 x
          rw [x] at z
          omega
        · omega
      rw [e _ _ (by omega) (by omega) (by omega) (by omega) (fun z => q5 z.2) (by omega)]; exact a7 k y
    · have y2 : k = F 5 := by omega
      subst y2
      rw [hf0, e2, gIa (by omega), gIs]
  · rw [f6] at hk
    rw [e _ _ (by omega) (by omega) (by omega) (by omega) (by omega) (by omega), e _ _ (by omega) (by omega) (by omega) (by omega) (by omega) (by omega), e _ _ (by omega) (by omega) (by omega) (by omega) (by omega) (by omega), e _ _ (by omega) (by omega) (by omega) (by omega) (by omega) (by omega), hlo _ (by omega) (by omega) (by omega), hlo _ (by omega) (by omega) (by omega), hlo _ (by omega) (by omega) (by omega), hlo _ (by omega) (by omega) (by omega)]; exact a8 k hk
  · rw [f7] at hk
    rw [e _ _ (by omega) (by omega) (by omega) (by omega) (by omega) (by omega), e _ _ (by omega) (by omega) (by omega) (by omega) (by omega) (by omega), e _ _ (by omega) (by omega) (by omega) (by omega) (by omega) (by omega), hlo _ (by omega) (by omega) (by omega), hlo _ (by omega) (by omega) (by omega), hlo _ (by omega) (by omega) (by omega)]; exact a9 k hk
  · rw [f8] at hk
    rw [e _ _ (by omega) (by omega) (by omega) (by omega) (by omega) (by omega), e _ _ (by omega) (by omega) (by omega) (by omega) (by omega) (by omega), e _ _ (by omega) (by omega) (by omega) (by omega) (by omega) (by omega), hlo _ (by omega) (by omega) (by omega), hlo _ (by omega) (by omega) (by omega), hlo _ (by omega) (by omega) (by omega)]; exact a10 k hk
  · rw [f9] at hk
    rw [e _ _ (by omega) (by omega) (by omega) (by omega) (by omega) (by omega), e _ _ (by omega) (by omega) (by omega) (by omega) (by omega) (by omega), e _ _ (by omega) (by omega) (by omega) (by omega) (by omega) (by omega), hlo _ (by omega) (by omega) (by omega), hlo _ (by omega) (by omega) (by omega), hlo _ (by omega) (by omega) (by omega)]; exact a11 k hk
set_option maxRecDepth 100000 in
theorem ln3 (hd : isD d) : ln (d + 3) = 100 ∧ ln (d + 5) = 30 ∧ ln (d + 7) = 60 ∧ ln (d + 2) = 5 ∧ ln (d + 1) = 5 := by
  rcases hd with rfl | rfl
  · decide +kernel
  · decide +kernel
/-! the step is put in order -/
set_option maxRecDepth 100000 in
theorem cOrd {h1 : HH} {vs : Nat → Int32} {s : Nat} (hd : isD d) (D : DRep h1 d F) (B : BD F) (R : RW h1 h (d + 6) 3 (F 5) vs) (hm : F 5 < 20) (hs4 : s < F 4) (hv0 : vs 0 = nI s) : fX0_orderStep d h = some (sI (sI h (d + 3) (s * 20 + cnt F s (F 5)) (nI (F 5))) (d + 5) (s * 6 + 5) (nI (cnt F s (F 5) + 1))) := by
  obtain ⟨B0, B4, B5, B6, B7, B8, B9⟩ := B
  obtain ⟨r1, r2, r3, r4⟩ := R
  obtain ⟨l3, l5, l7, -⟩ := ln3 hd
  have e : ∀ b k, d ≤ b → b ≤ d + 15 → b ≠ d + 6 → b ≠ d + 7 → gI h b k = gI h1 b k := fun b k q1 q2 q3 q4 => (r1 b k ⟨by unfold isD at hd; unfold PFN; omega, by omega, by omega⟩).1
  have cl := cnt_le F s (F 5)
  have w1 : RowsR h (d + 6) 3 (F 5 + 1) := ⟨r3, r2⟩
  have w2 : RowsR h (d + 4) 6 (F 4) := ⟨(e _ _ (by omega) (by omega) (by omega) (by omega)).trans D.2.2.2.1.1.1, (e _ _ (by omega) (by omega) (by omega) (by omega)).trans D.2.2.2.1.1.2⟩
  have t1 := atR w1 (show F 5 < F 5 + 1 by omega) (show 0 < 3 by omega) l7 (by omega) (by omega) (by omega) (by omega)
  have t2 := atR w2 hs4 (show 5 < 6 by omega) l5 (by omega) (by omega) (by omega) (by omega)
  have v1 : gI h (d + 6 + 1) (F 5 * 3 + 0) = nI s := (r4 0 (by omega)).trans hv0
  have v2 : gI h (d + 4 + 1) (s * 6 + 5) = nI (cnt F s (F 5)) := (e _ _ (by omega) (by omega) (by omega) (by omega)).trans (D.2.2.2.2.1 s hs4).2.2
  rw [v1] at t1
  rw [v2] at t2
  have e1 : nI (F 5 + 1) - nI 1 = nI (F 5) := pk_sub (show 1 ≤ F 5 + 1 by omega)
  have b1 : inb (nI (s * 20 + cnt F s (F 5))) 100 = true := inbN (by omega) (by omega)
  have b2 : inb (nI (s * 6 + 5)) (ln (d + 4 + 1)) = true := by
    rw [show ln (d + 4 + 1) = 30 from l5]; exact inbN (by omega) (by omega)
  have c1 : ¬ s < 0 := by omega
  have c2 : ¬ 5 ≤ s := by omega
  have c3 : ¬ cnt F s (F 5) < 0 := by omega
  have c4 : ¬ 20 ≤ cnt F s (F 5) := by omega
  have c5 : ¬ F 4 ≤ s := by omega
  have c6 : ¬ 6 ≤ 5 := by omega
  have c7 : ¬ 5 < 0 := by omega
  simp (disch := omega) only [lI, fX0_orderStep, r2, e1, t1, bd_1, t2, ltN, c1, c3, if_false, leN, c2, c4, pk_mul, nI_add, b1, gd_1, ixN, fX7_putAt, gIa, w2.1, w2.2, c5, c6, c7, b2, bv_1]
set_option maxRecDepth 100000 in
theorem clAfter {h1 : HH} {vs : Nat → Int32} {s x : Nat} {e1 : Nat} (H : HT TP n) (V : VQ F) (hd : isD d) (D : DRep h1 d F) (T2 : TBl d (d + 6) 3 (F 5) (20 * 3)) (M : ML TP n d h1 h F (F 3 + F 4 + F 7) e1 (d + 6) 3 (F 5) vs) (lt : F 5 < 20) (hs4 : s < F 4) (hv0 : vs 0 = nI s) (hv1 : vs 1 = les M1 x) : CR TP n d h1 (sA TP n 22 0 999 e1 (fun v e3 => .ok (fu (fu (fu (fu F (40 + 3 * F 5) s) (40 + 3 * F 5 + 1) x) (40 + 3 * F 5 + 2) v) 5 (F 5 + 1)) e3)) (fX5_readAfter 2 h) := by
  have B := V.bd
  have F3b : F 3 ≤ 3 := V.2.1.2.2.2.1
  obtain ⟨B0, B4, B5, B6, B7, B8, B9⟩ := id B
  have hd6 : 44 ≤ d := by unfold isD at hd; omega
  unfold fX5_readAfter
  refine rW H T2 M (by omega) (fun h2 M2 => ?_)
  refine rN T2 M2 (by omega) (by omega) rfl rfl (fun l1 l2 g1 => ?_)
  refine rG hd M2.1 ?_
  rw [M2.1.2.2.1]
  refine rT (j := 2) H T2 M2 (by omega) rfl g1 (fun h3 M3 => ?_)
  refine rG hd M3.1 ?_
  rw [M3.1.2.2.1, cOrd hd D B M3.2.1 lt hs4 (by simp only [if_false, Nat.reduceEqDiff]; exact hv0), bv_1]
  have K4 : ∀ a b v w, Keep (fun b _ => b ≤ 5) h3 (sI (sI h3 (d + 3) a v) (d + 5) b w) := fun a b v w => Keep.sI (Keep.sI Keep.rfl (by omega)) (by omega)
  have K5 : ∀ a b v w, Keep (PRd d) h3 (sI (sI h3 (d + 3) a v) (d + 5) b w) := fun a b v w => Keep.sI (Keep.sI Keep.rfl (fun z => by unfold isD at hd; have := z.2 (by omega) (by omega); omega)) (fun z => by unfold isD at hd; have := z.2 (by omega) (by omega); omega)
  refine CRok (M3.1.kf ((K4 _ _ _ _).mono (fun b k hp => by omega))) (xD5 D hd B M3.2.1 lt (fun k hk h2 h3 => ?_) (fuS _ _ _) hs4 (fun k hk => (V.2.2.2.1 k hk).1) (by simp only [if_false, Nat.reduceEqDiff]; exact hv0) ?_ ?_ ?_ rfl) ((M3.2.2.keep ((K4 _ _ _ _).mono (fun b k hp => by unfold PNm at hp; omega))).cg (fun m hm => ?_) (fun m hm => ?_) ?_) ((M3.kp T2).trans (K5 _ _ _ _))
  · simp (disch := omega) only [fuN]
  · simp (disch := omega) only [fuN, fuS]
  · simp (disch := omega) only [fuN, fuS, if_false, Nat.reduceEqDiff]; exact hv1
  · simp (disch := omega) only [fuN, fuS, if_true]
  · simp (disch := omega) only [fuN]
  · simp (disch := omega) only [nc_upd]
  · simp (disch := omega) only [fuN]
end CST
