/-! names that are added -/
section VQN
variable {TP : Nat → Nat} {n e : Nat} {F F' : Nat → Nat}
set_option maxRecDepth 100000 in
theorem nmk_add (N : NMK F) (he : e ≤ n) (y : nme TP n e = true) (x : FD TP n F e = 14) {m : Nat} (hm : m < 14) (hs : ∀ k, 190 ≤ k → k < 316 → F' k = addN TP n F m e k) (h3 : ∀ q, q < 3 → (q < F' 3 ↔ q < F 3 ∨ q = m)) (h4 : ∀ q, q < 5 → (q < F' 4 ↔ q < F 4 ∨ 3 + q = m)) (h7 : ∀ q, q < 6 → (q < F' 7 ↔ q < F 7 ∨ 8 + q = m)) : NMK F' := by
  have k1 : tK TP n e = 1 := by
    unfold nme at y
    rw [Bool.and_eq_true] at y
    exact of_decide_eq_true y.1
  obtain ⟨w1, w2, w3, w4, w5⟩ := wF he k1
  have N1 : ∀ q, q < 14 → F (190 + q) ≤ 8 := fun q hq => (N.1 q hq).1
  have sz : ∀ k, k < 14 → F' (190 + k) = if k = m then tN TP n e else F (190 + k) := fun k hk => by rw [hs _ (by omega) (by omega), addN_sz hk]
  have sz8 : ∀ k, k < 14 → F' (190 + k) ≤ 8 := fun k hk => by
    rw [sz k hk]
    by_cases z : k = m
    · rw [if_pos z]; exact w2
    · rw [if_neg z]; exact N1 k hk
  have hn : ∀ k, k < 14 → nc F' k = if k = m then tC TP n e else nc F k := fun k hk => by
    rw [← addN_nc hm w2 N1 hk]
    have := sz8 k hk
    unfold nc
    rw [hs _ (by omega) (by omega)]
    rw [hs _ (by omega) (by omega)] at this
    exact cwd_cg _ (fun j hj => hs _ (by omega) (by omega))
  have up : ∀ k, k < 14 → (0 < F' (190 + k) ↔ 0 < F (190 + k) ∨ k = m) := fun k hk => by
    rw [sz k hk]
    by_cases z : k = m
    · rw [if_pos z]; omega
    · rw [if_neg z]; omega
  obtain ⟨g1, g2, g3, g4⟩ := fd_sp F (tC TP n e) 14 0
  have x' : fd F (tC TP n e) 14 0 = 14 := x
  rw [x'] at g3
  have tc0 : tC TP n e ≠ 0 := fun z => by
    have := (cwd_inj (f := TP) (g := TP) (a := tA TP n e) (b := 0) (tN TP n e) 0 (fun i hi => by have := w3 i hi; omega) (fun i hi => by omega) z).1
    omega
  refine ⟨fun k hk => ⟨sz8 k hk, fun j hj => ?_⟩, fun q hq => ?_, fun q hq => ?_, fun q hq => ?_, fun a b q1 q2 q3 q4 => ?_⟩
  · have := sz8 k hk
    rw [hs _ (by omega) (by omega), addN_lt hm w2 (by omega)]
    by_cases z : k = m ∧ j < tN TP n e
    · rw [if_pos z]; exact w3 j z.2
    · rw [if_neg z]
      rw [sz k hk] at hj
      by_cases z2 : k = m
      · rw [if_pos z2] at hj; exact absurd ⟨z2, hj⟩ z
      · rw [if_neg z2] at hj; exact (N.1 k hk).2 j hj
  · rw [up q (by omega), h3 q hq]; have := N.2.1 q hq; omega
  · rw [show 193 + q = 190 + (3 + q) by omega, up (3 + q) (by omega), h4 q hq]
    have := N.2.2.1 q hq
    rw [show 193 + q = 190 + (3 + q) by omega] at this
    omega
  · rw [show 198 + q = 190 + (8 + q) by omega, up (8 + q) (by omega), h7 q hq]
    have := N.2.2.2.1 q hq
    rw [show 198 + q = 190 + (8 + q) by omega] at this
    omega
  · rw [hn a q1, hn b q2] at q4
    rw [up a q1] at q3
    by_cases za : a = m
    · by_cases zb : b = m
      · omega
      · rw [if_pos za, if_neg zb] at q4
        exfalso
        by_cases p : 0 < F (190 + b)
        · exact g3 b (by omega) q2 ⟨p, q4.symm⟩
        · have : nc F b = 0 := by unfold nc; rw [show F (190 + b) = 0 by omega]; rfl
          exact tc0 (q4.trans this)
    · have q3' : 0 < F (190 + a) := by omega
      by_cases zb : b = m
      · rw [if_neg za, if_pos zb] at q4
        exact absurd ⟨q3', q4⟩ (g3 a (by omega) q1)
      · rw [if_neg za, if_neg zb] at q4
        exact N.2.2.2.2 a b q1 q2 q3' q4
end VQN
