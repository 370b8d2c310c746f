/-! the class's line: dream -/
section CDR
variable {TP : Nat → Nat} {n d e : Nat} {h : HH} {F : Nat → Nat}
set_option maxRecDepth 100000 in
theorem bdI {β γ : Type} {c : Prop} [Decidable c] {x y : Option (β × HH)} {g : β → HH → Option γ} : bd (if c then x else y) g = if c then bd x g else bd y g := by
  by_cases z : c
  · rw [if_pos z, if_pos z]
  · rw [if_neg z, if_neg z]
def PDr (d b k : Nat) : Prop := PFk b k ∧ ¬ (b = d ∧ 9 ≤ k ∧ k ≤ 11) ∧ b ≠ d + 1
set_option maxRecDepth 100000 in
theorem kDr (hd : isD d) {h h' : HH} (K : Keep (PDr d) h h') : Keep (PRd d) h h' := K.mono (fun b k hp => by
  unfold isD at hd
  unfold PRd PFN at hp
  unfold PDr PFk
  refine ⟨by omega, fun z => ?_, fun z => ?_⟩
  · have := hp.2 (by omega) (by omega); omega
  · have := hp.2 (by omega) (by omega); omega)
/-- i rates are told -/
def DSt (TP : Nat → Nat) (n d : Nat) (h g : HH) (G : Nat → Nat) (e : Nat) : Prop := CS g TP n d e ∧ Keep (PDr d) h g ∧ gI g d 9 = nI (G 0) ∧ (∀ f, f ≤ G 0 → gI g (d + 1) f = nI (qk G f)) ∧ (∀ k, k ≠ 0 → ¬ (11 ≤ k ∧ k < 15) → k < 316 → G k = 0) ∧ G 0 ≤ 4
set_option maxRecDepth 100000 in
theorem DSt.tk {g g' : HH} {G : Nat → Nat} {e' : Nat} (hd : isD d) (M : DSt TP n d h g G e) (S : CS g' TP n d e') (K : Keep PFk g g') : DSt TP n d h g' G e' := by
  obtain ⟨m1, m2, m3, m4, m5, m6⟩ := M
  have hd6 : 44 ≤ d := by unfold isD at hd; omega
  exact ⟨S, m2.trans (K.mono (fun b k hp => hp.1)), (K d 9 (by unfold PFk; omega)).1.trans m3, fun f hf => (K (d + 1) f (by unfold PFk; omega)).1.trans (m4 f hf), m5, m6⟩
set_option maxRecDepth 100000 in
theorem rtL (H : HT TP n) (hd : isD d) {k : (Nat → Nat) → Nat → Out} {K : HH → Option (Bool × HH)} (nx : ∀ G e2 g, 1 ≤ G 0 → DSt TP n d h g G e2 → CR TP n d h (k G e2) (K g)) : ∀ f (G : Nat → Nat) e1 (g : HH) f', f + G 0 = 5 → f < f' → DSt TP n d h g G e1 → CR TP n d h (sRt TP n f G e1 k) (bd (lq1 (fX5_readRates_L2 2) f' (nI (G 0)) g) (fun r h' => bif r then K h' else some (false, h'))) := by
  have hd6 : 44 ≤ d := by unfold isD at hd; omega
  intro f
  induction f with
  | zero => intro G e1 g f' h1 hf M; have := M.2.2.2.2.2; omega
  | succ f ih =>
    intro G e1 g f' h1 hf M
    obtain ⟨f', rfl⟩ : ∃ q, f' = q + 1 := ⟨f' - 1, by omega⟩
    obtain ⟨m1, m2, m3, m4, m5, m6⟩ := id M
    show CR TP n d h (sN TP n 2 12 e1 _) (bd (fX5_readRates_L2 2 (lq1 (fX5_readRates_L2 2) f') (nI (G 0)) g) _)
    generalize hsf : lq1 (fX5_readRates_L2 2) f' = sf
    unfold fX5_readRates_L2
    rw [if_neg (show ¬ (4 : Int32) < nI (G 0) by show ¬ nI 4 < nI (G 0); rw [ltN (by omega) (by omega)]; omega)]
    simp only [bdA, bdB, bd_1, cond_false]
    refine gN m1 (kDr hd m2) (by omega) (by omega) rfl rfl (fun l1 u1 g1 => ?_)
    rw [bdI]
    by_cases z : G 0 = 4
    · rw [if_pos z, if_pos (show nI (G 0) = (4 : Int32) by rw [z]; rfl), (show fX5_fail 2 5 g = some (false, sI g 2 7 (nI 5)) from rfl), bd_1, bd_1, cond_false]
      exact CRbad m1 rfl (kDr hd m2)
    · rw [if_neg z, if_neg (show ¬ nI (G 0) = (4 : Int32) by show ¬ nI (G 0) = nI 4; rw [eqN (by omega) (by omega)]; exact z), bdG]
      refine rG hd m1 ?_
      rw [m1.2.2.1, g1]
      have ar : fX0_addRate d (nI (tV TP n e1)) g = some (sI (sI g d 9 (nI (G 0 + 1))) (d + 1) (G 0 + 1) (nI (qk G (G 0) * tV TP n e1))) := by
        have c1 : ¬ 4 ≤ G 0 := by omega
        have e1' : nI (G 0 + 1) - nI 1 = nI (G 0) := pk_sub (show 1 ≤ G 0 + 1 by omega)
        have q1 : gI (sI g d 9 (nI (G 0 + 1))) (d + 1) (G 0) = nI (qk G (G 0)) := by rw [gIa (by omega)]; exact m4 _ (Nat.le_refl _)
        simp (disch := omega) only [lI, fX0_addRate, m3, leN, c1, if_false, nI_add, gIs, e1', inbN, gd_1, ixN, q1, pk_mul, nm_1]
      rw [ar, bdV, bv_1]
      have S2 : CS (sI (sI g d 9 (nI (G 0 + 1))) (d + 1) (G 0 + 1) (nI (qk G (G 0) * tV TP n e1))) TP n d e1 := m1.kf (Keep.sI (Keep.sI Keep.rfl (by omega)) (by omega))
      have K2 : Keep (PDr d) h (sI (sI g d 9 (nI (G 0 + 1))) (d + 1) (G 0 + 1) (nI (qk G (G 0) * tV TP n e1))) := Keep.sI (Keep.sI m2 (fun z => z.2.1 ⟨rfl, by omega, by omega⟩)) (fun z => z.2.2 rfl)
      have M2 : DSt TP n d h (sI (sI g d 9 (nI (G 0 + 1))) (d + 1) (G 0 + 1) (nI (qk G (G 0) * tV TP n e1))) (fu (fu G (11 + G 0) (tV TP n e1)) 0 (G 0 + 1)) e1 := by
        have q : ∀ f, f ≤ G 0 → qk (fu (fu G (11 + G 0) (tV TP n e1)) 0 (G 0 + 1)) f = qk G f := fun f hf => qk_cg f (fun i hi => by rw [fuN _ (by omega), fuN _ (by omega)])
        refine ⟨S2, K2, ?_, fun f hf => ?_, fun k q1 q2 q3 => ?_, by rw [fuS]; omega⟩
        · rw [gIa (by omega), gIs, fuS]
        · rw [fuS] at hf
          by_cases y : f = G 0 + 1
          · subst y
            rw [gIs]
            show _ = nI (qk (fu (fu G (11 + G 0) (tV TP n e1)) 0 (G 0 + 1)) (G 0) * fu (fu G (11 + G 0) (tV TP n e1)) 0 (G 0 + 1) (11 + G 0))
            rw [q _ (Nat.le_refl _), fuN _ (by omega), fuS]
          · rw [gIk y, gIa (by omega), q f (by omega)]; exact m4 f (by omega)
        · rw [fuN _ q1, fuN _ (by omega)]; exact m5 k q1 q2 q3
      obtain ⟨h3, e3, S3, K3⟩ := S2.nx H
      have M3 := M2.tk hd S3 (kfk K3)
      have t10 := S3.2.1.2.2.1
      have kb : tK TP n (tE TP n e1) ≤ 5 := kbk
      rw [e3, bdV, bv_1, t10, bdI]
      by_cases y : tK TP n (tE TP n e1) = 4
      · rw [if_pos y, if_pos (show nI (tK TP n (tE TP n e1)) = (4 : Int32) by rw [y]; rfl)]
        obtain ⟨h5, e5, S5, K5⟩ := S3.nx H
        rw [e5, bdV, bv_1, ← hsf]
        have := ih (fu (fu G (11 + G 0) (tV TP n e1)) 0 (G 0 + 1)) (tE TP n (tE TP n e1)) h5 f' (by rw [fuS]; omega) (by omega) (M3.tk hd S5 (kfk K5))
        rw [fuS] at this
        rw [show nI (G 0) + 1 = nI (G 0 + 1) from nI_add _ _]
        exact this
      · rw [if_neg y, if_neg (show ¬ nI (tK TP n (tE TP n e1)) = (4 : Int32) by show ¬ nI (tK TP n (tE TP n e1)) = nI 4; rw [eqN (by omega) (by omega)]; exact y), bd_1, cond_true]
        exact nx _ _ _ (by rw [fuS]; omega) M3
end CDR
