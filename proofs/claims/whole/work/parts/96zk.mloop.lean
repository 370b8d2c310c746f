/-! the model's lines of pays and of the dream -/
def kkP : Int32 → HH → Option HH := fun x1 h =>
        if (gI h 181 13) = 0 then
          gd (inb 0 316) (
          if (gI h (181 + 4) (ix 0)) ≤ x1 then
            if (gI h 181 13) = 0 then
              gd (inb 10 316) (
              some (sI h (181 + 4) (ix 10) 1))
            else
            some h
          else
          if (gI h 181 6) = 59 then
            bv (fX9_wrong 181 6 (gI h 181 4) h) (fun h172 =>
            if (gI h172 181 13) = 0 then
              gd (inb 10 316) (
              some (sI h172 (181 + 4) (ix 10) 1))
            else
            some h172)
          else
          if (gI h 181 6) = 0 then
            bv (fX9_wrong 181 6 (gI h 181 4) h) (fun h172 =>
            if (gI h172 181 13) = 0 then
              gd (inb 10 316) (
              some (sI h172 (181 + 4) (ix 10) 1))
            else
            some h172)
          else
          bv (fX9_wrong 181 1 (gI h 181 4) h) (fun h172 =>
          if (gI h172 181 13) = 0 then
            gd (inb 10 316) (
            some (sI h172 (181 + 4) (ix 10) 1))
          else
          some h172))
        else
        if (gI h 181 13) = 0 then
          gd (inb 10 316) (
          some (sI h (181 + 4) (ix 10) 1))
        else
        some h
def dmE (r : Int32) : HH → Option HH := fun h => if (gI h 181 13) = 0 then gd (inb 2 316) (some (sI h (181 + 4) (ix 2) r)) else some h
def dmK : HH → Option HH := cAf 31 0 (fun _ => 60) (fun r => cWr 1 r (cAf 32 1 (fun _ => 600) dmE))
def dmS : HH → Option HH := fun h33 => if (gI h33 181 13) = 0 then lq1 (fX9_dreamLine_L49 dmK 181) FU true h33 else lq1 (fX9_dreamLine_L49 dmK 181) FU false h33
section MLO
variable {TP : Nat → Nat} {n e : Nat} {F : Nat → Nat} {g : HH}
set_option maxRecDepth 100000 in
theorem mCm (H : HT TP n) (M : MS TP n g F e) : (tK TP n e = 4 → ∃ g', fX9_comma 181 g = some (true, g') ∧ MS TP n g' F (tE TP n e) ∧ Keep PMd g g') ∧ (tK TP n e ≠ 4 → fX9_comma 181 g = some (false, g)) := by
  obtain ⟨kb, -, -, k4, -⟩ := tmk (kbk (TP := TP) (n := n) (e := e))
  have h13 := M.2.2.1
  have t3 := M.2.1.2.2.1
  constructor
  · intro z
    obtain ⟨g', e1, m1, K1⟩ := M.nx H
    have y := k4.2 z
    refine ⟨g', ?_, m1, K1⟩
    simp (disch := omega) only [lI, fX9_comma, h13, z00, if_true, t3, eqN, eq_true y, e1, bv_1]
  · intro z
    have y : ¬ tm (tK TP n e) = 44 := fun q => z (k4.1 q)
    simp (disch := omega) only [lI, fX9_comma, h13, z00, if_true, t3, eqN, y, if_false]
set_option maxRecDepth 100000 in
theorem mPy (H : HT TP n) : ∀ f i F e g f', i + f = 5 → i ≤ F 0 → F 0 ≤ 4 → f < f' → MS TP n g F e → MO TP n g (sPy TP n f i F e) (lq2 (fX9_paysLine_L55 kkP 181) f' (nI i) true g) := by
  intro f
  induction f with
  | zero => intro i F e g f' h1 h2 h3 h4 M; omega
  | succ f ih =>
    intro i F e g f' h1 h2 h3 h4 M
    obtain ⟨f', rfl⟩ : ∃ q, f' = q + 1 := ⟨f' - 1, by omega⟩
    obtain ⟨f', rfl⟩ : ∃ q, f' = q + 1 := ⟨f' - 1, by omega⟩
    obtain ⟨a1, a2, a3⟩ := mNh M (lo := 0) (hi := 999) (by omega) (by omega)
    have f13 : ∀ (g : HH) q p, gI (flt g q p) 181 13 = nI 1 := fun g q p => flt_F.1
    have h13 := M.2.2.1
    have w5 := wr_ok (g := g) (q := 5) h13 (vq := nI 5) rfl M.2.1.1
    have r0 := M.2.2.2.1 0 (by omega)
    show MO TP n g (sN TP n 0 999 e (fun v e1 => if i = F 0 then .bad 5 (tA TP n e) else if tK TP n e1 = 4 then sPy TP n f (i + 1) (fu F (150 + i) v) (tE TP n e1) else if F 0 ≤ i + 1 then .ok (fu (fu F (150 + i) v) 10 1) e1 else if tK TP n e1 = 3 ∨ tK TP n e1 = 5 then .bad 6 (tA TP n e1) else .bad 1 (tA TP n e1))) _
    unfold sN
    by_cases z : tK TP n e = 2
    · rw [if_pos z]
      by_cases y : 0 ≤ tV TP n e ∧ tV TP n e ≤ 999
      · rw [if_pos y]
        refine (show MO TP n g (if i = F 0 then .bad 5 (tA TP n e) else if tK TP n (tE TP n e) = 4 then sPy TP n f (i + 1) (fu F (150 + i) (tV TP n e)) (tE TP n (tE TP n e)) else if F 0 ≤ i + 1 then .ok (fu (fu F (150 + i) (tV TP n e)) 10 1) (tE TP n e) else if tK TP n (tE TP n e) = 3 ∨ tK TP n (tE TP n e) = 5 then .bad 6 (tA TP n (tE TP n e)) else .bad 1 (tA TP n (tE TP n e))) _ from ?_)
        have nh := a1 z y.1 y.2
        by_cases c : i = F 0
        · have e2 : lq2 (fX9_paysLine_L55 kkP 181) (f' + 1 + 1) (nI i) true g = some (flt g 5 (tA TP n e)) := by
            have ue : lq2 (fX9_paysLine_L55 kkP 181) (f' + 1 + 1) (nI i) true g = fX9_paysLine_L55 kkP 181 (lq2 (fX9_paysLine_L55 kkP 181) (f' + 1)) (nI i) true g := rfl
            rw [ue]
            generalize lq2 (fX9_paysLine_L55 kkP 181) (f' + 1) = sf
            generalize kkP = kp
            simp (disch := omega) only [lI, fX9_paysLine_L55, cond_true, nh, bd_1, h13, z00, if_true, inbN, ixN, gd_1, Nat.reduceAdd, r0, eqN, eq_true c, w5, bv_1, f13, z10, Nat.one_ne_zero, if_false]
          rw [if_pos c, e2]
          exact ⟨_, rfl, flt_F, flt_K⟩
        · rw [if_neg c]
          have M2 : MS TP n (sI g 185 (150 + i) (nI (tV TP n e))) (fu F (150 + i) (tV TP n e)) e := M.wr
          obtain ⟨g3, e3, M3, K3⟩ := M2.nx H
          obtain ⟨b1, b2⟩ := mCm H M3
          have KK : Keep PMd g g3 := wrK.trans K3
          by_cases k4 : tK TP n (tE TP n e) = 4
          · obtain ⟨g4, e4, M4, K4⟩ := b1 k4
            have e2 : lq2 (fX9_paysLine_L55 kkP 181) (f' + 1 + 1) (nI i) true g = lq2 (fX9_paysLine_L55 kkP 181) (f' + 1) (nI (i + 1)) true g4 := by
              have ue : lq2 (fX9_paysLine_L55 kkP 181) (f' + 1 + 1) (nI i) true g = fX9_paysLine_L55 kkP 181 (lq2 (fX9_paysLine_L55 kkP 181) (f' + 1)) (nI i) true g := rfl
              rw [ue]
              generalize lq2 (fX9_paysLine_L55 kkP 181) (f' + 1) = sf
              simp (disch := omega) only [lI, fX9_paysLine_L55, cond_true, nh, bd_1, h13, z00, if_true, inbN, ixN, gd_1, Nat.reduceAdd, r0, eqN, c, if_false, nI_add, e3, bv_1, e4]
            rw [if_pos k4, e2]
            refine (ih (i + 1) _ _ g4 (f' + 1) (by omega) ?_ ?_ (by omega) M4).tr (KK.trans K4)
            · rw [fuN _ (by omega)]; omega
            · rw [fuN _ (by omega)]; omega
          · have e4 := b2 k4
            have e2 : lq2 (fX9_paysLine_L55 kkP 181) (f' + 1 + 1) (nI i) true g = kkP (nI (i + 1)) g3 := by
              have ue : lq2 (fX9_paysLine_L55 kkP 181) (f' + 1 + 1) (nI i) true g = fX9_paysLine_L55 kkP 181 (fX9_paysLine_L55 kkP 181 (lq2 (fX9_paysLine_L55 kkP 181) f')) (nI i) true g := rfl
              rw [ue]
              generalize lq2 (fX9_paysLine_L55 kkP 181) f' = sf
              generalize kkP = kp
              simp (disch := omega) only [lI, fX9_paysLine_L55, cond_true, cond_false, nh, bd_1, h13, z00, if_true, inbN, ixN, gd_1, Nat.reduceAdd, r0, eqN, c, if_false, nI_add, e3, bv_1, e4]
            rw [if_neg k4, e2]
            have g13 := M3.2.2.1
            have s0 : gI g3 185 0 = nI (F 0) := (M3.2.2.2.1 0 (by omega)).trans (by rw [fuN _ (by omega)])
            by_cases c2 : F 0 ≤ i + 1
            · rw [if_pos c2]
              refine ⟨sI g3 185 10 (nI 1), ?_, M3.wr, KK.trans wrK⟩
              simp (disch := omega) only [lI, kkP, g13, z00, if_true, inbN, ixN, gd_1, Nat.reduceAdd, s0, leN, eq_true c2]
            · rw [if_neg c2]
              obtain ⟨kb, -, -, -, k3, k5⟩ := tmk (kbk (TP := TP) (n := n) (e := tE TP n e))
              have t3 := M3.2.1.2.2.1
              have u6 := wr_ok (g := g3) (q := 6) g13 (vq := nI 6) rfl M3.2.1.1
              have u1 := wr_ok (g := g3) (q := 1) g13 (vq := nI 1) rfl M3.2.1.1
              by_cases d3 : tK TP n (tE TP n e) = 3
              · rw [if_pos (Or.inl d3)]
                have x := k3.2 d3
                refine ⟨flt g3 6 (tA TP n (tE TP n e)), ?_, flt_F, KK.trans flt_K⟩
                simp (disch := omega) only [lI, kkP, g13, z00, if_true, inbN, ixN, gd_1, Nat.reduceAdd, s0, leN, c2, if_false, t3, eqN, eq_true x, u6, bv_1, f13, z10, Nat.one_ne_zero]
              · have x : ¬ tm (tK TP n (tE TP n e)) = 59 := fun q => d3 (k3.1 q)
                by_cases d5 : tK TP n (tE TP n e) = 5
                · rw [if_pos (Or.inr d5)]
                  have x2 := k5.2 d5
                  refine ⟨flt g3 6 (tA TP n (tE TP n e)), ?_, flt_F, KK.trans flt_K⟩
                  simp (disch := omega) only [lI, kkP, g13, z00, if_true, inbN, ixN, gd_1, Nat.reduceAdd, s0, leN, c2, if_false, t3, eqN, x, eq_true x2, u6, bv_1, f13, z10, Nat.one_ne_zero]
                · rw [if_neg (by omega)]
                  have x2 : ¬ tm (tK TP n (tE TP n e)) = 0 := fun q => d5 (k5.1 q)
                  refine ⟨flt g3 1 (tA TP n (tE TP n e)), ?_, flt_F, KK.trans flt_K⟩
                  simp (disch := omega) only [lI, kkP, g13, z00, if_true, inbN, ixN, gd_1, Nat.reduceAdd, s0, leN, c2, if_false, t3, eqN, x, x2, u1, bv_1, f13, z10, Nat.one_ne_zero]
      · rw [if_neg y]
        have e2 : lq2 (fX9_paysLine_L55 kkP 181) (f' + 1 + 1) (nI i) true g = some (flt g 4 (tA TP n e)) := by
          have ue : lq2 (fX9_paysLine_L55 kkP 181) (f' + 1 + 1) (nI i) true g = fX9_paysLine_L55 kkP 181 (lq2 (fX9_paysLine_L55 kkP 181) (f' + 1)) (nI i) true g := rfl
          rw [ue]
          generalize lq2 (fX9_paysLine_L55 kkP 181) (f' + 1) = sf
          generalize kkP = kp
          simp (disch := omega) only [lI, fX9_paysLine_L55, cond_true, a2 z y, bd_1, f13, z10, Nat.one_ne_zero, if_false]
        rw [e2]
        exact ⟨_, rfl, flt_F, flt_K⟩
    · rw [if_neg z]
      have e2 : lq2 (fX9_paysLine_L55 kkP 181) (f' + 1 + 1) (nI i) true g = some (flt g 1 (tA TP n e)) := by
        have ue : lq2 (fX9_paysLine_L55 kkP 181) (f' + 1 + 1) (nI i) true g = fX9_paysLine_L55 kkP 181 (lq2 (fX9_paysLine_L55 kkP 181) (f' + 1)) (nI i) true g := rfl
        rw [ue]
        generalize lq2 (fX9_paysLine_L55 kkP 181) (f' + 1) = sf
        generalize kkP = kp
        simp (disch := omega) only [lI, fX9_paysLine_L55, cond_true, a3 z, bd_1, f13, z10, Nat.one_ne_zero, if_false]
      rw [e2]
      exact ⟨_, rfl, flt_F, flt_K⟩
set_option maxRecDepth 100000 in
theorem mlPays (H : HT TP n) (V : VQ F) (M : MS TP n g F e) : MO TP n g (lPays TP n F e) (fX9_paysLine 181 g) := by
  have f4 := V.1.2.1
  have f2 := V.2.1.2.1
  have f2' := V.2.1.2.2.1
  have f10 : F 10 ≤ 1 := V.2.1.2.2.2.2.2.2.2.2.2.2
  have f13 : ∀ (g : HH) q p, gI (flt g q p) 181 13 = nI 1 := fun g q p => flt_F.1
  have h13 := M.2.2.1
  have w3 := wr_ok (g := g) (q := 3) h13 (vq := nI 3) rfl M.2.1.1
  have r10 := M.2.2.2.1 10 (by omega)
  have r2 := M.2.2.2.1 2 (by omega)
  have y2 : ¬ F 2 = 0 := by omega
  have fr : ∀ q p, gI (flt g q p) 185 2 = nI (F 2) := fun q p => by
    unfold flt
    rw [gIa (by omega), gIa (by omega), gIa (by omega)]; exact r2
  unfold lPays
  by_cases c : F 10 = 1
  · rw [if_pos c]
    refine ⟨flt g 3 (tA TP n e), ?_, flt_F, flt_K⟩
    unfold fX9_paysLine
    rw [show inb 10 316 = true from inbN (n := 10) (by omega) (by omega), gd_1, FRa M.2.2.2.1 (show 10 < 316 by omega) (show (10 : Int32) = nI 10 from rfl), if_pos (show nI (F 10) = (1 : Int32) by rw [c]; rfl), show (3 : Int32) = nI 3 from rfl, w3, bv_1]
    unfold fX9_paysLine_b20
    rw [show inb 2 316 = true from inbN (n := 2) (by omega) (by omega), gd_1, show ix 2 = 2 from ixN (n := 2) (by omega)]
    rw [show gI (flt g 3 (tA TP n e)) (181 + 4) 2 = nI (F 2) from fr 3 (tA TP n e), if_neg (show ¬ nI (F 2) = (0 : Int32) by show ¬ nI (F 2) = nI 0; rw [eqN (by omega) (by omega)]; exact y2), f13, if_neg (show ¬ nI 1 = (0 : Int32) by decide +kernel)]
  · rw [if_neg c]
    obtain ⟨g', e1, m1, K1⟩ := M.nx H
    have e2 : fX9_paysLine 181 g = lq2 (fX9_paysLine_L55 kkP 181) FU (nI 0) true g' := by
      unfold fX9_paysLine
      rw [show inb 10 316 = true from inbN (n := 10) (by omega) (by omega), gd_1, FRa M.2.2.2.1 (show 10 < 316 by omega) (show (10 : Int32) = nI 10 from rfl), if_neg (show ¬ nI (F 10) = (1 : Int32) by show ¬ nI (F 10) = nI 1; rw [eqN (by omega) (by omega)]; exact c)]
      unfold fX9_paysLine_b20
      rw [show inb 2 316 = true from inbN (n := 2) (by omega) (by omega), gd_1, FRa M.2.2.2.1 (show 2 < 316 by omega) (show (2 : Int32) = nI 2 from rfl), if_neg (show ¬ nI (F 2) = (0 : Int32) by show ¬ nI (F 2) = nI 0; rw [eqN (by omega) (by omega)]; exact y2), h13, if_pos (show nI 0 = (0 : Int32) from rfl), e1, bv_1]
      rfl
    rw [e2]
    exact (mPy H 5 0 F _ g' FU (by omega) (by omega) f4 (by unfold FU; omega) m1).tr K1
set_option maxRecDepth 100000 in
theorem jDmE {v : Nat} : JJ TP n F e (.ok (fu F 2 v) e) (dmE (nI v)) := by
  have b1 : inb (nI 2) 316 = true := inbN (by omega) (by omega)
  have b2 : ix (nI 2) = 2 := ixN (by omega)
  refine ⟨fun g M => ⟨sI g 185 2 (nI v), ?_, M.wr, wrK⟩, fun g h13 => ⟨g, ?_, Keep.rfl⟩⟩
  · show (if gI g 181 13 = nI 0 then gd (inb (nI 2) 316) (some (sI g 185 (ix (nI 2)) (nI v))) else some g) = _
    rw [M.2.2.1, if_pos rfl, b1, gd_1, b2]
  · show (if gI g 181 13 = nI 0 then gd (inb (nI 2) 316) (some (sI g 185 (ix (nI 2)) (nI v))) else some g) = _
    rw [h13, if_neg (fun z => by rw [z10] at z; exact z)]
set_option maxRecDepth 100000 in
theorem jDmK (H : HT TP n) : JJ TP n F e (sA TP n 13 0 60 e (fun v e3 => sA TP n 14 1 600 e3 (fun w e4 => .ok (fu (fu F 1 v) 2 w) e4))) dmK := by
  obtain ⟨-, -, -, -, -, -, -, -, -, -, -, -, -, c13, c14, -⟩ := CWe
  unfold dmK
  refine jA (w := 13) H (by omega) c13 (by omega) (by omega) rfl (fun g M => rfl) (fun v e2 _ _ _ => ?_)
  refine jWr (i := 1) (by omega) rfl rfl (jA (w := 14) H (by omega) c14 (by omega) (by omega) rfl (fun g M => rfl) (fun w e3 _ _ _ => ?_))
  exact jDmE
set_option maxRecDepth 100000 in
theorem mRt (H : HT TP n) {k : (Nat → Nat) → Nat → Out} (J : ∀ F1 e2, JJ TP n F1 e2 (k F1 e2) dmK) : ∀ f F e g f', F 0 + f = 5 → F 0 ≤ 4 → f + 1 < f' → MS TP n g F e → MO TP n g (sRt TP n f F e k) (lq1 (fX9_dreamLine_L49 dmK 181) f' true g) := by
  intro f
  induction f with
  | zero => intro F e g f' h1 h4 h2 M; omega
  | succ f ih =>
    intro F e g f' h1 h4 h2 M
    obtain ⟨f', rfl⟩ : ∃ q, f' = q + 1 := ⟨f' - 1, by omega⟩
    obtain ⟨f', rfl⟩ : ∃ q, f' = q + 1 := ⟨f' - 1, by omega⟩
    obtain ⟨a1, a2, a3⟩ := mNh M (lo := 2) (hi := 12) (by omega) (by omega)
    have f13 : ∀ (g : HH) q p, gI (flt g q p) 181 13 = nI 1 := fun g q p => flt_F.1
    have h13 := M.2.2.1
    have w5 := wr_ok (g := g) (q := 5) h13 (vq := nI 5) rfl M.2.1.1
    have r0 := M.2.2.2.1 0 (by omega)
    show MO TP n g (sN TP n 2 12 e (fun v e1 => if F 0 = 4 then .bad 5 (tA TP n e) else if tK TP n e1 = 4 then sRt TP n f (fu (fu F (11 + F 0) v) 0 (F 0 + 1)) (tE TP n e1) k else k (fu (fu F (11 + F 0) v) 0 (F 0 + 1)) e1)) _
    unfold sN
    by_cases z : tK TP n e = 2
    · rw [if_pos z]
      by_cases y : 2 ≤ tV TP n e ∧ tV TP n e ≤ 12
      · rw [if_pos y]
        refine (show MO TP n g (if F 0 = 4 then .bad 5 (tA TP n e) else if tK TP n (tE TP n e) = 4 then sRt TP n f (fu (fu F (11 + F 0) (tV TP n e)) 0 (F 0 + 1)) (tE TP n (tE TP n e)) k else k (fu (fu F (11 + F 0) (tV TP n e)) 0 (F 0 + 1)) (tE TP n e)) _ from ?_)
        have nh := a1 z y.1 y.2
        by_cases c : F 0 = 4
        · have e2 : lq1 (fX9_dreamLine_L49 dmK 181) (f' + 1 + 1) true g = some (flt g 5 (tA TP n e)) := by
            have ue : lq1 (fX9_dreamLine_L49 dmK 181) (f' + 1 + 1) true g = fX9_dreamLine_L49 dmK 181 (lq1 (fX9_dreamLine_L49 dmK 181) (f' + 1)) true g := rfl
            rw [ue]
            generalize lq1 (fX9_dreamLine_L49 dmK 181) (f' + 1) = sf
            generalize dmK = kp
            simp (disch := omega) only [lI, fX9_dreamLine_L49, fX9_dreamLine_b87, cond_true, nh, bd_1, h13, z00, if_true, inbN, ixN, gd_1, Nat.reduceAdd, r0, eqN, eq_true c, w5, bv_1, f13, z10, Nat.one_ne_zero, if_false]
          rw [if_pos c, e2]
          exact ⟨_, rfl, flt_F, flt_K⟩
        · rw [if_neg c]
          have M2 : MS TP n (sI (sI g 185 (11 + F 0) (nI (tV TP n e))) 185 0 (nI (F 0 + 1))) (fu (fu F (11 + F 0) (tV TP n e)) 0 (F 0 + 1)) e := M.wr.wr
          obtain ⟨g3, e3, M3, K3⟩ := M2.nx H
          obtain ⟨b1, b2⟩ := mCm H M3
          have KK : Keep PMd g g3 := (wrK.trans wrK).trans K3
          have r0' : gI (sI g 185 (11 + F 0) (nI (tV TP n e))) 185 0 = nI (F 0) := (gIk (by omega)).trans r0
          by_cases k4 : tK TP n (tE TP n e) = 4
          · obtain ⟨g4, e4, M4, K4⟩ := b1 k4
            have e2 : lq1 (fX9_dreamLine_L49 dmK 181) (f' + 1 + 1) true g = lq1 (fX9_dreamLine_L49 dmK 181) (f' + 1) true g4 := by
              have ue : lq1 (fX9_dreamLine_L49 dmK 181) (f' + 1 + 1) true g = fX9_dreamLine_L49 dmK 181 (lq1 (fX9_dreamLine_L49 dmK 181) (f' + 1)) true g := rfl
              rw [ue]
              generalize lq1 (fX9_dreamLine_L49 dmK 181) (f' + 1) = sf
              simp (disch := omega) only [lI, fX9_dreamLine_L49, fX9_dreamLine_b87, cond_true, nh, bd_1, h13, z00, if_true, inbN, ixN, gd_1, Nat.reduceAdd, r0, eqN, c, if_false, nI_add, nm_1, r0', e3, bv_1, e4]
            rw [if_pos k4, e2]
            refine (ih _ _ g4 (f' + 1) ?_ ?_ (by omega) M4).tr (KK.trans K4)
            · rw [fuS]; omega
            · rw [fuS]; omega
          · have e4 := b2 k4
            have e2 : lq1 (fX9_dreamLine_L49 dmK 181) (f' + 1 + 1) true g = dmK g3 := by
              have ue : lq1 (fX9_dreamLine_L49 dmK 181) (f' + 1 + 1) true g = fX9_dreamLine_L49 dmK 181 (lq1 (fX9_dreamLine_L49 dmK 181) (f' + 1)) true g := rfl
              have uf : lq1 (fX9_dreamLine_L49 dmK 181) (f' + 1) false g3 = dmK g3 := rfl
              rw [ue, ← uf]
              generalize lq1 (fX9_dreamLine_L49 dmK 181) (f' + 1) = sf
              simp (disch := omega) only [lI, fX9_dreamLine_L49, fX9_dreamLine_b87, cond_true, nh, bd_1, h13, z00, if_true, inbN, ixN, gd_1, Nat.reduceAdd, r0, eqN, c, if_false, nI_add, nm_1, r0', e3, bv_1, e4]
            rw [if_neg k4, e2]
            exact ((J _ _).1 g3 M3).tr KK
      · rw [if_neg y]
        have e2 : lq1 (fX9_dreamLine_L49 dmK 181) (f' + 1 + 1) true g = some (flt g 4 (tA TP n e)) := by
          have ue : lq1 (fX9_dreamLine_L49 dmK 181) (f' + 1 + 1) true g = fX9_dreamLine_L49 dmK 181 (lq1 (fX9_dreamLine_L49 dmK 181) (f' + 1)) true g := rfl
          rw [ue]
          generalize lq1 (fX9_dreamLine_L49 dmK 181) (f' + 1) = sf
          generalize dmK = kp
          simp (disch := omega) only [lI, fX9_dreamLine_L49, fX9_dreamLine_b87, cond_true, a2 z y, bd_1, f13, z10, Nat.one_ne_zero, if_false]
        rw [e2]
        exact ⟨_, rfl, flt_F, flt_K⟩
    · rw [if_neg z]
      have e2 : lq1 (fX9_dreamLine_L49 dmK 181) (f' + 1 + 1) true g = some (flt g 1 (tA TP n e)) := by
        have ue : lq1 (fX9_dreamLine_L49 dmK 181) (f' + 1 + 1) true g = fX9_dreamLine_L49 dmK 181 (lq1 (fX9_dreamLine_L49 dmK 181) (f' + 1)) true g := rfl
        rw [ue]
        generalize lq1 (fX9_dreamLine_L49 dmK 181) (f' + 1) = sf
        generalize dmK = kp
        simp (disch := omega) only [lI, fX9_dreamLine_L49, fX9_dreamLine_b87, cond_true, a3 z, bd_1, f13, z10, Nat.one_ne_zero, if_false]
      rw [e2]
      exact ⟨_, rfl, flt_F, flt_K⟩
set_option maxRecDepth 100000 in
theorem mlDream (H : HT TP n) (V : VP F) (M : MS TP n g F e) : MO TP n g (lDream TP n F e) (fX9_dreamLine 181 g) := by
  obtain ⟨-, -, -, -, -, -, -, -, -, -, -, -, c12, -⟩ := CWe
  have f13 : ∀ (g : HH) q p, gI (flt g q p) 181 13 = nI 1 := fun g q p => flt_F.1
  have h13 := M.2.2.1
  have w3 := wr_ok (g := g) (q := 3) h13 (vq := nI 3) rfl M.2.1.1
  have r2 := FRa M.2.2.2.1 (show 2 < 316 by omega) (show (2 : Int32) = nI 2 from rfl)
  have i2 : inb 2 316 = true := inbN (n := 2) (by omega) (by omega)
  unfold lDream
  rcases V with Z | V
  · have z2 := Z 2 (by omega)
    have z0 := Z 0 (by omega)
    rw [if_pos z2]
    obtain ⟨g', e1, m1, K1⟩ := M.nx H
    have e2 : fX9_dreamLine 181 g = bv (fX9_must 181 30 g') dmS := by
      unfold fX9_dreamLine
      rw [i2, gd_1, r2, z2, if_pos (show nI 0 ≤ (0 : Int32) by decide +kernel), h13, if_pos (show nI 0 = (0 : Int32) from rfl), e1, bv_1]
      rfl
    rw [e2]
    have JS : JJ TP n F (tE TP n (tE TP n e)) (sRt TP n 5 F (tE TP n (tE TP n e)) (fun F1 e2 => sA TP n 13 0 60 e2 (fun v e3 => sA TP n 14 1 600 e3 (fun w e4 => .ok (fu (fu F1 1 v) 2 w) e4)))) dmS := by
      refine ⟨fun g M => ?_, fun g h13 => ?_⟩
      · unfold dmS
        rw [M.2.2.1, if_pos (show nI 0 = (0 : Int32) from rfl)]
        exact mRt H (fun F1 e2 => jDmK H) 5 F _ g FU (by omega) (by omega) (by unfold FU; omega) M
      · have FUe : FU = (FU - 1) + 1 := by unfold FU; omega
        have e3 : dmS g = dmK g := by
          unfold dmS
          rw [h13, if_neg (show ¬ nI 1 = (0 : Int32) by decide +kernel), FUe]
          rfl
        rw [e3]
        exact (jDmK (F := F) (e := e) H).2 g h13
    exact ((jW (w := 12) H (by omega) c12 JS).1 g' m1).tr K1
  · have b2 := V.2.1.2.1
    have b2' := V.2.1.2.2.1
    rw [if_neg (by omega)]
    refine ⟨flt g 3 (tA TP n e), ?_, flt_F, flt_K⟩
    unfold fX9_dreamLine
    rw [i2, gd_1, r2, if_neg (show ¬ nI (F 2) ≤ (0 : Int32) by show ¬ nI (F 2) ≤ nI 0; rw [leN (by omega) (by omega)]; omega), show (3 : Int32) = nI 3 from rfl, w3, bv_1, f13, if_neg (show ¬ nI 1 = (0 : Int32) by decide +kernel)]
end MLO
