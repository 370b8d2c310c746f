section ACTS2
variable {h : HH} {d n : Nat} {R N T : Nat → Nat}
/-! what stands at the beginning of an act -/
set_option maxRecDepth 100000 in
theorem unA (D : GD h d R N T) (G : GR h) : ∃ u NN TT m II JJ, u ≤ 12 ∧ m ≤ 3 ∧ CAct h R u NN TT ∧ MAct h u NN TT ∧ VAct R u NN TT ∧ CIm h R m II JJ ∧ MIm h m II JJ ∧ VAct R m II JJ := by
  obtain ⟨C, M, ⟨u, u1, u2, u3, u4⟩, ⟨m, m1, m2, m3, m4⟩, P, F⟩ := D
  obtain ⟨NN, TT, H⟩ := pickA u4
  obtain ⟨II, JJ, H'⟩ := pickA (A := fun i => 160 + 7 * i) m4
  exact ⟨u, NN, TT, m, II, JJ, u1, m1, ⟨u2, G.2.2.1, fun i hi => (H i hi).1⟩, ⟨u3, fun i hi => (H i hi).2.1⟩, fun i hi => (H i hi).2.2, ⟨m2, fun i hi => (H' i hi).1⟩, ⟨m3, fun i hi => (H' i hi).2.1⟩, fun i hi => (H' i hi).2.2⟩
set_option maxRecDepth 100000 in
theorem CIm.keep {h h' : HH} {m : Nat} {II JJ : Nat → Nat → Nat} (C : CIm h R m II JJ) (hm : m ≤ 3) (K : Keep (fun b k => (b = 0 ∧ k = 15) ∨ (160 ≤ b ∧ b ≤ 180)) h h') : CIm h' R m II JJ := ⟨(K 0 15 (by omega)).1.trans C.1, fun i hi => (C.2 i hi).keep K (fun b k h1 h2 => by omega)⟩
set_option maxRecDepth 100000 in
theorem CAct.keep {h h' : HH} {u : Nat} {NN TT : Nat → Nat → Nat} (C : CAct h R u NN TT) (hu : u ≤ 12) (K : Keep (fun b k => (b = 0 ∧ k = 14) ∨ b = 42 ∨ (76 ≤ b ∧ b ≤ 159)) h h') : CAct h' R u NN TT := by
  obtain ⟨c1, ⟨p1, p2⟩, c3⟩ := C
  have eR : ∀ k, gR h' 42 k = gR h 42 k := fun k => (K 42 k (by omega)).2.2
  refine ⟨(K 0 14 (by omega)).1.trans c1, ⟨fun i hi => by rw [eR]; exact p1 i hi, fun i i' a b z => by rw [eR, eR] at z; exact p2 i i' a b z⟩, fun i hi => ?_⟩
  rw [eR]
  obtain ⟨j, j1, j2⟩ := p1 i (by omega)
  exact (c3 i hi).keep K (fun b k h1 h2 => by omega)
set_option maxRecDepth 100000 in
theorem MIm.keep {h h' : HH} {m : Nat} {II JJ : Nat → Nat → Nat} (C : MIm h m II JJ) (K : Keep (fun b k => (b = 181 ∧ k = 26) ∨ b = 188 ∨ b = 192) h h') : MIm h' m II JJ := ⟨(K 181 26 (by omega)).1.trans C.1, fun i hi => (C.2 i hi).keep (fun k _ => (K 188 _ (by omega)).1) (fun k _ => (K 192 _ (by omega)).2.1)⟩
set_option maxRecDepth 100000 in
theorem MAct.keep {h h' : HH} {m : Nat} {II JJ : Nat → Nat → Nat} (C : MAct h m II JJ) (K : Keep (fun b k => (b = 181 ∧ k = 25) ∨ b = 187 ∨ b = 191) h h') : MAct h' m II JJ := ⟨(K 181 25 (by omega)).1.trans C.1, fun i hi => (C.2 i hi).keep (fun k _ => (K 187 _ (by omega)).1) (fun k _ => (K 191 _ (by omega)).2.1)⟩
/-! an act that is done: kept, then the night goes on from N T to N' T' -/
set_option maxRecDepth 100000 in
theorem opAct {α : Type} {x y : HH → Option (α × HH)} (G : GR h) (B : TRB h) (D : GD h d R N T) {q : Nat} (hq : q ≤ n) (Q : MtR h q) {N' T' : Nat → Nat} (a : α) (W' : VN R N' T' 1200) (S' : SN R N' T') (hc : ∀ h1, fX8_keepAct 0 h = some h1 → gR h1 0 10 = d → DRep h1 d R → NRep h1 6 R N T → ∃ h2, x h = some (a, sI h2 0 16 (nI 0)) ∧ NRep h2 6 R N' T' ∧ Keep (PN 6) h1 h2) (hm : ∀ g0 g g1, MA g R N T → fX9_good 181 g0 = some g → fX9_note 181 g = some g1 → MRep g1 R → MNRep g1 N T → ∃ g2, y g0 = some (a, g2) ∧ MNRep g2 N' T' ∧ Keep PW g1 g2) : OpG h n x y := by
  obtain ⟨u, NN, TT, m, II, JJ, hu, hm3, ca, ma, va, ci, mi, vi⟩ := unA D G
  obtain ⟨C, M, -, -, P, F⟩ := D
  obtain ⟨c1, c2, c3, Dr, v, Qc, Wc, Sc⟩ := id C
  have vS := v.S
  obtain ⟨h1, e1, ca1, K1⟩ := cKeepA vS.2 ca hu Qc
  have hd : 44 ≤ d ∧ d ≤ 60 := by rcases c2 with z | z <;> omega
  obtain ⟨h2, e2, Q2, K2⟩ := hc h1 e1 ((K1 0 10 (by unfold PKA; omega)).2.2.trans c1) (Dr.keep K1 (fun b k z1 z2 => by unfold PKA; rcases c2 with z | z <;> omega)) (Qc.keep K1 (fun b k z1 z2 => by unfold PKA; omega))
  have K12 : Keep PA h h2 := (K1.mono (fun x k hp => by unfold PA at hp; unfold PKA; omega)).trans (K2.mono (fun x k hp z => by unfold PA at hp; omega))
  refine opA G B C M P F hq Q ma mi a 0 (by omega) e2 (gIs _ _ _ _) (Keep.sI K12 (by unfold PA; omega)) (ca1.keep (Nat.min_le_right _ _) (Keep.sI (K2.mono (fun x k hp z => by omega)) (by omega))) (ci.keep hm3 (Keep.sI ((K1.mono (fun x k hp => by unfold PKA; omega)).trans (K2.mono (fun x k hp z => by omega))) (by omega))) (Q2.keep (P := fun b k => ¬ (b = 0 ∧ k = 16)) (Keep.sI Keep.rfl (fun z => z ⟨rfl, rfl⟩)) (fun b k _ _ => by omega)) (fun g0 M0 ma0 mi0 => ?_) (Nat.min_le_right _ _) hm3 W' S' (va.pus hu Wc Sc) vi
  obtain ⟨g, hg, Mg, Kg, t0⟩ := mGood M0
  have mag := ma0.keep (Kg.mono (fun x k hp => by unfold PM; omega))
  obtain ⟨g1, n1, ma1, Kn⟩ := mNote mag hu Mg.2.2.2.1
  have M1 : MRep g1 R := Mg.2.1.keep Kn (fun k => by unfold PKN; omega)
  have Q1 : MNRep g1 N T := Mg.2.2.2.1.keep Kn (fun k => by unfold PKN; omega) (fun k => by unfold PKN; omega)
  obtain ⟨g2, e4, Q4, K4⟩ := hm g0 g g1 Mg hg n1 M1 Q1
  have gg : Keep (fun b k => ¬ (b = 181 ∧ (k = 0 ∨ k = 11))) g0 g := by
    have : g = sI (sI g0 181 0 0) 181 11 0 := (Option.some.inj hg).symm
    rw [this]
    exact Keep.sI (Keep.sI Keep.rfl (fun z => by omega)) (fun z => by omega)
  refine ⟨g2, e4, ?_, Q4, ma1.keep (K4.mono (fun x k hp => by unfold PW; omega)), mi0.keep ((Kg.mono (fun x k hp => by unfold PM; omega)).trans ((Kn.mono (fun x k hp => by unfold PKN; omega)).trans (K4.mono (fun x k hp => by unfold PW; omega)))), (gg.mono (fun x k hp => by unfold PB at hp; omega)).trans ((Kn.mono (fun x k hp => by unfold PB at hp; unfold PKN; omega)).trans (K4.mono (fun x k hp => by unfold PB at hp; unfold PW; omega)))⟩
  rw [(K4 181 11 (by unfold PW; omega)).1, (Kn 181 11 (by unfold PKN; omega)).1]; exact t0
/-! refused -/
set_option maxRecDepth 100000 in
theorem refG {α : Type} {x y : HH → Option (α × HH)} (G : GR h) (B : TRB h) (D : GD h d R N T) {q : Nat} (hq : q ≤ n) (Q : MtR h q) (a : α) (t : Nat) (ht : t ≠ 4 ∧ t < 100) (e : x h = some (a, sI h 0 16 (nI t))) (hm : ∀ h1 g, MA g R N T → fX9_good 181 h1 = some g → y h1 = some (a, sI g 181 11 (nI t))) : OpG h n x y :=
  OpW.G G B D hq Q ⟨a, t, ht, ⟨_, e, gIs _ _ _ _, Keep.sI Keep.rfl (by unfold PQ; omega)⟩, mRef hm⟩
set_option maxRecDepth 100000 in
theorem mn0 (v : VR R) : mn R 0 = bt R := rt_0 R (R 0)
set_option maxRecDepth 100000 in
theorem gPass (G : GR h) (B : TRB h) (D : GD h d R N T) {q : Nat} (hq : q ≤ n) (Q : MtR h q) (x y : Int32) : OpG h n (fun h => fX8_pass 0 x y h) (fun h => fX9_pass 181 x y h) := by
  have C := D.1
  have k := isKb_D C.2.1
  have v := C.2.2.2.2.1
  have vb := v.bt
  have W := C.2.2.2.2.2.2.1
  have S := C.2.2.2.2.2.2.2
  have hT := VN.t v W (by omega)
  have q0 := C.2.2.2.2.2.1.1
  rcases flC C x with ⟨f, hf, rfl, e1, e2⟩ | ⟨e1, e2⟩
  · have hm := v.mn hf
    rcases rg y (lo := 1) (hi := 999) (by omega) (by omega) with ⟨t, t1, t2, rfl⟩ | hy | ⟨hy1, hy2, hy3⟩
    · have n1 : ¬ t < 1 := by omega
      have hb : t * mn R f ≤ 999 * 20736 := Nat.mul_le_mul t2 hm.2
      have wt : ∀ g, fX9_within (nI t) (nI 1) (nI 999) g = some (true, g) := fun g => wit3 t1 t2 (by omega)
      by_cases c : T 0 + t * mn R f ≤ 1200 * bt R
      · have hda : 6 + 6 < d := by rcases C.2.1 with z | z <;> omega
        have hmu := mu_le v (N, T)
        have ro := run_ok v (B := 1200) (by omega) c 29 (N, T) 1200 (by omega) (by omega) W S (Nat.le_add_right _ _)
        have hq0 : ¬ bt R = 0 := by omega
        refine opAct G B D hq Q (nI ((T 0 + t * mn R f) / bt R)) ro.1 ro.2.1 (fun h1 k1 r1 D1 Q1 => ?_) (fun g0 g g1 Mg hg n2 M1 Qm => ?_)
        · obtain ⟨h2, e3, Q3, K3⟩ := cRun D1 C.2.1 hda v (σ := (N, T)) Q1 W (by omega) S (t := T 0 + t * mn R f) (Nat.le_add_right _ _) c
          refine ⟨h2, ?_, Q3, K3⟩
          have q6 := Q3.1
          rw [ro.2.2.1] at q6
          have r2 : gR h2 0 10 = d := (K3 0 10 (fun z => by omega)).2.2.trans r1
          have D2 := D1.N K3 hda
          have cm := cMinute D2 v (f := 0) (Nat.zero_le _)
          rw [mn0 v] at cm
          simp (disch := omega) only [lI, lJ, gd_1, bd_1, bv_1, nm_1, ixN, inbN, eqN, leN, ltN, eqL, leL, ltL, beqN, beqL, nI_add, pk_mul, lN_add, lN_mul, nI_l, lN_i, pk_div, pk_lDiv, pk_sub, lN_sub, remN, remL, neg1, neg2, negL, negL2, M1e, M1f, M1g, M1h, M1i, M1j, M2e, M2f, L1g, L1h, L1i, L1j, les_eq, les_e, les_n, les_m, cond_true, cond_false, if_true, if_false, fX8_refuse, fX8_allow, fX8_allow_, Nat.not_lt_zero, Nat.reduceAdd, Nat.reduceLT, Nat.reduceLeDiff, Nat.reduceEqDiff, decide_false, decide_true, Bool.not_false, Bool.not_true, C.1, k, fX8_pass, e1, n1, t2, cMinute C.2.2.2.1 v hf, q0, cBottom C.2.2.2.1 v, c, k1, r1, e3, fX8_clockOf, r2, q6, cm, cQuo]
        · have Qm' : MNRep g1 (N, T).1 (N, T).2 := Qm
          obtain ⟨g2, e3, Q3, K3⟩ := mGo M1 v Qm' (B := 1200) W (by omega) (by omega) S (to := T 0 + t * mn R f) (Nat.le_add_right _ _) c
          refine ⟨g2, ?_, Q3, K3⟩
          have p0 := Mg.2.2.2.1.2 0 (by omega)
          have p0' := Q3.2 0 (by omega)
          rw [ro.2.2.1] at p0'
          simp (disch := omega) only [lI, lJ, gd_1, bd_1, bv_1, nm_1, ixN, inbN, eqN, leN, ltN, eqL, leL, ltL, beqN, beqL, nI_add, pk_mul, lN_add, lN_mul, nI_l, lN_i, pk_div, pk_lDiv, pk_sub, lN_sub, remN, remL, neg1, neg2, negL, negL2, M1e, M1f, M1g, M1h, M1i, M1j, M2e, M2f, L1g, L1h, L1i, L1j, les_eq, les_e, les_n, les_m, cond_true, cond_false, if_true, if_false, fX9_no, hg, Nat.not_lt_zero, Nat.reduceAdd, Nat.reduceLT, Nat.reduceLeDiff, Nat.reduceEqDiff, decide_false, decide_true, Bool.not_false, Bool.not_true, fX9_pass, e2 g Mg, wt, p0, mMinute Mg.2.1 v hf, mBottom Mg.2.1 v, c, n2, e3, p0', mBottom (M1.W K3) v, hq0]
      · refine refG G B D hq Q M1 3 (by omega) ?_ (fun h1 g Mg hg => ?_)
        · simp (disch := omega) only [lI, lJ, gd_1, bd_1, bv_1, nm_1, ixN, inbN, eqN, leN, ltN, eqL, leL, ltL, beqN, beqL, nI_add, pk_mul, lN_add, lN_mul, nI_l, lN_i, pk_div, pk_lDiv, pk_sub, lN_sub, remN, remL, neg1, neg2, negL, negL2, M1e, M1f, M1g, M1h, M1i, M1j, M2e, M2f, L1g, L1h, L1i, L1j, les_eq, les_e, les_n, les_m, cond_true, cond_false, if_true, if_false, fX8_refuse, fX8_allow, fX8_allow_, Nat.not_lt_zero, Nat.reduceAdd, Nat.reduceLT, Nat.reduceLeDiff, Nat.reduceEqDiff, decide_false, decide_true, Bool.not_false, Bool.not_true, C.1, k, fX8_pass, e1, n1, t2, cMinute C.2.2.2.1 v hf, q0, cBottom C.2.2.2.1 v, c]
        · have p0 := Mg.2.2.2.1.2 0 (by omega)
          simp (disch := omega) only [lI, lJ, gd_1, bd_1, bv_1, nm_1, ixN, inbN, eqN, leN, ltN, eqL, leL, ltL, beqN, beqL, nI_add, pk_mul, lN_add, lN_mul, nI_l, lN_i, pk_div, pk_lDiv, pk_sub, lN_sub, remN, remL, neg1, neg2, negL, negL2, M1e, M1f, M1g, M1h, M1i, M1j, M2e, M2f, L1g, L1h, L1i, L1j, les_eq, les_e, les_n, les_m, cond_true, cond_false, if_true, if_false, fX9_no, hg, Nat.not_lt_zero, Nat.reduceAdd, Nat.reduceLT, Nat.reduceLeDiff, Nat.reduceEqDiff, decide_false, decide_true, Bool.not_false, Bool.not_true, fX9_pass, e2 g Mg, wt, p0, mMinute Mg.2.1 v hf, mBottom Mg.2.1 v, c]
    · refine refG G B D hq Q M1 2 (by omega) ?_ (fun h1 g Mg hg => ?_)
      · simp (disch := omega) only [lI, lJ, gd_1, bd_1, bv_1, nm_1, ixN, inbN, eqN, leN, ltN, eqL, leL, ltL, beqN, beqL, nI_add, pk_mul, lN_add, lN_mul, nI_l, lN_i, pk_div, pk_lDiv, pk_sub, lN_sub, remN, remL, neg1, neg2, negL, negL2, M1e, M1f, M1g, M1h, M1i, M1j, M2e, M2f, L1g, L1h, L1i, L1j, les_eq, les_e, les_n, les_m, cond_true, cond_false, if_true, if_false, fX8_refuse, fX8_allow, fX8_allow_, Nat.not_lt_zero, Nat.reduceAdd, Nat.reduceLT, Nat.reduceLeDiff, Nat.reduceEqDiff, decide_false, decide_true, Bool.not_false, Bool.not_true, C.1, k, fX8_pass, e1, hy]
      · simp (disch := omega) only [lI, lJ, gd_1, bd_1, bv_1, nm_1, ixN, inbN, eqN, leN, ltN, eqL, leL, ltL, beqN, beqL, nI_add, pk_mul, lN_add, lN_mul, nI_l, lN_i, pk_div, pk_lDiv, pk_sub, lN_sub, remN, remL, neg1, neg2, negL, negL2, M1e, M1f, M1g, M1h, M1i, M1j, M2e, M2f, L1g, L1h, L1i, L1j, les_eq, les_e, les_n, les_m, cond_true, cond_false, if_true, if_false, fX9_no, hg, Nat.not_lt_zero, Nat.reduceAdd, Nat.reduceLT, Nat.reduceLeDiff, Nat.reduceEqDiff, decide_false, decide_true, Bool.not_false, Bool.not_true, fX9_pass, e2 g Mg, wa hy]
    · refine refG G B D hq Q M1 2 (by omega) ?_ (fun h1 g Mg hg => ?_)
      · simp (disch := omega) only [lI, lJ, gd_1, bd_1, bv_1, nm_1, ixN, inbN, eqN, leN, ltN, eqL, leL, ltL, beqN, beqL, nI_add, pk_mul, lN_add, lN_mul, nI_l, lN_i, pk_div, pk_lDiv, pk_sub, lN_sub, remN, remL, neg1, neg2, negL, negL2, M1e, M1f, M1g, M1h, M1i, M1j, M2e, M2f, L1g, L1h, L1i, L1j, les_eq, les_e, les_n, les_m, cond_true, cond_false, if_true, if_false, fX8_refuse, fX8_allow, fX8_allow_, Nat.not_lt_zero, Nat.reduceAdd, Nat.reduceLT, Nat.reduceLeDiff, Nat.reduceEqDiff, decide_false, decide_true, Bool.not_false, Bool.not_true, C.1, k, fX8_pass, e1, hy1, hy3]
      · simp (disch := omega) only [lI, lJ, gd_1, bd_1, bv_1, nm_1, ixN, inbN, eqN, leN, ltN, eqL, leL, ltL, beqN, beqL, nI_add, pk_mul, lN_add, lN_mul, nI_l, lN_i, pk_div, pk_lDiv, pk_sub, lN_sub, remN, remL, neg1, neg2, negL, negL2, M1e, M1f, M1g, M1h, M1i, M1j, M2e, M2f, L1g, L1h, L1i, L1j, les_eq, les_e, les_n, les_m, cond_true, cond_false, if_true, if_false, fX9_no, hg, Nat.not_lt_zero, Nat.reduceAdd, Nat.reduceLT, Nat.reduceLeDiff, Nat.reduceEqDiff, decide_false, decide_true, Bool.not_false, Bool.not_true, fX9_pass, e2 g Mg, wb hy1 hy2]
  · refine refG G B D hq Q M1 1 (by omega) ?_ (fun h1 g Mg hg => ?_)
    · simp (disch := omega) only [lI, lJ, gd_1, bd_1, bv_1, nm_1, ixN, inbN, eqN, leN, ltN, eqL, leL, ltL, beqN, beqL, nI_add, pk_mul, lN_add, lN_mul, nI_l, lN_i, pk_div, pk_lDiv, pk_sub, lN_sub, remN, remL, neg1, neg2, negL, negL2, M1e, M1f, M1g, M1h, M1i, M1j, M2e, M2f, L1g, L1h, L1i, L1j, les_eq, les_e, les_n, les_m, cond_true, cond_false, if_true, if_false, fX8_refuse, fX8_allow, fX8_allow_, Nat.not_lt_zero, Nat.reduceAdd, Nat.reduceLT, Nat.reduceLeDiff, Nat.reduceEqDiff, decide_false, decide_true, Bool.not_false, Bool.not_true, C.1, k, fX8_pass, e1]
    · simp (disch := omega) only [lI, lJ, gd_1, bd_1, bv_1, nm_1, ixN, inbN, eqN, leN, ltN, eqL, leL, ltL, beqN, beqL, nI_add, pk_mul, lN_add, lN_mul, nI_l, lN_i, pk_div, pk_lDiv, pk_sub, lN_sub, remN, remL, neg1, neg2, negL, negL2, M1e, M1f, M1g, M1h, M1i, M1j, M2e, M2f, L1g, L1h, L1i, L1j, les_eq, les_e, les_n, les_m, cond_true, cond_false, if_true, if_false, fX9_no, hg, Nat.not_lt_zero, Nat.reduceAdd, Nat.reduceLT, Nat.reduceLeDiff, Nat.reduceEqDiff, decide_false, decide_true, Bool.not_false, Bool.not_true, fX9_pass, e2 g Mg]
set_option maxRecDepth 100000 in
theorem hdC (C : CA h d R N T) (x : Int32) : (∃ s, s < R 3 ∧ x = nI s ∧ fX8_isHead 0 x h = some (true, h) ∧ ∀ h1, MA h1 R N T → fX9_isHead 181 x h1 = some (true, h1)) ∨ (fX8_isHead 0 x h = some (false, h) ∧ ∀ h1, MA h1 R N T → fX9_isHead 181 x h1 = some (false, h1)) := by
  have k := isKb_D C.2.1
  obtain ⟨c1, c2, c3, c4, v, c6, c7⟩ := C
  have vH := v.H
  have f0 := c4.2.2.1.2.2.2.1
  have z1 : ¬ (1 : Nat) = 0 := by omega
  rcases cut x (m := R 3) (by omega) with ⟨s, hs, rfl, wt⟩ | ⟨hx, wf⟩
  · refine Or.inl ⟨s, hs, rfl, ?_, fun h1 m => ?_⟩
    · have n1 : ¬ R 3 ≤ s := by omega
      simp (disch := omega) only [lI, lJ, gd_1, bd_1, bv_1, nm_1, ixN, inbN, eqN, leN, ltN, eqL, leL, ltL, beqN, beqL, nI_add, pk_mul, lN_add, lN_mul, nI_l, lN_i, pk_div, pk_lDiv, pk_sub, lN_sub, remN, remL, neg1, neg2, negL, negL2, M1e, M1f, M1g, M1h, M1i, M1j, M2e, M2f, L1g, L1h, L1i, L1j, les_eq, les_e, les_n, les_m, fX8_isHead, c1, c3, k, f0, z1, n1, Nat.not_lt_zero, if_false]
    · have m0 := m.2.1 3 (by omega)
      simp (disch := omega) only [lI, gd_1, bd_1, inbN, ixN, eqN, fX9_isHead, Nat.reduceAdd, m.1, m0, z1, wt, if_false, cond_true]
  · refine Or.inr ⟨?_, fun h1 m => ?_⟩
    · rcases hx with z | ⟨y1, y2, y3⟩
      · simp (disch := omega) only [lI, lJ, gd_1, bd_1, bv_1, nm_1, ixN, inbN, eqN, leN, ltN, eqL, leL, ltL, beqN, beqL, nI_add, pk_mul, lN_add, lN_mul, nI_l, lN_i, pk_div, pk_lDiv, pk_sub, lN_sub, remN, remL, neg1, neg2, negL, negL2, M1e, M1f, M1g, M1h, M1i, M1j, M2e, M2f, L1g, L1h, L1i, L1j, les_eq, les_e, les_n, les_m, fX8_isHead, c1, c3, k, f0, z1, z, if_false, if_true]
      · simp (disch := omega) only [lI, lJ, gd_1, bd_1, bv_1, nm_1, ixN, inbN, eqN, leN, ltN, eqL, leL, ltL, beqN, beqL, nI_add, pk_mul, lN_add, lN_mul, nI_l, lN_i, pk_div, pk_lDiv, pk_sub, lN_sub, remN, remL, neg1, neg2, negL, negL2, M1e, M1f, M1g, M1h, M1i, M1j, M2e, M2f, L1g, L1h, L1i, L1j, les_eq, les_e, les_n, les_m, fX8_isHead, c1, c3, k, f0, z1, y1, y2, if_false, if_true]
    · have m0 := m.2.1 3 (by omega)
      simp (disch := omega) only [lI, gd_1, bd_1, inbN, ixN, eqN, fX9_isHead, Nat.reduceAdd, m.1, m0, z1, wf, if_false, cond_false]
/-! what a coming, then what is due, makes -/
set_option maxRecDepth 100000 in
theorem cmOk (v : VR R) (W : VN R N T 1200) {s fl hd : Nat} (hs : s < R 4) (h1 : fl ≤ R 0) (h2 : hd ≤ R 3) (h3 : fl ≠ 0 → hd ≠ 0) : VN R (stA R (R 4) (cmS s fl hd (N, T))).1 (stA R (R 4) (cmS s fl hd (N, T))).2 1200 ∧ SN R (stA R (R 4) (cmS s fl hd (N, T))).1 (stA R (R 4) (cmS s fl hd (N, T))).2 ∧ VN R (cmS s fl hd (N, T)).1 (cmS s fl hd (N, T)).2 1200 := by
  have vS := v.S
  have W1 := VN.cm (σ := (N, T)) W (s := s) (by omega) h1 h2 h3
  obtain ⟨a1, a2, a3, a4, a5⟩ := stA_ok v (R 4) _ (Nat.le_refl _) W1
  refine ⟨a1, fun s hs t ht => ?_, W1⟩
  rw [a3 0 (Or.inl rfl)]
  exact a5 s hs t ht
set_option maxRecDepth 100000 in
theorem gWake (G : GR h) (B : TRB h) (D : GD h d R N T) {q : Nat} (hq : q ≤ n) (Q : MtR h q) (x : Int32) : OpG h n (fun h => fX8_wake 0 x h) (fun h => fX9_wake 181 x h) := by
  have C := D.1
  have k := isKb_D C.2.1
  have v := C.2.2.2.2.1
  have vS := v.S
  have vF := v.F
  have W := C.2.2.2.2.2.2.1
  have hda : 6 + 6 < d := by rcases C.2.1 with z | z <;> omega
  rcases slC C x with ⟨s, hs, rfl, e1, e2⟩ | ⟨e1, e2⟩
  · have q := C.2.2.2.2.2.1.2.1 s (by omega)
    have w := W.2.1 s (by omega)
    by_cases c : N (4 * s + 0) = 0
    · refine refG G B D hq Q M1 5 (by omega) ?_ (fun h1 g Mg hg => ?_)
      · simp (disch := omega) only [lI, lJ, gd_1, bd_1, bv_1, nm_1, ixN, inbN, eqN, leN, ltN, eqL, leL, ltL, beqN, beqL, nI_add, pk_mul, lN_add, lN_mul, nI_l, lN_i, pk_div, pk_lDiv, pk_sub, lN_sub, remN, remL, neg1, neg2, negL, negL2, M1e, M1f, M1g, M1h, M1i, M1j, M2e, M2f, L1g, L1h, L1i, L1j, les_eq, les_e, les_n, les_m, cond_true, cond_false, if_true, if_false, fX8_refuse, fX8_allow, fX8_allow_, Nat.not_lt_zero, Nat.reduceAdd, Nat.reduceLT, Nat.reduceLeDiff, Nat.reduceEqDiff, decide_false, decide_true, Bool.not_false, Bool.not_true, C.1, k, fX8_wake, e1, q, eq_true c]
      · simp (disch := omega) only [lI, lJ, gd_1, bd_1, bv_1, nm_1, ixN, inbN, eqN, leN, ltN, eqL, leL, ltL, beqN, beqL, nI_add, pk_mul, lN_add, lN_mul, nI_l, lN_i, pk_div, pk_lDiv, pk_sub, lN_sub, remN, remL, neg1, neg2, negL, negL2, M1e, M1f, M1g, M1h, M1i, M1j, M2e, M2f, L1g, L1h, L1i, L1j, les_eq, les_e, les_n, les_m, cond_true, cond_false, if_true, if_false, fX9_no, hg, Nat.not_lt_zero, Nat.reduceAdd, Nat.reduceLT, Nat.reduceLeDiff, Nat.reduceEqDiff, decide_false, decide_true, Bool.not_false, Bool.not_true, fX9_wake, e2 g Mg, mIts Mg.2.2.2.1, eq_true c]
    · obtain ⟨o1, o2, o3⟩ := cmOk v W (s := s) (fl := N (4 * s + 0) - 1) (hd := N (4 * s + 1)) hs (by omega) w.2.1 (fun _ => by omega)
      refine opAct G B D hq Q (nI ((stA R (R 4) (cmS s (N (4 * s + 0) - 1) (N (4 * s + 1)) (N, T))).1 (4 * s + 0))) o1 o2 (fun h1 k1 r1 D1 Q1 => ?_) (fun g0 g g1 Mg hg n2 Mr Qm => ?_)
      · obtain ⟨h2, e3, Q3, K3⟩ := cCome D1 hda v (σ := (N, T)) Q1 W (by omega) hs (fl := N (4 * s + 0) - 1) (hd := 0) (x3 := nI (N (4 * s + 0) - 1)) (x4 := les M2 (N (4 * s + 1))) (clK (by omega) (by omega)) (by omega) (fun h1 h2 => absurd h2 c)
        rw [if_neg c] at Q3
        have D2 := D1.N K3 hda
        obtain ⟨h3, e4, Q4, K4⟩ := cSteps D2 C.2.1 hda v Q3 o3 (by omega)
        have r2 : gR h2 0 10 = d := (K3 0 10 (fun z => by omega)).2.2.trans r1
        have q4 := Q4.2.1 s (by omega)
        have q1 := Q1.2.1 s (by omega)
        refine ⟨h3, ?_, Q4, K3.trans K4⟩
        simp (disch := omega) only [lI, lJ, gd_1, bd_1, bv_1, nm_1, ixN, inbN, eqN, leN, ltN, eqL, leL, ltL, beqN, beqL, nI_add, pk_mul, lN_add, lN_mul, nI_l, lN_i, pk_div, pk_lDiv, pk_sub, lN_sub, remN, remL, neg1, neg2, negL, negL2, M1e, M1f, M1g, M1h, M1i, M1j, M2e, M2f, L1g, L1h, L1i, L1j, les_eq, les_e, les_n, les_m, cond_true, cond_false, if_true, if_false, fX8_refuse, fX8_allow, fX8_allow_, Nat.not_lt_zero, Nat.reduceAdd, Nat.reduceLT, Nat.reduceLeDiff, Nat.reduceEqDiff, decide_false, decide_true, Bool.not_false, Bool.not_true, C.1, k, fX8_wake, e1, q, c, k1, r1, q1, e3, r2, e4, q4]
      · obtain ⟨g2, e3, Q3, K3⟩ := mCome Qm (s := s) (fl := N (4 * s + 0) - 1) (by omega) (by omega)
        obtain ⟨g3, e4, Q4, K4⟩ := mSteps (Mr.W K3) v Q3 o3 (by omega)
        refine ⟨g3, ?_, Q4, K3.trans K4⟩
        simp (disch := omega) only [lI, lJ, gd_1, bd_1, bv_1, nm_1, ixN, inbN, eqN, leN, ltN, eqL, leL, ltL, beqN, beqL, nI_add, pk_mul, lN_add, lN_mul, nI_l, lN_i, pk_div, pk_lDiv, pk_sub, lN_sub, remN, remL, neg1, neg2, negL, negL2, M1e, M1f, M1g, M1h, M1i, M1j, M2e, M2f, L1g, L1h, L1i, L1j, les_eq, les_e, les_n, les_m, cond_true, cond_false, if_true, if_false, fX9_no, hg, Nat.not_lt_zero, Nat.reduceAdd, Nat.reduceLT, Nat.reduceLeDiff, Nat.reduceEqDiff, decide_false, decide_true, Bool.not_false, Bool.not_true, fX9_wake, e2 g Mg, mIts Mg.2.2.2.1, c, n2, mIts Qm, e3, e4, mIts Q4]
  · refine refG G B D hq Q M1 1 (by omega) ?_ (fun h1 g Mg hg => ?_)
    · simp (disch := omega) only [lI, lJ, gd_1, bd_1, bv_1, nm_1, ixN, inbN, eqN, leN, ltN, eqL, leL, ltL, beqN, beqL, nI_add, pk_mul, lN_add, lN_mul, nI_l, lN_i, pk_div, pk_lDiv, pk_sub, lN_sub, remN, remL, neg1, neg2, negL, negL2, M1e, M1f, M1g, M1h, M1i, M1j, M2e, M2f, L1g, L1h, L1i, L1j, les_eq, les_e, les_n, les_m, cond_true, cond_false, if_true, if_false, fX8_refuse, fX8_allow, fX8_allow_, Nat.not_lt_zero, Nat.reduceAdd, Nat.reduceLT, Nat.reduceLeDiff, Nat.reduceEqDiff, decide_false, decide_true, Bool.not_false, Bool.not_true, C.1, k, fX8_wake, e1]
    · simp (disch := omega) only [lI, lJ, gd_1, bd_1, bv_1, nm_1, ixN, inbN, eqN, leN, ltN, eqL, leL, ltL, beqN, beqL, nI_add, pk_mul, lN_add, lN_mul, nI_l, lN_i, pk_div, pk_lDiv, pk_sub, lN_sub, remN, remL, neg1, neg2, negL, negL2, M1e, M1f, M1g, M1h, M1i, M1j, M2e, M2f, L1g, L1h, L1i, L1j, les_eq, les_e, les_n, les_m, cond_true, cond_false, if_true, if_false, fX9_no, hg, Nat.not_lt_zero, Nat.reduceAdd, Nat.reduceLT, Nat.reduceLeDiff, Nat.reduceEqDiff, decide_false, decide_true, Bool.not_false, Bool.not_true, fX9_wake, e2 g Mg]
set_option maxRecDepth 100000 in
theorem gKnock (G : GR h) (B : TRB h) (D : GD h d R N T) {q : Nat} (hq : q ≤ n) (Q : MtR h q) (x y z : Int32) : OpG h n (fun h => fX8_knock 0 x y z h) (fun h => fX9_knock 181 x y z h) := by
  have C := D.1
  have k := isKb_D C.2.1
  have v := C.2.2.2.2.1
  have vS := v.S
  have vF := v.F
  have W := C.2.2.2.2.2.2.1
  have f9 := C.2.2.2.1.2.2.1.1
  have hda : 6 + 6 < d := by rcases C.2.1 with z | z <;> omega
  rcases hdC C x with ⟨hd, hh, rfl, e1, e2⟩ | ⟨e1, e2⟩
  · rcases cut y (m := R 0) (by omega) with ⟨f, hf, rfl, wt⟩ | ⟨hy, wf⟩
    · obtain ⟨ff, hff, fe, e3, -⟩ | ⟨e3, -⟩ := flC C (nI f)
      · rcases rg z (lo := 1) (hi := 99) (by omega) (by omega) with ⟨st, s1, s2, rfl⟩ | hz | ⟨hz1, hz2, hz3⟩
        · have is : ∀ g, fX8_isStrong (nI st) g = some (true, g) := fun g => by
            have a1 : ¬ st < 1 := by omega
            have a2 : st ≤ 99 := by omega
            have a3 : ¬ 99 < st := by omega
            simp (disch := omega) only [lI, lJ, gd_1, bd_1, bv_1, nm_1, ixN, inbN, eqN, leN, ltN, eqL, leL, ltL, beqN, beqL, nI_add, pk_mul, lN_add, lN_mul, nI_l, lN_i, pk_div, pk_lDiv, pk_sub, lN_sub, remN, remL, neg1, neg2, negL, negL2, M1e, M1f, M1g, M1h, M1i, M1j, M2e, M2f, L1g, L1h, L1i, L1j, les_eq, les_e, les_n, les_m, fX8_isStrong, a1, a2, a3, if_false, if_true]
          have W1 := (knS_ok v (hd := hd) (fl := f) (st := st) (R 4) (N, T) (Nat.le_refl _) W).1
          obtain ⟨a1, a2, a3, a4, a5⟩ := stA_ok v (R 4) _ (Nat.le_refl _) W1
          refine opAct G B D hq Q (knX R hd f st (R 4) (N, T)) a1 (fun s hs t ht => by rw [a3 0 (Or.inl rfl)]; exact a5 s hs t ht) (fun h1 k1 r1 D1 Q1 => ?_) (fun g0 g g1 Mg hg n2 Mr Qm => ?_)
          · obtain ⟨h2, e4, Q4, K4⟩ := cKnock D1 C.2.1 hda v (σ := (N, T)) Q1 W (by omega) hh hf s2
            obtain ⟨h3, e5, Q5, K5⟩ := cSteps (D1.N K4 hda) C.2.1 hda v Q4 W1 (by omega)
            have r2 : gR h2 0 10 = d := (K4 0 10 (fun z => by omega)).2.2.trans r1
            refine ⟨h3, ?_, Q5, K4.trans K5⟩
            simp (disch := omega) only [lI, lJ, gd_1, bd_1, bv_1, nm_1, ixN, inbN, eqN, leN, ltN, eqL, leL, ltL, beqN, beqL, nI_add, pk_mul, lN_add, lN_mul, nI_l, lN_i, pk_div, pk_lDiv, pk_sub, lN_sub, remN, remL, neg1, neg2, negL, negL2, M1e, M1f, M1g, M1h, M1i, M1j, M2e, M2f, L1g, L1h, L1i, L1j, les_eq, les_e, les_n, les_m, cond_true, cond_false, if_true, if_false, fX8_refuse, fX8_allow, fX8_allow_, Nat.not_lt_zero, Nat.reduceAdd, Nat.reduceLT, Nat.reduceLeDiff, Nat.reduceEqDiff, decide_false, decide_true, Bool.not_false, Bool.not_true, C.1, k, fX8_knock, e1, e3, f9, hf, is, k1, r1, e4, r2, e5]
          · have Qm' : MNRep g1 (N, T).1 (N, T).2 := Qm
            obtain ⟨g2, e4, Q4, K4⟩ := mKnock Mr v Qm' W hh hf s2
            obtain ⟨g3, e5, Q5, K5⟩ := mSteps (Mr.W K4) v Q4 W1 (by omega)
            refine ⟨g3, ?_, Q5, K4.trans K5⟩
            have m0 := Mg.2.1 0 (by omega)
            simp (disch := omega) only [lI, gd_1, bd_1, bv_1, inbN, ixN, fX9_knock, hg, e2 g Mg, cond_true, Nat.reduceAdd, m0, wt, wit3, n2, e4, e5]
        · refine refG G B D hq Q M1 2 (by omega) ?_ (fun h1 g Mg hg => ?_)
          · simp (disch := omega) only [lI, lJ, gd_1, bd_1, bv_1, nm_1, ixN, inbN, eqN, leN, ltN, eqL, leL, ltL, beqN, beqL, nI_add, pk_mul, lN_add, lN_mul, nI_l, lN_i, pk_div, pk_lDiv, pk_sub, lN_sub, remN, remL, neg1, neg2, negL, negL2, M1e, M1f, M1g, M1h, M1i, M1j, M2e, M2f, L1g, L1h, L1i, L1j, les_eq, les_e, les_n, les_m, cond_true, cond_false, if_true, if_false, fX8_refuse, fX8_allow, fX8_allow_, Nat.not_lt_zero, Nat.reduceAdd, Nat.reduceLT, Nat.reduceLeDiff, Nat.reduceEqDiff, decide_false, decide_true, Bool.not_false, Bool.not_true, C.1, k, fX8_knock, e1, e3, f9, hf, fX8_isStrong, hz]
          · have m0 := Mg.2.1 0 (by omega)
            simp (disch := omega) only [lI, gd_1, bd_1, bv_1, inbN, ixN, neg1, fX9_knock, fX9_no, hg, e2 g Mg, cond_true, cond_false, Nat.reduceAdd, m0, wt, wa hz]
        · refine refG G B D hq Q M1 2 (by omega) ?_ (fun h1 g Mg hg => ?_)
          · simp (disch := omega) only [lI, lJ, gd_1, bd_1, bv_1, nm_1, ixN, inbN, eqN, leN, ltN, eqL, leL, ltL, beqN, beqL, nI_add, pk_mul, lN_add, lN_mul, nI_l, lN_i, pk_div, pk_lDiv, pk_sub, lN_sub, remN, remL, neg1, neg2, negL, negL2, M1e, M1f, M1g, M1h, M1i, M1j, M2e, M2f, L1g, L1h, L1i, L1j, les_eq, les_e, les_n, les_m, cond_true, cond_false, if_true, if_false, fX8_refuse, fX8_allow, fX8_allow_, Nat.not_lt_zero, Nat.reduceAdd, Nat.reduceLT, Nat.reduceLeDiff, Nat.reduceEqDiff, decide_false, decide_true, Bool.not_false, Bool.not_true, C.1, k, fX8_knock, e1, e3, f9, hf, fX8_isStrong, hz1, hz2, hz3]
          · have m0 := Mg.2.1 0 (by omega)
            simp (disch := omega) only [lI, gd_1, bd_1, bv_1, inbN, ixN, neg1, fX9_knock, fX9_no, hg, e2 g Mg, cond_true, cond_false, Nat.reduceAdd, m0, wt, wb hz1 hz2]
      · exfalso
        have : fX8_isFloor 0 (nI f) h = some (true, h) := by
          have n1 : ¬ R 0 < f := by omega
          have z1 : ¬ (1 : Nat) = 0 := by omega
          simp (disch := omega) only [lI, lJ, gd_1, bd_1, bv_1, nm_1, ixN, inbN, eqN, leN, ltN, eqL, leL, ltL, beqN, beqL, nI_add, pk_mul, lN_add, lN_mul, nI_l, lN_i, pk_div, pk_lDiv, pk_sub, lN_sub, remN, remL, neg1, neg2, negL, negL2, M1e, M1f, M1g, M1h, M1i, M1j, M2e, M2f, L1g, L1h, L1i, L1j, les_eq, les_e, les_n, les_m, fX8_isFloor, C.1, C.2.2.1, k, f9, z1, n1, Nat.not_lt_zero, if_false]
        rw [this] at e3
        cases e3
    · have cls : fX8_knock 0 (nI hd) y z h = some (M1, sI h 0 16 (nI 1)) := by
        rcases flC C y with ⟨ff, hff, rfl, e3, -⟩ | ⟨e3, -⟩
        · have : ¬ ff < R 0 := by
            rcases hy with a | ⟨a1, a2, a3⟩
            · rw [ltN (by omega) (by omega)] at a; omega
            · rw [ltN (by omega) (by omega)] at a3; exact a3
          simp (disch := omega) only [lI, lJ, gd_1, bd_1, bv_1, nm_1, ixN, inbN, eqN, leN, ltN, eqL, leL, ltL, beqN, beqL, nI_add, pk_mul, lN_add, lN_mul, nI_l, lN_i, pk_div, pk_lDiv, pk_sub, lN_sub, remN, remL, neg1, neg2, negL, negL2, M1e, M1f, M1g, M1h, M1i, M1j, M2e, M2f, L1g, L1h, L1i, L1j, les_eq, les_e, les_n, les_m, cond_true, cond_false, if_true, if_false, fX8_refuse, fX8_allow, fX8_allow_, Nat.not_lt_zero, Nat.reduceAdd, Nat.reduceLT, Nat.reduceLeDiff, Nat.reduceEqDiff, decide_false, decide_true, Bool.not_false, Bool.not_true, C.1, k, fX8_knock, e1, e3, f9, this]
        · simp (disch := omega) only [lI, lJ, gd_1, bd_1, bv_1, nm_1, ixN, inbN, eqN, leN, ltN, eqL, leL, ltL, beqN, beqL, nI_add, pk_mul, lN_add, lN_mul, nI_l, lN_i, pk_div, pk_lDiv, pk_sub, lN_sub, remN, remL, neg1, neg2, negL, negL2, M1e, M1f, M1g, M1h, M1i, M1j, M2e, M2f, L1g, L1h, L1i, L1j, les_eq, les_e, les_n, les_m, cond_true, cond_false, if_true, if_false, fX8_refuse, fX8_allow, fX8_allow_, Nat.not_lt_zero, Nat.reduceAdd, Nat.reduceLT, Nat.reduceLeDiff, Nat.reduceEqDiff, decide_false, decide_true, Bool.not_false, Bool.not_true, C.1, k, fX8_knock, e1, e3]
      refine refG G B D hq Q M1 1 (by omega) cls (fun h1 g Mg hg => ?_)
      have m0 := Mg.2.1 0 (by omega)
      simp (disch := omega) only [lI, gd_1, bd_1, bv_1, inbN, ixN, neg1, fX9_knock, fX9_no, hg, e2 g Mg, cond_true, cond_false, Nat.reduceAdd, m0, wf]
  · refine refG G B D hq Q M1 1 (by omega) ?_ (fun h1 g Mg hg => ?_)
    · simp (disch := omega) only [lI, lJ, gd_1, bd_1, bv_1, nm_1, ixN, inbN, eqN, leN, ltN, eqL, leL, ltL, beqN, beqL, nI_add, pk_mul, lN_add, lN_mul, nI_l, lN_i, pk_div, pk_lDiv, pk_sub, lN_sub, remN, remL, neg1, neg2, negL, negL2, M1e, M1f, M1g, M1h, M1i, M1j, M2e, M2f, L1g, L1h, L1i, L1j, les_eq, les_e, les_n, les_m, cond_true, cond_false, if_true, if_false, fX8_refuse, fX8_allow, fX8_allow_, Nat.not_lt_zero, Nat.reduceAdd, Nat.reduceLT, Nat.reduceLeDiff, Nat.reduceEqDiff, decide_false, decide_true, Bool.not_false, Bool.not_true, C.1, k, fX8_knock, e1]
    · simp (disch := omega) only [lI, lJ, gd_1, bd_1, bv_1, nm_1, ixN, inbN, eqN, leN, ltN, eqL, leL, ltL, beqN, beqL, nI_add, pk_mul, lN_add, lN_mul, nI_l, lN_i, pk_div, pk_lDiv, pk_sub, lN_sub, remN, remL, neg1, neg2, negL, negL2, M1e, M1f, M1g, M1h, M1i, M1j, M2e, M2f, L1g, L1h, L1i, L1j, les_eq, les_e, les_n, les_m, cond_true, cond_false, if_true, if_false, fX9_no, hg, Nat.not_lt_zero, Nat.reduceAdd, Nat.reduceLT, Nat.reduceLeDiff, Nat.reduceEqDiff, decide_false, decide_true, Bool.not_false, Bool.not_true, fX9_knock, e2 g Mg]
set_option maxRecDepth 100000 in
theorem gLie (G : GR h) (B : TRB h) (D : GD h d R N T) {q : Nat} (hq : q ≤ n) (Q : MtR h q) (x y : Int32) : OpG h n (fun h => fX8_lie 0 x y h) (fun h => fX9_lie 181 x y h) := by
  have C := D.1
  have k := isKb_D C.2.1
  have v := C.2.2.2.2.1
  have vS := v.S
  have vF := v.F
  have vH := v.H
  have W := C.2.2.2.2.2.2.1
  have f9 := C.2.2.2.1.2.2.1.1
  have hda : 6 + 6 < d := by rcases C.2.1 with z | z <;> omega
  rcases slC C x with ⟨s, hs, rfl, e1, e2⟩ | ⟨e1, e2⟩
  · rcases hdC C y with ⟨hd, hh, rfl, e3, e4⟩ | ⟨e3, e4⟩
    · have q := C.2.2.2.2.2.1.2.1 s (by omega)
      have w := W.2.1 s (by omega)
      by_cases c : R 0 ≤ N (4 * s + 0) ∨ (0 < N (4 * s + 0) ∧ N (4 * s + 1) ≠ hd + 1)
      · refine refG G B D hq Q M1 5 (by omega) ?_ (fun h1 g Mg hg => ?_)
        · by_cases c0 : N (4 * s + 0) ≤ 0
          · omega
          · by_cases ch : N (4 * s + 1) = hd + 1
            · have c9 : R 0 ≤ N (4 * s + 0) := by omega
              simp (disch := omega) only [lI, lJ, gd_1, bd_1, bv_1, nm_1, ixN, inbN, eqN, leN, ltN, eqL, leL, ltL, beqN, beqL, nI_add, pk_mul, lN_add, lN_mul, nI_l, lN_i, pk_div, pk_lDiv, pk_sub, lN_sub, remN, remL, neg1, neg2, negL, negL2, M1e, M1f, M1g, M1h, M1i, M1j, M2e, M2f, L1g, L1h, L1i, L1j, les_eq, les_e, les_n, les_m, cond_true, cond_false, if_true, if_false, fX8_refuse, fX8_allow, fX8_allow_, Nat.not_lt_zero, Nat.reduceAdd, Nat.reduceLT, Nat.reduceLeDiff, Nat.reduceEqDiff, decide_false, decide_true, Bool.not_false, Bool.not_true, C.1, k, fX8_lie, fX8_lie_b51, fX8_lie_b52, e1, e3, q, c0, eq_true ch, f9, c9]
            · by_cases c9 : R 0 ≤ N (4 * s + 0)
              · simp (disch := omega) only [lI, lJ, gd_1, bd_1, bv_1, nm_1, ixN, inbN, eqN, leN, ltN, eqL, leL, ltL, beqN, beqL, nI_add, pk_mul, lN_add, lN_mul, nI_l, lN_i, pk_div, pk_lDiv, pk_sub, lN_sub, remN, remL, neg1, neg2, negL, negL2, M1e, M1f, M1g, M1h, M1i, M1j, M2e, M2f, L1g, L1h, L1i, L1j, les_eq, les_e, les_n, les_m, cond_true, cond_false, if_true, if_false, fX8_refuse, fX8_allow, fX8_allow_, Nat.not_lt_zero, Nat.reduceAdd, Nat.reduceLT, Nat.reduceLeDiff, Nat.reduceEqDiff, decide_false, decide_true, Bool.not_false, Bool.not_true, C.1, k, fX8_lie, fX8_lie_b51, fX8_lie_b52, e1, e3, q, c0, ch, f9, c9]
              · simp (disch := omega) only [lI, lJ, gd_1, bd_1, bv_1, nm_1, ixN, inbN, eqN, leN, ltN, eqL, leL, ltL, beqN, beqL, nI_add, pk_mul, lN_add, lN_mul, nI_l, lN_i, pk_div, pk_lDiv, pk_sub, lN_sub, remN, remL, neg1, neg2, negL, negL2, M1e, M1f, M1g, M1h, M1i, M1j, M2e, M2f, L1g, L1h, L1i, L1j, les_eq, les_e, les_n, les_m, cond_true, cond_false, if_true, if_false, fX8_refuse, fX8_allow, fX8_allow_, Nat.not_lt_zero, Nat.reduceAdd, Nat.reduceLT, Nat.reduceLeDiff, Nat.reduceEqDiff, decide_false, decide_true, Bool.not_false, Bool.not_true, C.1, k, fX8_lie, fX8_lie_b51, fX8_lie_b52, e1, e3, q, c0, ch, f9, c9]
        · have m0 := Mg.2.1 0 (by omega)
          by_cases c9 : N (4 * s + 0) = R 0
          · simp (disch := omega) only [lI, lJ, gd_1, bd_1, bv_1, nm_1, ixN, inbN, eqN, leN, ltN, eqL, leL, ltL, beqN, beqL, nI_add, pk_mul, lN_add, lN_mul, nI_l, lN_i, pk_div, pk_lDiv, pk_sub, lN_sub, remN, remL, neg1, neg2, negL, negL2, M1e, M1f, M1g, M1h, M1i, M1j, M2e, M2f, L1g, L1h, L1i, L1j, les_eq, les_e, les_n, les_m, cond_true, cond_false, if_true, if_false, fX9_no, hg, Nat.not_lt_zero, Nat.reduceAdd, Nat.reduceLT, Nat.reduceLeDiff, Nat.reduceEqDiff, decide_false, decide_true, Bool.not_false, Bool.not_true, fX9_lie, e2 g Mg, e4 g Mg, mIts Mg.2.2.2.1, m0, eq_true c9]
          · have c0 : ¬ N (4 * s + 0) ≤ 0 := by omega
            have ch : ¬ N (4 * s + 1) = hd + 1 := by omega
            simp (disch := omega) only [lI, lJ, gd_1, bd_1, bv_1, nm_1, ixN, inbN, eqN, leN, ltN, eqL, leL, ltL, beqN, beqL, nI_add, pk_mul, lN_add, lN_mul, nI_l, lN_i, pk_div, pk_lDiv, pk_sub, lN_sub, remN, remL, neg1, neg2, negL, negL2, M1e, M1f, M1g, M1h, M1i, M1j, M2e, M2f, L1g, L1h, L1i, L1j, les_eq, les_e, les_n, les_m, cond_true, cond_false, if_true, if_false, fX9_no, hg, Nat.not_lt_zero, Nat.reduceAdd, Nat.reduceLT, Nat.reduceLeDiff, Nat.reduceEqDiff, decide_false, decide_true, Bool.not_false, Bool.not_true, fX9_lie, e2 g Mg, e4 g Mg, mIts Mg.2.2.2.1, m0, c9, c0, ch]
      · obtain ⟨o1, o2, o3⟩ := cmOk v W (s := s) (fl := N (4 * s + 0) + 1) (hd := hd + 1) hs (by omega) (by omega) (fun _ => by omega)
        have c9 : ¬ R 0 ≤ N (4 * s + 0) := by omega
        have c9' : ¬ N (4 * s + 0) = R 0 := by omega
        refine opAct G B D hq Q (nI ((stA R (R 4) (cmS s (N (4 * s + 0) + 1) (hd + 1) (N, T))).1 (4 * s + 0))) o1 o2 (fun h1 k1 r1 D1 Q1 => ?_) (fun g0 g g1 Mg hg n2 Mr Qm => ?_)
        · obtain ⟨h2, e5, Q5, K5⟩ := cCome D1 hda v (σ := (N, T)) Q1 W (by omega) hs (fl := N (4 * s + 0) + 1) (hd := hd + 1) (x3 := nI (N (4 * s + 0) + 1)) (x4 := nI hd) (clK (by omega) (by omega)) (by omega) (fun _ _ => rfl)
          have eh : (if (N, T).1 (4 * s + 0) = 0 then hd + 1 else (N, T).1 (4 * s + 1)) = hd + 1 := by
            by_cases z : N (4 * s + 0) = 0
            · exact if_pos z
            · refine (if_neg z).trans ?_
              show N (4 * s + 1) = hd + 1
              omega
          rw [eh] at Q5
          obtain ⟨h3, e6, Q6, K6⟩ := cSteps (D1.N K5 hda) C.2.1 hda v Q5 o3 (by omega)
          have r2 : gR h2 0 10 = d := (K5 0 10 (fun z => by omega)).2.2.trans r1
          have q6 := Q6.2.1 s (by omega)
          have q1 := Q1.2.1 s (by omega)
          refine ⟨h3, ?_, Q6, K5.trans K6⟩
          by_cases c0 : N (4 * s + 0) ≤ 0
          · simp (disch := omega) only [lI, lJ, gd_1, bd_1, bv_1, nm_1, ixN, inbN, eqN, leN, ltN, eqL, leL, ltL, beqN, beqL, nI_add, pk_mul, lN_add, lN_mul, nI_l, lN_i, pk_div, pk_lDiv, pk_sub, lN_sub, remN, remL, neg1, neg2, negL, negL2, M1e, M1f, M1g, M1h, M1i, M1j, M2e, M2f, L1g, L1h, L1i, L1j, les_eq, les_e, les_n, les_m, cond_true, cond_false, if_true, if_false, fX8_refuse, fX8_allow, fX8_allow_, Nat.not_lt_zero, Nat.reduceAdd, Nat.reduceLT, Nat.reduceLeDiff, Nat.reduceEqDiff, decide_false, decide_true, Bool.not_false, Bool.not_true, C.1, k, fX8_lie, fX8_lie_b51, fX8_lie_b52, e1, e3, q, c0, f9, c9, k1, r1, q1, e5, r2, e6, q6]
          · have ch : N (4 * s + 1) = hd + 1 := by omega
            simp (disch := omega) only [lI, lJ, gd_1, bd_1, bv_1, nm_1, ixN, inbN, eqN, leN, ltN, eqL, leL, ltL, beqN, beqL, nI_add, pk_mul, lN_add, lN_mul, nI_l, lN_i, pk_div, pk_lDiv, pk_sub, lN_sub, remN, remL, neg1, neg2, negL, negL2, M1e, M1f, M1g, M1h, M1i, M1j, M2e, M2f, L1g, L1h, L1i, L1j, les_eq, les_e, les_n, les_m, cond_true, cond_false, if_true, if_false, fX8_refuse, fX8_allow, fX8_allow_, Nat.not_lt_zero, Nat.reduceAdd, Nat.reduceLT, Nat.reduceLeDiff, Nat.reduceEqDiff, decide_false, decide_true, Bool.not_false, Bool.not_true, C.1, k, fX8_lie, fX8_lie_b51, fX8_lie_b52, e1, e3, q, c0, eq_true ch, f9, c9, k1, r1, q1, e5, r2, e6, q6]
        · have Q1 : MNRep (sI g1 186 (4 * s + 1) (nI (hd + 1))) (up N (4 * s + 1) (hd + 1)) T := Qm.sI
          have K1 : Keep PW g1 (sI g1 186 (4 * s + 1) (nI (hd + 1))) := Keep.rfl.W1 (by omega)
          obtain ⟨g2, e5, Q5, K5⟩ := mCome Q1 (s := s) (fl := N (4 * s + 0) + 1) (by omega) (by omega)
          rw [up_s] at Q5
          have Q5' : MNRep g2 (cmS s (N (4 * s + 0) + 1) (hd + 1) (N, T)).1 (cmS s (N (4 * s + 0) + 1) (hd + 1) (N, T)).2 := Q5.congr (fun j hj => by
            simp only [cmS]
            by_cases z1 : j = 4 * s + 1
            · rw [z1, up_s, up_s]
            · rw [up_o z1, up_o z1]
              by_cases z0 : j = 4 * s + 0
              · rw [z0, up_s, up_s]
              · rw [up_o z0, up_o z0, up_o z1]) (fun j hj => rfl)
          obtain ⟨g3, e6, Q6, K6⟩ := mSteps (Mr.W (K1.trans K5)) v Q5' o3 (by omega)
          refine ⟨g3, ?_, Q6, (K1.trans K5).trans K6⟩
          have m0 := Mg.2.1 0 (by omega)
          by_cases c0 : N (4 * s + 0) ≤ 0
          · simp (disch := omega) only [lI, lJ, gd_1, bd_1, bv_1, nm_1, ixN, inbN, eqN, leN, ltN, eqL, leL, ltL, beqN, beqL, nI_add, pk_mul, lN_add, lN_mul, nI_l, lN_i, pk_div, pk_lDiv, pk_sub, lN_sub, remN, remL, neg1, neg2, negL, negL2, M1e, M1f, M1g, M1h, M1i, M1j, M2e, M2f, L1g, L1h, L1i, L1j, les_eq, les_e, les_n, les_m, cond_true, cond_false, if_true, if_false, fX9_no, hg, Nat.not_lt_zero, Nat.reduceAdd, Nat.reduceLT, Nat.reduceLeDiff, Nat.reduceEqDiff, decide_false, decide_true, Bool.not_false, Bool.not_true, fX9_lie, e2 g Mg, e4 g Mg, mIts Mg.2.2.2.1, m0, c9', c0, n2, e5, e6, mIts Q6]
          · have ch : N (4 * s + 1) = hd + 1 := by omega
            simp (disch := omega) only [lI, lJ, gd_1, bd_1, bv_1, nm_1, ixN, inbN, eqN, leN, ltN, eqL, leL, ltL, beqN, beqL, nI_add, pk_mul, lN_add, lN_mul, nI_l, lN_i, pk_div, pk_lDiv, pk_sub, lN_sub, remN, remL, neg1, neg2, negL, negL2, M1e, M1f, M1g, M1h, M1i, M1j, M2e, M2f, L1g, L1h, L1i, L1j, les_eq, les_e, les_n, les_m, cond_true, cond_false, if_true, if_false, fX9_no, hg, Nat.not_lt_zero, Nat.reduceAdd, Nat.reduceLT, Nat.reduceLeDiff, Nat.reduceEqDiff, decide_false, decide_true, Bool.not_false, Bool.not_true, fX9_lie, e2 g Mg, e4 g Mg, mIts Mg.2.2.2.1, m0, c9', c0, eq_true ch, n2, e5, e6, mIts Q6]
    · refine refG G B D hq Q M1 1 (by omega) ?_ (fun h1 g Mg hg => ?_)
      · simp (disch := omega) only [lI, lJ, gd_1, bd_1, bv_1, nm_1, ixN, inbN, eqN, leN, ltN, eqL, leL, ltL, beqN, beqL, nI_add, pk_mul, lN_add, lN_mul, nI_l, lN_i, pk_div, pk_lDiv, pk_sub, lN_sub, remN, remL, neg1, neg2, negL, negL2, M1e, M1f, M1g, M1h, M1i, M1j, M2e, M2f, L1g, L1h, L1i, L1j, les_eq, les_e, les_n, les_m, cond_true, cond_false, if_true, if_false, fX8_refuse, fX8_allow, fX8_allow_, Nat.not_lt_zero, Nat.reduceAdd, Nat.reduceLT, Nat.reduceLeDiff, Nat.reduceEqDiff, decide_false, decide_true, Bool.not_false, Bool.not_true, C.1, k, fX8_lie, e1, e3]
      · simp (disch := omega) only [lI, lJ, gd_1, bd_1, bv_1, nm_1, ixN, inbN, eqN, leN, ltN, eqL, leL, ltL, beqN, beqL, nI_add, pk_mul, lN_add, lN_mul, nI_l, lN_i, pk_div, pk_lDiv, pk_sub, lN_sub, remN, remL, neg1, neg2, negL, negL2, M1e, M1f, M1g, M1h, M1i, M1j, M2e, M2f, L1g, L1h, L1i, L1j, les_eq, les_e, les_n, les_m, cond_true, cond_false, if_true, if_false, fX9_no, hg, Nat.not_lt_zero, Nat.reduceAdd, Nat.reduceLT, Nat.reduceLeDiff, Nat.reduceEqDiff, decide_false, decide_true, Bool.not_false, Bool.not_true, fX9_lie, e2 g Mg, e4 g Mg]
  · refine refG G B D hq Q M1 1 (by omega) ?_ (fun h1 g Mg hg => ?_)
    · simp (disch := omega) only [lI, lJ, gd_1, bd_1, bv_1, nm_1, ixN, inbN, eqN, leN, ltN, eqL, leL, ltL, beqN, beqL, nI_add, pk_mul, lN_add, lN_mul, nI_l, lN_i, pk_div, pk_lDiv, pk_sub, lN_sub, remN, remL, neg1, neg2, negL, negL2, M1e, M1f, M1g, M1h, M1i, M1j, M2e, M2f, L1g, L1h, L1i, L1j, les_eq, les_e, les_n, les_m, cond_true, cond_false, if_true, if_false, fX8_refuse, fX8_allow, fX8_allow_, Nat.not_lt_zero, Nat.reduceAdd, Nat.reduceLT, Nat.reduceLeDiff, Nat.reduceEqDiff, decide_false, decide_true, Bool.not_false, Bool.not_true, C.1, k, fX8_lie, e1]
    · simp (disch := omega) only [lI, lJ, gd_1, bd_1, bv_1, nm_1, ixN, inbN, eqN, leN, ltN, eqL, leL, ltL, beqN, beqL, nI_add, pk_mul, lN_add, lN_mul, nI_l, lN_i, pk_div, pk_lDiv, pk_sub, lN_sub, remN, remL, neg1, neg2, negL, negL2, M1e, M1f, M1g, M1h, M1i, M1j, M2e, M2f, L1g, L1h, L1i, L1j, les_eq, les_e, les_n, les_m, cond_true, cond_false, if_true, if_false, fX9_no, hg, Nat.not_lt_zero, Nat.reduceAdd, Nat.reduceLT, Nat.reduceLeDiff, Nat.reduceEqDiff, decide_false, decide_true, Bool.not_false, Bool.not_true, fX9_lie, e2 g Mg]
end ACTS2
