section ACTS3
variable {h : HH} {d n : Nat} {R N T : Nat → Nat}
set_option maxRecDepth 100000 in
theorem gUndo (G : GR h) (B : TRB h) (D : GD h d R N T) {q : Nat} (hq : q ≤ n) (Q : MtR h q) : OpG h n (fun h => fX8_undo 0 h) (fun h => fX9_undo 181 h) := by
  obtain ⟨u, NN, TT, m, II, JJ, hu, hm3, ca, ma, va, ci, mi, vi⟩ := unA D G
  have C := D.1
  obtain ⟨c1, c2, c3, Dr, v, Qc, Wc, Sc⟩ := id C
  have vS := v.S
  obtain ⟨l6, l7, l8, l9, l0, l1, l2, l3⟩ := ln186
  rcases Nat.eq_zero_or_pos u with z | z
  · subst z
    have c0 := ca.1
    have nn : ¬ (0 : Nat) < 0 := by omega
    refine opA G B C D.2.1 D.2.2.2.2.1 D.2.2.2.2.2 hq Q ma mi (u' := 0) (NN' := NN) (TT' := TT) false 6 (by omega) (h1 := sI h 0 16 (nI 6)) ?_ (gIs _ _ _ _) (Keep.sI Keep.rfl (by unfold PA; omega)) (ca.keep (by omega) (Keep.sI Keep.rfl (by omega))) (ci.keep hm3 (Keep.sI Keep.rfl (by omega))) (Qc.keep (P := fun b k => ¬ (b = 0 ∧ k = 16)) (Keep.sI Keep.rfl (fun z => z ⟨rfl, rfl⟩)) (fun b k _ _ => by omega)) (fun g0 M0 ma0 mi0 => ?_) (by omega) hm3 Wc Sc va vi
    · simp (disch := omega) only [lI, fX8_undo, c0, ltN, nn, if_false]
    · obtain ⟨g, hg, Mg, Kg, t0⟩ := mGood M0
      have p25 := (ma0.keep (Kg.mono (fun x k hp => by unfold PM; omega))).1
      have gg : Keep (fun b k => ¬ (b = 181 ∧ (k = 0 ∨ k = 11))) g0 g := by
        have : g = sI (sI g0 181 0 0) 181 11 0 := (Option.some.inj hg).symm
        rw [this]
        exact Keep.sI (Keep.sI Keep.rfl (fun z => by omega)) (fun z => by omega)
      refine ⟨sI g 181 11 (nI 6), ?_, gIs _ _ _ _, ⟨fun k hk => by rw [gIa (by omega)]; exact Mg.2.2.2.1.1 k hk, fun k hk => by rw [gL_sI]; exact Mg.2.2.2.1.2 k hk⟩, ma0.keep (Keep.sI (gg.mono (fun x k hp => by omega)) (by omega)), mi0.keep (Keep.sI (gg.mono (fun x k hp => by omega)) (by omega)), Keep.sI (gg.mono (fun x k hp => by unfold PB at hp; omega)) (by unfold PB; omega)⟩
      simp (disch := omega) only [lI, bd_1, bv_1, fX9_undo, hg, p25, if_true, fX9_isNot]
  · obtain ⟨w, rfl⟩ : ∃ w, u = w + 1 := ⟨u - 1, by omega⟩
    obtain ⟨j, j1, j2⟩ := ca.2.1.1 w (by omega)
    have K0 : Keep (fun b k => ¬ (b = 0 ∧ k = 14)) h (sI h 0 14 (nI w)) := Keep.sI Keep.rfl (fun z => z ⟨rfl, rfl⟩)
    obtain ⟨h1, e1, q1, K1⟩ := cCopy (h := sI h 0 14 (nI w)) (a := 76 + 7 * j) (b := 6) (by omega)
    have old := ca.2.2 w (by omega)
    rw [j2] at old
    have old' : NRep (sI h 0 14 (nI w)) (76 + 7 * j) R (NN w) (TT w) := old.keep K0 (fun b k _ _ => by omega)
    have Q1 := q1.rep old' vS.2
    have c0 := ca.1
    have nn : 0 < w + 1 := by omega
    have KA : Keep (fun b k => ¬ (b = 0 ∧ k = 14) ∧ PN 6 b k) h h1 := (K0.mono (fun x k hp => hp.1)).trans (K1.mono (fun x k hp => hp.2))
    refine opA G B C D.2.1 D.2.2.2.2.1 D.2.2.2.2.2 hq Q ma mi (u' := w) (NN' := NN) (TT' := TT) (N' := NN w) (T' := TT w) true 0 (by omega) (h1 := sI h1 0 16 (nI 0)) ?_ (gIs _ _ _ _) (Keep.sI (KA.mono (fun x k hp => by unfold PA at hp; exact ⟨by omega, fun z => by omega⟩)) (by unfold PA; omega)) ?_ (ci.keep hm3 (Keep.sI (KA.mono (fun x k hp => ⟨by omega, fun z => by omega⟩)) (by omega))) (Q1.keep (P := fun b k => ¬ (b = 0 ∧ k = 16)) (Keep.sI Keep.rfl (fun z => z ⟨rfl, rfl⟩)) (fun b k _ _ => by omega)) (fun g0 M0 ma0 mi0 => ?_) (by omega) hm3 (va w (by omega)).1 (va w (by omega)).2 (fun i hi => va i (by omega)) vi
    · simp (disch := omega) only [lI, gd_1, bv_1, inbN, ixN, pk_sub, Nat.add_sub_cancel, fX8_undo, c0, ltN, nn, if_true, gIs, Nat.reduceAdd, gR_sI, j2, kb2 j j1, e1]
    · have eR : ∀ i, gR (sI h1 0 16 (nI 0)) 42 i = gR h 42 i := fun i => by rw [gR_sI]; exact (KA 42 i ⟨by omega, fun z => by omega⟩).2.2
      refine ⟨?_, ⟨fun i hi => by rw [eR]; exact ca.2.1.1 i hi, fun i i' a b y => by rw [eR, eR] at y; exact ca.2.1.2 i i' a b y⟩, fun i hi => ?_⟩
      · rw [gIk (by omega), (K1 0 14 (fun z => by omega)).1, gIs]
      · rw [eR]
        obtain ⟨j', j1', j2'⟩ := ca.2.1.1 i (by omega)
        have o := ca.2.2 i (by omega)
        rw [j2'] at o ⊢
        exact (o.keep KA (fun b k h1 h2 => ⟨by omega, fun z => by omega⟩)).keep (P := fun b k => ¬ (b = 0 ∧ k = 16)) (Keep.sI Keep.rfl (fun z => z ⟨rfl, rfl⟩)) (fun b k _ _ => by omega)
    · obtain ⟨g, hg, Mg, Kg, t0⟩ := mGood M0
      have gg : Keep (fun b k => ¬ (b = 181 ∧ (k = 0 ∨ k = 11))) g0 g := by
        have : g = sI (sI g0 181 0 0) 181 11 0 := (Option.some.inj hg).symm
        rw [this]
        exact Keep.sI (Keep.sI Keep.rfl (fun z => by omega)) (fun z => by omega)
      have mag := ma0.keep (gg.mono (fun x k hp => by omega))
      have mig := mi0.keep (gg.mono (fun x k hp => by omega))
      obtain ⟨a1, f1, v1, L1⟩ := mCopy (g := sI g 181 25 (nI w)) (a := 187) (b := 186) (i := 20 * w) (j := 0) (n := 20) (by omega) (by omega) (by omega) (by omega) (by omega) (by omega)
      obtain ⟨a2, f2, v2, L2⟩ := mCopyL (g := a1) (a := 191) (b := 190) (i := 31 * w) (j := 0) (by omega) (by omega) (by omega) (by omega) (by omega)
      have rw1 := mag.2 w (by omega)
      have p25 := mag.1
      have n0 : ¬ w + 1 = 0 := by omega
      have p25' : gI a1 181 25 = nI w := (L1 181 25 (fun z => by omega)).1.trans (gIs _ _ _ _)
      have KB : Keep (fun b k => ¬ (b = 181 ∧ k = 25) ∧ b ≠ 186 ∧ b ≠ 190) g a2 := (Keep.sI Keep.rfl (fun z => z.1 ⟨rfl, rfl⟩) : Keep (fun b k => ¬ (b = 181 ∧ k = 25) ∧ b ≠ 186 ∧ b ≠ 190) g (sI g 181 25 (nI w))).trans ((L1.mono (fun x k hp z => hp.2.1 z.1)).trans (L2.mono (fun x k hp z => hp.2.2 z.1)))
      refine ⟨a2, ?_, ?_, ⟨fun k hk => ?_, fun k hk => ?_⟩, ⟨?_, fun i hi => (mag.2 i (by omega)).keep (fun k _ => (KB 187 _ ⟨by omega, by omega, by omega⟩).1) (fun k _ => (KB 191 _ ⟨by omega, by omega, by omega⟩).2.1)⟩, mig.keep (KB.mono (fun x k hp => ⟨by omega, by omega, by omega⟩)), (gg.mono (fun x k hp => by unfold PB at hp; omega)).trans (KB.mono (fun x k hp => by unfold PB at hp; exact ⟨by omega, by omega, by omega⟩))⟩
      · simp (disch := omega) only [lI, bd_1, bv_1, pk_mul, pk_sub, Nat.add_sub_cancel, eqN, fX9_undo, hg, p25, n0, if_false, gIs, Nat.reduceAdd, f1, p25', f2]
      · exact (KB 181 11 ⟨by omega, by omega, by omega⟩).1.trans t0
      · have := v1 k hk
        rw [Nat.zero_add] at this
        rw [(L2 186 k (fun z => by omega)).1, this, gIa (by omega)]; exact rw1.1 k hk
      · have := v2 k hk
        rw [Nat.zero_add] at this
        rw [this, (L1 191 _ (fun z => by omega)).2.1, gL_sI]; exact rw1.2 k hk
      · exact (L2 181 25 (fun z => by omega)).1.trans p25'
set_option maxRecDepth 100000 in
theorem gImage (G : GR h) (B : TRB h) (D : GD h d R N T) {q : Nat} (hq : q ≤ n) (Q : MtR h q) : OpG h n (fun h => fX8_image 0 h) (fun h => fX9_image 181 h) := by
  obtain ⟨u, NN, TT, m, II, JJ, hu, hm3, ca, ma, va, ci, mi, vi⟩ := unA D G
  have C := D.1
  obtain ⟨c1, c2, c3, Dr, v, Qc, Wc, Sc⟩ := id C
  have vS := v.S
  obtain ⟨l6, l7, l8, l9, l0, l1, l2, l3⟩ := ln186
  have z1 : ¬ (1 : Nat) = 0 := by omega
  have c15 := ci.1
  by_cases c : m < 3
  · have im := G.2.2.2.1 m c
    obtain ⟨h1, e1, q1, K1⟩ := cCopy (h := h) (a := 6) (b := 160 + 7 * m) (by omega)
    have Q1 := q1.rep Qc vS.2
    have p15 : gI h1 0 15 = nI m := (K1 0 15 (fun z => by omega)).1.trans c15
    have fin : Keep (fun b k => ¬ (b = 0 ∧ (k = 15 ∨ k = 16))) h1 (sI (sI h1 0 15 (nI (m + 1))) 0 16 (nI 0)) := Keep.sI (Keep.sI Keep.rfl (fun z => by omega)) (fun z => by omega)
    refine opA G B C D.2.1 D.2.2.2.2.1 D.2.2.2.2.2 hq Q ma mi (u' := u) (NN' := NN) (TT' := TT) (m' := m + 1) (II' := fun i => if i = m then N else II i) (JJ' := fun i => if i = m then T else JJ i) (nI m) 0 (by omega) (h1 := sI (sI h1 0 15 (nI (m + 1))) 0 16 (nI 0)) ?_ (gIs _ _ _ _) ((K1.mono (fun x k hp z => by unfold PA at hp; omega)).trans (fin.mono (fun x k hp => by unfold PA at hp; omega))) (ca.keep hu ((K1.mono (fun x k hp z => by omega)).trans (fin.mono (fun x k hp => by omega)))) ⟨?_, fun i hi => ?_⟩ (Qc.keep ((K1.mono (fun x k (hp : 6 ≤ x ∧ x ≤ 12) z => by omega)).trans (fin.mono (fun x k hp => by omega))) (fun b k h1 h2 => ⟨h1, h2⟩)) (fun g0 M0 ma0 mi0 => ?_) hu (by omega) Wc Sc va (fun i hi => ?_)
    · simp (disch := omega) only [lI, gd_1, bd_1, bv_1, inbN, ixN, pk_sub, Nat.add_sub_cancel, nI_add, fX8_image, fX8_allow, c3, eqN, z1, if_false, c15, ltN, c, if_true, Nat.reduceAdd, im, kb3 m c, e1, p15, gIs]
    · rw [gIk (by omega), gIs]
    · show NRep _ _ R (if i = m then N else II i) (if i = m then T else JJ i)
      by_cases z : i = m
      · rw [if_pos z, if_pos z, z]; exact Q1.keep fin (fun b k _ _ => by omega)
      · rw [if_neg z, if_neg z]
        exact ((ci.2 i (by omega)).keep K1 (fun b k h1 h2 y => by omega)).keep fin (fun b k _ _ => by omega)
    · obtain ⟨g, hg, Mg, Kg, t0⟩ := mGood M0
      have gg : Keep (fun b k => ¬ (b = 181 ∧ (k = 0 ∨ k = 11))) g0 g := by
        have : g = sI (sI g0 181 0 0) 181 11 0 := (Option.some.inj hg).symm
        rw [this]
        exact Keep.sI (Keep.sI Keep.rfl (fun z => by omega)) (fun z => by omega)
      have mag := ma0.keep (gg.mono (fun x k hp => by omega))
      have mig := mi0.keep (gg.mono (fun x k hp => by omega))
      obtain ⟨a1, f1, v1, L1⟩ := mCopy (g := g) (a := 186) (b := 188) (i := 0) (j := 20 * m) (n := 20) (by omega) (by omega) (by omega) (by omega) (by omega) (by omega)
      obtain ⟨a2, f2, v2, L2⟩ := mCopyL (g := a1) (a := 190) (b := 192) (i := 0) (j := 31 * m) (by omega) (by omega) (by omega) (by omega) (by omega)
      have p26 := mig.1
      have p26' : gI a1 181 26 = nI m := (L1 181 26 (fun z => by omega)).1.trans p26
      have p26'' : gI a2 181 26 = nI m := (L2 181 26 (fun z => by omega)).1.trans p26'
      have n3 : ¬ m = 3 := by omega
      have KB : Keep (fun b k => b ≠ 188 ∧ b ≠ 192) g a2 := (L1.mono (fun x k hp z => hp.1 z.1)).trans (L2.mono (fun x k hp z => hp.2 z.1))
      have KC : Keep (fun b k => ¬ (b = 181 ∧ k = 26)) a2 (sI a2 181 26 (nI (m + 1))) := Keep.sI Keep.rfl (fun z => z ⟨rfl, rfl⟩)
      refine ⟨sI a2 181 26 (nI (m + 1)), ?_, ?_, ⟨fun k hk => ?_, fun k hk => ?_⟩, mag.keep ((KB.mono (fun x k hp => ⟨by omega, by omega⟩)).trans (KC.mono (fun x k hp => by omega))), ⟨gIs _ _ _ _, fun i hi => ?_⟩, (gg.mono (fun x k hp => by unfold PB at hp; omega)).trans ((KB.mono (fun x k hp => by unfold PB at hp; exact ⟨by omega, by omega⟩)).trans (KC.mono (fun x k hp => by unfold PB at hp; omega)))⟩
      · simp (disch := omega) only [lI, bd_1, bv_1, pk_mul, nI_add, pk_sub, Nat.add_sub_cancel, eqN, fX9_image, hg, Mg.1, z1, if_false, p26, n3, Nat.reduceAdd, f1, p26', f2, p26'', gIs]
      · rw [gIk (by omega)]; exact (KB 181 11 ⟨by omega, by omega⟩).1.trans t0
      · rw [gIa (by omega), (KB 186 k ⟨by omega, by omega⟩).1]; exact Mg.2.2.2.1.1 k hk
      · rw [gL_sI, (KB 190 k ⟨by omega, by omega⟩).2.1]; exact Mg.2.2.2.1.2 k hk
      · show MRw _ 188 192 i (if i = m then N else II i) (if i = m then T else JJ i)
        by_cases z : i = m
        · rw [if_pos z, if_pos z, z]
          refine ⟨fun k hk => ?_, fun k hk => ?_⟩
          · rw [gIa (by omega), (L2 188 _ (fun z => by omega)).1, v1 k hk, Nat.zero_add]; exact Mg.2.2.2.1.1 k hk
          · rw [gL_sI, v2 k hk, Nat.zero_add, (L1 190 _ (fun z => by omega)).2.1]; exact Mg.2.2.2.1.2 k hk
        · rw [if_neg z, if_neg z]
          refine (mig.2 i (by omega)).keep (fun k hk => ?_) (fun k hk => ?_)
          · rw [gIa (by omega), (L2 188 _ (fun y => by omega)).1, (L1 188 _ (fun y => by omega)).1]
          · rw [gL_sI, (L2 192 _ (fun y => by omega)).2.1, (L1 192 _ (fun y => by omega)).2.1]
    · show VN R (if i = m then N else II i) (if i = m then T else JJ i) 1200 ∧ SN R (if i = m then N else II i) (if i = m then T else JJ i)
      by_cases z : i = m
      · rw [if_pos z, if_pos z]; exact ⟨Wc, Sc⟩
      · rw [if_neg z, if_neg z]; exact vi i (by omega)
  · have m3 : m = 3 := by omega
    subst m3
    refine opA G B C D.2.1 D.2.2.2.2.1 D.2.2.2.2.2 hq Q ma mi (u' := u) (NN' := NN) (TT' := TT) M1 3 (by omega) (h1 := sI h 0 16 (nI 3)) ?_ (gIs _ _ _ _) (Keep.sI Keep.rfl (by unfold PA; omega)) (ca.keep hu (Keep.sI Keep.rfl (by omega))) (ci.keep hm3 (Keep.sI Keep.rfl (by omega))) (Qc.keep (P := fun b k => ¬ (b = 0 ∧ k = 16)) (Keep.sI Keep.rfl (fun z => z ⟨rfl, rfl⟩)) (fun b k _ _ => by omega)) (fun g0 M0 ma0 mi0 => ?_) hu hm3 Wc Sc va vi
    · simp (disch := omega) only [lI, bd_1, neg1, eqN, fX8_image, fX8_refuse, c3, z1, if_false, c15, ltN, c]
    · obtain ⟨g, hg, Mg, Kg, t0⟩ := mGood M0
      have gg : Keep (fun b k => ¬ (b = 181 ∧ (k = 0 ∨ k = 11))) g0 g := by
        have : g = sI (sI g0 181 0 0) 181 11 0 := (Option.some.inj hg).symm
        rw [this]
        exact Keep.sI (Keep.sI Keep.rfl (fun z => by omega)) (fun z => by omega)
      have p26 := (mi0.keep (gg.mono (fun x k hp => by omega))).1
      refine ⟨sI g 181 11 (nI 3), ?_, gIs _ _ _ _, ⟨fun k hk => by rw [gIa (by omega)]; exact Mg.2.2.2.1.1 k hk, fun k hk => by rw [gL_sI]; exact Mg.2.2.2.1.2 k hk⟩, ma0.keep (Keep.sI (gg.mono (fun x k hp => by omega)) (by omega)), mi0.keep (Keep.sI (gg.mono (fun x k hp => by omega)) (by omega)), Keep.sI (gg.mono (fun x k hp => by unfold PB at hp; omega)) (by unfold PB; omega)⟩
      simp (disch := omega) only [lI, bd_1, bv_1, neg1, eqN, fX9_image, fX9_no, hg, Mg.1, z1, if_false, p26, if_true]
set_option maxRecDepth 100000 in
theorem gBack (G : GR h) (B : TRB h) (D : GD h d R N T) {q : Nat} (hq : q ≤ n) (Q : MtR h q) (x : Int32) : OpG h n (fun h => fX8_back 0 x h) (fun h => fX9_back 181 x h) := by
  obtain ⟨u, NN, TT, m, II, JJ, hu, hm3, ca, ma, va, ci, mi, vi⟩ := unA D G
  have C := D.1
  obtain ⟨c1, c2, c3, Dr, v, Qc, Wc, Sc⟩ := id C
  have vS := v.S
  obtain ⟨l6, l7, l8, l9, l0, l1, l2, l3⟩ := ln186
  have c15 := ci.1
  rcases cut x (m := m) (by omega) with ⟨j, hj, rfl, wt⟩ | ⟨hx, wf⟩
  · have im := G.2.2.2.1 j (by omega)
    obtain ⟨h1, e1, q1, K1⟩ := cCopy (h := h) (a := 160 + 7 * j) (b := 6) (by omega)
    have Q1 := q1.rep (ci.2 j hj) vS.2
    have fin : Keep (fun b k => ¬ (b = 0 ∧ (k = 14 ∨ k = 16))) h1 (sI (sI h1 0 14 (nI 0)) 0 16 (nI 0)) := Keep.sI (Keep.sI Keep.rfl (fun z => by omega)) (fun z => by omega)
    refine opA G B C D.2.1 D.2.2.2.2.1 D.2.2.2.2.2 hq Q ma mi (u' := 0) (NN' := NN) (TT' := TT) (N' := II j) (T' := JJ j) true 0 (by omega) (h1 := sI (sI h1 0 14 (nI 0)) 0 16 (nI 0)) ?_ (gIs _ _ _ _) ((K1.mono (fun x k hp z => by unfold PA at hp; omega)).trans (fin.mono (fun x k hp => by unfold PA at hp; omega))) ?_ (ci.keep hm3 ((K1.mono (fun x k hp z => by omega)).trans (fin.mono (fun x k hp => by omega)))) (Q1.keep fin (fun b k _ _ => by omega)) (fun g0 M0 ma0 mi0 => ?_) (by omega) hm3 (vi j hj).1 (vi j hj).2 (fun i hi => by omega) vi
    · simp (disch := omega) only [lI, gd_1, bd_1, bv_1, nm_1, inbN, ixN, fX8_back, ltN, Nat.not_lt_zero, if_false, c15, hj, if_true, Nat.reduceAdd, im, kb3 j (show j < 3 by omega), e1]
    · have eR : ∀ i, gR (sI (sI h1 0 14 (nI 0)) 0 16 (nI 0)) 42 i = gR h 42 i := fun i => by rw [gR_sI, gR_sI]; exact (K1 42 i (fun z => by omega)).2.2
      exact ⟨by rw [gIk (by omega), gIs], ⟨fun i hi => by rw [eR]; exact ca.2.1.1 i hi, fun i i' a b y => by rw [eR, eR] at y; exact ca.2.1.2 i i' a b y⟩, fun i hi => by omega⟩
    · obtain ⟨g, hg, Mg, Kg, t0⟩ := mGood M0
      have gg : Keep (fun b k => ¬ (b = 181 ∧ (k = 0 ∨ k = 11))) g0 g := by
        have : g = sI (sI g0 181 0 0) 181 11 0 := (Option.some.inj hg).symm
        rw [this]
        exact Keep.sI (Keep.sI Keep.rfl (fun z => by omega)) (fun z => by omega)
      have mig := mi0.keep (gg.mono (fun x k hp => by omega))
      have p26 := mig.1
      have rw1 := mig.2 j hj
      obtain ⟨a1, f1, v1, L1⟩ := mCopy (g := g) (a := 188) (b := 186) (i := 20 * j) (j := 0) (n := 20) (by omega) (by omega) (by omega) (by omega) (by omega) (by omega)
      obtain ⟨a2, f2, v2, L2⟩ := mCopyL (g := a1) (a := 192) (b := 190) (i := 31 * j) (j := 0) (by omega) (by omega) (by omega) (by omega) (by omega)
      have KB : Keep (fun b k => b ≠ 186 ∧ b ≠ 190) g a2 := (L1.mono (fun x k hp z => hp.1 z.1)).trans (L2.mono (fun x k hp z => hp.2 z.1))
      have KC : Keep (fun b k => ¬ (b = 181 ∧ k = 25)) a2 (sI a2 181 25 (nI 0)) := Keep.sI Keep.rfl (fun z => z ⟨rfl, rfl⟩)
      refine ⟨sI a2 181 25 (nI 0), ?_, ?_, ⟨fun k hk => ?_, fun k hk => ?_⟩, ⟨gIs _ _ _ _, fun i hi => by omega⟩, mig.keep ((KB.mono (fun x k hp => ⟨by omega, by omega⟩)).trans (KC.mono (fun x k hp => by omega))), (gg.mono (fun x k hp => by unfold PB at hp; omega)).trans ((KB.mono (fun x k hp => by unfold PB at hp; exact ⟨by omega, by omega⟩)).trans (KC.mono (fun x k hp => by unfold PB at hp; omega)))⟩
      · simp (disch := omega) only [lI, bd_1, bv_1, pk_mul, fX9_back, hg, p26, wt, cond_true, Nat.reduceAdd, f1, f2]
      · rw [gIk (by omega)]; exact (KB 181 11 ⟨by omega, by omega⟩).1.trans t0
      · have := v1 k hk
        rw [Nat.zero_add] at this
        rw [gIa (by omega), (L2 186 k (fun z => by omega)).1, this]; exact rw1.1 k hk
      · have := v2 k hk
        rw [Nat.zero_add] at this
        rw [gL_sI, this, (L1 192 _ (fun z => by omega)).2.1]; exact rw1.2 k hk
  · refine opA G B C D.2.1 D.2.2.2.2.1 D.2.2.2.2.2 hq Q ma mi (u' := u) (NN' := NN) (TT' := TT) false 1 (by omega) (h1 := sI h 0 16 (nI 1)) ?_ (gIs _ _ _ _) (Keep.sI Keep.rfl (by unfold PA; omega)) (ca.keep hu (Keep.sI Keep.rfl (by omega))) (ci.keep hm3 (Keep.sI Keep.rfl (by omega))) (Qc.keep (P := fun b k => ¬ (b = 0 ∧ k = 16)) (Keep.sI Keep.rfl (fun z => z ⟨rfl, rfl⟩)) (fun b k _ _ => by omega)) (fun g0 M0 ma0 mi0 => ?_) hu hm3 Wc Sc va vi
    · rcases hx with z | ⟨z1, z2, z3⟩
      · simp (disch := omega) only [lI, fX8_back, z, if_true]
      · simp (disch := omega) only [lI, fX8_back, z1, c15, z3, if_false]
    · obtain ⟨g, hg, Mg, Kg, t0⟩ := mGood M0
      have gg : Keep (fun b k => ¬ (b = 181 ∧ (k = 0 ∨ k = 11))) g0 g := by
        have : g = sI (sI g0 181 0 0) 181 11 0 := (Option.some.inj hg).symm
        rw [this]
        exact Keep.sI (Keep.sI Keep.rfl (fun z => by omega)) (fun z => by omega)
      have p26 := (mi0.keep (gg.mono (fun x k hp => by omega))).1
      refine ⟨sI g 181 11 (nI 1), ?_, gIs _ _ _ _, ⟨fun k hk => by rw [gIa (by omega)]; exact Mg.2.2.2.1.1 k hk, fun k hk => by rw [gL_sI]; exact Mg.2.2.2.1.2 k hk⟩, ma0.keep (Keep.sI (gg.mono (fun x k hp => by omega)) (by omega)), mi0.keep (Keep.sI (gg.mono (fun x k hp => by omega)) (by omega)), Keep.sI (gg.mono (fun x k hp => by unfold PB at hp; omega)) (by unfold PB; omega)⟩
      simp (disch := omega) only [lI, bd_1, bv_1, fX9_back, fX9_isNot, hg, p26, wf, cond_false]
end ACTS3
