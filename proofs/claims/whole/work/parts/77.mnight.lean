/-- outside of the model's night -/
def PW (b k : Nat) : Prop := ¬ (b = 186 ∧ k < 20) ∧ ¬ (b = 190 ∧ k < 31)
set_option maxRecDepth 100000 in
theorem MRep.W {g g' : HH} {R : Nat → Nat} (M : MRep g R) (K : Keep PW g g') : MRep g' R := M.keep K (fun k => ⟨by omega, by omega⟩)
section MNI
variable {g : HH} {R : Nat → Nat} {σ : ST} {B : Nat}
set_option maxRecDepth 100000 in
theorem MNRep.sI {N T : Nat → Nat} (Q : MNRep g N T) {k v : Nat} : MNRep (sI g 186 k (nI v)) (up N k v) T := by
  refine ⟨fun j hj => ?_, fun j hj => Q.2 j hj⟩
  by_cases e : j = k
  · subst e; rw [gIs, up_s]
  · rw [gIk e, up_o e]; exact Q.1 j hj
set_option maxRecDepth 100000 in
theorem MNRep.sL {N T : Nat → Nat} (Q : MNRep g N T) {k v : Nat} : MNRep (sL g 190 k (lN v)) N (up T k v) := by
  refine ⟨fun j hj => Q.1 j hj, fun j hj => ?_⟩
  by_cases e : j = k
  · subst e; rw [gLs, up_s]
  · rw [gLk e, up_o e]; exact Q.2 j hj
set_option maxRecDepth 100000 in
theorem MNRep.congr {N T N' T' : Nat → Nat} (Q : MNRep g N T) (h1 : ∀ k, k < 20 → N k = N' k) (h2 : ∀ k, k < 31 → T k = T' k) : MNRep g N' T' := ⟨fun k hk => by rw [← h1 k hk]; exact Q.1 k hk, fun k hk => by rw [← h2 k hk]; exact Q.2 k hk⟩
set_option maxRecDepth 100000 in
theorem kpW1 {h h' : HH} (K : Keep PW h h') {k : Nat} {v : Int32} (hk : k < 20) : Keep PW h (sI h' 186 k v) := Keep.sI K (fun z => z.1 ⟨rfl, hk⟩)
def Keep.W1 {h h' : HH} (K : Keep PW h h') {k : Nat} {v : Int32} (hk : k < 20) := kpW1 K (k := k) (v := v) hk
set_option maxRecDepth 100000 in
theorem kpW2 {h h' : HH} (K : Keep PW h h') {k : Nat} {v : Int64} (hk : k < 31) : Keep PW h (sL h' 190 k v) := Keep.sL K (fun z => z.2 ⟨rfl, hk⟩)
def Keep.W2 {h h' : HH} (K : Keep PW h h') {k : Nat} {v : Int64} (hk : k < 31) := kpW2 K (k := k) (v := v) hk
set_option maxRecDepth 100000 in
theorem mCome {N T : Nat → Nat} (Q : MNRep g N T) {s fl : Nat} (hs : s < 5) (hfl : fl < 2 ^ 31) : ∃ g', fX9_comes 181 (nI s) (nI fl) g = some g' ∧ MNRep g' (cmS s fl (N (4 * s + 1)) (N, T)).1 (cmS s fl (N (4 * s + 1)) (N, T)).2 ∧ Keep PW g g' := by
  have q0 := Q.2 0 (by omega)
  by_cases c : fl = 0
  · subst c
    simp (disch := omega) only [lI, gd_1, nm_1, ixN, inbN, pk_mul, nI_add, eqN, fX9_comes, if_true, Nat.reduceAdd, gL_sI, q0]
    refine ⟨_, rfl, ((Q.sI.sI).sL).congr (fun k hk => rfl) (fun k hk => rfl), ((Keep.rfl.W1 (by omega)).W1 (by omega)).W2 (by omega)⟩
  · simp (disch := omega) only [lI, gd_1, nm_1, ixN, inbN, pk_mul, nI_add, eqN, fX9_comes, c, if_false, Nat.reduceAdd, gL_sI, q0]
    refine ⟨_, rfl, ((Q.sI).sL).congr (fun k hk => ?_) (fun k hk => rfl), (Keep.rfl.W1 (by omega)).W2 (by omega)⟩
    show up N (4 * s + 0) fl k = up (up N (4 * s + 0) fl) (4 * s + 1) (if fl = 0 then 0 else N (4 * s + 1)) k
    rw [if_neg c]
    by_cases e : k = 4 * s + 1
    · subst e; rw [up_s, up_o (by omega)]
    · rw [up_o (k := 4 * s + 1) e]
set_option maxRecDepth 100000 in
theorem mStep (M : MRep g R) (v : VR R) (Q : MNRep g σ.1 σ.2) (W : VN R σ.1 σ.2 B) {s k : Nat} (hs : s < R 4) (hk : nst R s (σ.1 (4 * s + 2)) = some k) : ∃ g', fX9_steps 181 (nI s) g = some g' ∧ MNRep g' (stB R s k σ).1 (stB R s k σ).2 ∧ Keep PW g g' := by
  have vF := v.F
  have vS := v.S
  have vH := v.H
  have v5 := v.2.1
  have w := W.2.1 s (by omega)
  obtain ⟨k1, k2, k3⟩ := nst_some hk
  have hc := nst_cnt hk
  have hcl := cnt_le R s (R 5)
  have vk := v.2.2.2.1 k k1
  have cs := mNext v M Q hs (by omega)
  rw [hk] at cs
  have q2 := Q.1 (4 * s + 2) (by omega)
  have Q1 : MNRep (sI g 186 (4 * s + 2) (nI (σ.1 (4 * s + 2) + 1))) (up σ.1 (4 * s + 2) (σ.1 (4 * s + 2) + 1)) σ.2 := Q.sI
  have K1 : Keep PW g (sI g 186 (4 * s + 2) (nI (σ.1 (4 * s + 2) + 1))) := Keep.rfl.W1 (by omega)
  have u1 : up σ.1 (4 * s + 2) (σ.1 (4 * s + 2) + 1) (4 * s + 1) = σ.1 (4 * s + 1) := up_o (by omega)
  have M0 := M 0 (by omega)
  by_cases c : R (40 + 3 * k + 1) = 0
  · obtain ⟨g', e, Q', K'⟩ := mCome Q1 (s := s) (fl := σ.1 (4 * s + 0) - 1) (by omega) (by omega)
    rw [u1] at Q'
    refine ⟨g', ?_, ?_, K1.trans K'⟩
    · by_cases c0 : σ.1 (4 * s + 0) = 0
      · rw [c0] at e
        have e' : fX9_comes 181 (nI s) (nI 0) (sI g 186 (4 * s + 2) (nI (σ.1 (4 * s + 2) + 1))) = some g' := e
        simp (disch := omega) only [lI, gd_1, bd_1, bv_1, nm_1, ixN, inbN, pk_mul, nI_add, eqN, fX9_steps, cs, iv, mIts Q, Nat.reduceAdd, M (40 + 3 * k + 1), eq_true c, eq_true c0, if_true, q2, e']
      · simp (disch := omega) only [lI, gd_1, bd_1, bv_1, nm_1, ixN, inbN, pk_mul, pk_sub, nI_add, eqN, fX9_steps, cs, iv, mIts Q, Nat.reduceAdd, M (40 + 3 * k + 1), eq_true c, c0, if_true, if_false, q2, e]
    · unfold stB; rw [if_pos c]
      refine Q'.congr (fun j hj => ?_) (fun j hj => rfl)
      by_cases c1 : σ.1 (4 * s + 0) - 1 = 0
      · simp only [cmS, c1, if_true]
      · rw [if_neg (show ¬ σ.1 (4 * s + 0) = 0 by omega)]
  · by_cases c0 : σ.1 (4 * s + 0) = 0
    · have Q2 : MNRep (sI (sI g 186 (4 * s + 2) (nI (σ.1 (4 * s + 2) + 1))) 186 (4 * s + 1) (nI (R (40 + 3 * k + 1)))) (up (up σ.1 (4 * s + 2) (σ.1 (4 * s + 2) + 1)) (4 * s + 1) (R (40 + 3 * k + 1))) σ.2 := Q1.sI
      obtain ⟨g', e, Q', K'⟩ := mCome Q2 (s := s) (fl := σ.1 (4 * s + 0) + 1) (by omega) (by omega)
      have n1 : ¬ R 0 ≤ σ.1 (4 * s + 0) := by omega
      rw [up_s] at Q'
      refine ⟨g', ?_, ?_, (K1.W1 (by omega)).trans K'⟩
      · simp (disch := omega) only [lI, gd_1, bd_1, bv_1, nm_1, ixN, inbN, pk_mul, nI_add, eqN, leN, fX9_steps, cs, iv, mIts Q, Nat.reduceAdd, M (40 + 3 * k + 1), c, eq_true c0, if_true, if_false, q2, gIa, M0, n1, e]
      · unfold stB; rw [if_neg c, if_pos c0, Nat.min_eq_left (by omega)]
        refine Q'.congr (fun j hj => ?_) (fun j hj => rfl)
        simp only [cmS]
        by_cases e1 : j = 4 * s + 1
        · subst e1; rw [up_s, up_s]
        · rw [up_o e1, up_o e1]
          by_cases e0 : j = 4 * s + 0
          · subst e0; rw [up_s, up_s]
          · rw [up_o e0, up_o e0, up_o e1]
    · by_cases c1 : R 0 ≤ σ.1 (4 * s + 0)
      · obtain ⟨g', e, Q', K'⟩ := mCome Q1 (s := s) (fl := σ.1 (4 * s + 0)) (by omega) (by omega)
        rw [u1] at Q'
        refine ⟨g', ?_, ?_, K1.trans K'⟩
        · simp (disch := omega) only [lI, gd_1, bd_1, bv_1, nm_1, ixN, inbN, pk_mul, nI_add, eqN, leN, fX9_steps, cs, iv, mIts Q, Nat.reduceAdd, M (40 + 3 * k + 1), c, c0, if_true, if_false, q2, gIa, M0, c1, e]
        · unfold stB; rw [if_neg c, if_neg c0, show min (σ.1 (4 * s + 0) + 1) (R 0) = σ.1 (4 * s + 0) by omega]
          exact Q'
      · obtain ⟨g', e, Q', K'⟩ := mCome Q1 (s := s) (fl := σ.1 (4 * s + 0) + 1) (by omega) (by omega)
        rw [u1] at Q'
        refine ⟨g', ?_, ?_, K1.trans K'⟩
        · simp (disch := omega) only [lI, gd_1, bd_1, bv_1, nm_1, ixN, inbN, pk_mul, nI_add, eqN, leN, fX9_steps, cs, iv, mIts Q, Nat.reduceAdd, M (40 + 3 * k + 1), c, c0, if_false, q2, gIa, M0, c1, e]
        · unfold stB; rw [if_neg c, if_neg c0, Nat.min_eq_left (by omega)]
          exact Q'
set_option maxRecDepth 100000 in
theorem L1le {n : Nat} (h : n < 2 ^ 63) : (L1 ≤ lN n) = True := L1j h
set_option maxRecDepth 100000 in
theorem L1z : (L1 < lN 0) = True := by decide +kernel
set_option maxRecDepth 100000 in
theorem mStepW (v : VR R) (hB : B ≤ 2000) {s : Nat} (hs : s < R 4) (kk : HH → Option HH) : ∀ n f (g : HH) (σ : ST), cnt R s (R 5) ≤ σ.1 (4 * s + 2) + n → n < f → MRep g R → MNRep g σ.1 σ.2 → VN R σ.1 σ.2 B → ∃ g', lq0 (fX9_stepsNow_L12 kk 181 (nI s)) f g = kk g' ∧ MNRep g' (stW R s n σ).1 (stW R s n σ).2 ∧ Keep PW g g' := by
  intro n
  induction n with
  | zero =>
    intro f g σ e hf M Q W
    obtain ⟨f, rfl⟩ : ∃ q, f = q + 1 := ⟨f - 1, by omega⟩
    have cd := mDue v M Q W hB hs
    cases hd : due R σ.1 σ.2 s with
    | none =>
      rw [hd] at cd
      refine ⟨g, ?_, Q, Keep.rfl⟩
      simp (disch := omega) only [lJ, bd_1, lq0, fX9_stepsNow_L12, cd, dm, L1z, if_true]
    | some t =>
      obtain ⟨k, hk, -⟩ := due_some hd
      have := nst_cnt hk
      omega
  | succ n ih =>
    intro f g σ e hf M Q W
    obtain ⟨f, rfl⟩ : ∃ q, f = q + 1 := ⟨f - 1, by omega⟩
    have hT := VN.t v W hB
    have cd := mDue v M Q W hB hs
    have q0 := Q.2 0 (by omega)
    cases hd : due R σ.1 σ.2 s with
    | none =>
      rw [hd] at cd
      refine ⟨g, ?_, by rw [stW_none hd]; exact Q, Keep.rfl⟩
      simp (disch := omega) only [lJ, bd_1, lq0, fX9_stepsNow_L12, cd, dm, L1z, if_true]
    | some t =>
      rw [hd] at cd
      have ht := due_le v W hs hd
      have n0 : ¬ t < 0 := by omega
      by_cases c : t ≤ σ.2 0
      · obtain ⟨k, hk, -⟩ := due_some hd
        obtain ⟨h2, e2, Q2, K2⟩ := mStep M v Q W hs hk
        obtain ⟨h3, e3, Q3, K3⟩ := ih f h2 (stB R s k σ) (by rw [st_2]; omega) (by omega) (M.W K2) Q2 (VN.st v W hs hk)
        have h4 : ¬ σ.2 0 < t := by omega
        refine ⟨h3, ?_, by rw [stW_le hd c hk]; exact Q3, K2.trans K3⟩
        simp (disch := omega) only [lI, lJ, gd_1, inbN, ixN, bd_1, bv_1, lq0, fX9_stepsNow_L12, cd, dm, ltL, n0, if_false, Nat.reduceAdd, q0, h4, e2]
        exact e3
      · have h4 : σ.2 0 < t := by omega
        refine ⟨g, ?_, by rw [stW_gt hd c]; exact Q, Keep.rfl⟩
        simp (disch := omega) only [lI, lJ, gd_1, inbN, ixN, bd_1, bv_1, lq0, fX9_stepsNow_L12, cd, dm, ltL, n0, if_false, Nat.reduceAdd, q0, h4, if_true]
set_option maxRecDepth 100000 in
theorem mSteps (M : MRep g R) (v : VR R) (Q : MNRep g σ.1 σ.2) (W : VN R σ.1 σ.2 B) (hB : B ≤ 2000) : ∃ g', fX9_stepsNow 181 g = some g' ∧ MNRep g' (stA R (R 4) σ).1 (stA R (R 4) σ).2 ∧ Keep PW g g' := by
  have vS := v.S
  have v5 := v.2.1
  have main : ∀ m i f (h : HH), i + m = R 4 → m < f → Keep PW g h → MNRep h (stA R i σ).1 (stA R i σ).2 → ∃ h', lq1 (fX9_stepsNow_L2 181) f (nI i) h = some h' ∧ MNRep h' (stA R (R 4) σ).1 (stA R (R 4) σ).2 ∧ Keep PW g h' := by
    intro m
    induction m with
    | zero =>
      intro i f h e hf K Qi
      obtain ⟨f, rfl⟩ : ∃ q, f = q + 1 := ⟨f - 1, by omega⟩
      have : i = R 4 := by omega
      subst this
      have Mg := M.W K
      refine ⟨h, ?_, Qi, K⟩
      simp (disch := omega) only [lI, gd_1, inbN, ixN, lq1, fX9_stepsNow_L2, Nat.reduceAdd, Mg 4, leN, Nat.le_refl, if_true]
    | succ m ih =>
      intro i f h e hf K Qi
      obtain ⟨f, rfl⟩ : ∃ q, f = q + 1 := ⟨f - 1, by omega⟩
      have Mg := M.W K
      have n1 : ¬ R 4 ≤ i := by omega
      have hc := cnt_le R i (R 5)
      obtain ⟨h2, e2, Q2, K2⟩ := mStepW v hB (s := i) (by omega) (fun h => lq1 (fX9_stepsNow_L2 181) f (nI i + nI 1) h) 20 FU h (stA R i σ) (by omega) (by unfold FU; omega) Mg Qi (stA_ok v i σ (by omega) W).1
      obtain ⟨h3, e3, Q3, K3⟩ := ih (i + 1) f h2 (by omega) (by omega) (K.trans K2) Q2
      refine ⟨h3, ?_, Q3, K3⟩
      rw [← e3, ← nI_add]
      simp (disch := omega) only [lI, gd_1, inbN, ixN, lq1, fX9_stepsNow_L2, Nat.reduceAdd, Mg 4, leN, n1, if_false]
      exact e2
  exact main (R 4) 0 FU g (by omega) (by unfold FU; omega) Keep.rfl Q
set_option maxRecDepth 100000 in
theorem mKn1 (M : MRep g R) (v : VR R) (Q : MNRep g σ.1 σ.2) (W : VN R σ.1 σ.2 B) {hd fl st s : Nat} (hs : s < R 4) (hhd : hd < R 3) (hfl : fl < R 0) (hst : st ≤ 99) (x : Int32) (self : Int32 → Int32 → HH → Option (Int32 × HH)) : ∃ h', fX9_knocks_L6 181 (nI hd) (nI fl) (nI st) self x (nI s) g = self (knB R hd fl st s σ x) (nI (s + 1)) h' ∧ MNRep h' (kn1 R hd fl st s σ).1 (kn1 R hd fl st s σ).2 ∧ Keep PW g h' := by
  have vF := v.F
  have vS := v.S
  have vH := v.H
  have w := W.2.1 s (by omega)
  have n1 : ¬ R 4 ≤ s := by omega
  have M4 := M 4 (by omega)
  by_cases c1 : σ.1 (4 * s + 1) = hd + 1
  · by_cases c2 : fl < σ.1 (4 * s + 0)
    · have hb := br_le R (s := s) (st := st) c2
      have cb := mBr v M hs c2 w.1 hst
      by_cases c3 : br R s (σ.1 (4 * s + 0)) fl st = σ.1 (4 * s + 0)
      · have nk : ¬ knc R hd fl st s σ := fun z => z.2.2 c3
        refine ⟨g, ?_, ?_, Keep.rfl⟩
        · unfold knB; rw [if_neg nk]
          simp (disch := omega) only [lI, gd_1, bd_1, nm_1, ixN, inbN, nI_add, eqN, leN, ltN, Nat.reduceAdd, fX9_knocks_L6, M4, n1, if_false, mIts Q, eq_true c1, if_true, c2, cb, eq_true c3]
        · unfold kn1; rw [if_neg nk]; exact Q
      · have nk : knc R hd fl st s σ := ⟨c1, c2, c3⟩
        obtain ⟨h', e, Q', K'⟩ := mCome Q (s := s) (fl := br R s (σ.1 (4 * s + 0)) fl st) (by omega) (by omega)
        have q3 := Q'.1 (4 * s + 3) (by omega)
        rw [cm_o (j := 4 * s + 3) (by omega) (by omega)] at q3
        have q3' : gI h' 186 (4 * s + 3) = nI (σ.1 (4 * s + 3)) := q3
        refine ⟨sI h' 186 (4 * s + 3) (nI (σ.1 (4 * s + 3) + 1)), ?_, ?_, K'.W1 (by omega)⟩
        · unfold knB; rw [if_pos nk]
          simp (disch := omega) only [lI, gd_1, bd_1, bv_1, nm_1, ixN, inbN, pk_mul, nI_add, eqN, leN, ltN, Nat.reduceAdd, fX9_knocks_L6, M4, n1, if_false, mIts Q, eq_true c1, if_true, c2, cb, c3, e, q3']
        · unfold kn1; rw [if_pos nk]
          exact Q'.sI
    · have nk : ¬ knc R hd fl st s σ := fun z => c2 z.2.1
      refine ⟨g, ?_, ?_, Keep.rfl⟩
      · unfold knB; rw [if_neg nk]
        simp (disch := omega) only [lI, gd_1, bd_1, nm_1, ixN, inbN, nI_add, eqN, leN, ltN, Nat.reduceAdd, fX9_knocks_L6, M4, n1, if_false, mIts Q, eq_true c1, if_true, c2]
      · unfold kn1; rw [if_neg nk]; exact Q
  · have nk : ¬ knc R hd fl st s σ := fun z => c1 z.1
    refine ⟨g, ?_, ?_, Keep.rfl⟩
    · unfold knB; rw [if_neg nk]
      simp (disch := omega) only [lI, gd_1, bd_1, nm_1, ixN, inbN, nI_add, eqN, leN, ltN, Nat.reduceAdd, fX9_knocks_L6, M4, n1, if_false, mIts Q, c1]
    · unfold kn1; rw [if_neg nk]; exact Q
set_option maxRecDepth 100000 in
theorem mKnock (M : MRep g R) (v : VR R) (Q : MNRep g σ.1 σ.2) (W : VN R σ.1 σ.2 B) {hd fl st : Nat} (hhd : hd < R 3) (hfl : fl < R 0) (hst : st ≤ 99) : ∃ h', fX9_knocks 181 (nI hd) (nI fl) (nI st) g = some (knX R hd fl st (R 4) σ, h') ∧ MNRep h' (knS R hd fl st (R 4) σ).1 (knS R hd fl st (R 4) σ).2 ∧ Keep PW g h' := by
  have vS := v.S
  have main : ∀ m i f (h : HH), i + m = R 4 → m < f → Keep PW g h → MNRep h (knS R hd fl st i σ).1 (knS R hd fl st i σ).2 → ∃ h', lq2 (fX9_knocks_L6 181 (nI hd) (nI fl) (nI st)) f (knX R hd fl st i σ) (nI i) h = some (knX R hd fl st (R 4) σ, h') ∧ MNRep h' (knS R hd fl st (R 4) σ).1 (knS R hd fl st (R 4) σ).2 ∧ Keep PW g h' := by
    intro m
    induction m with
    | zero =>
      intro i f h e hf K Qi
      obtain ⟨f, rfl⟩ : ∃ q, f = q + 1 := ⟨f - 1, by omega⟩
      have : i = R 4 := by omega
      subst this
      have Mg := M.W K
      refine ⟨h, ?_, Qi, K⟩
      simp (disch := omega) only [lI, gd_1, inbN, ixN, lq2, fX9_knocks_L6, Nat.reduceAdd, Mg 4, leN, Nat.le_refl, if_true]
    | succ m ih =>
      intro i f h e hf K Qi
      obtain ⟨f, rfl⟩ : ∃ q, f = q + 1 := ⟨f - 1, by omega⟩
      have Mg := M.W K
      obtain ⟨h2, e2, Q2, K2⟩ := mKn1 Mg v Qi (knS_ok v i σ (by omega) W).1 (s := i) (by omega) hhd hfl hst (knX R hd fl st i σ) (lq2 (fX9_knocks_L6 181 (nI hd) (nI fl) (nI st)) f)
      obtain ⟨h3, e3, Q3, K3⟩ := ih (i + 1) f h2 (by omega) (by omega) (K.trans K2) Q2
      exact ⟨h3, e2.trans e3, Q3, K3⟩
  exact main (R 4) 0 FU g (by omega) (by unfold FU; omega) Keep.rfl Q
set_option maxRecDepth 100000 in
theorem mTold (M : MRep g R) (v : VR R) (Q : MNRep g σ.1 σ.2) (W : VN R σ.1 σ.2 B) (hB : B ≤ 2000) : ∃ h', fX9_knocksNow 181 g = some h' ∧ MNRep h' (kN R (R 6) σ).1 (kN R (R 6) σ).2 ∧ Keep PW g h' := by
  have v5 := v.2.1
  have vF := v.F
  have vb := v.bt
  have main : ∀ m i f (h : HH), i + m = R 6 → m < f → Keep PW g h → MNRep h (kN R i σ).1 (kN R i σ).2 → ∃ h', lq1 (fX9_knocksNow_L2 181) f (nI i) h = some h' ∧ MNRep h' (kN R (R 6) σ).1 (kN R (R 6) σ).2 ∧ Keep PW g h' := by
    intro m
    induction m with
    | zero =>
      intro i f h e hf K Qi
      obtain ⟨f, rfl⟩ : ∃ q, f = q + 1 := ⟨f - 1, by omega⟩
      have : i = R 6 := by omega
      subst this
      have Mg := M.W K
      refine ⟨h, ?_, Qi, K⟩
      simp (disch := omega) only [lI, gd_1, inbN, ixN, lq1, fX9_knocksNow_L2, Nat.reduceAdd, Mg 6, leN, Nat.le_refl, if_true]
    | succ m ih =>
      intro i f h e hf K Qi
      obtain ⟨f, rfl⟩ : ∃ q, f = q + 1 := ⟨f - 1, by omega⟩
      have Mg := M.W K
      have n1 : ¬ R 6 ≤ i := by omega
      have hi : i < R 6 := by omega
      have Wi := (kN_ok v i σ W).1
      have hT := VN.t v Wi hB
      have hk := ktk_le v hi
      have vk := v.2.2.2.2.1 i hi
      have q0 := Qi.2 0 (by omega)
      have ek : kN R (i + 1) σ = if ktk R i = (kN R i σ).2 0 then knS R (R (100 + 4 * i)) (R (100 + 4 * i + 1)) (R (100 + 4 * i + 3)) (R 4) (kN R i σ) else kN R i σ := rfl
      by_cases c : ktk R i = (kN R i σ).2 0
      · rw [if_pos c] at ek
        obtain ⟨h2, e2, Q2, K2⟩ := mKnock Mg v Qi Wi (hd := R (100 + 4 * i)) (fl := R (100 + 4 * i + 1)) (st := R (100 + 4 * i + 3)) vk.1 vk.2.1 vk.2.2.2.2
        rw [← ek] at Q2
        obtain ⟨h3, e3, Q3, K3⟩ := ih (i + 1) f h2 (by omega) (by omega) (K.trans K2) Q2
        refine ⟨h3, ?_, Q3, K3⟩
        unfold ktk at c hk
        simp (disch := omega) only [lI, gd_1, inbN, ixN, bd_1, nm_1, nI_add, pk_mul, nI_l, lN_mul, lq1, fX9_knocksNow_L2, Nat.reduceAdd, Mg 6, leN, n1, if_false, mBottom Mg v, Mg (100 + 4 * i + 2), Mg (100 + 4 * i), Mg (100 + 4 * i + 1), Mg (100 + 4 * i + 3), q0, eqL, eq_true c, if_true, e2]
        exact e3
      · rw [if_neg c] at ek
        rw [← ek] at Qi
        obtain ⟨h3, e3, Q3, K3⟩ := ih (i + 1) f h (by omega) (by omega) K Qi
        rw [ek] at Qi
        refine ⟨h3, ?_, Q3, K3⟩
        unfold ktk at c hk
        simp (disch := omega) only [lI, gd_1, inbN, ixN, bd_1, nm_1, nI_add, pk_mul, nI_l, lN_mul, lq1, fX9_knocksNow_L2, Nat.reduceAdd, Mg 6, leN, n1, if_false, mBottom Mg v, Mg (100 + 4 * i + 2), q0, eqL, c]
        exact e3
  exact main (R 6) 0 FU g (by omega) (by unfold FU; omega) Keep.rfl Q
/-! on to a tick -/
set_option maxRecDepth 100000 in
theorem mnf_com (f k : Nat → Nat) (x m : Nat) : ∀ n, mnf f (mnf k x m) n = mnf k (mnf f x n) m
  | 0 => rfl
  | n + 1 => by
    show min (mnf f (mnf k x m) n) (f n) = mnf k (min (mnf f x n) (f n)) m
    rw [mnf_com f k x m n, Nat.min_comm (mnf f x n) (f n), mnf_min, Nat.min_comm]
set_option maxRecDepth 100000 in
theorem then_eq {to : Nat} (h : to ≤ NV) : mnf (duN R σ) (mnf (ktN R σ) to (R 6)) (R 4) = min to (nxt R σ) := by
  have e1 : mnf (ktN R σ) to (R 6) = min to (mnf (ktN R σ) NV (R 6)) := by
    rw [← mnf_min, Nat.min_eq_left h]
  rw [e1, mnf_min, mnf_com]
  rfl
def adI (t : Nat) (σ : ST) (i : Nat) : Nat → Nat := fun j => if 6 ≤ j ∧ j < 6 + 5 * i ∧ (j - 6) % 5 = σ.1 (4 * ((j - 6) / 5) + 0) then σ.2 j + (t - σ.2 0) else σ.2 j
set_option maxRecDepth 100000 in
theorem adI_0 (t : Nat) (σ : ST) (i : Nat) : adI t σ i 0 = σ.2 0 := if_neg (by omega)
set_option maxRecDepth 100000 in
theorem adI_at {t : Nat} {σ : ST} {i f : Nat} : adI t σ i (6 + 5 * i + f) = σ.2 (6 + 5 * i + f) := if_neg (by omega)
set_option maxRecDepth 100000 in
theorem adI_s {t : Nat} {σ : ST} {i : Nat} (h5 : σ.1 (4 * i + 0) < 5) (j : Nat) : up (adI t σ i) (6 + 5 * i + σ.1 (4 * i + 0)) (σ.2 (6 + 5 * i + σ.1 (4 * i + 0)) + (t - σ.2 0)) j = adI t σ (i + 1) j := by
  by_cases e : j = 6 + 5 * i + σ.1 (4 * i + 0)
  · rw [e, up_s]
    have e1 : (6 + 5 * i + σ.1 (4 * i + 0) - 6) % 5 = σ.1 (4 * i + 0) := by omega
    have e2 : (6 + 5 * i + σ.1 (4 * i + 0) - 6) / 5 = i := by omega
    refine (if_pos ⟨by omega, by omega, ?_⟩).symm
    rw [e1, e2]
  · rw [up_o e]
    unfold adI
    by_cases c : 6 ≤ j ∧ j < 6 + 5 * i ∧ (j - 6) % 5 = σ.1 (4 * ((j - 6) / 5) + 0)
    · rw [if_pos c, if_pos ⟨c.1, by omega, c.2.2⟩]
    · rw [if_neg c]
      refine (if_neg (fun z => ?_)).symm
      by_cases c2 : j < 6 + 5 * i
      · exact c ⟨z.1, c2, z.2.2⟩
      · have e2 : (j - 6) / 5 = i := by omega
        have := z.2.2
        rw [e2] at this
        omega
set_option maxRecDepth 100000 in
theorem mGo (M : MRep g R) (v : VR R) (Q : MNRep g σ.1 σ.2) {B' : Nat} (W : VN R σ.1 σ.2 B') (hB' : B' ≤ 2000) (hB : B ≤ 2000) (S : SN R σ.1 σ.2) {to : Nat} (ht : σ.2 0 ≤ to) (htB : to ≤ B * bt R) : ∃ g', fX9_goOn 181 (lN to) g = some g' ∧ MNRep g' (run R to 29 σ).1 (run R to 29 σ).2 ∧ Keep PW g g' := by
  have vF := v.F
  have vS := v.S
  have v5 := v.2.1
  have vb := v.bt
  have htN := bt2 v hB htB
  have hto : to < 2 ^ 63 := NVb (Nat.le_of_lt htN)
  have stop : ∀ f (h : HH) (τ : ST), MNRep h τ.1 τ.2 → to ≤ τ.2 0 → τ.2 0 ≤ to → lq0 (fX9_goOn_L0 181 (lN to)) (f + 1) h = some h := by
    intro f h τ Qi h1 h2
    have q0 := Qi.2 0 (by omega)
    simp (disch := omega) only [lI, gd_1, inbN, ixN, lq0, fX9_goOn_L0, Nat.reduceAdd, q0, leL, h1, if_true]
  have main : ∀ n f (h : HH) (τ : ST) B', B' ≤ 2000 → mu R τ < n → n < f → Keep PW g h → MNRep h τ.1 τ.2 → VN R τ.1 τ.2 B' → SN R τ.1 τ.2 → τ.2 0 ≤ to → ∃ h', lq0 (fX9_goOn_L0 181 (lN to)) f h = some h' ∧ MNRep h' (run R to n τ).1 (run R to n τ).2 ∧ Keep PW g h' := by
    intro n
    induction n with
    | zero => intro f h τ B' _ hm; exact absurd hm (Nat.not_lt_zero _)
    | succ n ih =>
      intro f h τ B' hB' hm hf K Qi Wi Si hti
      obtain ⟨f, rfl⟩ : ∃ q, f = q + 2 := ⟨f - 2, by omega⟩
      have hg := nxt_gt v Wi hB' Si
      have Mg := M.W K
      have q0 := Qi.2 0 (by omega)
      have hT := VN.t v Wi hB'
      by_cases c : to ≤ τ.2 0
      · refine ⟨h, stop (f + 1) h τ Qi c hti, ?_, K⟩
        have e0 : τ.2 0 = to := by omega
        rw [run_gt (by omega), ← e0, adv_same]
        exact Qi
      · -- the next tick
        have wh : ∀ th, th = min to (nxt R τ) → τ.2 0 ≤ th → th ≤ to → ∃ h', lq1 (fX9_goOn_L132 (fun h => gd (inb (nI 0) 31) (bv (fX9_knocksNow 181 (sL h 190 (ix (nI 0)) (lN th))) (fun h188 => bv (fX9_stepsNow 181 h188) (fun h192 => lq0 (fX9_goOn_L0 181 (lN to)) (f + 1) h192)))) 181 (lN to) (lN th)) FU (nI 0) h = lq0 (fX9_goOn_L0 181 (lN to)) (f + 1) h' ∧ MNRep h' (ev R th τ).1 (ev R th τ).2 ∧ Keep PW g h' := by
          intro th hth h1 h2
          have lv : ∀ m i ff (k : HH), i + m = R 4 → m < ff → Keep PW g k → MNRep k τ.1 (adI th τ i) → ∃ h', lq1 (fX9_goOn_L132 (fun h => gd (inb (nI 0) 31) (bv (fX9_knocksNow 181 (sL h 190 (ix (nI 0)) (lN th))) (fun h188 => bv (fX9_stepsNow 181 h188) (fun h192 => lq0 (fX9_goOn_L0 181 (lN to)) (f + 1) h192)))) 181 (lN to) (lN th)) ff (nI i) k = lq0 (fX9_goOn_L0 181 (lN to)) (f + 1) h' ∧ MNRep h' (ev R th τ).1 (ev R th τ).2 ∧ Keep PW g h' := by
            intro m
            induction m with
            | zero =>
              intro i ff k e hff Kk Qk
              obtain ⟨ff, rfl⟩ : ∃ q, ff = q + 1 := ⟨ff - 1, by omega⟩
              have : i = R 4 := by omega
              subst this
              have Mk := M.W Kk
              have Q1 : MNRep (sL k 190 0 (lN th)) (adv R th τ).1 (adv R th τ).2 := (Qk.sL (k := 0) (v := th)).congr (fun _ _ => rfl) (fun j hj => by
                by_cases e : j = 0
                · subst e; rw [up_s, adv_0]
                · rw [up_o e]
                  show adI th τ (R 4) j = if j = 0 then th else _
                  rw [if_neg e]; rfl)
              have W1 : VN R (adv R th τ).1 (adv R th τ).2 B := VN.adw v Wi h1 (Nat.le_trans h2 htB)
              have K1 := Kk.W2 (k := 0) (v := lN th) (by omega)
              obtain ⟨k2, e2, Q2, K2⟩ := mTold (M.W K1) v Q1 W1 hB
              have W2 := (kN_ok v (R 6) _ W1).1
              obtain ⟨k3, e3, Q3, K3⟩ := mSteps (M.W (K1.trans K2)) v Q2 W2 hB
              refine ⟨k3, ?_, Q3, (K1.trans K2).trans K3⟩
              simp (disch := omega) only [lI, gd_1, inbN, ixN, bv_1, lq1, fX9_goOn_L132, Nat.reduceAdd, Mk 4, leN, Nat.le_refl, if_true, e2, e3]
            | succ m ihm =>
              intro i ff k e hff Kk Qk
              obtain ⟨ff, rfl⟩ : ∃ q, ff = q + 1 := ⟨ff - 1, by omega⟩
              have Mk := M.W Kk
              have n1 : ¬ R 4 ≤ i := by omega
              have w := Wi.2.1 i (by omega)
              have q1 := Qk.2 (6 + 5 * i + τ.1 (4 * i + 0)) (by omega)
              have q9 := Qk.2 0 (by omega)
              rw [adI_at] at q1
              rw [adI_0] at q9
              obtain ⟨k3, e3, Q3, K3⟩ := ihm (i + 1) ff (sL k 190 (6 + 5 * i + τ.1 (4 * i + 0)) (lN (τ.2 (6 + 5 * i + τ.1 (4 * i + 0)) + (th - τ.2 0)))) (by omega) (by omega) (Kk.W2 (by omega)) ((Qk.sL).congr (fun _ _ => rfl) (fun j hj => adI_s (by omega) j))
              refine ⟨k3, ?_, Q3, K3⟩
              simp (disch := omega) only [lI, gd_1, inbN, ixN, bd_1, nm_1, pk_mul, nI_add, lN_sub, lN_add, lq1, fX9_goOn_L132, Nat.reduceAdd, Mk 4, leN, n1, if_false, mIts Qk, q1, q9]
              exact e3
          refine lv (R 4) 0 FU h (by omega) (by unfold FU; omega) K (Qi.congr (fun _ _ => rfl) (fun j hj => ?_))
          exact (if_neg (by omega)).symm
        -- the loop over dues
        have du : ∀ m i ff, i + m = R 4 → m < ff → ∀ KK : Int64 → HH → Option HH, lq2 (fX9_goOn_L82 KK 181 (lN to)) ff (lN (mnf (duN R τ) (mnf (ktN R τ) to (R 6)) i)) (nI i) h = KK (lN (min to (nxt R τ))) h := by
          intro m
          induction m with
          | zero =>
            intro i ff e hff KK
            obtain ⟨ff, rfl⟩ : ∃ q, ff = q + 1 := ⟨ff - 1, by omega⟩
            have : i = R 4 := by omega
            subst this
            rw [then_eq (Nat.le_of_lt htN)]
            simp (disch := omega) only [lI, gd_1, inbN, ixN, lq2, fX9_goOn_L82, Nat.reduceAdd, Mg 4, leN, Nat.le_refl, if_true]
          | succ m ihm =>
            intro i ff e hff KK
            obtain ⟨ff, rfl⟩ : ∃ q, ff = q + 1 := ⟨ff - 1, by omega⟩
            have n1 : ¬ R 4 ≤ i := by omega
            have hi : i < R 4 := by omega
            have key := ihm (i + 1) ff (by omega) (by omega) KK
            have hx : mnf (duN R τ) (mnf (ktN R τ) to (R 6)) i ≤ to := Nat.le_trans (mnf_le _ _ _) (mnf_le _ _ _)
            rw [show mnf (duN R τ) (mnf (ktN R τ) to (R 6)) (i + 1) = min (mnf (duN R τ) (mnf (ktN R τ) to (R 6)) i) (duN R τ i) from rfl] at key
            have cd := mDue v Mg Qi Wi hB' hi
            have ed : duN R τ i = (due R τ.1 τ.2 i).getD NV := rfl
            cases hd : due R τ.1 τ.2 i with
            | none =>
              rw [hd] at cd ed
              rw [ed, Nat.min_eq_left (show mnf (duN R τ) (mnf (ktN R τ) to (R 6)) i ≤ (none : Option Nat).getD NV from Nat.le_trans hx (Nat.le_of_lt htN))] at key
              simp (disch := omega) only [lI, gd_1, inbN, ixN, bd_1, nI_add, lq2, fX9_goOn_L82, Nat.reduceAdd, Mg 4, leN, n1, if_false, cd, dm, q0, L1le, if_true]
              exact key
            | some t =>
              rw [hd] at cd ed
              have htt := due_le v Wi hi hd
              have hs := Si i hi t hd
              have n2 : ¬ t ≤ τ.2 0 := by omega
              rw [ed] at key
              have key' : lq2 (fX9_goOn_L82 KK 181 (lN to)) ff (lN (min (mnf (duN R τ) (mnf (ktN R τ) to (R 6)) i) t)) (nI (i + 1)) h = KK (lN (min to (nxt R τ))) h := key
              by_cases c3 : mnf (duN R τ) (mnf (ktN R τ) to (R 6)) i ≤ t
              · rw [Nat.min_eq_left c3] at key'
                simp (disch := omega) only [lI, gd_1, inbN, ixN, bd_1, nI_add, lq2, fX9_goOn_L82, Nat.reduceAdd, Mg 4, leN, n1, if_false, cd, dm, q0, leL, n2, c3, if_true]
                exact key'
              · rw [Nat.min_eq_right (by omega)] at key'
                simp (disch := omega) only [lI, gd_1, inbN, ixN, bd_1, nI_add, lq2, fX9_goOn_L82, Nat.reduceAdd, Mg 4, leN, n1, if_false, cd, dm, q0, leL, n2, c3]
                exact key'
        -- the loop over knocks
        have kt : ∀ m i ff, i + m = R 6 → m < ff → ∀ KK : Int64 → HH → Option HH, lq2 (fX9_goOn_L16 KK 181 (lN to)) ff (lN (mnf (ktN R τ) to i)) (nI i) h = KK (lN (mnf (ktN R τ) to (R 6))) h := by
          intro m
          induction m with
          | zero =>
            intro i ff e hff KK
            obtain ⟨ff, rfl⟩ : ∃ q, ff = q + 1 := ⟨ff - 1, by omega⟩
            have : i = R 6 := by omega
            subst this
            simp (disch := omega) only [lI, gd_1, inbN, ixN, lq2, fX9_goOn_L16, Nat.reduceAdd, Mg 6, leN, Nat.le_refl, if_true]
          | succ m ihm =>
            intro i ff e hff KK
            obtain ⟨ff, rfl⟩ : ∃ q, ff = q + 1 := ⟨ff - 1, by omega⟩
            have n1 : ¬ R 6 ≤ i := by omega
            have hi : i < R 6 := by omega
            have vk := v.2.2.2.2.1 i hi
            have hk := ktk_le v hi
            have key := ihm (i + 1) ff (by omega) (by omega) KK
            have hx : mnf (ktN R τ) to i ≤ to := mnf_le _ _ _
            rw [show mnf (ktN R τ) to (i + 1) = min (mnf (ktN R τ) to i) (ktN R τ i) from rfl] at key
            have ek : ktN R τ i = if τ.2 0 < ktk R i then ktk R i else NV := rfl
            have e9 : R (100 + 4 * i + 2) * bt R = ktk R i := rfl
            generalize mnf (ktN R τ) to i = X at key hx ⊢
            by_cases c2 : τ.2 0 < ktk R i
            · rw [if_pos c2] at ek
              rw [ek] at key
              have n2 : ¬ ktk R i ≤ τ.2 0 := by omega
              by_cases c3 : X ≤ ktk R i
              · rw [Nat.min_eq_left c3] at key
                simp (disch := omega) only [lI, gd_1, inbN, ixN, bd_1, nm_1, pk_mul, nI_add, nI_l, lN_mul, lq2, fX9_goOn_L16, Nat.reduceAdd, Mg 6, leN, n1, if_false, mBottom Mg v, Mg (100 + 4 * i + 2), q0, e9, leL, n2, c3, if_true]
                exact key
              · rw [Nat.min_eq_right (by omega)] at key
                simp (disch := omega) only [lI, gd_1, inbN, ixN, bd_1, nm_1, pk_mul, nI_add, nI_l, lN_mul, lq2, fX9_goOn_L16, Nat.reduceAdd, Mg 6, leN, n1, if_false, mBottom Mg v, Mg (100 + 4 * i + 2), q0, e9, leL, n2, c3]
                exact key
            · rw [if_neg c2] at ek
              rw [ek, Nat.min_eq_left (by omega)] at key
              have n2 : ktk R i ≤ τ.2 0 := by omega
              simp (disch := omega) only [lI, gd_1, inbN, ixN, bd_1, nm_1, pk_mul, nI_add, nI_l, lN_mul, lq2, fX9_goOn_L16, Nat.reduceAdd, Mg 6, leN, n1, if_false, mBottom Mg v, Mg (100 + 4 * i + 2), q0, e9, leL, n2, if_true]
              exact key
        have all : ∃ h', lq0 (fX9_goOn_L0 181 (lN to)) (f + 2) h = lq0 (fX9_goOn_L0 181 (lN to)) (f + 1) h' ∧ MNRep h' (ev R (min to (nxt R τ)) τ).1 (ev R (min to (nxt R τ)) τ).2 ∧ Keep PW g h' := by
          obtain ⟨h2, e2, Q2, K2⟩ := wh (min to (nxt R τ)) rfl (by omega) (by omega)
          refine ⟨h2, ?_, Q2, K2⟩
          rw [← e2]
          have k1 := kt (R 6) 0 FU (by omega) (by unfold FU; omega)
          have d1 := du (R 4) 0 FU (by omega) (by unfold FU; omega)
          have k1' : ∀ KK : Int64 → HH → Option HH, lq2 (fX9_goOn_L16 KK 181 (lN to)) FU (lN to) (nI 0) h = KK (lN (mnf (ktN R τ) to (R 6))) h := k1
          have d1' : ∀ KK : Int64 → HH → Option HH, lq2 (fX9_goOn_L82 KK 181 (lN to)) FU (lN (mnf (ktN R τ) to (R 6))) (nI 0) h = KK (lN (min to (nxt R τ))) h := d1
          show fX9_goOn_L0 181 (lN to) (lq0 (fX9_goOn_L0 181 (lN to)) (f + 1)) h = _
          simp (disch := omega) only [lI, gd_1, inbN, ixN, fX9_goOn_L0, Nat.reduceAdd, q0, leL, c, if_false, k1', d1']
        obtain ⟨h2, e2, Q2, K2⟩ := all
        by_cases c2 : nxt R τ ≤ to
        · rw [Nat.min_eq_right c2] at Q2
          have hm2 := mu_ev v Wi hg (Nat.le_trans c2 htB) (by omega) rfl
          obtain ⟨a1, a2, a3, -⟩ := ev_ok v Wi (Nat.le_of_lt hg) (Nat.le_trans c2 htB)
          obtain ⟨h3, e3, Q3, K3⟩ := ih (f + 1) h2 (ev R (nxt R τ) τ) B hB (by omega) (by omega) K2 Q2 a1 a2 (by omega)
          exact ⟨h3, e2.trans e3, by rw [run_le c2]; exact Q3, K3⟩
        · rw [Nat.min_eq_left (by omega), ev_no v (by omega) (by omega)] at Q2
          refine ⟨h2, e2.trans (stop f h2 (adv R to τ) Q2 (Nat.le_refl _) (Nat.le_refl _)), by rw [run_gt (by omega)]; exact Q2, K2⟩
  have hm := mu_le v σ
  exact main 29 FU g σ B' hB' (by omega) (by unfold FU; omega) Keep.rfl Q W S ht
end MNI
