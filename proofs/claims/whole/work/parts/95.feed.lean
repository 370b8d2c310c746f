/-! FEED -/
set_option maxRecDepth 100000 in
theorem byE (w : Int32) : (w.toInt8.toInt32) &&& nI 255 = w &&& nI 255 := by
  apply Int32.toBitVec_inj.1
  have e : (nI 255).toBitVec = 255#32 := by decide
  rw [Int32.toBitVec_and, Int32.toBitVec_and, e]
  apply BitVec.eq_of_getLsbD_eq
  intro i hi
  have h255 : (255#32).getLsbD i = decide (i < 8) := by
    have : ∀ i, i < 32 → (255#32).getLsbD i = decide (i < 8) := by decide +kernel
    exact this i hi
  rw [BitVec.getLsbD_and, BitVec.getLsbD_and, h255]
  by_cases c : i < 8
  · rw [decide_eq_true c, Bool.and_true, Bool.and_true, Int8.toBitVec_toInt32, Int32.toBitVec_toInt8, BitVec.getLsbD_signExtend, if_pos c, decide_eq_true hi, Bool.true_and, BitVec.getLsbD_signExtend]
    simp [hi, c]
  · rw [decide_eq_false c, Bool.and_false, Bool.and_false]
set_option maxRecDepth 100000 in
theorem byU (x : Int32) : ∀ r, r < 4 → ((x.toUInt32 >>> ((nI (24 - 8 * r)).toUInt32 &&& Int32.toUInt32 31)).toInt32) &&& nI 255 = (x >>> (nI (24 - 8 * r) &&& nI 31)) &&& nI 255 := by
  intro r hr
  have hs : ((nI (24 - 8 * r)).toUInt32 &&& Int32.toUInt32 31).toBitVec = BitVec.ofNat 32 (24 - 8 * r) ∧ (nI (24 - 8 * r) &&& nI 31).toBitVec = BitVec.ofNat 32 (24 - 8 * r) := by
    have : ∀ r, r < 4 → ((nI (24 - 8 * r)).toUInt32 &&& Int32.toUInt32 31).toBitVec = BitVec.ofNat 32 (24 - 8 * r) ∧ (nI (24 - 8 * r) &&& nI 31).toBitVec = BitVec.ofNat 32 (24 - 8 * r) := by decide +kernel
    exact this r hr
  have m1 : ((BitVec.ofNat 32 (24 - 8 * r)).smod 32).toNat = 24 - 8 * r ∧ (BitVec.ofNat 32 (24 - 8 * r) % 32).toNat = 24 - 8 * r := by
    have : ∀ r, r < 4 → ((BitVec.ofNat 32 (24 - 8 * r)).smod 32).toNat = 24 - 8 * r ∧ (BitVec.ofNat 32 (24 - 8 * r) % 32).toNat = 24 - 8 * r := by decide +kernel
    exact this r hr
  apply Int32.toBitVec_inj.1
  have e : (nI 255).toBitVec = 255#32 := by decide
  rw [Int32.toBitVec_and, Int32.toBitVec_and, e]
  apply BitVec.eq_of_getLsbD_eq
  intro i hi
  have h255 : (255#32).getLsbD i = decide (i < 8) := by
    have : ∀ i, i < 32 → (255#32).getLsbD i = decide (i < 8) := by decide +kernel
    exact this i hi
  rw [BitVec.getLsbD_and, BitVec.getLsbD_and, h255]
  by_cases c : i < 8
  · rw [decide_eq_true c, Bool.and_true, Bool.and_true]
    have a1 : (x.toUInt32 >>> ((nI (24 - 8 * r)).toUInt32 &&& Int32.toUInt32 31)).toInt32.toBitVec = x.toBitVec >>> (24 - 8 * r) := by
      show (x.toUInt32 >>> ((nI (24 - 8 * r)).toUInt32 &&& Int32.toUInt32 31)).toBitVec = _
      rw [UInt32.toBitVec_shiftRight, hs.1, BitVec.ushiftRight_eq', m1.2]
      rfl
    have a2 : (x >>> (nI (24 - 8 * r) &&& nI 31)).toBitVec = x.toBitVec.sshiftRight (24 - 8 * r) := by
      rw [Int32.toBitVec_shiftRight, hs.2, BitVec.sshiftRight_eq', m1.1]
    rw [a1, a2, BitVec.getLsbD_ushiftRight, BitVec.getLsbD_sshiftRight]
    have : 24 - 8 * r + i < 32 := by omega
    simp [hi, this]
  · rw [decide_eq_false c, Bool.and_false, Bool.and_false]
/-- the byte that the class keeps; that of the model -/
def cby (x : Int32) (r : Nat) : Int32 := ((x.toUInt32 >>> ((nI (24 - 8 * r)).toUInt32 &&& Int32.toUInt32 31)).toInt32).toInt8.toInt32.toInt8.toInt32
def mby (x : Int32) (r : Nat) : Int32 := (x >>> (nI (24 - 8 * r) &&& nI 31)) &&& nI 255
set_option maxRecDepth 100000 in
theorem by_eq (x : Int32) {r : Nat} (hr : r < 4) : ∃ b, b < 256 ∧ mby x r = nI b ∧ cby x r &&& nI 255 = nI b := by
  obtain ⟨j, j1, j2⟩ := pk_andE (x >>> (nI (24 - 8 * r) &&& nI 31)) (m := nI 255) 8 (by decide)
  refine ⟨j, j1, j2, ?_⟩
  unfold cby
  rw [byE, byE, byU x r hr]
  exact j2
def PFd (b k : Nat) : Prop := b ≠ 1 ∧ ¬ (b = 0 ∧ k = 13)
section FEED
variable {h : HH} {n : Nat}
set_option maxRecDepth 100000 in
theorem M8 : ∀ r, r < 3 → nI (24 - 8 * r) + -nI 8 = nI (24 - 8 * (r + 1)) := by decide +kernel
set_option maxRecDepth 100000 in
theorem M8z : (nI 0 + -nI 8 < nI 0) = True := by decide +kernel
set_option maxRecDepth 100000 in
theorem cFeedN (x : Int32) {tz : Nat} (ht : tz + 4 ≤ 1000) (h13 : gI h 0 13 = nI tz) : ∃ h', fX8_feedNumber 0 x h = some h' ∧ gI h' 0 13 = nI (tz + 4) ∧ (∀ r, r < 4 → gI h' 1 (tz + r) = cby x r) ∧ (∀ k, k < tz → gI h' 1 k = gI h 1 k) ∧ Keep PFd h h' := by
  have main : ∀ m r f (g : HH), r + m = 3 → m + 1 < f → gI g 0 13 = nI (tz + r) → (∀ i, i < r → gI g 1 (tz + i) = cby x i) → (∀ k, k < tz → gI g 1 k = gI h 1 k) → Keep PFd h g → ∃ h', lq1 (fX8_feedNumber_L3 0 x) f (nI (24 - 8 * r)) g = some h' ∧ gI h' 0 13 = nI (tz + 4) ∧ (∀ r, r < 4 → gI h' 1 (tz + r) = cby x r) ∧ (∀ k, k < tz → gI h' 1 k = gI h 1 k) ∧ Keep PFd h h' := by
    have step : ∀ r f (g : HH), r < 4 → gI g 0 13 = nI (tz + r) → lq1 (fX8_feedNumber_L3 0 x) (f + 1) (nI (24 - 8 * r)) g = lq1 (fX8_feedNumber_L3 0 x) f (nI (24 - 8 * r) + -nI 8) (sI (sI g 1 (tz + r) (cby x r)) 0 13 (nI (tz + r + 1))) := by
      intro r f g hr g13
      have n1 : ¬ 1000 ≤ tz + r := by omega
      show fX8_feedNumber_L3 0 x (lq1 (fX8_feedNumber_L3 0 x) f) (nI (24 - 8 * r)) g = _
      simp (disch := omega) only [lI, gd_1, nm_1, inbN, ixN, nI_add, fX8_feedNumber_L3, ltN, Nat.not_lt_zero, if_false, g13, leN, n1, Nat.reduceAdd, gIa, vp_nar_byte]
      rfl
    intro m
    induction m with
    | zero =>
      intro r f g e hf g13 gb gk K
      obtain ⟨f, rfl⟩ : ∃ q, f = q + 2 := ⟨f - 2, by omega⟩
      have : r = 3 := by omega
      subst this
      refine ⟨sI (sI g 1 (tz + 3) (cby x 3)) 0 13 (nI (tz + 3 + 1)), ?_, gIs _ _ _ _, fun i hi => ?_, fun k hk => ?_, Keep.sI (Keep.sI K (fun z => z.1 rfl)) (fun z => z.2 ⟨rfl, rfl⟩)⟩
      · rw [step 3 (f + 1) g (by omega) g13]
        show fX8_feedNumber_L3 0 x (lq1 (fX8_feedNumber_L3 0 x) f) (nI 0 + -nI 8) _ = _
        simp only [lI, fX8_feedNumber_L3, M8z, if_true]
      · rw [gIa (by omega)]
        by_cases z : i = 3
        · rw [z, gIs]
        · rw [gIk (by omega)]; exact gb i (by omega)
      · rw [gIa (by omega), gIk (by omega)]; exact gk k hk
    | succ m ih =>
      intro r f g e hf g13 gb gk K
      obtain ⟨f, rfl⟩ : ∃ q, f = q + 1 := ⟨f - 1, by omega⟩
      rw [step r f g (by omega) g13, M8 r (by omega)]
      refine ih (r + 1) f _ (by omega) (by omega) (gIs _ _ _ _) (fun i hi => ?_) (fun k hk => ?_) (Keep.sI (Keep.sI K (fun z => z.1 rfl)) (fun z => z.2 ⟨rfl, rfl⟩))
      · rw [gIa (by omega)]
        by_cases z : i = r
        · rw [z, gIs]
        · rw [gIk (by omega)]; exact gb i (by omega)
      · rw [gIa (by omega), gIk (by omega)]; exact gk k hk
  exact main 3 0 FU h (by omega) (by unfold FU; omega) h13 (fun i hi => by omega) (fun _ _ => rfl) Keep.rfl
/-- which number a byte is of -/
def ar5 (a b c d e : Int32) (k : Nat) : Int32 := if k < 4 then a else if k < 8 then b else if k < 12 then c else if k < 16 then d else e
def PFm (b k : Nat) : Prop := b ≠ 182 ∧ ¬ (b = 181 ∧ k = 2)
set_option maxRecDepth 100000 in
theorem mFeedL {g : HH} (a b c d e : Int32) {tz : Nat} (ht : tz + 20 ≤ 1000) : ∀ m k f (h : HH), k + m = 20 → m < f → gI h 181 2 = nI (tz + k) → (∀ i, i < k → gI h 182 (tz + i) = mby (ar5 a b c d e i) (i % 4)) → (∀ i, i < tz → gI h 182 i = gI g 182 i) → Keep PFm g h → ∃ h', lq1 (fX9_feed_L23 181 a b c d e) f (nI k) h = some (nI (tz + 20), h') ∧ gI h' 181 2 = nI (tz + 20) ∧ (∀ i, i < 20 → gI h' 182 (tz + i) = mby (ar5 a b c d e i) (i % 4)) ∧ (∀ i, i < tz → gI h' 182 i = gI g 182 i) ∧ Keep PFm g h' := by
  intro m
  induction m with
  | zero =>
    intro k f h e' hf h2 hb hk K
    obtain ⟨f, rfl⟩ : ∃ q, f = q + 1 := ⟨f - 1, by omega⟩
    have : k = 20 := by omega
    subst this
    refine ⟨h, ?_, h2, hb, hk, K⟩
    simp (disch := omega) only [lI, lq1, fX9_feed_L23, leN, Nat.le_refl, if_true, h2]
  | succ m ih =>
    intro k f h e' hf h2 hb hk K
    obtain ⟨f, rfl⟩ : ∃ q, f = q + 1 := ⟨f - 1, by omega⟩
    have n20 : ¬ 20 ≤ k := by omega
    obtain ⟨h', e1, r1⟩ := ih (k + 1) f (sI (sI h 182 (tz + k) (mby (ar5 a b c d e k) (k % 4))) 181 2 (nI (tz + k + 1))) (by omega) (by omega) (gIs _ _ _ _) (fun i hi => by
      rw [gIa (by omega)]
      by_cases z : i = k
      · rw [z, gIs]
      · rw [gIk (by omega)]; exact hb i (by omega)) (fun i hi => by
      rw [gIa (by omega), gIk (by omega)]; exact hk i hi) (Keep.sI (Keep.sI K (fun z => z.1 rfl)) (fun z => z.2 ⟨rfl, rfl⟩))
    refine ⟨h', ?_, r1⟩
    rw [← e1]
    have hm : k % 4 < 4 := Nat.mod_lt _ (by omega)
    have e8 : nI 24 - nI (8 * (k % 4)) = nI (24 - 8 * (k % 4)) := pk_sub (by omega)
    show fX9_feed_L23 181 a b c d e (lq1 (fX9_feed_L23 181 a b c d e) f) (nI k) h = _
    unfold ar5 mby
    by_cases c4 : k < 4
    · have d4 : ¬ 4 ≤ k := by omega
      rw [if_pos c4]
      simp (disch := omega) only [lI, gd_1, nm_1, inbN, ixN, pk_div, pk_mul, remN, e8, nI_add, fX9_feed_L23, leN, n20, d4, if_false, h2, Nat.reduceAdd, gIa]
    · have d4 : 4 ≤ k := by omega
      rw [if_neg c4]
      by_cases c8 : k < 8
      · have d8 : ¬ 8 ≤ k := by omega
        rw [if_pos c8]
        simp (disch := omega) only [lI, gd_1, nm_1, inbN, ixN, pk_div, pk_mul, remN, e8, nI_add, fX9_feed_L23, leN, n20, d4, d8, if_true, if_false, h2, Nat.reduceAdd, gIa]
      · have d8 : 8 ≤ k := by omega
        rw [if_neg c8]
        by_cases c12 : k < 12
        · have d12 : ¬ 12 ≤ k := by omega
          rw [if_pos c12]
          simp (disch := omega) only [lI, gd_1, nm_1, inbN, ixN, pk_div, pk_mul, remN, e8, nI_add, fX9_feed_L23, leN, n20, d4, d8, d12, if_true, if_false, h2, Nat.reduceAdd, gIa]
        · have d12 : 12 ≤ k := by omega
          rw [if_neg c12]
          by_cases c16 : k < 16
          · have d16 : ¬ 16 ≤ k := by omega
            rw [if_pos c16]
            simp (disch := omega) only [lI, gd_1, nm_1, inbN, ixN, pk_div, pk_mul, remN, e8, nI_add, fX9_feed_L23, leN, n20, d4, d8, d12, d16, if_true, if_false, h2, Nat.reduceAdd, gIa]
          · have d16 : 16 ≤ k := by omega
            rw [if_neg c16]
            simp (disch := omega) only [lI, gd_1, nm_1, inbN, ixN, pk_div, pk_mul, remN, e8, nI_add, fX9_feed_L23, leN, n20, d4, d8, d12, d16, if_true, if_false, h2, Nat.reduceAdd, gIa]
set_option maxRecDepth 100000 in
theorem aFeed (I : GI h n) (a b c d e : Int32) : OpG h n (fun h => fX8_feed 0 a b c d e h) (fun h => fX9_feed 181 a b c d e h) := by
  obtain ⟨tz, t1, t2, t3, t4⟩ := I.1.1
  by_cases cc : tz + 20 ≤ 1000
  · obtain ⟨h1, e1, a1, b1, k1, K1⟩ := cFeedN a (tz := tz) (by omega) t2
    obtain ⟨h2, e2, a2, b2, k2, K2⟩ := cFeedN b (tz := tz + 4) (by omega) a1
    obtain ⟨h3, e3, a3, b3, k3, K3⟩ := cFeedN c (tz := tz + 4 + 4) (by omega) a2
    obtain ⟨h4, e4, a4, b4, k4, K4⟩ := cFeedN d (tz := tz + 4 + 4 + 4) (by omega) a3
    obtain ⟨h5, e5, a5, b5, k5, K5⟩ := cFeedN e (tz := tz + 4 + 4 + 4 + 4) (by omega) a4
    have KC : Keep PFd h h5 := K1.trans (K2.trans (K3.trans (K4.trans K5)))
    have by5 : ∀ i, i < 20 → gI h5 1 (tz + i) = cby (ar5 a b c d e i) (i % 4) := by
      intro i hi
      unfold ar5
      by_cases c4 : i < 4
      · rw [if_pos c4, k5 _ (by omega), k4 _ (by omega), k3 _ (by omega), k2 _ (by omega), b1 i c4, Nat.mod_eq_of_lt c4]
      · rw [if_neg c4]
        by_cases c8 : i < 8
        · rw [if_pos c8, k5 _ (by omega), k4 _ (by omega), k3 _ (by omega), show tz + i = tz + 4 + (i - 4) by omega, b2 (i - 4) (by omega), show i % 4 = i - 4 by omega]
        · rw [if_neg c8]
          by_cases c12 : i < 12
          · rw [if_pos c12, k5 _ (by omega), k4 _ (by omega), show tz + i = tz + 4 + 4 + (i - 8) by omega, b3 (i - 8) (by omega), show i % 4 = i - 8 by omega]
          · rw [if_neg c12]
            by_cases c16 : i < 16
            · rw [if_pos c16, k5 _ (by omega), show tz + i = tz + 4 + 4 + 4 + (i - 12) by omega, b4 (i - 12) (by omega), show i % 4 = i - 12 by omega]
            · rw [if_neg c16, show tz + i = tz + 4 + 4 + 4 + 4 + (i - 16) by omega, b5 (i - 16) (by omega), show i % 4 = i - 16 by omega]
    have old5 : ∀ i, i < tz → gI h5 1 i = gI h 1 i := fun i hi => by
      rw [k5 _ (by omega), k4 _ (by omega), k3 _ (by omega), k2 _ (by omega), k1 i hi]
    have p2 : gI (sI h5 181 0 (nI 0)) 181 2 = nI tz := by rw [gIk (by omega), (KC 181 2 ⟨by omega, by omega⟩).1]; exact t3
    obtain ⟨h6, e6, a6, b6, k6, K6⟩ := mFeedL (g := sI h5 181 0 (nI 0)) a b c d e cc 20 0 FU (sI h5 181 0 (nI 0)) (by omega) (by unfold FU; omega) p2 (fun i hi => by omega) (fun _ _ => rfl) Keep.rfl
    have KA : Keep (fun x k => PFd x k ∧ PFm x k ∧ ¬ (x = 181 ∧ k = 0)) h h6 := (KC.mono (fun x k hp => hp.1)).trans ((Keep.sI Keep.rfl (fun z => z.2.2 ⟨rfl, rfl⟩) : Keep (fun x k => PFd x k ∧ PFm x k ∧ ¬ (x = 181 ∧ k = 0)) h5 (sI h5 181 0 (nI 0))).trans (K6.mono (fun x k hp => hp.2.1)))
    refine ⟨nI (tz + 20), h5, h6, ?_, ?_, ?_⟩
    · simp (disch := omega) only [lI, bv_1, nI_add, fX8_feed, t2, leN, cc, if_true, e1, e2, e3, e4, e5, a5, Nat.add_assoc, Nat.reduceAdd]
    · simp (disch := omega) only [lI, nI_add, fX9_feed, p2, leN, cc, if_true]
      exact e6
    · obtain ⟨G, B, ⟨q, hq, Q⟩, S⟩ := I
      obtain ⟨-, g2, ⟨g3, g3'⟩, g4, g5⟩ := G
      have kk : ∀ x k, PFd x k → PFm x k → ¬ (x = 181 ∧ k = 0) → gI h6 x k = gI h x k ∧ gL h6 x k = gL h x k ∧ gR h6 x k = gR h x k := fun x k z1 z2 z3 => KA x k ⟨z1, z2, z3⟩
      have eR : ∀ k, gR h6 42 k = gR h 42 k := fun k => (KA 42 k (by unfold PFd PFm; omega)).2.2
      refine ⟨⟨⟨tz + 20, cc, ?_, a6, fun k hk => ?_⟩, ?_, ⟨fun i hi => by rw [eR]; exact g3 i hi, fun i i' x y z => by rw [eR, eR] at z; exact g3' i i' x y z⟩, fun i hi => by rw [(KA 43 i (by unfold PFd PFm; omega)).2.2]; exact g4 i hi, fun dd hd => ?_⟩, ⟨?_, ?_, fun z => ?_⟩, ⟨q, by omega, Q.keep (KA.mono (fun x k hp => by unfold PFd PFm; omega))⟩, ?_⟩
      · rw [(K6 0 13 (by unfold PFm; omega)).1, gIa (by omega), a5]
      · have cl : gI h6 1 k = gI h5 1 k := by rw [(K6 1 k (by unfold PFm; omega)).1, gIa (by omega)]
        by_cases z : k < tz
        · obtain ⟨bb, y1, y2, y3⟩ := t4 k z
          refine ⟨bb, y1, ?_, ?_⟩
          · rw [k6 k z, gIa (by omega), (KC 182 k ⟨by omega, by omega⟩).1]; exact y2
          · rw [cl, old5 k z]; exact y3
        · obtain ⟨bb, y1, y2, y3⟩ := by_eq (ar5 a b c d e (k - tz)) (r := (k - tz) % 4) (Nat.mod_lt _ (by omega))
          refine ⟨bb, y1, ?_, ?_⟩
          · have := b6 (k - tz) (by omega)
            rw [show tz + (k - tz) = k by omega] at this
            rw [this]; exact y2
          · have := by5 (k - tz) (by omega)
            rw [show tz + (k - tz) = k by omega] at this
            rw [cl, this]; exact y3
      · unfold REFS
        rw [(KA 0 10 (by unfold PFd PFm; omega)).2.2, (KA 0 11 (by unfold PFd PFm; omega)).2.2]; exact g2
      · have e : ∀ j k, j = 4 ∨ j = 6 ∨ j = 8 ∨ j = 10 ∨ j = 12 ∨ j = 14 → gI h6 (dd + j) k = gI h (dd + j) k := fun j k hj => (KA (dd + j) k (by rcases hd with e | e <;> (unfold PFd PFm; omega))).1
        rw [e 4 0 (by omega), e 4 1 (by omega), e 6 0 (by omega), e 6 1 (by omega), e 8 0 (by omega), e 8 1 (by omega), e 10 0 (by omega), e 10 1 (by omega), e 12 0 (by omega), e 12 1 (by omega), e 14 0 (by omega), e 14 1 (by omega)]
        exact g5 dd hd
      · rw [(KA 0 16 (by unfold PFd PFm; omega)).1, (KA 181 11 (by unfold PFd PFm; omega)).1]; exact B.1
      · rw [(KA 0 17 (by unfold PFd PFm; omega)).1, (KA 181 9 (by unfold PFd PFm; omega)).1]; exact B.2.1
      · rw [(KA 0 16 (by unfold PFd PFm; omega)).1] at z
        rw [(KA 0 18 (by unfold PFd PFm; omega)).1, (KA 181 10 (by unfold PFd PFm; omega)).1]; exact B.2.2 z
      · rcases S with Z | ⟨dd, R, N, T, C, ⟨m1, m2, m3, m4, m5, m6⟩, A, Im, P, F⟩
        · left
          obtain ⟨z1, z2, z3, z4, z5, z6⟩ := Z
          exact ⟨(KA 0 12 (by unfold PFd PFm; omega)).1.trans z1, (KA 181 14 (by unfold PFd PFm; omega)).1.trans z2, (KA 0 14 (by unfold PFd PFm; omega)).1.trans z3, (KA 181 25 (by unfold PFd PFm; omega)).1.trans z4, (KA 0 15 (by unfold PFd PFm; omega)).1.trans z5, (KA 181 26 (by unfold PFd PFm; omega)).1.trans z6⟩
        · right
          exact ⟨dd, R, N, T, C.keep3 (KA.mono (fun x k hp => by unfold PFd PFm; omega)), ⟨(KA 181 14 (by unfold PFd PFm; omega)).1.trans m1, m2.keep KA (fun k => by unfold PFd PFm; omega), m3, m4.keep KA (fun k => by unfold PFd PFm; omega) (fun k => by unfold PFd PFm; omega), m5, m6⟩, A.keep ⟨g3, g3'⟩ (KA.mono (fun x k hp => by unfold PAC at hp; unfold PFd PFm; omega)), Im.keep (KA.mono (fun x k hp => by unfold PIM at hp; unfold PFd PFm; omega)), P.keep (KA.mono (fun x k hp => by unfold PFd PFm; omega)), F.keep (KA.mono (fun x k hp => by unfold PFd PFm; omega))⟩
  · refine opT I M1 (nI 0) ?_ ?_
    · simp (disch := omega) only [lI, neg1, nI_add, fX8_feed, t2, leN, cc, if_false]
    · have p2 : gI (sI h 181 0 (nI 0)) 181 2 = nI tz := by rw [gIk (by omega)]; exact t3
      simp (disch := omega) only [lI, neg1, nI_add, fX9_feed, p2, leN, cc, if_false]
end FEED
