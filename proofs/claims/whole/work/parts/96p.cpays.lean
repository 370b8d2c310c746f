/-! the class's lines: thinks, pays -/
section CTP
variable {TP : Nat → Nat} {n d e : Nat} {h : HH} {F : Nat → Nat}
set_option maxRecDepth 100000 in
theorem gN {h0 : HH} {lo hi : Nat} {vl vh : Int32} {k : Nat → Nat → Out} {K : HH → Option (Bool × HH)} (S : CS h TP n d e) (K0 : Keep (PRd d) h0 h) (hlo : lo < 10000) (hhi : hi < 10000) (el : vl = nI lo) (eh : vh = nI hi) (nx : lo ≤ tV TP n e → tV TP n e ≤ hi → gI h 2 11 = nI (tV TP n e) → CR TP n d h0 (k (tV TP n e) (tE TP n e)) (K h)) : CR TP n d h0 (sN TP n lo hi e k) (bd (fX5_isWhole 2 vl vh h) (fun r h' => bif r then K h' else some (false, h'))) := by
  subst el eh
  unfold sN
  obtain ⟨a1, a2, a3⟩ := cWhole S hlo hhi
  by_cases z : tK TP n e = 2
  · rw [if_pos z]
    by_cases y : lo ≤ tV TP n e ∧ tV TP n e ≤ hi
    · rw [if_pos y, a1 z y.1 y.2, bd_1, cond_true]
      exact nx y.1 y.2 (S.2.1.2.2.2.1 z)
    · rw [if_neg y, a2 z y, bd_1, cond_false]
      exact CRbad S rfl K0
  · rw [if_neg z, a3 z, bd_1, cond_false]
    exact CRbad S rfl K0
set_option maxRecDepth 100000 in
theorem gW {h0 : HH} {w1 : Nat} {k : Nat → Out} {K : HH → Option (Bool × HH)} (H : HT TP n) (hd : isD d) (S : CS h TP n d e) (K0 : Keep (PRd d) h0 h) (hw : w1 < 58) (nx : ∀ h', CS h' TP n d (tE TP n e) → Keep PFk h h' → CR TP n d h0 (k (tE TP n e)) (K h')) : CR TP n d h0 (sW TP n w1 e k) (bd (fX5_word 2 w1 h) (fun r h' => bif r then K h' else some (false, h'))) := by
  unfold sW
  obtain ⟨a, b⟩ := cWord H S hw
  cases z : WD TP n e w1 with
  | true =>
    obtain ⟨h', e1, s1, K1⟩ := a z
    rw [if_pos rfl, e1, bd_1, cond_true]
    exact nx h' s1 K1
  | false =>
    obtain ⟨h', e1, s1, s2, K1⟩ := b z
    rw [if_neg (fun z => by cases z), e1, bd_1, cond_false]
    exact CRbad2 s1 s2 (K0.trans (kRd hd K1))
/-! another number of a sleeper, or the pays -/
set_option maxRecDepth 100000 in
theorem xDt {h1 h : HH} {F' : Nat → Nat} {s v : Nat} (D : DRep h1 d F) (B : BD F) (hs : s < F 4) (e : ∀ b k, d ≤ b → b ≤ d + 15 → ¬ (b = d + 5 ∧ k = s * 6 + 4) → gI h b k = gI h1 b k) (e4 : gI h (d + 5) (s * 6 + 4) = nI v) (hF : F' = fu F (15 + 5 * s + 4) (v + 1)) : DRep h d F' := by
  obtain ⟨B0, B4, B5, B6, B7, B8, B9⟩ := B
  have hlo : ∀ k, k ≠ 15 + 5 * s + 4 → F' k = F k := fun k hk => by rw [hF, fuN _ hk]
  have hat : F' (15 + 5 * s + 4) = v + 1 := by rw [hF, fuS]
  obtain ⟨a1, a2, a3, a4, a5, a6, a7, a8, a9, a10, a11⟩ := D
  have fq : ∀ f, f ≤ F 0 → qk F' f = qk F f := fun f hf => qk_cg f (fun i hi => hlo _ (by omega))
  have f0 : F' 0 = F 0 := hlo 0 (by omega)
  have f1 : F' 1 = F 1 := hlo 1 (by omega)
  have f2 : F' 2 = F 2 := hlo 2 (by omega)
  have f3 : F' 3 = F 3 := hlo 3 (by omega)
  have f4 : F' 4 = F 4 := hlo 4 (by omega)
  have f5 : F' 5 = F 5 := hlo 5 (by omega)
  have f6 : F' 6 = F 6 := hlo 6 (by omega)
  have f7 : F' 7 = F 7 := hlo 7 (by omega)
  have f8 : F' 8 = F 8 := hlo 8 (by omega)
  have f9 : F' 9 = F 9 := hlo 9 (by omega)
  have f10 : F' 10 = F 10 := hlo 10 (by omega)
  refine ⟨fun f hf => ?_, fun q1 f q2 hf => ?_, ?_, ?_, fun t ht => ?_, fun k hk => ?_, fun k hk => ?_, fun k hk => ?_, fun k hk => ?_, fun k hk => ?_, fun k hk => ?_⟩
  · rw [f0] at hf
    rw [e _ _ (by omega) (by omega) (by omega), fq f hf]; exact a1 f hf
  · rw [f0] at hf
    rw [f10] at q1
    rw [e _ _ (by omega) (by omega) (by omega), hlo _ (by omega)]; exact a2 q1 f q2 hf
  · obtain ⟨c1, c2, c3, c4, c5⟩ := a3
    rw [f0, f1, f2, f3, f10, e _ 9 (by omega) (by omega) (by omega), e _ 10 (by omega) (by omega) (by omega), e _ 11 (by omega) (by omega) (by omega), e _ 12 (by omega) (by omega) (by omega), e _ 13 (by omega) (by omega) (by omega)]
    exact ⟨c1, c2, c3, c4, c5⟩
  · unfold RowsR at a4 ⊢
    rw [f4, f5, f6, f7, f8, f9]
    repeat rw [e _ _ (by omega) (by omega) (by omega)]
    exact a4
  · rw [f4] at ht
    obtain ⟨c1, c2, c3⟩ := a5 t ht
    refine ⟨fun c hc => ?_, ?_, ?_⟩
    · rw [e _ _ (by omega) (by omega) (by omega), hlo _ (by omega)]; exact c1 c hc
    · by_cases y : t = s
      · subst y; rw [e4, hat]; rfl
      · rw [e _ _ (by omega) (by omega) (by omega), hlo _ (by omega)]; exact c2
    · rw [e _ _ (by omega) (by omega) (by omega), f5, cnt_cg t _ (fun i hi => hlo _ (by omega))]; exact c3
  · rw [f5] at hk
    rw [e _ _ (by omega) (by omega) (by omega), e _ _ (by omega) (by omega) (by omega), e _ _ (by omega) (by omega) (by omega), hlo _ (by omega), hlo _ (by omega), hlo _ (by omega)]; exact a6 k hk
  · rw [f5] at hk
    rw [hlo _ (by omega), cnt_cg _ _ (fun i hi => hlo _ (by omega)), e _ _ (by omega) (by omega) (by omega)]; exact a7 k hk
  · rw [f6] at hk
    rw [e _ _ (by omega) (by omega) (by omega), e _ _ (by omega) (by omega) (by omega), e _ _ (by omega) (by omega) (by omega), e _ _ (by omega) (by omega) (by omega), hlo _ (by omega), hlo _ (by omega), hlo _ (by omega), hlo _ (by omega)]; exact a8 k hk
  · rw [f7] at hk
    rw [e _ _ (by omega) (by omega) (by omega), e _ _ (by omega) (by omega) (by omega), e _ _ (by omega) (by omega) (by omega), hlo _ (by omega), hlo _ (by omega), hlo _ (by omega)]; exact a9 k hk
  · rw [f8] at hk
    rw [e _ _ (by omega) (by omega) (by omega), e _ _ (by omega) (by omega) (by omega), e _ _ (by omega) (by omega) (by omega), hlo _ (by omega), hlo _ (by omega), hlo _ (by omega)]; exact a10 k hk
  · rw [f9] at hk
    rw [e _ _ (by omega) (by omega) (by omega), e _ _ (by omega) (by omega) (by omega), e _ _ (by omega) (by omega) (by omega), hlo _ (by omega), hlo _ (by omega), hlo _ (by omega)]; exact a11 k hk
set_option maxRecDepth 100000 in
theorem clThinks (H : HT TP n) (V : VQ F) (L : LnS TP n d h F e) : CR TP n d h (lThinks TP n F e) (fX5_readThinks 2 h) := by
  obtain ⟨hd, S, D, C, RM⟩ := id L
  have B := V.bd
  have N := V.nm
  obtain ⟨B0, B4, B5, B6, B7, B8, B9⟩ := id B
  have hd6 : 44 ≤ d := by unfold isD at hd; omega
  obtain ⟨-, l5, -⟩ := ln3 hd
  obtain ⟨h1, e1, S1, K1⟩ := S.nx H
  have K1p := kfk K1
  have C1 : CN h1 F (F 3 + F 4 + F 7) := C.keep (K1.mono (fun b k hp => by unfold PNm at hp; unfold PTk; omega))
  obtain ⟨a1, a2, a3⟩ := cTol (s := 1) (lo := 3) (hi := 7) N S1 C1 (by omega)
  unfold lThinks fX5_readThinks
  rw [e1, bv_1]
  refine (show CR TP n d h _ (bd (fX5_isTold 2 (nI 1) h1) _) from ?_)
  unfold sTd
  cases y : nme TP n (tE TP n e) with
  | false =>
    rw [if_neg (fun z => by cases z), a3 y, bd_1, cond_false]
    exact CRbad S1 rfl (kRd hd K1p)
  | true =>
    rw [if_pos rfl]
    have k1 : tK TP n (tE TP n e) = 1 := by
      unfold nme at y
      rw [Bool.and_eq_true] at y
      exact of_decide_eq_true y.1
    by_cases x : 3 ≤ FD TP n F (tE TP n e) ∧ FD TP n F (tE TP n e) ≤ 7
    · rw [if_pos x, a1 y x.1 x.2, bd_1, cond_true]
      have hs4 := FDs N x.1 x.2
      generalize FD TP n F (tE TP n e) - 3 = s at hs4 ⊢
      have S2 : CS (sI h1 2 11 (nI s)) TP n d (tE TP n e) := S1.i11 k1
      have K2 : Keep PFk h (sI h1 2 11 (nI s)) := K1p.trans (Keep.sI Keep.rfl (fun z => z ⟨rfl, by omega, by omega⟩))
      have D2 : DRep (sI h1 2 11 (nI s)) d F := D.keep K2 (fun b k q1 q2 => by unfold PFk; omega)
      have t2 := atR D2.2.2.2.1.1 hs4 (show 4 < 6 by omega) l5 (by omega) (by omega) (by omega) (by omega)
      rw [show gI (sI h1 2 11 (nI s)) (d + 4 + 1) (s * 6 + 4) = les M2 (F (15 + 5 * s + 4)) from (D2.2.2.2.2.1 s hs4).2.1] at t2
      have vb := (V.2.2.1 s hs4).2.2.2.2.2
      rw [nm_1, gIs]
      refine rG hd S2 ?_
      rw [S2.2.2.1]
      refine (show CR TP n d h _ (bd (fX7_at (d + 4) (nI s) (nI 4) (sI h1 2 11 (nI s))) _) from ?_)
      rw [t2, bd_1]
      refine (show CR TP n d h (if F (15 + 5 * s + 4) = 0 then sN TP n 0 4 (tE TP n (tE TP n e)) (fun v e3 => Out.ok (fu F (15 + 5 * s + 4) (v + 1)) e3) else Out.bad 3 (tA TP n (tE TP n e))) _ from ?_)
      by_cases z : F (15 + 5 * s + 4) = 0
      · rw [if_pos z, z, if_pos (show les M2 0 = (-2 : Int32) by decide +kernel)]
        obtain ⟨h3, e3, S3, K3⟩ := S2.nx H
        have K3p := K2.trans (kfk K3)
        rw [e3, bv_1]
        refine gN S3 (kRd hd K3p) (by omega) (by omega) rfl rfl (fun l3 u3 g3 => ?_)
        refine rG hd S3 ?_
        rw [S3.2.2.1, g3]
        have D3 : DRep h3 d F := D.keep K3p (fun b k q1 q2 => by unfold PFk; omega)
        have w2 := D3.2.2.2.1.1
        have pt : fX7_putAt (d + 4) (nI s) (nI 4) (nI (tV TP n (tE TP n (tE TP n e)))) h3 = some (sI h3 (d + 5) (s * 6 + 4) (nI (tV TP n (tE TP n (tE TP n e))))) := by
          have c1 : ¬ s < 0 := by omega
          have c2 : ¬ F 4 ≤ s := by omega
          have c6 : ¬ 6 ≤ 4 := by omega
          have c7 : ¬ 4 < 0 := by omega
          have b2 : inb (nI (s * 6 + 4)) (ln (d + 4 + 1)) = true := by
            rw [show ln (d + 4 + 1) = 30 from l5]; exact inbN (by omega) (by omega)
          simp (disch := omega) only [lI, fX7_putAt, ltN, c1, if_false, leN, w2.1, w2.2, c2, c6, c7, pk_mul, nI_add, b2, gd_1, ixN]
        refine (show CR TP n d h _ (bv (fX7_putAt (d + 4) (nI s) (nI 4) (nI (tV TP n (tE TP n (tE TP n e)))) h3) _) from ?_)
        rw [pt, bv_1]
        have K4 : Keep (fun b _ => b ≤ 5) h3 (sI h3 (d + 5) (s * 6 + 4) (nI (tV TP n (tE TP n (tE TP n e))))) := Keep.sI Keep.rfl (by omega)
        obtain ⟨h5, e5, S5, K5⟩ := (S3.kf (K4.mono (fun b k hp => by omega))).nx H
        rw [e5, bv_1]
        refine CRok S5 (xDt D B hs4 (fun b k q1 q2 q3 => ?_) ?_ rfl) (((C.keep (K3p.mono (fun b k hp => by unfold PNm at hp; unfold PFk; omega))).keep ((K4.mono (fun b k hp => by unfold PNm at hp; omega)).trans (K5.mono (fun b k hp => by unfold PNm at hp; unfold PTk; omega)))).cg (fun m hm => fuN _ (by omega)) (fun m hm => nc_upd (by omega)) ?_) ?_
        · rw [(K5 b k (by unfold PTk; omega)).1, gI_sI, if_neg (by omega)]
          exact (K3p b k (by unfold PFk; omega)).1
        · rw [(K5 (d + 5) _ (by unfold PTk; omega)).1, gIs]
        · simp (disch := omega) only [fuN]
        · exact ((kRd hd K3p).trans (Keep.sI Keep.rfl (fun z => by unfold isD at hd; have := z.2 (by omega) (by omega); omega))).trans (kRd hd (kfk K5))
      · rw [if_neg z, if_neg (show ¬ les M2 (F (15 + 5 * s + 4)) = (-2 : Int32) by
          rw [show (-2 : Int32) = M2 by decide +kernel, les_e (by omega)]; exact z)]
        exact CR.wrap2 (CRbad S2 rfl (kRd hd K2))
    · rw [if_neg x, a2 y x, bd_1, cond_false]
      exact CRbad S1 rfl (kRd hd K1p)
end CTP
