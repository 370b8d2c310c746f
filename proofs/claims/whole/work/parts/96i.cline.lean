/-! the class's lines: steps -/
def PRd (d b k : Nat) : Prop := PFN b k ∧ (d ≤ b → b ≤ d + 15 → d + 4 ≤ b ∧ b % 2 = 0 ∧ (k = 0 ∨ k = 1))
def CR (TP : Nat → Nat) (n d : Nat) (h0 : HH) (o : Out) (r : Option (Bool × HH)) : Prop := o.el
  (fun q p => ∃ b h', r = some (b, h') ∧ gI h' 2 8 = nI p ∧ Keep (PRd d) h0 h' ∧ (b = false → gI h' 2 7 = nI q) ∧ (b = true → q = 1 ∧ gI h' 2 10 ≠ nI 3 ∧ gI h' 2 10 ≠ nI 5))
  (fun F e => ∃ h', r = some (true, h') ∧ CS h' TP n d e ∧ DRep h' d F ∧ CN h' F (F 3 + F 4 + F 7) ∧ Keep (PRd d) h0 h')
section CLN
variable {TP : Nat → Nat} {n d : Nat}
set_option maxRecDepth 100000 in
theorem CR.tr {h0 h1 : HH} {o : Out} {r : Option (Bool × HH)} (C : CR TP n d h1 o r) (K : Keep (PRd d) h0 h1) : CR TP n d h0 o r := by
  rcases o.cs with ⟨q, p, rfl⟩ | ⟨F, e, rfl⟩
  · obtain ⟨b, h', a1, a2, a3, a4, a5⟩ := C
    exact ⟨b, h', a1, a2, K.trans a3, a4, a5⟩
  · obtain ⟨h', a1, a2, a3, a4, a5⟩ := C
    exact ⟨h', a1, a2, a3, a4, K.trans a5⟩
set_option maxRecDepth 100000 in
theorem kRd {d : Nat} {h h' : HH} (hd : isD d) (K : Keep PFk h h') : Keep (PRd d) h h' := K.mono (fun b k hp => by unfold PRd PFN at hp; unfold PFk; omega)
set_option maxRecDepth 100000 in
theorem CRbad {h0 h : HH} {e q p : Nat} (S : CS h TP n d e) (hp : tA TP n e = p) (K : Keep (PRd d) h0 h) : CR TP n d h0 (.bad q p) (some (false, sI h 2 7 (nI q))) := by
  refine ⟨false, _, rfl, ?_, Keep.sI K (fun z => z.1.1 (by omega)), fun _ => gIs _ _ _ _, fun z => (by cases z)⟩
  rw [gIk (by omega), ← hp]; exact S.2.1.1
set_option maxRecDepth 100000 in
theorem CRbad2 {h0 h' : HH} {q p : Nat} (h7 : gI h' 2 7 = nI q) (h8 : gI h' 2 8 = nI p) (K : Keep (PRd d) h0 h') : CR TP n d h0 (.bad q p) (some (false, h')) := ⟨false, h', rfl, h8, K, fun _ => h7, fun z => (by cases z)⟩
set_option maxRecDepth 100000 in
theorem CS.i11 {h : HH} {e : Nat} {v : Int32} (S : CS h TP n d e) (k1 : tK TP n e = 1) : CS (sI h 2 11 v) TP n d e := by
  obtain ⟨⟨a1, a2, a3⟩, ⟨t1, t2, t3, t4, t5⟩, r6, he⟩ := S
  refine ⟨⟨a1, (gIk (by omega)).trans a2, fun k hk => by rw [gIa (by omega)]; exact a3 k hk⟩, ⟨?_, ?_, ?_, fun z => by omega, fun z => ?_⟩, r6, he⟩
  · rw [gIk (by omega)]; exact t1
  · rw [gIk (by omega)]; exact t2
  · rw [gIk (by omega)]; exact t3
  · rw [gL_sI]; exact t5 z
/-! in a row -/
def ML (TP : Nat → Nat) (n d : Nat) (h1 h : HH) (G : Nat → Nat) (cn e w c m : Nat) (vs : Nat → Int32) : Prop := CS h TP n d e ∧ RW h1 h w c m vs ∧ CN h G cn
def TBl (d w c m q : Nat) : Prop := isD d ∧ (w = d + 4 ∨ w = d + 6 ∨ w = d + 8 ∨ w = d + 10 ∨ w = d + 12 ∨ w = d + 14) ∧ ln (w + 1) = q ∧ m * c + c ≤ q ∧ q < 1000 ∧ m < 100
variable {h1 h : HH} {G : Nat → Nat} {cn e w c m q : Nat} {vs : Nat → Int32}
set_option maxRecDepth 100000 in
theorem TBl.w6 (T1 : TBl d w c m q) : 6 ≤ w := by obtain ⟨a, b, -⟩ := T1; unfold isD at a; omega
set_option maxRecDepth 100000 in
theorem ML.kp (T1 : TBl d w c m q) (M : ML TP n d h1 h G cn e w c m vs) : Keep (PRd d) h1 h := M.2.1.1.mono (fun b k hp => by
  obtain ⟨a, a2, -⟩ := T1
  unfold isD at a
  unfold PRd at hp
  exact ⟨hp.1, fun z => by omega, fun z => by omega⟩)
set_option maxRecDepth 100000 in
theorem ML.k {h' : HH} (T1 : TBl d w c m q) {e' : Nat} (M : ML TP n d h1 h G cn e w c m vs) (S : CS h' TP n d e') (K : Keep PFk h h') : ML TP n d h1 h' G cn e' w c m vs := ⟨S, M.2.1.k (kFF K) T1.w6, M.2.2.keep (K.mono (fun b k hp => by unfold PNm at hp; unfold PFk; omega))⟩
set_option maxRecDepth 100000 in
theorem rW {w1 : Nat} {k : Nat → Out} {K : HH → Option (Bool × HH)} (H : HT TP n) (T1 : TBl d w c m q) (M : ML TP n d h1 h G cn e w c m vs) (hw : w1 < 58) (nx : ∀ h', ML TP n d h1 h' G cn (tE TP n e) w c m vs → CR TP n d h1 (k (tE TP n e)) (K h')) : CR TP n d h1 (sW TP n w1 e k) (bd (fX5_word 2 w1 h) (fun r h' => bif r then K h' else some (false, h'))) := by
  unfold sW
  obtain ⟨a, b⟩ := cWord H M.1 hw
  cases z : WD TP n e w1 with
  | true =>
    obtain ⟨h', e1, s1, K1⟩ := a z
    rw [if_pos rfl, e1, bd_1, cond_true]
    exact nx h' (M.k T1 s1 K1)
  | false =>
    obtain ⟨h', e1, s1, s2, K1⟩ := b z
    rw [if_neg (fun z => by cases z), e1, bd_1, cond_false]
    exact CRbad2 s1 s2 ((M.kp T1).trans (kRd T1.1 K1))
set_option maxRecDepth 100000 in
theorem rN {lo hi : Nat} {vl vh : Int32} {k : Nat → Nat → Out} {K : HH → Option (Bool × HH)} (T1 : TBl d w c m q) (M : ML TP n d h1 h G cn e w c m vs) (hlo : lo < 10000) (hhi : hi < 10000) (el : vl = nI lo) (eh : vh = nI hi) (nx : lo ≤ tV TP n e → tV TP n e ≤ hi → gI h 2 11 = nI (tV TP n e) → CR TP n d h1 (k (tV TP n e) (tE TP n e)) (K h)) : CR TP n d h1 (sN TP n lo hi e k) (bd (fX5_isWhole 2 vl vh h) (fun r h' => bif r then K h' else some (false, h'))) := by
  subst el eh
  unfold sN
  obtain ⟨a1, a2, a3⟩ := cWhole M.1 hlo hhi
  by_cases z : tK TP n e = 2
  · rw [if_pos z]
    by_cases y : lo ≤ tV TP n e ∧ tV TP n e ≤ hi
    · rw [if_pos y, a1 z y.1 y.2, bd_1, cond_true]
      exact nx y.1 y.2 (M.1.2.1.2.2.2.1 z)
    · rw [if_neg y, a2 z y, bd_1, cond_false]
      exact CRbad M.1 rfl (M.kp T1)
  · rw [if_neg z, a3 z, bd_1, cond_false]
    exact CRbad M.1 rfl (M.kp T1)
set_option maxRecDepth 100000 in
theorem rT {v j : Nat} {vj : Int32} {o : Out} {K : HH → Option (Bool × HH)} (H : HT TP n) (T1 : TBl d w c m q) (M : ML TP n d h1 h G cn e w c m vs) (hj : j < c) (ej : vj = nI j) (h11 : gI h 2 11 = nI v) (nx : ∀ h', ML TP n d h1 h' G cn (tE TP n e) w c m (fun i => if i = j then nI v else vs i) → CR TP n d h1 o (K h')) : CR TP n d h1 o (bd (fX5_take 2 w vj h) (fun r h' => bif r then K h' else some (false, h'))) := by
  subst ej
  obtain ⟨h', e1, s1, r1, k1⟩ := cTak H M.1 M.2.1 T1.w6 hj T1.2.2.1 T1.2.2.2.1 T1.2.2.2.2.1 T1.2.2.2.2.2 h11
  rw [e1, bd_1, cond_true]
  exact nx h' ⟨s1, r1, M.2.2.keep k1⟩
set_option maxRecDepth 100000 in
theorem rP {j : Nat} {vj v : Int32} {o : Out} {K : HH → Option (Bool × HH)} (T1 : TBl d w c m q) (M : ML TP n d h1 h G cn e w c m vs) (hj : j < c) (ej : vj = nI j) (nx : ∀ h', ML TP n d h1 h' G cn e w c m (fun i => if i = j then v else vs i) → CR TP n d h1 o (K h')) : CR TP n d h1 o (bv (fX7_put w vj v h) (fun h' => K h')) := by
  subst ej
  have w6 := T1.w6
  obtain ⟨h', e1, r1, e2⟩ := putR M.2.1 w6 hj T1.2.2.1 T1.2.2.2.1 T1.2.2.2.2.1 T1.2.2.2.2.2 v
  rw [e1, bv_1]
  have K2 : Keep (fun b _ => b ≤ 5) h h' := by rw [e2]; exact Keep.sI Keep.rfl (fun z => by omega)
  exact nx h' ⟨M.1.kf (K2.mono (fun b k hp => by omega)), r1, M.2.2.keep (K2.mono (fun b k hp => by unfold PNm at hp; omega))⟩
set_option maxRecDepth 100000 in
theorem rTd {s lo hi : Nat} {v : Int32} {k : Nat → Out} {K : HH → Option (Bool × HH)} (T1 : TBl d w c m q) (N : NMK G) (M : ML TP n d h1 h G cn e w c m vs) (hs : (s = 0 ∧ lo = 0 ∧ hi = 2) ∨ (s = 1 ∧ lo = 3 ∧ hi = 7)) (ev : v = nI s) (nx : ∀ h', lo ≤ FD TP n G e → FD TP n G e ≤ hi → ML TP n d h1 h' G cn e w c m vs → gI h' 2 11 = nI (FD TP n G e - lo) → CR TP n d h1 (k (FD TP n G e - lo)) (K h')) : CR TP n d h1 (sTd TP n G lo hi e k) (bd (fX5_isTold 2 v h) (fun r h' => bif r then K h' else some (false, h'))) := by
  subst ev
  unfold sTd
  obtain ⟨a1, a2, a3⟩ := cTol N M.1 M.2.2 hs
  cases z : nme TP n e with
  | true =>
    rw [if_pos rfl]
    by_cases y : lo ≤ FD TP n G e ∧ FD TP n G e ≤ hi
    · have k1 : tK TP n e = 1 := by
        unfold nme at z
        rw [Bool.and_eq_true] at z
        exact of_decide_eq_true z.1
      rw [if_pos y, a1 z y.1 y.2, bd_1, cond_true]
      exact nx _ y.1 y.2 (M.k T1 (M.1.i11 k1) (Keep.sI Keep.rfl (fun z => z ⟨rfl, by omega, by omega⟩))) (gIs _ _ _ _)
    · rw [if_neg y, a2 z y, bd_1, cond_false]
      exact CRbad M.1 rfl (M.kp T1)
  | false =>
    rw [if_neg (fun z => by cases z), a3 z, bd_1, cond_false]
    exact CRbad M.1 rfl (M.kp T1)
set_option maxRecDepth 100000 in
theorem rNm {m1 : Nat} {vs1 vn : Int32} {k : (Nat → Nat) → Nat → Out} {K : HH → Option (Bool × HH)} (H : HT TP n) (T1 : TBl d w c m q) (N : NMK G) (M : ML TP n d h1 h G cn e w c m vs) (hc : cn < 14) (hm : m1 < 14) (h0 : G (190 + m1) = 0) (e1 : vs1 = nI (srt m1)) (e2 : vn = nI (nmb m1)) (nx : ∀ h', nme TP n e = true → FD TP n G e = 14 → ML TP n d h1 h' (addN TP n G m1 e) (cn + 1) (tE TP n e) w c m vs → CR TP n d h1 (k (addN TP n G m1 e) (tE TP n e)) (K h')) : CR TP n d h1 (sNm TP n G m1 e k) (bd (fX5_newName 2 vs1 vn h) (fun r h' => bif r then K h' else some (false, h'))) := by
  subst e1 e2
  unfold sNm
  obtain ⟨a1, a2, a3⟩ := cNew H N M.1 M.2.2 hc hm h0
  cases z : nme TP n e with
  | true =>
    rw [if_pos rfl]
    by_cases y : FD TP n G e = 14
    · obtain ⟨h', b1, b2, b3, b4⟩ := a1 z y
      rw [if_pos y, b1, bd_1, cond_true]
      exact nx h' z y ⟨b2, M.2.1.k b4 T1.w6, b3⟩
    · rw [if_neg y, a2 z y, bd_1, cond_false]
      exact CRbad M.1 rfl (M.kp T1)
  | false =>
    rw [if_neg (fun z => by cases z), a3 z, bd_1, cond_false]
    exact CRbad M.1 rfl (M.kp T1)
set_option maxRecDepth 100000 in
theorem rG {o : Out} {X : Option (Bool × HH)} (hd : isD d) (S : CS h TP n d e) (nx : CR TP n d h1 o X) : CR TP n d h1 o (gd (isKb 0 (gR h 2 6)) X) := by
  have k1 : isKb 0 d = true := by
    rcases hd with rfl | rfl
    · decide +kernel
    · decide +kernel
  rw [S.2.2.1, k1, gd_1]; exact nx
end CLN
