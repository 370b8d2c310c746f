/-! what is read, line by line -/
def fu (F : Nat → Nat) (i v : Nat) : Nat → Nat := fun k => if k = i then v else F k
set_option maxRecDepth 100000 in
theorem fuS (F : Nat → Nat) (i v : Nat) : fu F i v i = v := if_pos rfl
set_option maxRecDepth 100000 in
theorem fuN (F : Nat → Nat) {i v k : Nat} (h : k ≠ i) : fu F i v k = F k := if_neg h
def Out : Type := Sum (Nat × Nat) ((Nat → Nat) × Nat)
def Out.bad (q p : Nat) : Out := Sum.inl (q, p)
def Out.ok (F : Nat → Nat) (e : Nat) : Out := Sum.inr (F, e)
def Out.el (o : Out) (f : Nat → Nat → Prop) (g : (Nat → Nat) → Nat → Prop) : Prop := Sum.elim (fun x => f x.1 x.2) (fun y => g y.1 y.2) o
def Out.bind (o : Out) (g : (Nat → Nat) → Nat → Out) : Out := Sum.elim (fun x => Out.bad x.1 x.2) (fun y => g y.1 y.2) o
set_option maxRecDepth 100000 in
theorem Out.cs (o : Out) : (∃ q p, o = Out.bad q p) ∨ ∃ F e, o = Out.ok F e := Sum.casesOn (motive := fun o => (∃ q p, o = Sum.inl (q, p)) ∨ ∃ F e, o = Sum.inr (F, e)) o (fun x => Or.inl ⟨x.1, x.2, rfl⟩) (fun y => Or.inr ⟨y.1, y.2, rfl⟩)
section SPC
variable (TP : Nat → Nat) (n : Nat)
def sW (w e : Nat) (k : Nat → Out) : Out := if WD TP n e w = true then k (tE TP n e) else .bad 1 (tA TP n e)
def sN (lo hi e : Nat) (k : Nat → Nat → Out) : Out := if tK TP n e = 2 then (if lo ≤ tV TP n e ∧ tV TP n e ≤ hi then k (tV TP n e) (tE TP n e) else .bad 4 (tA TP n e)) else .bad 1 (tA TP n e)
def sA (w lo hi e : Nat) (k : Nat → Nat → Out) : Out := sW TP n w e (fun e1 => sN TP n lo hi e1 k)
def LW (e : Nat) : Bool := WD TP n e 0 || WD TP n e 1 || WD TP n e 2 || WD TP n e 3 || WD TP n e 4 || WD TP n e 5 || WD TP n e 6 || WD TP n e 7 || WD TP n e 8 || WD TP n e 9 || WD TP n e 10 || WD TP n e 11
/-- a name stands here -/
def nme (e : Nat) : Bool := decide (tK TP n e = 1) && !LW TP n e
def nc (F : Nat → Nat) (m : Nat) : Nat := cwd F (204 + 8 * m) (F (190 + m))
def fd (F : Nat → Nat) (c : Nat) : Nat → Nat → Nat
  | 0, i => i
  | f + 1, i => if 0 < F (190 + i) ∧ nc F i = c then i else fd F c f (i + 1)
def FD (F : Nat → Nat) (e : Nat) : Nat := fd F (tC TP n e) 14 0
def wn (F : Nat → Nat) (m e : Nat) : Nat → (Nat → Nat)
  | 0 => F
  | j + 1 => fu (wn F m e j) (204 + 8 * m + j) (TP (tA TP n e + j))
def addN (F : Nat → Nat) (m e : Nat) : Nat → Nat := fu (wn TP n F m e (tN TP n e)) (190 + m) (tN TP n e)
def sNm (F : Nat → Nat) (m e : Nat) (k : (Nat → Nat) → Nat → Out) : Out := if nme TP n e = true then (if FD TP n F e = 14 then k (addN TP n F m e) (tE TP n e) else .bad 3 (tA TP n e)) else .bad 1 (tA TP n e)
def sTd (F : Nat → Nat) (lo hi e : Nat) (k : Nat → Out) : Out := if nme TP n e = true then (if lo ≤ FD TP n F e ∧ FD TP n F e ≤ hi then k (FD TP n F e - lo) else .bad 2 (tA TP n e)) else .bad 1 (tA TP n e)
def sKd (e : Nat) (k : Nat → Nat → Out) : Out := if WD TP n e 15 = true then k 0 (tE TP n e) else if WD TP n e 16 = true then k 1 (tE TP n e) else if WD TP n e 17 = true then k 2 (tE TP n e) else if WD TP n e 18 = true then k 3 (tE TP n e) else .bad 1 (tA TP n e)
def sRt : Nat → (Nat → Nat) → Nat → ((Nat → Nat) → Nat → Out) → Out
  | 0, _, _, _ => .bad 0 0
  | f + 1, F, e, k => sN TP n 2 12 e (fun v e1 => if F 0 = 4 then .bad 5 (tA TP n e) else if tK TP n e1 = 4 then sRt f (fu (fu F (11 + F 0) v) 0 (F 0 + 1)) (tE TP n e1) k else k (fu (fu F (11 + F 0) v) 0 (F 0 + 1)) e1)
def sPy : Nat → Nat → (Nat → Nat) → Nat → Out
  | 0, _, _, _ => .bad 0 0
  | f + 1, i, F, e => sN TP n 0 999 e (fun v e1 => if i = F 0 then .bad 5 (tA TP n e) else if tK TP n e1 = 4 then sPy f (i + 1) (fu F (150 + i) v) (tE TP n e1) else if F 0 ≤ i + 1 then .ok (fu (fu F (150 + i) v) 10 1) e1 else if tK TP n e1 = 3 ∨ tK TP n e1 = 5 then .bad 6 (tA TP n e1) else .bad 1 (tA TP n e1))
def lDream (F : Nat → Nat) (e : Nat) : Out := if F 2 = 0 then sW TP n 12 (tE TP n e) (fun e1 => sRt TP n 5 F e1 (fun F1 e2 => sA TP n 13 0 60 e2 (fun v e3 => sA TP n 14 1 600 e3 (fun w e4 => .ok (fu (fu F1 1 v) 2 w) e4)))) else .bad 3 (tA TP n e)
def lHead (F : Nat → Nat) (e : Nat) : Out := if 3 ≤ F 3 then .bad 5 (tA TP n e) else sNm TP n F (F 3) (tE TP n e) (fun F1 e1 => .ok (fu F1 3 (F 3 + 1)) e1)
def lSleeper (F : Nat → Nat) (e : Nat) : Out := if 5 ≤ F 4 then .bad 5 (tA TP n e) else sNm TP n F (3 + F 4) (tE TP n e) (fun F1 e1 => sKd TP n e1 (fun kd e2 => sA TP n 19 1 9999 e2 (fun v1 e3 => sA TP n 20 0 999 e3 (fun v2 e4 => sA TP n 21 0 100 e4 (fun v3 e5 => .ok (fu (fu (fu (fu (fu (fu F1 (15 + 5 * F 4 + 0) kd) (15 + 5 * F 4 + 1) v1) (15 + 5 * F 4 + 2) v2) (15 + 5 * F 4 + 3) v3) (15 + 5 * F 4 + 4) 0) 4 (F 4 + 1)) e5)))))
def lDown (F : Nat → Nat) (e : Nat) : Out := if 20 ≤ F 5 then .bad 5 (tA TP n e) else sTd TP n F 3 7 (tE TP n e) (fun s => sTd TP n F 0 2 (tE TP n (tE TP n e)) (fun hd => sA TP n 22 0 999 (tE TP n (tE TP n (tE TP n e))) (fun v e3 => .ok (fu (fu (fu (fu F (40 + 3 * F 5) s) (40 + 3 * F 5 + 1) (hd + 1)) (40 + 3 * F 5 + 2) v) 5 (F 5 + 1)) e3)))
def lUp (F : Nat → Nat) (e : Nat) : Out := if 20 ≤ F 5 then .bad 5 (tA TP n e) else sTd TP n F 3 7 (tE TP n e) (fun s => sA TP n 22 0 999 (tE TP n (tE TP n e)) (fun v e3 => .ok (fu (fu (fu (fu F (40 + 3 * F 5) s) (40 + 3 * F 5 + 1) 0) (40 + 3 * F 5 + 2) v) 5 (F 5 + 1)) e3))
def lKnock (F : Nat → Nat) (e : Nat) : Out := if 8 ≤ F 6 then .bad 5 (tA TP n e) else sTd TP n F 0 2 (tE TP n e) (fun hd => sA TP n 23 0 (F 0 - 1) (tE TP n (tE TP n e)) (fun v1 e2 => sA TP n 24 0 (F 2) e2 (fun v2 e3 => sA TP n 25 1 99 e3 (fun v3 e4 => .ok (fu (fu (fu (fu (fu F (100 + 4 * F 6) hd) (100 + 4 * F 6 + 1) v1) (100 + 4 * F 6 + 2) v2) (100 + 4 * F 6 + 3) v3) 6 (F 6 + 1)) e4))))
def lTask (F : Nat → Nat) (e : Nat) : Out := if 6 ≤ F 7 then .bad 5 (tA TP n e) else sNm TP n F (8 + F 7) (tE TP n e) (fun F1 e1 => sA TP n 23 0 (F 0) e1 (fun v1 e2 => sA TP n 26 1 999 e2 (fun v2 e3 => sA TP n 27 0 99 e3 (fun v3 e4 => .ok (fu (fu (fu (fu F1 (132 + 3 * F 7) v1) (132 + 3 * F 7 + 1) v2) (132 + 3 * F 7 + 2) v3) 7 (F 7 + 1)) e4))))
def lPays (F : Nat → Nat) (e : Nat) : Out := if F 10 = 1 then .bad 3 (tA TP n e) else sPy TP n 5 0 F (tE TP n e)
def lThinks (F : Nat → Nat) (e : Nat) : Out := sTd TP n F 3 7 (tE TP n e) (fun s => if F (15 + 5 * s + 4) = 0 then sN TP n 0 4 (tE TP n (tE TP n e)) (fun v e3 => .ok (fu F (15 + 5 * s + 4) (v + 1)) e3) else .bad 3 (tA TP n (tE TP n e)))
def lFelt (F : Nat → Nat) (e : Nat) : Out := if 6 ≤ F 8 then .bad 5 (tA TP n e) else sN TP n 1 99 (tE TP n e) (fun v1 e1 => sN TP n 1 9999 e1 (fun v2 e2 => .ok (fu (fu (fu (fu F (154 + 3 * F 8) 0) (154 + 3 * F 8 + 1) v1) (154 + 3 * F 8 + 2) v2) 8 (F 8 + 1)) e2))
def lCame (F : Nat → Nat) (e : Nat) : Out := if 6 ≤ F 8 then .bad 5 (tA TP n e) else sN TP n 1 9999 (tE TP n e) (fun v1 e1 => sN TP n 0 9999 e1 (fun v2 e2 => .ok (fu (fu (fu (fu F (154 + 3 * F 8) 1) (154 + 3 * F 8 + 1) v1) (154 + 3 * F 8 + 2) v2) 8 (F 8 + 1)) e2))
def lDid (F : Nat → Nat) (e : Nat) : Out := if 6 ≤ F 9 then .bad 5 (tA TP n e) else sN TP n 1 9999 (tE TP n e) (fun v1 e1 => sA TP n 23 1 (F 0) e1 (fun v2 e2 => sA TP n 28 1 999 e2 (fun v3 e3 => .ok (fu (fu (fu (fu F (172 + 3 * F 9) v1) (172 + 3 * F 9 + 1) v2) (172 + 3 * F 9 + 2) v3) 9 (F 9 + 1)) e3)))
def sLine (F : Nat → Nat) (e : Nat) : Out :=
  if WD TP n e 0 = true then lDream TP n F e else
  if LW TP n e = false then .bad 1 (tA TP n e) else
  if F 2 = 0 then .bad 6 (tA TP n e) else
  if WD TP n e 1 = true then lHead TP n F e else
  if WD TP n e 2 = true then lSleeper TP n F e else
  if WD TP n e 3 = true then lDown TP n F e else
  if WD TP n e 4 = true then lUp TP n F e else
  if WD TP n e 5 = true then lKnock TP n F e else
  if WD TP n e 6 = true then lTask TP n F e else
  if WD TP n e 7 = true then lPays TP n F e else
  if WD TP n e 8 = true then lThinks TP n F e else
  if WD TP n e 9 = true then lFelt TP n F e else
  if WD TP n e 10 = true then lCame TP n F e else lDid TP n F e
/-- from a line on to the end -/
def sRest : Nat → (Nat → Nat) → Nat → Out
  | 0, _, _ => .bad 0 0
  | f + 1, F, e => (sLine TP n F e).bind (fun F1 e1 => if tK TP n e1 = 5 then (if F1 2 = 0 ∨ F1 3 = 0 ∨ F1 4 = 0 then .bad 6 (tA TP n e1) else .ok F1 e1) else if tK TP n e1 = 3 then sRest f F1 (tE TP n e1) else .bad 1 (tA TP n e1))
def sRead : Out := sRest TP n (n + 1) (fun _ => 0) 0
end SPC
/-- names: told ones stand in front, none twice -/
def NMK (F : Nat → Nat) : Prop :=
  (∀ m, m < 14 → F (190 + m) ≤ 8 ∧ ∀ j, j < F (190 + m) → 97 ≤ F (204 + 8 * m + j) ∧ F (204 + 8 * m + j) ≤ 122) ∧
  (∀ m, m < 3 → (0 < F (190 + m) ↔ m < F 3)) ∧ (∀ m, m < 5 → (0 < F (193 + m) ↔ m < F 4)) ∧ (∀ m, m < 6 → (0 < F (198 + m) ↔ m < F 7)) ∧
  (∀ m m', m < 14 → m' < 14 → 0 < F (190 + m) → nc F m = nc F m' → m = m')
/-- what is told so far keeps to the bounds -/
def VQ (R : Nat → Nat) : Prop :=
  (1 ≤ R 0 ∧ R 0 ≤ 4 ∧ (∀ f, f < R 0 → 2 ≤ R (11 + f) ∧ R (11 + f) ≤ 12)) ∧ (R 1 ≤ 60 ∧ 1 ≤ R 2 ∧ R 2 ≤ 600 ∧ R 3 ≤ 3 ∧ R 4 ≤ 5 ∧ R 5 ≤ 20 ∧ R 6 ≤ 8 ∧ R 7 ≤ 6 ∧ R 8 ≤ 6 ∧ R 9 ≤ 6 ∧ R 10 ≤ 1) ∧
  (∀ s, s < R 4 → R (15 + 5 * s + 0) ≤ 3 ∧ 1 ≤ R (15 + 5 * s + 1) ∧ R (15 + 5 * s + 1) ≤ 9999 ∧ R (15 + 5 * s + 2) ≤ 999 ∧ R (15 + 5 * s + 3) ≤ 100 ∧ R (15 + 5 * s + 4) ≤ 5) ∧
  (∀ k, k < R 5 → R (40 + 3 * k) < R 4 ∧ R (40 + 3 * k + 1) ≤ R 3 ∧ R (40 + 3 * k + 2) ≤ 999) ∧
  (∀ k, k < R 6 → R (100 + 4 * k) < R 3 ∧ R (100 + 4 * k + 1) < R 0 ∧ R (100 + 4 * k + 2) ≤ R 2 ∧ 1 ≤ R (100 + 4 * k + 3) ∧ R (100 + 4 * k + 3) ≤ 99) ∧
  (∀ k, k < R 7 → R (132 + 3 * k) ≤ R 0 ∧ 1 ≤ R (132 + 3 * k + 1) ∧ R (132 + 3 * k + 1) ≤ 999 ∧ R (132 + 3 * k + 2) ≤ 99) ∧
  (∀ f, f < R 0 → R (150 + f) ≤ 999) ∧
  (∀ k, k < R 8 → R (154 + 3 * k) ≤ 1 ∧ 1 ≤ R (154 + 3 * k + 1) ∧ R (154 + 3 * k + 1) ≤ 9999 ∧ R (154 + 3 * k + 2) ≤ 9999) ∧
  (∀ k, k < R 9 → 1 ≤ R (172 + 3 * k) ∧ R (172 + 3 * k) ≤ 9999 ∧ 1 ≤ R (172 + 3 * k + 1) ∧ R (172 + 3 * k + 1) ≤ R 0 ∧ 1 ≤ R (172 + 3 * k + 2) ∧ R (172 + 3 * k + 2) ≤ 999) ∧ NMK R
def VP (F : Nat → Nat) : Prop := (∀ k, k < 316 → F k = 0) ∨ VQ F
set_option maxRecDepth 100000 in
theorem VQ.VR {R : Nat → Nat} (v : VQ R) (h3 : R 3 ≠ 0) (h4 : R 4 ≠ 0) : VR R := by
  obtain ⟨v1, ⟨b1, b2, b3, b4, b5, b6, b7, b8, b9, b10, b11⟩, v3, v4, v5, v6, v7, v8, v9, -⟩ := v
  exact ⟨v1, ⟨b1, b2, b3, by omega, b4, by omega, b5, b6, b7, b8, b9, b10, b11⟩, v3, v4, v5, v6, v7, v8, v9⟩
section SPL
variable {TP : Nat → Nat} {n : Nat}
set_option maxRecDepth 100000 in
theorem kbk {e : Nat} : tK TP n e ≤ 5 := by
  unfold tK
  (repeat' split) <;> omega
set_option maxRecDepth 100000 in
theorem fd_sp (F : Nat → Nat) (c : Nat) : ∀ f i, i ≤ fd F c f i ∧ fd F c f i ≤ i + f ∧ (∀ j, i ≤ j → j < fd F c f i → ¬ (0 < F (190 + j) ∧ nc F j = c)) ∧ (fd F c f i < i + f → 0 < F (190 + fd F c f i) ∧ nc F (fd F c f i) = c) := by
  intro f
  induction f with
  | zero => intro i; exact ⟨Nat.le_refl _, Nat.le_refl _, fun j h1 h2 => absurd h2 (Nat.not_lt.2 h1), fun h => absurd h (Nat.lt_irrefl _)⟩
  | succ f ih =>
    intro i
    have e1 : fd F c (f + 1) i = if 0 < F (190 + i) ∧ nc F i = c then i else fd F c f (i + 1) := rfl
    by_cases z : 0 < F (190 + i) ∧ nc F i = c
    · rw [if_pos z] at e1
      rw [e1]
      exact ⟨Nat.le_refl _, Nat.le_add_right _ _, fun j h1 h2 => absurd h2 (Nat.not_lt.2 h1), fun _ => z⟩
    · rw [if_neg z] at e1
      rw [e1]
      obtain ⟨a1, a2, a3, a4⟩ := ih (i + 1)
      refine ⟨by omega, by omega, fun j h1 h2 => ?_, fun h => a4 (by omega)⟩
      by_cases q : j = i
      · subst q; exact z
      · exact a3 j (by omega) h2
set_option maxRecDepth 100000 in
theorem cwd_cg {f g : Nat → Nat} {a b : Nat} : ∀ k, (∀ i, i < k → f (a + i) = g (b + i)) → cwd f a k = cwd g b k := by
  intro k
  induction k with
  | zero => intro _; rfl
  | succ k ih =>
    intro h
    show cwd f a k * 256 + f (a + k) = cwd g b k * 256 + g (b + k)
    rw [ih (fun i hi => h i (by omega)), h k (by omega)]
set_option maxRecDepth 100000 in
theorem fd_cg {F G : Nat → Nat} {c : Nat} (hs : ∀ m, m < 14 → F (190 + m) = G (190 + m)) (hl : ∀ m, m < 14 → nc F m = nc G m) : ∀ f i, i + f ≤ 14 → fd F c f i = fd G c f i := by
  intro f
  induction f with
  | zero => intro i _; rfl
  | succ f ih =>
    intro i hi
    show (if 0 < F (190 + i) ∧ nc F i = c then i else fd F c f (i + 1)) = (if 0 < G (190 + i) ∧ nc G i = c then i else fd G c f (i + 1))
    rw [hs i (by omega), hl i (by omega), ih (i + 1) (by omega)]
set_option maxRecDepth 100000 in
theorem nc_upd {F : Nat → Nat} {i v m : Nat} (hi : i < 190) : nc (fu F i v) m = nc F m := by
  unfold nc
  rw [fuN _ (by omega)]
  exact cwd_cg _ (fun j _ => fuN _ (by omega))
set_option maxRecDepth 100000 in
theorem FD_upd {F : Nat → Nat} {i v e : Nat} (hi : i < 190) : FD TP n (fu F i v) e = FD TP n F e := fd_cg (fun m _ => fuN _ (by omega)) (fun m _ => nc_upd hi) 14 0 (by omega)
set_option maxRecDepth 100000 in
theorem nc_lt {F : Nat → Nat} (N : NMK F) {m : Nat} (hm : m < 14) : nc F m < 2 ^ 63 := by
  obtain ⟨q1, q2⟩ := N.1 m hm
  have h2 : 2 * nc F m < 256 ^ F (190 + m) := cwd_lt _ (fun i hi => by have := q2 i hi; omega)
  have h3 : 256 ^ F (190 + m) ≤ 256 ^ 8 := Nat.pow_le_pow_right (by omega) q1
  have h4 : 256 ^ 8 = 2 ^ 64 := by decide
  omega
set_option maxRecDepth 100000 in
theorem wn_at {F : Nat → Nat} {m e : Nat} : ∀ j k, wn TP n F m e j k = if 204 + 8 * m ≤ k ∧ k < 204 + 8 * m + j then TP (tA TP n e + (k - (204 + 8 * m))) else F k := by
  intro j
  induction j with
  | zero => intro k; rw [if_neg (by omega)]; rfl
  | succ j ih =>
    intro k
    show (if k = 204 + 8 * m + j then TP (tA TP n e + j) else wn TP n F m e j k) = _
    by_cases z : k = 204 + 8 * m + j
    · rw [if_pos z, if_pos (by omega), show k - (204 + 8 * m) = j by omega]
    · rw [if_neg z, ih k]
      by_cases q : 204 + 8 * m ≤ k ∧ k < 204 + 8 * m + j
      · rw [if_pos q, if_pos (by omega)]
      · rw [if_neg q, if_neg (by omega)]
end SPL
