/-! the class reads to the end -/
def CRr (d : Nat) (h0 : HH) (o : Out) (r : Option (Int32 × HH)) : Prop := o.el
  (fun q p => ∃ h', r = some (nI q, h') ∧ 1 ≤ q ∧ q ≤ 6 ∧ gI h' 2 8 = nI p ∧ Keep (PRd d) h0 h')
  (fun F _ => ∃ h', r = some (nI 0, h') ∧ VQ F ∧ F 3 ≠ 0 ∧ F 4 ≠ 0 ∧ DRep h' d F ∧ Keep (PRd d) h0 h')
def rdK (h : HH) : Option (Int32 × HH) :=
  gd (isKb 0 (gR h 2 6)) (if (gI h (gR h 2 6) 12) = 0 then some (6, h) else gd (isKb 0 (gR h 2 6)) (if (gI h ((gR h 2 6) + 4) 3) = 0 then some (6, h) else some (0, h)))
section CRD
variable {TP : Nat → Nat} {n d : Nat}
set_option maxRecDepth 100000 in
theorem ROM.kp {h h' : HH} (R : ROM h) (hd : isD d) (K : Keep (PRd d) h h') : ROM h' := by
  intro d' hd'
  have e : ∀ j k, j ≤ 5 → (k = 0 ∨ k = 1) → gI h' (d' + (2 * j + 4)) k = gI h (d' + (2 * j + 4)) k := fun j k hj hk => (K _ k ⟨by unfold isD at hd'; unfold PFN; omega, fun q1 q2 => by unfold isD at hd hd'; omega⟩).1
  obtain ⟨a1, a2, a3, a4, a5, a6⟩ := R d' hd'
  exact ⟨⟨(e 0 0 (by omega) (by omega)).trans a1.1, (e 0 1 (by omega) (by omega)).trans a1.2⟩, ⟨(e 1 0 (by omega) (by omega)).trans a2.1, (e 1 1 (by omega) (by omega)).trans a2.2⟩, ⟨(e 2 0 (by omega) (by omega)).trans a3.1, (e 2 1 (by omega) (by omega)).trans a3.2⟩, ⟨(e 3 0 (by omega) (by omega)).trans a4.1, (e 3 1 (by omega) (by omega)).trans a4.2⟩, ⟨(e 4 0 (by omega) (by omega)).trans a5.1, (e 4 1 (by omega) (by omega)).trans a5.2⟩, ⟨(e 5 0 (by omega) (by omega)).trans a6.1, (e 5 1 (by omega) (by omega)).trans a6.2⟩⟩
end CRD
