/-! String.length() and String.charAt(int) of the claim's own String constants (a constant is its place i) -/
def fJ0_length_8abf5 (x0 : Nat) (h : HH) : Option (Int32 × HH) := some (nI (strb.getD x0 []).length, h)
def fJ0_charAt_5068e (x0 : Nat) (x1 : Int32) (h : HH) : Option (Int32 × HH) := gd (inb x1 (strb.getD x0 []).length) (some ((strb.getD x0 []).getD (ix x1) 0, h))
theorem mJ0_length_8abf5 {K : KX} {x0 : Nat} (k0 : x0 < 58) {h : HH} {rv : Int32} {hv : HH} (hf : fJ0_length_8abf5 x0 h = some (rv, hv)) : MR K yJ0_length_8abf5 cJ0_length_8abf5 1 (some .int) 5 [.ref (K.2.2.2.2.2.1 x0)] h (some (.int rv)) hv := by
  sorry
theorem mJ0_charAt_5068e {K : KX} {x0 : Nat} (k0 : x0 < 58) {x1 : Int32} {h : HH} {rv : Int32} {hv : HH} (hf : fJ0_charAt_5068e x0 x1 h = some (rv, hv)) : MR K yJ0_charAt_5068e cJ0_charAt_5068e 2 (some .char) 5 [.ref (K.2.2.2.2.2.1 x0), .int x1] h (some (.int rv)) hv := by
  sorry
