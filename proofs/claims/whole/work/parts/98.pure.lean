set_option maxRecDepth 100000 in
theorem pure_ok (xs : Nat → Int32) (L : Nat) (hL : L ≤ 3072) : ∃ hv, lq1 (fL_law_L23 xs L 0 181 201) FU 0 hB = some (true, hv) := law_go (fun _ _ x I => gDream x I) hL 512 0 FU hB (by omega) (by omega) rfl (by unfold FU; omega) GI_0
