/-! the model reads a line -/
section MRE
variable {TP : Nat → Nat} {n e : Nat} {F : Nat → Nat} {g : HH}
set_option maxRecDepth 100000 in
theorem bv_id {x : Option HH} : bv x (fun h => some h) = x := by cases x <;> rfl
set_option maxRecDepth 100000 in
theorem mBgF {w : Nat} {b : Bool} {Z Y : HH → Option HH} (M : MS TP n g F e) (hw : w < 58) (z : WD TP n e w = false) : bd (fX9_begins 181 w b g) (fun r h => bif r then Z h else Y h) = Y g := by
  have iw := mIsW hw M.2.2.2.2.1 M.2.1 M.2.2.1
  rw [z] at iw
  have e2 : fX9_begins 181 w b g = some (false, g) := by simp only [fX9_begins, iw, bd_1, cond_false]
  rw [e2, bd_1, cond_false]
set_option maxRecDepth 100000 in
theorem mBgT {w : Nat} {b : Bool} {X Y : HH → Option HH} {o : Out} (H : HT TP n) (V : VP F) (M : MS TP n g F e) (hw : w < 58) (z : WD TP n e w = true) (ab : ∀ g, gI g 181 13 = nI 1 → X g = some g) (hb : b = false → VQ F ∧ o = .bad 5 (tA TP n e)) (ml : b = true → VQ F → ∀ g', MS TP n g' F (tE TP n e) → MO TP n g' o (X g')) : MO TP n g (if F 2 = 0 then .bad 6 (tA TP n e) else o) (bd (fX9_begins 181 w b g) (fun r h => bif r then bv (X h) (fun h => some h) else Y h)) := by
  have iw := mIsW hw M.2.2.2.2.1 M.2.1 M.2.2.1
  rw [z] at iw
  have f13 : ∀ (g : HH) q p, gI (flt g q p) 181 13 = nI 1 := fun g q p => flt_F.1
  have h13 := M.2.2.1
  have w5 := wr_ok (g := g) (q := 5) h13 (vq := nI 5) rfl M.2.1.1
  have w6 := wr_ok (g := g) (q := 6) h13 (vq := nI 6) rfl M.2.1.1
  have r2 := M.2.2.2.1 2 (by omega)
  have fr : ∀ q p, gI (flt g q p) 185 2 = nI (F 2) := fun q p => by
    unfold flt
    rw [gIa (by omega), gIa (by omega), gIa (by omega)]; exact r2
  have fin : ∀ q, MO TP n g (.bad q (tA TP n e)) (X (flt g q (tA TP n e))) := fun q => ⟨flt g q (tA TP n e), ab _ flt_F.1, flt_F, flt_K⟩
  cases b with
  | false =>
    obtain ⟨V, eo⟩ := hb rfl
    have b2 := V.2.1.2.1
    have b2' := V.2.1.2.2.1
    have y2 : ¬ F 2 = 0 := by omega
    have e2 : fX9_begins 181 w false g = some (true, flt g 5 (tA TP n e)) := by
      simp (disch := omega) only [lI, fX9_begins, iw, bd_1, cond_true, cond_false, w5, bv_1, fX9_begins_b23, inbN, ixN, gd_1, Nat.reduceAdd, fr, eqN, y2, if_false, f13, z10, Nat.one_ne_zero]
    rw [if_neg y2, eo, e2, bd_1, cond_true, bv_id]
    exact fin 5
  | true =>
    rcases V with Z | V
    · have z2 := Z 2 (by omega)
      have e2 : fX9_begins 181 w true g = some (true, flt g 6 (tA TP n e)) := by
        simp (disch := omega) only [lI, fX9_begins, iw, bd_1, cond_true, fX9_begins_b23, inbN, ixN, gd_1, Nat.reduceAdd, r2, z2, z00, if_true, w6, bv_1, f13, z10, Nat.one_ne_zero, if_false]
      rw [if_pos z2, e2, bd_1, cond_true, bv_id]
      exact fin 6
    · have b2 := V.2.1.2.1
      have b2' := V.2.1.2.2.1
      have y2 : ¬ F 2 = 0 := by omega
      obtain ⟨g', e1, m1, K1⟩ := M.nx H
      have e2 : fX9_begins 181 w true g = some (true, g') := by
        simp (disch := omega) only [lI, fX9_begins, iw, bd_1, cond_true, fX9_begins_b23, inbN, ixN, gd_1, Nat.reduceAdd, r2, eqN, y2, if_false, h13, z00, if_true, e1, bv_1]
      rw [if_neg y2, e2, bd_1, cond_true, bv_id]
      exact (ml rfl V g' m1).tr K1
set_option maxRecDepth 100000 in
theorem mrs {m c : Nat} {vm vc : Int32} {X : Bool → HH → Option HH} (M : MS TP n g F e) (hc : c < 316) (ec : vc = nI c) (em : vm = nI m) (hm : m < 100) (hF : F c < 100) : gd (inb vc 316) (if vm ≤ gI g (181 + 4) (ix vc) then X false g else X true g) = X (decide (F c < m)) g := by
  have r := FRa M.2.2.2.1 hc ec
  have r' : gI g (181 + 4) (ix vc) = nI (F c) := r
  rw [r', em, ec, inbN hc (by omega), gd_1]
  by_cases y : m ≤ F c
  · rw [if_pos (by rw [leN (by omega) (by omega)]; exact y), decide_eq_false (by omega)]
  · rw [if_neg (by rw [leN (by omega) (by omega)]; exact y), decide_eq_true (by omega)]
set_option maxRecDepth 100000 in
theorem mlPays0 (Z : ∀ k, k < 316 → F k = 0) (M : MS TP n g F e) : MO TP n g (.bad 6 (tA TP n e)) (fX9_paysLine 181 g) := by
  have f13 : ∀ (g : HH) q p, gI (flt g q p) 181 13 = nI 1 := fun g q p => flt_F.1
  have h13 := M.2.2.1
  have w6 := wr_ok (g := g) (q := 6) h13 (vq := nI 6) rfl M.2.1.1
  have fr : gI (flt g 6 (tA TP n e)) 181 13 = nI 1 := flt_F.1
  refine ⟨flt g 6 (tA TP n e), ?_, flt_F, flt_K⟩
  unfold fX9_paysLine
  rw [show inb 10 316 = true from inbN (n := 10) (by omega) (by omega), gd_1, FRa M.2.2.2.1 (show 10 < 316 by omega) (show (10 : Int32) = nI 10 from rfl), Z 10 (by omega), if_neg (show ¬ nI 0 = (1 : Int32) by decide +kernel)]
  unfold fX9_paysLine_b20
  rw [show inb 2 316 = true from inbN (n := 2) (by omega) (by omega), gd_1, FRa M.2.2.2.1 (show 2 < 316 by omega) (show (2 : Int32) = nI 2 from rfl), Z 2 (by omega), if_pos (show nI 0 = (0 : Int32) from rfl), show (6 : Int32) = nI 6 from rfl, w6, bv_1, fr, if_neg (show ¬ nI 1 = (0 : Int32) by decide +kernel)]
set_option maxRecDepth 100000 in
theorem mline {o : Out} (H : HT TP n) (V : VP F) (M : MS TP n g F e) (eo : sLine TP n F e = o) : MO TP n g o (fX9_readLine 181 g) := by
  have eW : ∀ w w', CW w = CW w' → WD TP n e w = WD TP n e w' := fun w w' q => by unfold WD; rw [q]
  obtain ⟨c0, c1, c2, c3, c4, c5, c6, c7, c8, c9, c10, c11, -⟩ := CWe
  have iw : ∀ w, w < 58 → fX9_isWord 181 w g = some (WD TP n e w, g) := fun w hw => mIsW hw M.2.2.2.2.1 M.2.1 M.2.2.1
  have h13 := M.2.2.1
  have w1 := wr_ok (g := g) (q := 1) h13 (vq := nI 1) rfl M.2.1.1
  have hF : ∀ c, 3 ≤ c → c ≤ 9 → F c < 100 := fun c h1 h2 => by
    rcases V with Z | V
    · rw [Z c (by omega)]; omega
    · have := V.2.1
      have : c = 3 ∨ c = 4 ∨ c = 5 ∨ c = 6 ∨ c = 7 ∨ c = 8 ∨ c = 9 := by omega
      rcases this with rfl | rfl | rfl | rfl | rfl | rfl | rfl <;> omega
  have z1 : ¬ nI 1 = (0 : Int32) := by decide +kernel
  have room : ∀ (c m : Nat) (o : Out), 3 ≤ c → c ≤ 9 → 1 ≤ m → (m ≤ F c → o = .bad 5 (tA TP n e)) → decide (F c < m) = false → VQ F ∧ o = .bad 5 (tA TP n e) := fun c m o h1 h2 h3 h4 h5 => by
    have h6 := of_decide_eq_false h5
    rcases V with Z | V
    · rw [Z c (by omega)] at h6; omega
    · exact ⟨V, h4 (by omega)⟩
  subst eo
  unfold sLine fX9_readLine
  rw [eW 0 29 c0, eW 1 33 c1, eW 2 34 c2, eW 3 35 c3, eW 4 36 c4, eW 5 37 c5, eW 6 38 c6, eW 7 39 c7, eW 8 40 c8, eW 9 41 c9, eW 10 42 c10, iw 29 (by omega), bd_1]
  cases w29 : WD TP n e 29 with
  | true =>
    rw [if_pos rfl, cond_true, bv_id]
    exact mlDream H V M
  | false =>
    rw [if_neg (fun z => by cases z), cond_false, mrs (m := 3) (c := 3) (vm := 3) (vc := 3) (X := fX9_readLine_b34 181) M (by omega) rfl rfl (by omega) (hF 3 (by omega) (by omega))]
    unfold fX9_readLine_b34
    cases w33 : WD TP n e 33 with
    | true =>
      rw [if_neg (show ¬ LW TP n e = false by rw [LWm]; simp only [w33, Bool.true_or, Bool.or_true, Bool.true_eq_false, not_false_eq_true])]
      rw [if_pos rfl]
      exact mBgT (X := fX9_headLine 181) H V M (by omega) w33 (fun g y => by unfold fX9_headLine; rw [y, if_neg z1]) (room 3 3 _ (by omega) (by omega) (by omega) (fun y => by unfold lHead; rw [if_pos y])) (fun z V g' m1 => mlHead H V (of_decide_eq_true z) m1)
    | false =>
      rw [if_neg (show ¬ false = true by decide)]
      rw [mBgF M (by omega) w33]
      rw [mrs (m := 5) (c := 4) (vm := 5) (vc := 4) (X := fX9_readLine_b65 181) M (by omega) rfl rfl (by omega) (hF 4 (by omega) (by omega))]
      unfold fX9_readLine_b65
      cases w34 : WD TP n e 34 with
      | true =>
        rw [if_neg (show ¬ LW TP n e = false by rw [LWm]; simp only [w34, Bool.true_or, Bool.or_true, Bool.true_eq_false, not_false_eq_true])]
        rw [if_pos rfl]
        exact mBgT (X := fX9_sleeperLine 181) H V M (by omega) w34 (fun g y => by unfold fX9_sleeperLine; rw [y, if_neg z1]) (room 4 5 _ (by omega) (by omega) (by omega) (fun y => by unfold lSleeper; rw [if_pos y])) (fun z V g' m1 => mlSleep H V (of_decide_eq_true z) m1)
      | false =>
        rw [if_neg (show ¬ false = true by decide)]
        rw [mBgF M (by omega) w34]
        rw [mrs (m := 20) (c := 5) (vm := 20) (vc := 5) (X := fX9_readLine_b97 181) M (by omega) rfl rfl (by omega) (hF 5 (by omega) (by omega))]
        unfold fX9_readLine_b97
        cases w35 : WD TP n e 35 with
        | true =>
          rw [if_neg (show ¬ LW TP n e = false by rw [LWm]; simp only [w35, Bool.true_or, Bool.or_true, Bool.true_eq_false, not_false_eq_true])]
          rw [if_pos rfl]
          exact mBgT (X := fX9_stepLine 181 true) H V M (by omega) w35 (fun g y => by unfold fX9_stepLine; rw [y, if_neg z1]) (room 5 20 _ (by omega) (by omega) (by omega) (fun y => by unfold lDown; rw [if_pos y])) (fun z V g' m1 => mlDown H V (of_decide_eq_true z) m1)
        | false =>
          rw [if_neg (show ¬ false = true by decide)]
          rw [mBgF M (by omega) w35]
          rw [mrs (m := 20) (c := 5) (vm := 20) (vc := 5) (X := fX9_readLine_b130 181) M (by omega) rfl rfl (by omega) (hF 5 (by omega) (by omega))]
          unfold fX9_readLine_b130
          cases w36 : WD TP n e 36 with
          | true =>
            rw [if_neg (show ¬ LW TP n e = false by rw [LWm]; simp only [w36, Bool.true_or, Bool.or_true, Bool.true_eq_false, not_false_eq_true])]
            rw [if_pos rfl]
            exact mBgT (X := fX9_stepLine 181 false) H V M (by omega) w36 (fun g y => by unfold fX9_stepLine; rw [y, if_neg z1]) (room 5 20 _ (by omega) (by omega) (by omega) (fun y => by unfold lUp; rw [if_pos y])) (fun z V g' m1 => mlUp H V (of_decide_eq_true z) m1)
          | false =>
            rw [if_neg (show ¬ false = true by decide)]
            rw [mBgF M (by omega) w36]
            rw [mrs (m := 8) (c := 6) (vm := 8) (vc := 6) (X := fX9_readLine_b164 181) M (by omega) rfl rfl (by omega) (hF 6 (by omega) (by omega))]
            unfold fX9_readLine_b164
            cases w37 : WD TP n e 37 with
            | true =>
              rw [if_neg (show ¬ LW TP n e = false by rw [LWm]; simp only [w37, Bool.true_or, Bool.or_true, Bool.true_eq_false, not_false_eq_true])]
              rw [if_pos rfl]
              exact mBgT (X := fX9_knockLine 181) H V M (by omega) w37 (fun g y => by unfold fX9_knockLine; rw [y, if_neg z1]) (room 6 8 _ (by omega) (by omega) (by omega) (fun y => by unfold lKnock; rw [if_pos y])) (fun z V g' m1 => mlKnock H V (of_decide_eq_true z) m1)
            | false =>
              rw [if_neg (show ¬ false = true by decide)]
              rw [mBgF M (by omega) w37]
              rw [mrs (m := 6) (c := 7) (vm := 6) (vc := 7) (X := fX9_readLine_b197 181) M (by omega) rfl rfl (by omega) (hF 7 (by omega) (by omega))]
              unfold fX9_readLine_b197
              cases w38 : WD TP n e 38 with
              | true =>
                rw [if_neg (show ¬ LW TP n e = false by rw [LWm]; simp only [w38, Bool.true_or, Bool.or_true, Bool.true_eq_false, not_false_eq_true])]
                rw [if_pos rfl]
                exact mBgT (X := fX9_taskLine 181) H V M (by omega) w38 (fun g y => by unfold fX9_taskLine; rw [y, if_neg z1]) (room 7 6 _ (by omega) (by omega) (by omega) (fun y => by unfold lTask; rw [if_pos y])) (fun z V g' m1 => mlTask H V (of_decide_eq_true z) m1)
              | false =>
                rw [if_neg (show ¬ false = true by decide)]
                rw [mBgF M (by omega) w38]
                cases w39 : WD TP n e 39 with
                | true =>
                  rw [if_neg (show ¬ LW TP n e = false by rw [LWm]; simp only [w39, Bool.true_or, Bool.or_true, Bool.true_eq_false, not_false_eq_true])]
                  rw [if_pos rfl]
                  rw [iw 39 (by omega), w39, bd_1, cond_true, bv_id]
                  rcases V with Z | V
                  · rw [if_pos (Z 2 (by omega))]; exact mlPays0 Z M
                  · rw [if_neg (show ¬ F 2 = 0 by have := V.2.1.2.1; omega)]; exact mlPays H V M
                | false =>
                  rw [if_neg (show ¬ false = true by decide)]
                  rw [iw 39 (by omega), w39, bd_1, cond_false]
                  cases w40 : WD TP n e 40 with
                  | true =>
                    rw [if_neg (show ¬ LW TP n e = false by rw [LWm]; simp only [w40, Bool.true_or, Bool.or_true, Bool.true_eq_false, not_false_eq_true])]
                    rw [if_pos rfl]
                    exact mBgT (X := fX9_thinksLine 181) H V M (by omega) w40 (fun g y => by unfold fX9_thinksLine; rw [y, if_neg z1]) (fun z => by cases z) (fun _ V g' m1 => mlThinks H V m1)
                  | false =>
                    rw [if_neg (show ¬ false = true by decide)]
                    rw [mBgF M (by omega) w40]
                    rw [mrs (m := 6) (c := 8) (vm := 6) (vc := 8) (X := fX9_readLine_b263 181) M (by omega) rfl rfl (by omega) (hF 8 (by omega) (by omega))]
                    unfold fX9_readLine_b263
                    cases w41 : WD TP n e 41 with
                    | true =>
                      rw [if_neg (show ¬ LW TP n e = false by rw [LWm]; simp only [w41, Bool.true_or, Bool.or_true, Bool.true_eq_false, not_false_eq_true])]
                      rw [if_pos rfl]
                      exact mBgT (X := fX9_signLine 181 false) H V M (by omega) w41 (fun g y => by unfold fX9_signLine; rw [y, if_neg z1]) (room 8 6 _ (by omega) (by omega) (by omega) (fun y => by unfold lFelt; rw [if_pos y])) (fun z V g' m1 => mlFelt H V (of_decide_eq_true z) m1)
                    | false =>
                      rw [if_neg (show ¬ false = true by decide)]
                      rw [mBgF M (by omega) w41]
                      rw [mrs (m := 6) (c := 8) (vm := 6) (vc := 8) (X := fX9_readLine_b297 181) M (by omega) rfl rfl (by omega) (hF 8 (by omega) (by omega))]
                      unfold fX9_readLine_b297
                      cases w42 : WD TP n e 42 with
                      | true =>
                        rw [if_neg (show ¬ LW TP n e = false by rw [LWm]; simp only [w42, Bool.true_or, Bool.or_true, Bool.true_eq_false, not_false_eq_true])]
                        rw [if_pos rfl]
                        exact mBgT (X := fX9_signLine 181 true) H V M (by omega) w42 (fun g y => by unfold fX9_signLine; rw [y, if_neg z1]) (room 8 6 _ (by omega) (by omega) (by omega) (fun y => by unfold lCame; rw [if_pos y])) (fun z V g' m1 => mlCame H V (of_decide_eq_true z) m1)
                      | false =>
                        rw [if_neg (show ¬ false = true by decide)]
                        rw [mBgF M (by omega) w42]
                        rw [mrs (m := 6) (c := 9) (vm := 6) (vc := 9) (X := fun s h297 => bd (fX9_begins 181 43 s h297) (fun r331 h331 => bif r331 then bv (fX9_didLine 181 h331) (fun h338 => some h338) else bv (fX9_wrong 181 1 (gI h331 181 4) h331) (fun h350 => some h350))) M (by omega) rfl rfl (by omega) (hF 9 (by omega) (by omega))]
                        cases w43 : WD TP n e 43 with
                        | true =>
                          rw [if_neg (show ¬ LW TP n e = false by rw [LWm]; simp only [w43, Bool.true_or, Bool.or_true, Bool.true_eq_false, not_false_eq_true])]
                          exact mBgT (X := fX9_didLine 181) H V M (by omega) w43 (fun g y => by unfold fX9_didLine; rw [y, if_neg z1]) (room 9 6 _ (by omega) (by omega) (by omega) (fun y => by unfold lDid; rw [if_pos y])) (fun z V g' m1 => mlDid H V (of_decide_eq_true z) m1)
                        | false =>
                          rw [if_pos (show LW TP n e = false by rw [LWm]; simp only [w29, w33, w34, w35, w36, w37, w38, w39, w40, w41, w42, w43, Bool.or_false]), mBgF (b := decide (F 9 < 6)) M (by omega) w43]
                          show MO TP n g _ (bv (fX9_wrong 181 (nI 1) (gI g 181 4) g) (fun h => some h))
                          rw [w1, bv_1]
                          exact ⟨_, rfl, flt_F, flt_K⟩
end MRE
