def tmS (i : Nat) : Term := .string (strl.getD i ("", 0, "")).1 (strl.getD i ("", 0, "")).2.1
def vlS (i : Nat) : Term := .field (tmS i) "java/lang/String" "value" "[B"
def strW1 (i : Nat) : List Cond := [Cond.exactly (tmS i) "java/lang/String", Cond.eq (.field (tmS i) "java/lang/String" "code\x72" "B") (.int 0), Cond.arrayOf (vlS i) .byte, Cond.eq (.length (vlS i)) (.int (Int32.ofNat (strb.getD i []).length))] ++ (List.range (strb.getD i []).length).map (fun j => Cond.eq (.elem (vlS i) (.int (Int32.ofNat j))) (.int ((strb.getD i []).getD j 0)))
def strW : List Cond := (List.range 58).flatMap strW1
set_option maxRecDepth 100000 in
theorem nar_str : strW = ([21, 22, 23, 24, 25, 26, 27, 28, 29, 30, 31, 32, 33, 34, 35, 36, 37, 38, 39, 40, 41, 42, 43, 44, 45, 46, 47, 48, 49, 50, 51, 52, 53, 54, 55, 56, 57, 58, 59, 60, 61, 62, 63, 64, 65, 66, 67, 68, 69, 70, 71, 72, 73, 74, 75, 76, 77, 78, 79, 80, 81, 82, 83, 84, 85, 86, 87, 88, 89, 90, 91, 92, 93, 94, 95, 96, 97, 98, 99, 100, 101, 102, 103, 104, 105, 106, 107, 108, 109, 110, 111, 112, 113, 114, 115, 116, 117, 118, 119, 120, 121, 122, 123, 124, 125, 126, 127, 128, 129, 130, 131, 132, 133, 134, 135, 136, 137, 138, 139, 140, 141, 142, 143, 144, 145, 146, 147, 148, 149, 150, 151, 152, 153, 154, 155, 156, 157, 158, 159, 160, 161, 162, 163, 164, 165, 166, 167, 168, 169, 170, 171, 172, 173, 174, 175, 176, 177, 178, 179, 180, 181, 182, 183, 184, 185, 186, 187, 188, 189, 190, 191, 192, 193, 194, 195, 196, 197, 198, 199, 200, 201, 202, 203, 204, 205, 206, 207, 208, 209, 210, 211, 212, 213, 214, 215, 216, 217, 218, 219, 220, 221, 222, 223, 224, 225, 226, 227, 228, 229, 230, 231, 232, 233, 234, 235, 236, 237, 238, 239, 240, 241, 242, 243, 244, 245, 246, 247, 248, 249, 250, 251, 252, 253, 254, 255, 256, 257, 258, 259, 260, 261, 262, 263, 264, 265, 266, 267, 268, 269, 270, 271, 272, 273, 274, 275, 276, 277, 278, 279, 280, 281, 283, 284, 285, 286, 287, 288, 289, 290, 291, 293, 294, 295, 296, 297, 298, 299, 300, 302, 303, 304, 305, 306, 307, 308, 309, 310, 311, 312, 314, 315, 316, 317, 318, 319, 320, 321, 323, 324, 325, 326, 327, 328, 329, 330, 331, 332, 333, 335, 336, 337, 338, 339, 340, 341, 342, 344, 345, 346, 347, 348, 349, 351, 352, 353, 354, 355, 356, 357, 358, 359, 361, 362, 363, 364, 365, 366, 367, 368, 370, 371, 372, 373, 374, 375, 376, 377, 379, 380, 381, 382, 383, 384, 385, 386, 387, 388, 390, 391, 392, 393, 394, 395, 396, 397, 399, 400, 401, 402, 403, 404, 405, 406, 408, 409, 410, 411, 412, 413, 414, 416, 417, 418, 419, 420, 421, 422, 423, 424, 426, 427, 428, 429, 430, 431, 432, 433, 434, 436, 437, 438, 439, 440, 441, 442, 443, 444, 446, 447, 448, 449, 450, 451, 452, 453, 455, 456, 457, 458, 459, 460, 461, 462, 464, 465, 466, 467, 468, 469, 470, 471, 472, 474, 475, 476, 477, 478, 479, 480, 481, 482, 483, 485, 486, 487, 488, 489, 490, 491, 492, 493, 495, 496, 497, 498, 499, 500, 501, 502, 503, 505, 506, 507, 508, 509, 510, 512, 513, 514, 515, 516, 517, 518, 519, 520, 521, 523, 524, 525, 526, 527, 528, 529, 530, 531, 532, 533, 535, 536, 537, 538, 539, 540, 541, 542, 544, 545, 546, 547, 548, 549, 550, 551, 552] : List Nat).filterMap (fun i => (flatC (Jvm.Cond.and given_1 narrow_1))[i]?) := by decide +kernel
def strR : List Cond := (List.range 58).map (fun i => Cond.stringRef (strl.getD i ("", 0, "")).1 (strl.getD i ("", 0, "")).2.1 (strl.getD i ("", 0, "")).2.2)
set_option maxRecDepth 100000 in
theorem tab_str : strR = ([616, 669, 670, 671, 672, 673, 674, 675, 676, 677, 678, 679, 688, 705, 706, 749, 750, 751, 752, 753, 758, 759, 772, 790, 791, 792, 797, 798, 821, 1639, 1654, 1671, 1680, 1681, 1698, 1699, 1700, 1701, 1702, 1703, 1704, 1705, 1706, 1707, 1716, 1717, 1718, 1719, 1720, 1721, 1722, 1743, 1748, 1749, 1750, 1755, 1756, 1773] : List Nat).filterMap (fun i => lw_tbl[i]?) := by decide +kernel
theorem str_one {args : Array Value} {s : State} {A : Nat → Prop} (hA : ∀ a : Nat, a < s.heap.size → ¬ A a) (hw : ∀ w ∈ strW, w.before args s = true) (hr : ∀ w ∈ strR, w.before args s = true) {i : Nat} (hi : i < 58) :
    ∃ q : Nat × Nat, vk_R (strl.getD i ("", 0, "")).1 (strl.getD i ("", 0, "")).2.1 (strl.getD i ("", 0, "")).2.2 q.1 s ∧ va_O "java/lang/String" q.1 A s s.heap ∧ va_OF "java/lang/String" "code\x72" "B" (.int 0) q.1 A s s.heap ∧ va_OF "java/lang/String" "value" "[B" (.ref q.2) q.1 A s s.heap ∧ va_T .byte q.2 (strb.getD i []).length (fun j => .int ((strb.getD i []).getD j 0)) A s s.heap := by
  have hin : ∀ w ∈ strW1 i, w.before args s = true := fun w h => hw w (List.mem_flatMap.mpr ⟨i, List.mem_range.mpr hi, h⟩)
  have hex : (Cond.exactly (tmS i) "java/lang/String").before args s = true := hin _ (List.mem_append_left _ (List.mem_of_getElem? (i := 0) rfl))
  have hco : (Cond.eq (.field (tmS i) "java/lang/String" "code\x72" "B") (.int 0)).before args s = true := hin _ (List.mem_append_left _ (List.mem_of_getElem? (i := 1) rfl))
  have har : (Cond.arrayOf (vlS i) .byte).before args s = true := hin _ (List.mem_append_left _ (List.mem_of_getElem? (i := 2) rfl))
  have hle : (Cond.eq (.length (vlS i)) (.int (Int32.ofNat (strb.getD i []).length))).before args s = true := hin _ (List.mem_append_left _ (List.mem_of_getElem? (i := 3) rfl))
  have hel : ∀ j : Nat, j < (strb.getD i []).length → (Cond.eq (.elem (vlS i) (.int (Int32.ofNat j))) (.int ((strb.getD i []).getD j 0))).before args s = true := fun j hj => hin _ (List.mem_append_right _ (List.mem_map.mpr ⟨j, List.mem_range.mpr hj, rfl⟩))
  have hrf : (Cond.stringRef (strl.getD i ("", 0, "")).1 (strl.getD i ("", 0, "")).2.1 (strl.getD i ("", 0, "")).2.2).before args s = true := hr _ (List.mem_map.mpr ⟨i, List.mem_range.mpr hi, rfl⟩)
  obtain ⟨a, c, cA, kA, q1, q2, q3, q4, q5, q6, -⟩ := Cond.exactly_spec (args := args) (first := s) (o := none) (s := s) (idx := []) (t := tmS i) (cls := "java/lang/String") hex
  obtain ⟨t, ht, hT⟩ := va_Tof (f := fun j => .int ((strb.getD i []).getD j 0)) (A := A) (strb_len i hi) har (va_eqt hle) (fun j hj => va_eqt (hel j hj)) hA
  exact ⟨(a, t), vk_R.of hrf q1, ⟨cA, q3, q5, by rw [q6]; exact q2, hA a (Array.getElem?_eq_some_iff.mp q3).1⟩, vk_OFof q1 (va_eqt hco) hA, vk_OFof q1 ht hA, hT⟩
theorem str_all {args : Array Value} {s : State} {A : Nat → Prop} (hA : ∀ a : Nat, a < s.heap.size → ¬ A a) (hw : ∀ w ∈ strW, w.before args s = true) (hr : ∀ w ∈ strR, w.before args s = true) :
    ∃ sK sV : Nat → Nat, ∀ i, i < 58 → vk_R (strl.getD i ("", 0, "")).1 (strl.getD i ("", 0, "")).2.1 (strl.getD i ("", 0, "")).2.2 (sK i) s ∧ va_O "java/lang/String" (sK i) A s s.heap ∧ va_OF "java/lang/String" "code\x72" "B" (.int 0) (sK i) A s s.heap ∧ va_OF "java/lang/String" "value" "[B" (.ref (sV i)) (sK i) A s s.heap ∧ va_T .byte (sV i) (strb.getD i []).length (fun j => .int ((strb.getD i []).getD j 0)) A s s.heap := by
  have h0 : ∀ i : Nat, ∃ q : Nat × Nat, i < 58 → vk_R (strl.getD i ("", 0, "")).1 (strl.getD i ("", 0, "")).2.1 (strl.getD i ("", 0, "")).2.2 q.1 s ∧ va_O "java/lang/String" q.1 A s s.heap ∧ va_OF "java/lang/String" "code\x72" "B" (.int 0) q.1 A s s.heap ∧ va_OF "java/lang/String" "value" "[B" (.ref q.2) q.1 A s s.heap ∧ va_T .byte q.2 (strb.getD i []).length (fun j => .int ((strb.getD i []).getD j 0)) A s s.heap := fun i => by
    by_cases hi : i < 58
    · obtain ⟨q, hq⟩ := str_one hA hw hr hi
      exact ⟨q, fun _ => hq⟩
    · exact ⟨(0, 0), fun h => absurd h hi⟩
  obtain ⟨f, hf⟩ := Classical.axiomOfChoice h0
  exact ⟨fun i => (f i).1, fun i => (f i).2, hf⟩
theorem cls_all {args : Array Value} {s : State} (hts : ∀ w ∈ TB, w.before args s = true) : ∃ (dC : Nat → ClassId) (dI : Nat → Nat → Nat), ∀ (k : Nat) (q : vw_C), cls[k]? = some q → u_Kn s q.1 q.2.1 q.2.2 (dC k) (dI k) := by
  obtain ⟨c0, i0, h0⟩ := u_known (C := RX0) (T := TX0) (N := 14) (n := 14) hts inX0 (hts _ inst0)
  obtain ⟨c1, i1, h1⟩ := u_known (C := RX1) (T := TX1) (N := 4) (n := 4) hts inX1 (hts _ inst1)
  obtain ⟨c2, i2, h2⟩ := u_known (C := RX2) (T := TX2) (N := 7) (n := 7) hts inX2 (hts _ inst2)
  obtain ⟨c3, i3, h3⟩ := u_known (C := RX3) (T := TX3) (N := 5) (n := 5) hts inX3 (hts _ inst3)
  obtain ⟨c4, i4, h4⟩ := u_known (C := RX4) (T := TX4) (N := 8) (n := 8) hts inX4 (hts _ inst4)
  obtain ⟨c5, i5, h5⟩ := u_known (C := RX5) (T := TX5) (N := 13) (n := 13) hts inX5 (hts _ inst5)
  obtain ⟨c6, i6, h6⟩ := u_known (C := RX6) (T := TX6) (N := 10) (n := 10) hts inX6 (hts _ inst6)
  obtain ⟨c7, i7, h7⟩ := u_known (C := RX7) (T := TX7) (N := 4) (n := 4) hts inX7 (hts _ inst7)
  obtain ⟨c8, i8, h8⟩ := u_known (C := RX8) (T := TX8) (N := 19) (n := 19) hts inX8 (hts _ inst8)
  obtain ⟨c9, i9, h9⟩ := u_known (C := RX9) (T := TX9) (N := 44) (n := 44) hts inX9 (hts _ inst9)
  refine ⟨fun k => if k = 0 then c0 else if k = 1 then c1 else if k = 2 then c2 else if k = 3 then c3 else if k = 4 then c4 else if k = 5 then c5 else if k = 6 then c6 else if k = 7 then c7 else if k = 8 then c8 else c9, fun k => if k = 0 then i0 else if k = 1 then i1 else if k = 2 then i2 else if k = 3 then i3 else if k = 4 then i4 else if k = 5 then i5 else if k = 6 then i6 else if k = 7 then i7 else if k = 8 then i8 else i9, ?_⟩
  intro k q hq
  match k, hq with
  | 0, hq => cases hq; exact h0
  | 1, hq => cases hq; exact h1
  | 2, hq => cases hq; exact h2
  | 3, hq => cases hq; exact h3
  | 4, hq => cases hq; exact h4
  | 5, hq => cases hq; exact h5
  | 6, hq => cases hq; exact h6
  | 7, hq => cases hq; exact h7
  | 8, hq => cases hq; exact h8
  | 9, hq => cases hq; exact h9
  | k + 10, hq => simp [cls] at hq
theorem arr_all {args : Array Value} {s : State} (hts : ∀ w ∈ TB, w.before args s = true) (hov : va_AO RX2 s) : ∃ cy : CY, ∀ (k : Nat) (q : ClassId × FieldType), (tys cy)[k]? = some q → ArrOfT s q.1 q.2 ∧ va_RA s q.1 q.2 := by
  obtain ⟨cB, kB, pB, b1, b2, b3⟩ := Cond.arrayClass_spec (args := args) (first := s) (o := none) (idx := []) (hts _ acbyte)
  obtain ⟨cI, kI, pI, i1, i2, i3⟩ := Cond.arrayClass_spec (args := args) (first := s) (o := none) (idx := []) (hts _ acint)
  obtain ⟨cJ, kJ, pJ, j1, j2, j3⟩ := Cond.arrayClass_spec (args := args) (first := s) (o := none) (idx := []) (hts _ aclong)
  obtain ⟨comp, cN, kN, n1, -, n3, n4, n5⟩ := Cond.arrayOver_spec (args := #[]) (first := s) (o := none) (idx := []) hov
  refine ⟨(cB, cI, cJ, cN), fun k q hq => ?_⟩
  match k, hq with
  | 0, hq => cases hq; exact ⟨fun n z => ⟨fun k h => (by cases h), kB, b2, pB, b3⟩, b1⟩
  | 1, hq => cases hq; exact ⟨fun n z => ⟨fun k h => (by cases h), kI, i2, pI, i3⟩, i1⟩
  | 2, hq => cases hq; exact ⟨fun n z => ⟨fun k h => (by cases h), kJ, j2, pJ, j3⟩, j1⟩
  | 3, hq => cases hq; exact ⟨fun n z => ⟨fun k h => (by cases h), kN, n3, comp, n4⟩, kN, comp, n3, n4, n1, n5⟩
  | k + 4, hq => simp [tys] at hq
