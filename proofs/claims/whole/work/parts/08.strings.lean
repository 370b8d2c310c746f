def RJ1 : String := "java/lang/StringLatin1"
def RJ3 : String := "jdk/internal/util/Preconditions"
def yJ0_coder_7d493 : MethodName := ⟨RJ0, "code\x72", "()B"⟩
abbrev cJ0_coder_7d493 : ByteArray := prog_19_method_152_code
set_option maxRecDepth 20000 in
theorem coJ0_coder_7d493 : Cond.code yJ0_coder_7d493 cJ0_coder_7d493 1 (some .byte) ∈ TB := tb_t2 235 rfl rfl
def yJ0_isLatin1_aae02 : MethodName := ⟨RJ0, "isLatin1", "()Z"⟩
abbrev cJ0_isLatin1_aae02 : ByteArray := prog_19_method_154_code
set_option maxRecDepth 20000 in
theorem coJ0_isLatin1_aae02 : Cond.code yJ0_isLatin1_aae02 cJ0_isLatin1_aae02 1 (some .boolean) ∈ TB := tb_t3 5 rfl rfl
def yJ3_checkIndex_8e157 : MethodName := ⟨RJ3, "checkIndex", "(IILjava/util/function/BiFunction;)I"⟩
abbrev cJ3_checkIndex_8e157 : ByteArray := prog_26_method_11_code
set_option maxRecDepth 20000 in
theorem coJ3_checkIndex_8e157 : Cond.code yJ3_checkIndex_8e157 cJ3_checkIndex_8e157 3 (some .int) ∈ TB := tb_t3 16 rfl rfl
def yJ0_checkIndex_df160 : MethodName := ⟨RJ0, "checkIndex", "(II)V"⟩
abbrev cJ0_checkIndex_df160 : ByteArray := prog_19_method_155_code
set_option maxRecDepth 20000 in
theorem coJ0_checkIndex_df160 : Cond.code yJ0_checkIndex_df160 cJ0_checkIndex_df160 2 none ∈ TB := tb_t3 11 rfl rfl
def yJ1_charAt_3b067 : MethodName := ⟨RJ1, "charAt", "([BI)C"⟩
abbrev cJ1_charAt_3b067 : ByteArray := prog_20_method_2_code
set_option maxRecDepth 20000 in
theorem coJ1_charAt_3b067 : Cond.code yJ1_charAt_3b067 cJ1_charAt_3b067 2 (some .char) ∈ TB := tb_t3 8 rfl rfl
theorem dJ0_coder_7d493_0 : decode cJ0_coder_7d493 0 = .ok (.getstatic 38, 3) := by decide +kernel
theorem dJ0_coder_7d493_3 : decode cJ0_coder_7d493 3 = .ok (.ifCond .eq 10, 3) := by decide +kernel
theorem dJ0_coder_7d493_6 : decode cJ0_coder_7d493 6 = .ok (.aload_n 0, 1) := by decide +kernel
theorem dJ0_coder_7d493_7 : decode cJ0_coder_7d493 7 = .ok (.getfield 15, 3) := by decide +kernel
theorem dJ0_coder_7d493_10 : decode cJ0_coder_7d493 10 = .ok (.goto 4, 3) := by decide +kernel
theorem dJ0_coder_7d493_13 : decode cJ0_coder_7d493 13 = .ok (.iconst 1, 1) := by decide +kernel
theorem dJ0_coder_7d493_14 : decode cJ0_coder_7d493 14 = .ok (.ireturn, 1) := by decide +kernel
theorem dJ0_isLatin1_aae02_0 : decode cJ0_isLatin1_aae02 0 = .ok (.getstatic 38, 3) := by decide +kernel
theorem dJ0_isLatin1_aae02_3 : decode cJ0_isLatin1_aae02 3 = .ok (.ifCond .eq 14, 3) := by decide +kernel
theorem dJ0_isLatin1_aae02_6 : decode cJ0_isLatin1_aae02 6 = .ok (.aload_n 0, 1) := by decide +kernel
theorem dJ0_isLatin1_aae02_7 : decode cJ0_isLatin1_aae02 7 = .ok (.getfield 15, 3) := by decide +kernel
theorem dJ0_isLatin1_aae02_10 : decode cJ0_isLatin1_aae02 10 = .ok (.ifCond .ne 7, 3) := by decide +kernel
theorem dJ0_isLatin1_aae02_13 : decode cJ0_isLatin1_aae02 13 = .ok (.iconst 1, 1) := by decide +kernel
theorem dJ0_isLatin1_aae02_14 : decode cJ0_isLatin1_aae02 14 = .ok (.goto 4, 3) := by decide +kernel
theorem dJ0_isLatin1_aae02_17 : decode cJ0_isLatin1_aae02 17 = .ok (.iconst 0, 1) := by decide +kernel
theorem dJ0_isLatin1_aae02_18 : decode cJ0_isLatin1_aae02 18 = .ok (.ireturn, 1) := by decide +kernel
theorem dJ3_checkIndex_8e157_0 : decode cJ3_checkIndex_8e157 0 = .ok (.iload_n 0, 1) := by decide +kernel
theorem dJ3_checkIndex_8e157_1 : decode cJ3_checkIndex_8e157 1 = .ok (.ifCond .lt 8, 3) := by decide +kernel
theorem dJ3_checkIndex_8e157_4 : decode cJ3_checkIndex_8e157 4 = .ok (.iload_n 0, 1) := by decide +kernel
theorem dJ3_checkIndex_8e157_5 : decode cJ3_checkIndex_8e157 5 = .ok (.iload_n 1, 1) := by decide +kernel
theorem dJ3_checkIndex_8e157_6 : decode cJ3_checkIndex_8e157 6 = .ok (.if_icmp .lt 10, 3) := by decide +kernel
theorem dJ3_checkIndex_8e157_9 : decode cJ3_checkIndex_8e157 9 = .ok (.aload_n 2, 1) := by decide +kernel
theorem dJ3_checkIndex_8e157_10 : decode cJ3_checkIndex_8e157 10 = .ok (.iload_n 0, 1) := by decide +kernel
theorem dJ3_checkIndex_8e157_11 : decode cJ3_checkIndex_8e157 11 = .ok (.iload_n 1, 1) := by decide +kernel
theorem dJ3_checkIndex_8e157_12 : decode cJ3_checkIndex_8e157 12 = .ok (.invokestatic 95, 3) := by decide +kernel
theorem dJ3_checkIndex_8e157_15 : decode cJ3_checkIndex_8e157 15 = .ok (.athrow, 1) := by decide +kernel
theorem dJ3_checkIndex_8e157_16 : decode cJ3_checkIndex_8e157 16 = .ok (.iload_n 0, 1) := by decide +kernel
theorem dJ3_checkIndex_8e157_17 : decode cJ3_checkIndex_8e157 17 = .ok (.ireturn, 1) := by decide +kernel
theorem dJ0_checkIndex_df160_0 : decode cJ0_checkIndex_df160 0 = .ok (.iload_n 0, 1) := by decide +kernel
theorem dJ0_checkIndex_df160_1 : decode cJ0_checkIndex_df160 1 = .ok (.iload_n 1, 1) := by decide +kernel
theorem dJ0_checkIndex_df160_2 : decode cJ0_checkIndex_df160 2 = .ok (.getstatic 1053, 3) := by decide +kernel
theorem dJ0_checkIndex_df160_5 : decode cJ0_checkIndex_df160 5 = .ok (.invokestatic 1059, 3) := by decide +kernel
theorem dJ0_checkIndex_df160_8 : decode cJ0_checkIndex_df160 8 = .ok (.pop, 1) := by decide +kernel
theorem dJ0_checkIndex_df160_9 : decode cJ0_checkIndex_df160 9 = .ok (.return_, 1) := by decide +kernel
theorem dJ1_charAt_3b067_0 : decode cJ1_charAt_3b067 0 = .ok (.iload_n 1, 1) := by decide +kernel
theorem dJ1_charAt_3b067_1 : decode cJ1_charAt_3b067 1 = .ok (.aload_n 0, 1) := by decide +kernel
theorem dJ1_charAt_3b067_2 : decode cJ1_charAt_3b067 2 = .ok (.arraylength, 1) := by decide +kernel
theorem dJ1_charAt_3b067_3 : decode cJ1_charAt_3b067 3 = .ok (.invokestatic 9, 3) := by decide +kernel
theorem dJ1_charAt_3b067_6 : decode cJ1_charAt_3b067 6 = .ok (.aload_n 0, 1) := by decide +kernel
theorem dJ1_charAt_3b067_7 : decode cJ1_charAt_3b067 7 = .ok (.iload_n 1, 1) := by decide +kernel
theorem dJ1_charAt_3b067_8 : decode cJ1_charAt_3b067 8 = .ok (.baload, 1) := by decide +kernel
theorem dJ1_charAt_3b067_9 : decode cJ1_charAt_3b067 9 = .ok (.sipush 255, 3) := by decide +kernel
theorem dJ1_charAt_3b067_12 : decode cJ1_charAt_3b067 12 = .ok (.iand, 1) := by decide +kernel
theorem dJ1_charAt_3b067_13 : decode cJ1_charAt_3b067 13 = .ok (.i2c, 1) := by decide +kernel
theorem dJ1_charAt_3b067_14 : decode cJ1_charAt_3b067 14 = .ok (.ireturn, 1) := by decide +kernel
theorem dJ0_length_8abf5_0 : decode cJ0_length_8abf5 0 = .ok (.aload_n 0, 1) := by decide +kernel
theorem dJ0_length_8abf5_1 : decode cJ0_length_8abf5 1 = .ok (.getfield 9, 3) := by decide +kernel
theorem dJ0_length_8abf5_4 : decode cJ0_length_8abf5 4 = .ok (.arraylength, 1) := by decide +kernel
theorem dJ0_length_8abf5_5 : decode cJ0_length_8abf5 5 = .ok (.aload_n 0, 1) := by decide +kernel
theorem dJ0_length_8abf5_6 : decode cJ0_length_8abf5 6 = .ok (.invokevirtual 335, 3) := by decide +kernel
theorem dJ0_length_8abf5_9 : decode cJ0_length_8abf5 9 = .ok (.ishr, 1) := by decide +kernel
theorem dJ0_length_8abf5_10 : decode cJ0_length_8abf5 10 = .ok (.ireturn, 1) := by decide +kernel
theorem dJ0_charAt_5068e_0 : decode cJ0_charAt_5068e 0 = .ok (.aload_n 0, 1) := by decide +kernel
theorem dJ0_charAt_5068e_1 : decode cJ0_charAt_5068e 1 = .ok (.invokevirtual 492, 3) := by decide +kernel
theorem dJ0_charAt_5068e_4 : decode cJ0_charAt_5068e 4 = .ok (.ifCond .eq 12, 3) := by decide +kernel
theorem dJ0_charAt_5068e_7 : decode cJ0_charAt_5068e 7 = .ok (.aload_n 0, 1) := by decide +kernel
theorem dJ0_charAt_5068e_8 : decode cJ0_charAt_5068e 8 = .ok (.getfield 9, 3) := by decide +kernel
theorem dJ0_charAt_5068e_11 : decode cJ0_charAt_5068e 11 = .ok (.iload_n 1, 1) := by decide +kernel
theorem dJ0_charAt_5068e_12 : decode cJ0_charAt_5068e 12 = .ok (.invokestatic 495, 3) := by decide +kernel
theorem dJ0_charAt_5068e_15 : decode cJ0_charAt_5068e 15 = .ok (.ireturn, 1) := by decide +kernel
theorem dJ0_charAt_5068e_16 : decode cJ0_charAt_5068e 16 = .ok (.aload_n 0, 1) := by decide +kernel
theorem dJ0_charAt_5068e_17 : decode cJ0_charAt_5068e 17 = .ok (.getfield 9, 3) := by decide +kernel
theorem dJ0_charAt_5068e_20 : decode cJ0_charAt_5068e 20 = .ok (.iload_n 1, 1) := by decide +kernel
theorem dJ0_charAt_5068e_21 : decode cJ0_charAt_5068e 21 = .ok (.invokestatic 498, 3) := by decide +kernel
theorem dJ0_charAt_5068e_24 : decode cJ0_charAt_5068e 24 = .ok (.ireturn, 1) := by decide +kernel
theorem lkRJ0_335 : LkV RJ0 335 yJ0_coder_7d493 cJ0_coder_7d493 1 (some .byte) 0 := ⟨tb_1 625 (by decide +kernel) (by decide +kernel), tb_1 626 (by decide +kernel) (by decide +kernel), tb_1 627 (by decide +kernel) (by decide +kernel), tb_1 165 (by decide +kernel) (by decide +kernel), coJ0_coder_7d493, ⟨by decide +kernel, by decide +kernel, by decide +kernel⟩⟩
theorem lkRJ0_492 : LkV RJ0 492 yJ0_isLatin1_aae02 cJ0_isLatin1_aae02 1 (some .boolean) 0 := ⟨tb_1 635 (by decide +kernel) (by decide +kernel), tb_1 636 (by decide +kernel) (by decide +kernel), tb_1 637 (by decide +kernel) (by decide +kernel), tb_1 165 (by decide +kernel) (by decide +kernel), coJ0_isLatin1_aae02, ⟨by decide +kernel, by decide +kernel, by decide +kernel⟩⟩
theorem lkRJ0_495 : LkS RJ0 495 yJ1_charAt_3b067 cJ1_charAt_3b067 2 (some .char) 2 := ⟨tb_1 639 (by decide +kernel) (by decide +kernel), tb_1 640 (by decide +kernel) (by decide +kernel), tb_1 166 (by decide +kernel) (by decide +kernel), coJ1_charAt_3b067, ⟨by decide +kernel, by decide +kernel, by decide +kernel⟩⟩
theorem lkRJ1_9 : LkS RJ1 9 yJ0_checkIndex_df160 cJ0_checkIndex_df160 2 none 2 := ⟨tb_1 642 (by decide +kernel) (by decide +kernel), tb_1 643 (by decide +kernel) (by decide +kernel), tb_1 165 (by decide +kernel) (by decide +kernel), coJ0_checkIndex_df160, ⟨by decide +kernel, by decide +kernel, by decide +kernel⟩⟩
theorem lkRJ0_1059 : LkS RJ0 1059 yJ3_checkIndex_8e157 cJ3_checkIndex_8e157 3 (some .int) 3 := ⟨tb_1 647 (by decide +kernel) (by decide +kernel), tb_1 648 (by decide +kernel) (by decide +kernel), tb_1 167 (by decide +kernel) (by decide +kernel), coJ3_checkIndex_8e157, ⟨by decide +kernel, by decide +kernel, by decide +kernel⟩⟩
theorem flS_38 : Cond.fieldLink RJ0 38 "java/lang/String" "COMPACT_STRINGS" "Z" ∈ TB := tb_1 629 (by decide +kernel) (by decide +kernel)
theorem flS_1053 : Cond.fieldLink RJ0 1053 "jdk/internal/util/Preconditions" "SIOOBE_FORMATTER" "Ljava/util/function/BiFunction;" ∈ TB := tb_1 645 (by decide +kernel) (by decide +kernel)
theorem flS_9 : Cond.fieldLink RJ0 9 "java/lang/String" "value" "[B" ∈ TB := tb_1 2210 (by decide +kernel) (by decide +kernel)
theorem flS_15 : Cond.fieldLink RJ0 15 "java/lang/String" "code\x72" "B" ∈ TB := tb_1 2211 (by decide +kernel) (by decide +kernel)
section STR
variable {K : KX} {G : GX} {rk : Nat} {cc : ByteArray} {pc : Nat} {lv : List (Nat × Value)} {st : List Value} {h : HH}
theorem S_value (C : Ok K G rk cc RJ0) {i : Nat} (hi : i < 58) (d : decode cc pc = .ok (.getfield 9, 3)) (q : Nat) (hq : pc + 3 = q) (nx : At K G q lv (.ref (K.2.2.2.2.2.2 i) :: st) h) : At K G pc lv (.ref (K.2.2.2.2.2.1 i) :: st) h := by
  subst hq
  obtain ⟨p, l, e, R, s, m, args, below, meth, c, Q, cells, slots, nL⟩ := G
  obtain ⟨hx, hb, hml, hown, hts, hK, hX, hlq, hr1, hr2, hc1, hc2⟩ := id C
  exact fun H locs ls hP hD hS hl => vk_getf hx hb (hX.2.2.2 i hi).2.2.2.1 hS hown (hts _ flS_9) (fun _ z => z) d (nx H locs ls hP hD hS hl)
theorem S_coder (C : Ok K G rk cc RJ0) {i : Nat} (hi : i < 58) (d : decode cc pc = .ok (.getfield 15, 3)) (q : Nat) (hq : pc + 3 = q) (nx : At K G q lv (.int 0 :: st) h) : At K G pc lv (.ref (K.2.2.2.2.2.1 i) :: st) h := by
  subst hq
  obtain ⟨p, l, e, R, s, m, args, below, meth, c, Q, cells, slots, nL⟩ := G
  obtain ⟨hx, hb, hml, hown, hts, hK, hX, hlq, hr1, hr2, hc1, hc2⟩ := id C
  exact fun H locs ls hP hD hS hl => vk_getf hx hb (hX.2.2.2 i hi).2.2.1 hS hown (hts _ flS_15) (fun _ z => z) d (nx H locs ls hP hD hS hl)
theorem S_compact (C : Ok K G rk cc RJ0) (d : decode cc pc = .ok (.getstatic 38, 3)) (q : Nat) (hq : pc + 3 = q) (nx : At K G q lv (.int 1 :: st) h) : At K G pc lv st h := by
  subst hq
  obtain ⟨p, l, e, R, s, m, args, below, meth, c, Q, cells, slots, nL⟩ := G
  obtain ⟨hx, hb, hml, hown, hts, hK, hX, hlq, hr1, hr2, hc1, hc2⟩ := id C
  exact fun H locs ls hP hD hS hl => va_gets hx hb hX.2.1 hS hown (hts _ flS_38) (fun _ z => z) d (nx H locs ls hP hD hS hl)
theorem S_form (C : Ok K G rk cc RJ0) (d : decode cc pc = .ok (.getstatic 1053, 3)) (q : Nat) (hq : pc + 3 = q) (nx : ∀ v : Value, v.category = 1 → At K G q lv (v :: st) h) : At K G pc lv st h := by
  subst hq
  obtain ⟨p, l, e, R, s, m, args, below, meth, c, Q, cells, slots, nL⟩ := G
  obtain ⟨hx, hb, hml, hown, hts, hK, hX, hlq, hr1, hr2, hc1, hc2⟩ := id C
  intro H locs ls hP hD hS hl
  obtain ⟨z, hz⟩ := hX.2.2.1
  rcases hz with hz | hz
  · exact va_gets hx hb hz hS hown (hts _ flS_1053) (fun _ z => z) d (nx _ rfl H locs ls hP hD hS hl)
  · exact va_gets hx hb hz hS hown (hts _ flS_1053) (fun _ z => z) d (nx _ rfl H locs ls hP hD hS hl)
theorem S_len {own : String} (C : Ok K G rk cc own) {i : Nat} (hi : i < 58) (d : decode cc pc = .ok (.arraylength, 1)) (q : Nat) (hq : pc + 1 = q) (nx : At K G q lv (.int (nI (strb.getD i []).length) :: st) h) : At K G pc lv (.ref (K.2.2.2.2.2.2 i) :: st) h := by
  subst hq
  obtain ⟨p, l, e, R, s, m, args, below, meth, c, Q, cells, slots, nL⟩ := G
  obtain ⟨hx, hb, hml, hown, hts, hK, hX, hlq, hr1, hr2, hc1, hc2⟩ := id C
  exact fun H locs ls hP hD hS hl => va_tlen hx hb (hX.2.2.2 i hi).2.2.2.2 hS rfl d (nx H locs ls hP hD hS hl)
theorem S_bald {own : String} (C : Ok K G rk cc own) {i : Nat} {x : Int32} (hi : i < 58) (hin : vp_in x (strb.getD i []).length) (d : decode cc pc = .ok (.baload, 1)) (q : Nat) (hq : pc + 1 = q) (nx : At K G q lv (.int ((strb.getD i []).getD (ix x) 0) :: st) h) : At K G pc lv (.int x :: .ref (K.2.2.2.2.2.2 i) :: st) h := by
  subst hq
  obtain ⟨p, l, e, R, s, m, args, below, meth, c, Q, cells, slots, nL⟩ := G
  obtain ⟨hx, hb, hml, hown, hts, hK, hX, hlq, hr1, hr2, hc1, hc2⟩ := id C
  exact fun H locs ls hP hD hS hl => va_tb hx hb (hX.2.2.2 i hi).2.2.2.2 hS hin rfl d (nx H locs ls hP hD hS hl)
theorem S_i2c {own : String} (C : Ok K G rk cc own) {x v : Int32} (hv : (x.toUInt32 % 65536).toInt32 = v) (d : decode cc pc = .ok (.i2c, 1)) (q : Nat) (hq : pc + 1 = q) (nx : At K G q lv (.int v :: st) h) : At K G pc lv (.int x :: st) h := by
  subst hq
  obtain ⟨p, l, e, R, s, m, args, below, meth, c, Q, cells, slots, nL⟩ := G
  obtain ⟨hx, hb, hml, hown, hts, hK, hX, hlq, hr1, hr2, hc1, hc2⟩ := id C
  exact fun H locs ls hP hD hS hl => lv_i2c hx hb d hv (nx H locs ls hP hD hS hl)
theorem S_nret {own : String} (C : Ok K G rk cc own) {x : Int32} {ty : FieldType} (hn : narrow ty (.int x) = .int x) (d : decode cc pc = .ok (.ireturn, 1)) (E : Endd K G (some ty) (some (.int x)) h) : At K G pc lv [.int x] h := by
  obtain ⟨p, l, e, R, s, m, args, below, meth, c, Q, cells, slots, nL⟩ := G
  obtain ⟨hx, hb, hml, hown, hts, hK, hX, hlq, hr1, hr2, hc1, hc2⟩ := id C
  obtain ⟨rfl, hrt, hlk⟩ := E
  exact fun H locs ls hP hD hS hl => W.zret hx hb hrt hn (fun t ht _ => ⟨rfl, by rw [ht]; exact hP, hS.F ht⟩) hS.2.2 d hlk
end STR
theorem getD_in {l : List Int32} {n : Nat} (h : n < l.length) : l.getD n 0 ∈ l := by
  rw [List.getD_eq_getElem?_getD, List.getElem?_eq_getElem h]
  exact List.getElem_mem h
theorem strb_ok : ∀ i, i < 58 → ∀ b ∈ strb.getD i [], ((b &&& 255).toUInt32 % 65536).toInt32 = b ∧ narrow .char (.int b) = .int b := by decide +kernel
theorem strb_len : ∀ i, i < 58 → (strb.getD i []).length < 2 ^ 31 := by decide +kernel
theorem mJ0_coder_7d493 {K : KX} {i : Nat} (hi : i < 58) {h : HH} : MR K yJ0_coder_7d493 cJ0_coder_7d493 1 (some .byte) 1 [.ref (K.2.2.2.2.2.1 i)] h (some (.int 0)) h := by
  refine MR_of (by decide) (Nat.le_of_ble_eq_true rfl) (fun G C E hnl => ?_)
  have C : Ok K G 1 cJ0_coder_7d493 RJ0 := C
  refine (show At K G 0 [(0, .ref (K.2.2.2.2.2.1 i))] [] h from ?_)
  refine S_compact C dJ0_coder_7d493_0 3 rfl ?_
  refine N_if_eq C dJ0_coder_7d493_3 13 (by decide) (by decide) 6 rfl ?_
  refine A_aload_n C dJ0_coder_7d493_6 (i := 0) rfl 0 rfl 7 rfl ?_
  refine S_coder C hi dJ0_coder_7d493_7 10 rfl ?_
  refine A_goto C dJ0_coder_7d493_10 14 (by decide) ?_
  exact S_nret C rfl dJ0_coder_7d493_14 E
theorem mJ0_isLatin1_aae02 {K : KX} {i : Nat} (hi : i < 58) {h : HH} : MR K yJ0_isLatin1_aae02 cJ0_isLatin1_aae02 1 (some .boolean) 1 [.ref (K.2.2.2.2.2.1 i)] h (some (.int 1)) h := by
  refine MR_of (by decide) (Nat.le_of_ble_eq_true rfl) (fun G C E hnl => ?_)
  have C : Ok K G 1 cJ0_isLatin1_aae02 RJ0 := C
  refine (show At K G 0 [(0, .ref (K.2.2.2.2.2.1 i))] [] h from ?_)
  refine S_compact C dJ0_isLatin1_aae02_0 3 rfl ?_
  refine N_if_eq C dJ0_isLatin1_aae02_3 17 (by decide) (by decide) 6 rfl ?_
  refine A_aload_n C dJ0_isLatin1_aae02_6 (i := 0) rfl 0 rfl 7 rfl ?_
  refine S_coder C hi dJ0_isLatin1_aae02_7 10 rfl ?_
  refine N_if_ne C dJ0_isLatin1_aae02_10 17 (by decide) (by decide) 13 rfl ?_
  refine A_iconst (v := 1) C dJ0_isLatin1_aae02_13 (by decide) 14 rfl ?_
  refine A_goto C dJ0_isLatin1_aae02_14 18 (by decide) ?_
  exact S_nret C rfl dJ0_isLatin1_aae02_18 E
theorem mJ3_checkIndex_8e157 {K : KX} {x n : Int32} (h0 : ¬ x < 0) (h1 : x < n) {v : Value} (hv : v.category = 1) {h : HH} : MR K yJ3_checkIndex_8e157 cJ3_checkIndex_8e157 3 (some .int) 1 [.int x, .int n, v] h (some (.int x)) h := by
  have e0 : lg_sl [Value.int x, .int n, v] = [.val (.int x), .val (.int n), .val v] := by
    cases v <;> first | rfl | cases hv
  have e1 : lv_args 0 [Value.int x, .int n, v] = [(0, .int x), (1, .int n), (2, v)] := by
    cases v <;> first | rfl | cases hv
  refine MR_of (by decide) (by rw [e0]; exact Nat.le_refl 3) (fun G C E hnl => ?_)
  have C : Ok K G 1 cJ3_checkIndex_8e157 RJ3 := C
  rw [e1]
  refine A_iload_n C dJ3_checkIndex_8e157_0 (i := 0) rfl 0 rfl 1 rfl ?_
  refine N_if_lt C dJ3_checkIndex_8e157_1 9 (by decide) h0 4 rfl ?_
  refine A_iload_n C dJ3_checkIndex_8e157_4 (i := 0) rfl 0 rfl 5 rfl ?_
  refine A_iload_n C dJ3_checkIndex_8e157_5 (i := 1) rfl 1 rfl 6 rfl ?_
  refine T_icmp_lt C dJ3_checkIndex_8e157_6 16 (by decide) h1 ?_
  refine A_iload_n C dJ3_checkIndex_8e157_16 (i := 0) rfl 0 rfl 17 rfl ?_
  exact A_iret C dJ3_checkIndex_8e157_17 E rfl
theorem mJ0_checkIndex_df160 {K : KX} {x n : Int32} (h0 : ¬ x < 0) (h1 : x < n) {h : HH} : MR K yJ0_checkIndex_df160 cJ0_checkIndex_df160 2 none 2 [.int x, .int n] h none h := by
  refine MR_of (by decide) (Nat.le_of_ble_eq_true rfl) (fun G C E hnl => ?_)
  have C : Ok K G 2 cJ0_checkIndex_df160 RJ0 := C
  refine (show At K G 0 [(0, .int x), (1, .int n)] [] h from ?_)
  refine A_iload_n C dJ0_checkIndex_df160_0 (i := 0) rfl 0 rfl 1 rfl ?_
  refine A_iload_n C dJ0_checkIndex_df160_1 (i := 1) rfl 1 rfl 2 rfl ?_
  refine S_form C dJ0_checkIndex_df160_2 5 rfl (fun v hv => ?_)
  refine A_callS C dJ0_checkIndex_df160_5 (mJ3_checkIndex_8e157 h0 h1 hv) lkRJ0_1059 (by decide) (by decide) rfl [] rfl (Nat.le_of_ble_eq_true rfl) 8 rfl ?_
  refine A_pop C dJ0_checkIndex_df160_8 rfl 9 rfl ?_
  exact A_vret C dJ0_checkIndex_df160_9 E rfl
theorem mJ1_charAt_3b067 {K : KX} {i : Nat} (hi : i < 58) {x : Int32} (hin : inb x (strb.getD i []).length = true) {h : HH} : MR K yJ1_charAt_3b067 cJ1_charAt_3b067 2 (some .char) 3 [.ref (K.2.2.2.2.2.2 i), .int x] h (some (.int ((strb.getD i []).getD (ix x) 0))) h := by
  have h3 := inb_in hin
  have hL := strb_len i hi
  obtain ⟨j, hj, hx⟩ := vp_in_of h3 hL
  have h0 : ¬ x < 0 := fun z => h3 (Or.inl z)
  have h1 : x < nI (strb.getD i []).length := by rw [hx]; exact nI_lt hj hL
  have hb : (strb.getD i []).getD (ix x) 0 ∈ strb.getD i [] := by
    have hlt : ix x < (strb.getD i []).length := by
      show x.toNatClampNeg < _
      rw [hx, nI_clamp (by omega)]; exact hj
    exact getD_in hlt
  obtain ⟨o1, o2⟩ := strb_ok i hi _ hb
  refine MR_of (by decide) (Nat.le_of_ble_eq_true rfl) (fun G C E hnl => ?_)
  have C : Ok K G 3 cJ1_charAt_3b067 RJ1 := C
  refine (show At K G 0 [(0, .ref (K.2.2.2.2.2.2 i)), (1, .int x)] [] h from ?_)
  refine A_iload_n C dJ1_charAt_3b067_0 (i := 1) rfl 1 rfl 1 rfl ?_
  refine A_aload_n C dJ1_charAt_3b067_1 (i := 0) rfl 0 rfl 2 rfl ?_
  refine S_len C hi dJ1_charAt_3b067_2 3 rfl ?_
  refine A_callS C dJ1_charAt_3b067_3 (mJ0_checkIndex_df160 h0 h1) lkRJ1_9 (by decide) (by decide) rfl [] rfl (Nat.le_of_ble_eq_true rfl) 6 rfl ?_
  refine A_aload_n C dJ1_charAt_3b067_6 (i := 0) rfl 0 rfl 7 rfl ?_
  refine A_iload_n C dJ1_charAt_3b067_7 (i := 1) rfl 1 rfl 8 rfl ?_
  refine S_bald C hi h3 dJ1_charAt_3b067_8 9 rfl ?_
  refine A_sipush (v := 255) C dJ1_charAt_3b067_9 (by decide) 12 rfl ?_
  refine A_iand C dJ1_charAt_3b067_12 13 rfl ?_
  refine S_i2c C o1 dJ1_charAt_3b067_13 14 rfl ?_
  exact S_nret C o2 dJ1_charAt_3b067_14 E
/-- of a constant (its place): its length, its sign at a place -/
def fJ0_length_8abf5 (x0 : Nat) (h : HH) : Option (Int32 × HH) := some (nI (strb.getD x0 []).length, h)
def fJ0_charAt_5068e (x0 : Nat) (x1 : Int32) (h : HH) : Option (Int32 × HH) := gd (inb x1 (strb.getD x0 []).length) (some ((strb.getD x0 []).getD (ix x1) 0, h))
theorem mJ0_length_8abf5 {K : KX} {x0 : Nat} (k0 : x0 < 58) {h : HH} {rv : Int32} {hv : HH} (hf : fJ0_length_8abf5 x0 h = some (rv, hv)) : MR K yJ0_length_8abf5 cJ0_length_8abf5 1 (some .int) 5 [.ref (K.2.2.2.2.2.1 x0)] h (some (.int rv)) hv := by
  refine MR_of (by decide) (Nat.le_of_ble_eq_true rfl) (fun G C E hnl => ?_)
  have C : Ok K G 5 cJ0_length_8abf5 RJ0 := C
  refine (show At K G 0 [(0, .ref (K.2.2.2.2.2.1 x0))] [] h from ?_)
  refine A_aload_n C dJ0_length_8abf5_0 (i := 0) rfl 0 rfl 1 rfl ?_
  refine S_value C k0 dJ0_length_8abf5_1 4 rfl ?_
  refine S_len C k0 dJ0_length_8abf5_4 5 rfl ?_
  refine A_aload_n C dJ0_length_8abf5_5 (i := 0) rfl 0 rfl 6 rfl ?_
  refine A_callT C dJ0_length_8abf5_6 k0 rfl (mJ0_coder_7d493 k0) lkRJ0_335 (by decide) (by decide) rfl [.int (nI (strb.getD x0 []).length)] rfl (Nat.le_of_ble_eq_true rfl) 9 rfl ?_
  refine (show At K G 9 [(0, .ref (K.2.2.2.2.2.1 x0))] [.int 0, .int (nI (strb.getD x0 []).length)] h from ?_)
  refine A_ishr C dJ0_length_8abf5_9 10 rfl ?_
  rw [sc_shr0 (strb_len x0 k0)]
  exact A_iret C dJ0_length_8abf5_10 E hf
theorem mJ0_charAt_5068e {K : KX} {x0 : Nat} (k0 : x0 < 58) {x1 : Int32} {h : HH} {rv : Int32} {hv : HH} (hf : fJ0_charAt_5068e x0 x1 h = some (rv, hv)) : MR K yJ0_charAt_5068e cJ0_charAt_5068e 2 (some .char) 5 [.ref (K.2.2.2.2.2.1 x0), .int x1] h (some (.int rv)) hv := by
  obtain ⟨h1, h2⟩ := gd_t hf
  cases h2
  have h3 := inb_in h1
  have hb : (strb.getD x0 []).getD (ix x1) 0 ∈ strb.getD x0 [] := by
    obtain ⟨j, hj, hx⟩ := vp_in_of h3 (strb_len x0 k0)
    have hL := strb_len x0 k0
    have hlt : ix x1 < (strb.getD x0 []).length := by
      show x1.toNatClampNeg < _
      rw [hx, nI_clamp (by omega)]; exact hj
    exact getD_in hlt
  obtain ⟨-, o2⟩ := strb_ok x0 k0 _ hb
  refine MR_of (by decide) (Nat.le_of_ble_eq_true rfl) (fun G C E hnl => ?_)
  have C : Ok K G 5 cJ0_charAt_5068e RJ0 := C
  refine (show At K G 0 [(0, .ref (K.2.2.2.2.2.1 x0)), (1, .int x1)] [] h from ?_)
  refine A_aload_n C dJ0_charAt_5068e_0 (i := 0) rfl 0 rfl 1 rfl ?_
  refine A_callT C dJ0_charAt_5068e_1 k0 rfl (mJ0_isLatin1_aae02 k0) lkRJ0_492 (by decide) (by decide) rfl [] rfl (Nat.le_of_ble_eq_true rfl) 4 rfl ?_
  refine (show At K G 4 [(0, .ref (K.2.2.2.2.2.1 x0)), (1, .int x1)] [.int 1] h from ?_)
  refine N_if_eq C dJ0_charAt_5068e_4 16 (by decide) (by decide) 7 rfl ?_
  refine A_aload_n C dJ0_charAt_5068e_7 (i := 0) rfl 0 rfl 8 rfl ?_
  refine S_value C k0 dJ0_charAt_5068e_8 11 rfl ?_
  refine A_iload_n C dJ0_charAt_5068e_11 (i := 1) rfl 1 rfl 12 rfl ?_
  refine A_callS C dJ0_charAt_5068e_12 (mJ1_charAt_3b067 k0 h1) lkRJ0_495 (by decide) (by decide) rfl [] rfl (Nat.le_of_ble_eq_true rfl) 15 rfl ?_
  exact S_nret C o2 dJ0_charAt_5068e_15 E
