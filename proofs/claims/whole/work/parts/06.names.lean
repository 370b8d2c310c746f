theorem tb_t1 {w : Cond} (i : Nat) (h : tables_1_1[i]? = some w) (g : goodWord w = true) : w ∈ TB := tb_in (List.mem_append_right _ (List.mem_append_left _ (List.mem_of_getElem? h))) g
theorem tb_t2 {w : Cond} (i : Nat) (h : tables_1_2[i]? = some w) (g : goodWord w = true) : w ∈ TB := tb_in (List.mem_append_right _ (List.mem_append_right _ (List.mem_append_left _ (List.mem_of_getElem? h)))) g
theorem tb_t3 {w : Cond} (i : Nat) (h : tables_1_3[i]? = some w) (g : goodWord w = true) : w ∈ TB := tb_in (List.mem_append_right _ (List.mem_append_right _ (List.mem_append_right _ (List.mem_append_left _ (List.mem_of_getElem? h))))) g
theorem tb_t4 {w : Cond} (i : Nat) (h : tables_1_4[i]? = some w) (g : goodWord w = true) : w ∈ TB := tb_in (List.mem_append_right _ (List.mem_append_right _ (List.mem_append_right _ (List.mem_append_right _ (List.mem_append_left _ (List.mem_of_getElem? h)))))) g
theorem tb_t5 {w : Cond} (i : Nat) (h : tables_1_5[i]? = some w) (g : goodWord w = true) : w ∈ TB := tb_in (List.mem_append_right _ (List.mem_append_right _ (List.mem_append_right _ (List.mem_append_right _ (List.mem_append_right _ (List.mem_append_left _ (List.mem_of_getElem? h))))))) g
theorem tb_t6 {w : Cond} (i : Nat) (h : tables_1_6[i]? = some w) (g : goodWord w = true) : w ∈ TB := tb_in (List.mem_append_right _ (List.mem_append_right _ (List.mem_append_right _ (List.mem_append_right _ (List.mem_append_right _ (List.mem_append_right _ (List.mem_append_left _ (List.mem_of_getElem? h)))))))) g
theorem tb_t7 {w : Cond} (i : Nat) (h : tables_1_7[i]? = some w) (g : goodWord w = true) : w ∈ TB := tb_in (List.mem_append_right _ (List.mem_append_right _ (List.mem_append_right _ (List.mem_append_right _ (List.mem_append_right _ (List.mem_append_right _ (List.mem_append_right _ (List.mem_append_left _ (List.mem_of_getElem? h))))))))) g
theorem tb_t8 {w : Cond} (i : Nat) (h : tables_1_8[i]? = some w) (g : goodWord w = true) : w ∈ TB := tb_in (List.mem_append_right _ (List.mem_append_right _ (List.mem_append_right _ (List.mem_append_right _ (List.mem_append_right _ (List.mem_append_right _ (List.mem_append_right _ (List.mem_append_right _ (List.mem_append_left _ (List.mem_of_getElem? h)))))))))) g
theorem tb_t9 {w : Cond} (i : Nat) (h : tables_1_9[i]? = some w) (g : goodWord w = true) : w ∈ TB := tb_in (List.mem_append_right _ (List.mem_append_right _ (List.mem_append_right _ (List.mem_append_right _ (List.mem_append_right _ (List.mem_append_right _ (List.mem_append_right _ (List.mem_append_right _ (List.mem_append_right _ (List.mem_of_getElem? h)))))))))) g
def RJ0 : String := "java/lang/String"
def RJ6 : String := "java/lang/Intege\x72"
def yX0_clear : MethodName := ⟨RX0, "clea\x72", "()V"⟩
abbrev cX0_clear : ByteArray := prog_2_method_2_code
set_option maxRecDepth 20000 in
theorem coX0_clear : Cond.code yX0_clear cX0_clear 1 none ∈ TB := tb_t2 192 rfl rfl
def yX0_addRate : MethodName := ⟨RX0, "addRate", "(I)V"⟩
abbrev cX0_addRate : ByteArray := prog_2_method_3_code
set_option maxRecDepth 20000 in
theorem coX0_addRate : Cond.code yX0_addRate cX0_addRate 2 none ∈ TB := tb_t3 71 rfl rfl
def yX7_at : MethodName := ⟨RX7, "at", "(II)I"⟩
abbrev cX7_at : ByteArray := prog_9_method_6_code
set_option maxRecDepth 20000 in
theorem coX7_at : Cond.code yX7_at cX7_at 4 (some .int) ∈ TB := tb_t3 147 rfl rfl
def yX7_putAt : MethodName := ⟨RX7, "putAt", "(III)V"⟩
abbrev cX7_putAt : ByteArray := prog_9_method_5_code
set_option maxRecDepth 20000 in
theorem coX7_putAt : Cond.code yX7_putAt cX7_putAt 4 none ∈ TB := tb_t3 106 rfl rfl
def yX0_orderStep : MethodName := ⟨RX0, "orderStep", "()V"⟩
abbrev cX0_orderStep : ByteArray := prog_2_method_4_code
set_option maxRecDepth 20000 in
theorem coX0_orderStep : Cond.code yX0_orderStep cX0_orderStep 3 none ∈ TB := tb_t3 143 rfl rfl
def yX0_stepOf : MethodName := ⟨RX0, "stepOf", "(II)I"⟩
abbrev cX0_stepOf : ByteArray := prog_2_method_5_code
set_option maxRecDepth 20000 in
theorem coX0_stepOf : Cond.code yX0_stepOf cX0_stepOf 4 (some .int) ∈ TB := tb_t3 204 rfl rfl
def yX0_quickOf : MethodName := ⟨RX0, "quickOf", "(I)I"⟩
abbrev cX0_quickOf : ByteArray := prog_2_method_6_code
set_option maxRecDepth 20000 in
theorem coX0_quickOf : Cond.code yX0_quickOf cX0_quickOf 2 (some .int) ∈ TB := tb_t3 226 rfl rfl
def yX0_bottom : MethodName := ⟨RX0, "bottom", "()I"⟩
abbrev cX0_bottom : ByteArray := prog_2_method_7_code
set_option maxRecDepth 20000 in
theorem coX0_bottom : Cond.code yX0_bottom cX0_bottom 1 (some .int) ∈ TB := tb_t4 57 rfl rfl
def yX0_ratio : MethodName := ⟨RX0, "ratio", "(II)I"⟩
abbrev cX0_ratio : ByteArray := prog_2_method_9_code
set_option maxRecDepth 20000 in
theorem coX0_ratio : Cond.code yX0_ratio cX0_ratio 4 (some .int) ∈ TB := tb_t3 214 rfl rfl
def yX0_minuteOf : MethodName := ⟨RX0, "minuteOf", "(I)I"⟩
abbrev cX0_minuteOf : ByteArray := prog_2_method_8_code
set_option maxRecDepth 20000 in
theorem coX0_minuteOf : Cond.code yX0_minuteOf cX0_minuteOf 2 (some .int) ∈ TB := tb_t3 210 rfl rfl
def yX0_morningTick : MethodName := ⟨RX0, "morningTick", "()J"⟩
abbrev cX0_morningTick : ByteArray := prog_2_method_10_code
set_option maxRecDepth 20000 in
theorem coX0_morningTick : Cond.code yX0_morningTick cX0_morningTick 1 (some .long) ∈ TB := tb_t4 192 rfl rfl
def yX0_knockTick : MethodName := ⟨RX0, "knockTick", "(I)J"⟩
abbrev cX0_knockTick : ByteArray := prog_2_method_11_code
set_option maxRecDepth 20000 in
theorem coX0_knockTick : Cond.code yX0_knockTick cX0_knockTick 2 (some .long) ∈ TB := tb_t4 108 rfl rfl
def yX0_feltOn : MethodName := ⟨RX0, "feltOn", "(III)J"⟩
abbrev cX0_feltOn : ByteArray := prog_2_method_12_code
set_option maxRecDepth 20000 in
theorem coX0_feltOn : Cond.code yX0_feltOn cX0_feltOn 4 (some .long) ∈ TB := tb_t4 210 rfl rfl
def yX8_quotient : MethodName := ⟨RX8, "quotient", "(JJ)J"⟩
abbrev cX8_quotient : ByteArray := prog_1_method_84_code
set_option maxRecDepth 20000 in
theorem coX8_quotient : Cond.code yX8_quotient cX8_quotient 4 (some .long) ∈ TB := tb_t4 21 rfl rfl
def yX0_shrunk : MethodName := ⟨RX0, "shrunk", "(III)I"⟩
abbrev cX0_shrunk : ByteArray := prog_2_method_13_code
set_option maxRecDepth 20000 in
theorem coX0_shrunk : Cond.code yX0_shrunk cX0_shrunk 4 (some .int) ∈ TB := tb_t5 67 rfl rfl
def yX0_falling : MethodName := ⟨RX0, "falling", "(II)J"⟩
abbrev cX0_falling : ByteArray := prog_2_method_14_code
set_option maxRecDepth 20000 in
theorem coX0_falling : Cond.code yX0_falling cX0_falling 6 (some .long) ∈ TB := tb_t4 231 rfl rfl
def yX0_floorBehind : MethodName := ⟨RX0, "floorBehind", "(IIII)I"⟩
abbrev cX0_floorBehind : ByteArray := prog_2_method_15_code
set_option maxRecDepth 20000 in
theorem coX0_floorBehind : Cond.code yX0_floorBehind cX0_floorBehind 8 (some .int) ∈ TB := tb_t4 121 rfl rfl
def yX0_fitsSigns : MethodName := ⟨RX0, "fitsSigns", "(I)Z"⟩
abbrev cX0_fitsSigns : ByteArray := prog_2_method_17_code
set_option maxRecDepth 20000 in
theorem coX0_fitsSigns : Cond.code yX0_fitsSigns cX0_fitsSigns 6 (some .boolean) ∈ TB := tb_t5 63 rfl rfl
def yX0_deepOnes : MethodName := ⟨RX0, "deepOnes", "()I"⟩
abbrev cX0_deepOnes : ByteArray := prog_2_method_16_code
set_option maxRecDepth 20000 in
theorem coX0_deepOnes : Cond.code yX0_deepOnes cX0_deepOnes 3 (some .int) ∈ TB := tb_t5 59 rfl rfl
def yX0_dreadOn : MethodName := ⟨RX0, "dreadOn", "(II)J"⟩
abbrev cX0_dreadOn : ByteArray := prog_2_method_19_code
set_option maxRecDepth 20000 in
theorem coX0_dreadOn : Cond.code yX0_dreadOn cX0_dreadOn 3 (some .long) ∈ TB := tb_t5 165 rfl rfl
def yX0_gainOn : MethodName := ⟨RX0, "gainOn", "(II)J"⟩
abbrev cX0_gainOn : ByteArray := prog_2_method_18_code
set_option maxRecDepth 20000 in
theorem coX0_gainOn : Cond.code yX0_gainOn cX0_gainOn 3 (some .long) ∈ TB := tb_t5 161 rfl rfl
def yX1_need : MethodName := ⟨RX1, "need", "(III)V"⟩
abbrev cX1_need : ByteArray := prog_3_method_3_code
set_option maxRecDepth 20000 in
theorem coX1_need : Cond.code yX1_need cX1_need 7 none ∈ TB := tb_t5 196 rfl rfl
def yX1_countFrom : MethodName := ⟨RX1, "countFrom", "(LAsleepInside$Dream;II)I"⟩
abbrev cX1_countFrom : ByteArray := prog_3_method_4_code
set_option maxRecDepth 20000 in
theorem coX1_countFrom : Cond.code yX1_countFrom cX1_countFrom 9 (some .int) ∈ TB := tb_t5 201 rfl rfl
def yX1_make : MethodName := ⟨RX1, "make", "(LAsleepInside$Dream;)V"⟩
abbrev cX1_make : ByteArray := prog_3_method_2_code
set_option maxRecDepth 20000 in
theorem coX1_make : Cond.code yX1_make cX1_make 3 none ∈ TB := tb_t5 191 rfl rfl
def yX1_onlyRate : MethodName := ⟨RX1, "onlyRate", "(I)I"⟩
abbrev cX1_onlyRate : ByteArray := prog_3_method_5_code
set_option maxRecDepth 20000 in
theorem coX1_onlyRate : Cond.code yX1_onlyRate cX1_onlyRate 3 (some .int) ∈ TB := tb_t5 209 rfl rfl
def yX2_dueTick : MethodName := ⟨RX2, "dueTick", "(LAsleepInside$Dream;I)J"⟩
abbrev cX2_dueTick : ByteArray := prog_4_method_6_code
set_option maxRecDepth 20000 in
theorem coX2_dueTick : Cond.code yX2_dueTick cX2_dueTick 4 (some .long) ∈ TB := tb_t3 200 rfl rfl
def yX2_comeTo : MethodName := ⟨RX2, "comeTo", "(LAsleepInside$Dream;III)V"⟩
abbrev cX2_comeTo : ByteArray := prog_4_method_11_code
set_option maxRecDepth 20000 in
theorem coX2_comeTo : Cond.code yX2_comeTo cX2_comeTo 5 none ∈ TB := tb_t3 222 rfl rfl
def yX2_takeStep : MethodName := ⟨RX2, "takeStep", "(LAsleepInside$Dream;I)V"⟩
abbrev cX2_takeStep : ByteArray := prog_4_method_10_code
set_option maxRecDepth 20000 in
theorem coX2_takeStep : Cond.code yX2_takeStep cX2_takeStep 4 none ∈ TB := tb_t3 218 rfl rfl
def yX2_takeDueSteps : MethodName := ⟨RX2, "takeDueSteps", "(LAsleepInside$Dream;)V"⟩
abbrev cX2_takeDueSteps : ByteArray := prog_4_method_9_code
set_option maxRecDepth 20000 in
theorem coX2_takeDueSteps : Cond.code yX2_takeDueSteps cX2_takeDueSteps 4 none ∈ TB := tb_t3 196 rfl rfl
def yX2_begin : MethodName := ⟨RX2, "begin", "(LAsleepInside$Dream;)V"⟩
abbrev cX2_begin : ByteArray := prog_4_method_2_code
set_option maxRecDepth 20000 in
theorem coX2_begin : Cond.code yX2_begin cX2_begin 3 none ∈ TB := tb_t3 192 rfl rfl
def yX2_copyFrom : MethodName := ⟨RX2, "copyFrom", "(LAsleepInside$Night;)V"⟩
abbrev cX2_copyFrom : ByteArray := prog_4_method_3_code
set_option maxRecDepth 20000 in
theorem coX2_copyFrom : Cond.code yX2_copyFrom cX2_copyFrom 3 none ∈ TB := tb_t4 93 rfl rfl
def yX2_nextChange : MethodName := ⟨RX2, "nextChange", "(LAsleepInside$Dream;)J"⟩
abbrev cX2_nextChange : ByteArray := prog_4_method_5_code
set_option maxRecDepth 20000 in
theorem coX2_nextChange : Cond.code yX2_nextChange cX2_nextChange 7 (some .long) ∈ TB := tb_t4 101 rfl rfl
def yX2_hearKnock : MethodName := ⟨RX2, "hearKnock", "(LAsleepInside$Dream;III)I"⟩
abbrev cX2_hearKnock : ByteArray := prog_4_method_8_code
set_option maxRecDepth 20000 in
theorem coX2_hearKnock : Cond.code yX2_hearKnock cX2_hearKnock 8 (some .int) ∈ TB := tb_t4 117 rfl rfl
def yX2_hearToldKnocks : MethodName := ⟨RX2, "hearToldKnocks", "(LAsleepInside$Dream;)V"⟩
abbrev cX2_hearToldKnocks : ByteArray := prog_4_method_7_code
set_option maxRecDepth 20000 in
theorem coX2_hearToldKnocks : Cond.code yX2_hearToldKnocks cX2_hearToldKnocks 4 none ∈ TB := tb_t4 113 rfl rfl
def yX2_runTo : MethodName := ⟨RX2, "runTo", "(LAsleepInside$Dream;J)V"⟩
abbrev cX2_runTo : ByteArray := prog_4_method_4_code
set_option maxRecDepth 20000 in
theorem coX2_runTo : Cond.code yX2_runTo cX2_runTo 7 none ∈ TB := tb_t4 97 rfl rfl
def yX2_livedBy : MethodName := ⟨RX2, "livedBy", "(LAsleepInside$Dream;I)J"⟩
abbrev cX2_livedBy : ByteArray := prog_4_method_12_code
set_option maxRecDepth 20000 in
theorem coX2_livedBy : Cond.code yX2_livedBy cX2_livedBy 3 (some .long) ∈ TB := tb_t4 53 rfl rfl
def yX2_haveMet : MethodName := ⟨RX2, "haveMet", "(II)Z"⟩
abbrev cX2_haveMet : ByteArray := prog_4_method_13_code
set_option maxRecDepth 20000 in
theorem coX2_haveMet : Cond.code yX2_haveMet cX2_haveMet 3 (some .boolean) ∈ TB := tb_t4 70 rfl rfl
def yX2_companyOf : MethodName := ⟨RX2, "companyOf", "(LAsleepInside$Dream;I)I"⟩
abbrev cX2_companyOf : ByteArray := prog_4_method_14_code
set_option maxRecDepth 20000 in
theorem coX2_companyOf : Cond.code yX2_companyOf cX2_companyOf 5 (some .int) ∈ TB := tb_t4 174 rfl rfl
def yX3_lastAlike : MethodName := ⟨RX3, "lastAlike", "(LAsleepInside$Dream;)I"⟩
abbrev cX3_lastAlike : ByteArray := prog_5_method_8_code
set_option maxRecDepth 20000 in
theorem coX3_lastAlike : Cond.code yX3_lastAlike cX3_lastAlike 4 (some .int) ∈ TB := tb_t4 143 rfl rfl
def yX3_begin : MethodName := ⟨RX3, "begin", "(LAsleepInside$Dream;LAsleepInside$Night;I)V"⟩
abbrev cX3_begin : ByteArray := prog_5_method_6_code
set_option maxRecDepth 20000 in
theorem coX3_begin : Cond.code yX3_begin cX3_begin 4 none ∈ TB := tb_t4 138 rfl rfl
def yX3_goOn : MethodName := ⟨RX3, "goOn", "(LAsleepInside$Dream;)V"⟩
abbrev cX3_goOn : ByteArray := prog_5_method_7_code
set_option maxRecDepth 20000 in
theorem coX3_goOn : Cond.code yX3_goOn cX3_goOn 2 none ∈ TB := tb_t4 153 rfl rfl
def yX3_firstMeeting : MethodName := ⟨RX3, "firstMeeting", "(LAsleepInside$Dream;LAsleepInside$Night;III)I"⟩
abbrev cX3_firstMeeting : ByteArray := prog_5_method_2_code
set_option maxRecDepth 20000 in
theorem coX3_firstMeeting : Cond.code yX3_firstMeeting cX3_firstMeeting 7 (some .int) ∈ TB := tb_t4 134 rfl rfl
def yX3_firstAwake : MethodName := ⟨RX3, "firstAwake", "(LAsleepInside$Dream;LAsleepInside$Night;II)I"⟩
abbrev cX3_firstAwake : ByteArray := prog_5_method_3_code
set_option maxRecDepth 20000 in
theorem coX3_firstAwake : Cond.code yX3_firstAwake cX3_firstAwake 6 (some .int) ∈ TB := tb_t4 162 rfl rfl
def yX3_countLonely : MethodName := ⟨RX3, "countLonely", "(LAsleepInside$Dream;LAsleepInside$Night;II)I"⟩
abbrev cX3_countLonely : ByteArray := prog_5_method_4_code
set_option maxRecDepth 20000 in
theorem coX3_countLonely : Cond.code yX3_countLonely cX3_countLonely 7 (some .int) ∈ TB := tb_t4 170 rfl rfl
def yX3_mostTogether : MethodName := ⟨RX3, "mostTogethe\x72", "(LAsleepInside$Dream;LAsleepInside$Night;I)I"⟩
abbrev cX3_mostTogether : ByteArray := prog_5_method_5_code
set_option maxRecDepth 20000 in
theorem coX3_mostTogether : Cond.code yX3_mostTogether cX3_mostTogether 7 (some .int) ∈ TB := tb_t4 184 rfl rfl
def yX4_allMinutes : MethodName := ⟨RX4, "allMinutes", "(LAsleepInside$Dream;)J"⟩
abbrev cX4_allMinutes : ByteArray := prog_6_method_5_code
set_option maxRecDepth 20000 in
theorem coX4_allMinutes : Cond.code yX4_allMinutes cX4_allMinutes 4 (some .long) ∈ TB := tb_t4 221 rfl rfl
def yX4_weigh : MethodName := ⟨RX4, "weigh", "(LAsleepInside$Dream;IJJ)V"⟩
abbrev cX4_weigh : ByteArray := prog_6_method_4_code
set_option maxRecDepth 20000 in
theorem coX4_weigh : Cond.code yX4_weigh cX4_weigh 11 none ∈ TB := tb_t4 236 rfl rfl
def yX4_choose : MethodName := ⟨RX4, "choose", "(LAsleepInside$Dream;IIJJ)V"⟩
abbrev cX4_choose : ByteArray := prog_6_method_3_code
set_option maxRecDepth 20000 in
theorem coX4_choose : Cond.code yX4_choose cX4_choose 13 none ∈ TB := tb_t4 226 rfl rfl
def yX4_make : MethodName := ⟨RX4, "make", "(LAsleepInside$Dream;)V"⟩
abbrev cX4_make : ByteArray := prog_6_method_2_code
set_option maxRecDepth 20000 in
theorem coX4_make : Cond.code yX4_make cX4_make 2 none ∈ TB := tb_t4 218 rfl rfl
def yX4_leastTicks : MethodName := ⟨RX4, "leastTicks", "(LAsleepInside$Dream;)J"⟩
abbrev cX4_leastTicks : ByteArray := prog_6_method_6_code
set_option maxRecDepth 20000 in
theorem coX4_leastTicks : Cond.code yX4_leastTicks cX4_leastTicks 5 (some .long) ∈ TB := tb_t5 9 rfl rfl
def yX5_byteAt : MethodName := ⟨RX5, "byteAt", "(I)I"⟩
abbrev cX5_byteAt : ByteArray := prog_7_method_34_code
set_option maxRecDepth 20000 in
theorem coX5_byteAt : Cond.code yX5_byteAt cX5_byteAt 2 (some .int) ∈ TB := tb_t2 200 rfl rfl
def yX5_isLetter : MethodName := ⟨RX5, "isLette\x72", "(I)Z"⟩
abbrev cX5_isLetter : ByteArray := prog_7_method_32_code
set_option maxRecDepth 20000 in
theorem coX5_isLetter : Cond.code yX5_isLetter cX5_isLetter 1 (some .boolean) ∈ TB := tb_t2 203 rfl rfl
def yX5_nextWord : MethodName := ⟨RX5, "nextWord", "()V"⟩
abbrev cX5_nextWord : ByteArray := prog_7_method_30_code
set_option maxRecDepth 20000 in
theorem coX5_nextWord : Cond.code yX5_nextWord cX5_nextWord 2 none ∈ TB := tb_t2 207 rfl rfl
def yX5_isDigit : MethodName := ⟨RX5, "isDigit", "(I)Z"⟩
abbrev cX5_isDigit : ByteArray := prog_7_method_33_code
set_option maxRecDepth 20000 in
theorem coX5_isDigit : Cond.code yX5_isDigit cX5_isDigit 1 (some .boolean) ∈ TB := tb_t2 210 rfl rfl
def yX5_nextWhole : MethodName := ⟨RX5, "nextWhole", "()V"⟩
abbrev cX5_nextWhole : ByteArray := prog_7_method_31_code
set_option maxRecDepth 20000 in
theorem coX5_nextWhole : Cond.code yX5_nextWhole cX5_nextWhole 2 none ∈ TB := tb_t2 214 rfl rfl
def yX5_next : MethodName := ⟨RX5, "next", "()V"⟩
abbrev cX5_next : ByteArray := prog_7_method_29_code
set_option maxRecDepth 20000 in
theorem coX5_next : Cond.code yX5_next cX5_next 2 none ∈ TB := tb_t2 196 rfl rfl
def yX5_spells : MethodName := ⟨RX5, "spells", "(Ljava/lang/String;)Z"⟩
abbrev cX5_spells : ByteArray := prog_7_method_27_code
set_option maxRecDepth 20000 in
theorem coX5_spells : Cond.code yX5_spells cX5_spells 5 (some .boolean) ∈ TB := tb_t2 227 rfl rfl
def yX5_isLineWord : MethodName := ⟨RX5, "isLineWord", "()Z"⟩
abbrev cX5_isLineWord : ByteArray := prog_7_method_4_code
set_option maxRecDepth 20000 in
theorem coX5_isLineWord : Cond.code yX5_isLineWord cX5_isLineWord 1 (some .boolean) ∈ TB := tb_t2 222 rfl rfl
def yX5_fail : MethodName := ⟨RX5, "fail", "(I)Z"⟩
abbrev cX5_fail : ByteArray := prog_7_method_28_code
set_option maxRecDepth 20000 in
theorem coX5_fail : Cond.code yX5_fail cX5_fail 2 (some .boolean) ∈ TB := tb_t3 50 rfl rfl
def yX5_word : MethodName := ⟨RX5, "word", "(Ljava/lang/String;)Z"⟩
abbrev cX5_word : ByteArray := prog_7_method_21_code
set_option maxRecDepth 20000 in
theorem coX5_word : Cond.code yX5_word cX5_word 2 (some .boolean) ∈ TB := tb_t3 59 rfl rfl
def yX5_isWhole : MethodName := ⟨RX5, "isWhole", "(II)Z"⟩
abbrev cX5_isWhole : ByteArray := prog_7_method_26_code
set_option maxRecDepth 20000 in
theorem coX5_isWhole : Cond.code yX5_isWhole cX5_isWhole 3 (some .boolean) ∈ TB := tb_t3 67 rfl rfl
def yX5_readRates : MethodName := ⟨RX5, "readRates", "()Z"⟩
abbrev cX5_readRates : ByteArray := prog_7_method_7_code
set_option maxRecDepth 20000 in
theorem coX5_readRates : Cond.code yX5_readRates cX5_readRates 2 (some .boolean) ∈ TB := tb_t3 63 rfl rfl
def yX5_readDream : MethodName := ⟨RX5, "readDream", "()Z"⟩
abbrev cX5_readDream : ByteArray := prog_7_method_6_code
set_option maxRecDepth 20000 in
theorem coX5_readDream : Cond.code yX5_readDream cX5_readDream 1 (some .boolean) ∈ TB := tb_t3 54 rfl rfl
def yX5_nameIndex : MethodName := ⟨RX5, "nameIndex", "()I"⟩
abbrev cX5_nameIndex : ByteArray := prog_7_method_25_code
set_option maxRecDepth 20000 in
theorem coX5_nameIndex : Cond.code yX5_nameIndex cX5_nameIndex 2 (some .int) ∈ TB := tb_t3 85 rfl rfl
def yX5_newName : MethodName := ⟨RX5, "newName", "(II)Z"⟩
abbrev cX5_newName : ByteArray := prog_7_method_23_code
set_option maxRecDepth 20000 in
theorem coX5_newName : Cond.code yX5_newName cX5_newName 3 (some .boolean) ∈ TB := tb_t3 81 rfl rfl
def yX5_readHead : MethodName := ⟨RX5, "readHead", "()Z"⟩
abbrev cX5_readHead : ByteArray := prog_7_method_10_code
set_option maxRecDepth 20000 in
theorem coX5_readHead : Cond.code yX5_readHead cX5_readHead 1 (some .boolean) ∈ TB := tb_t3 77 rfl rfl
def yX7_isFull : MethodName := ⟨RX7, "isFull", "()Z"⟩
abbrev cX7_isFull : ByteArray := prog_9_method_2_code
set_option maxRecDepth 20000 in
theorem coX7_isFull : Cond.code yX7_isFull cX7_isFull 1 (some .boolean) ∈ TB := tb_t3 93 rfl rfl
def yX7_put : MethodName := ⟨RX7, "put", "(II)V"⟩
abbrev cX7_put : ByteArray := prog_9_method_4_code
set_option maxRecDepth 20000 in
theorem coX7_put : Cond.code yX7_put cX7_put 3 none ∈ TB := tb_t3 102 rfl rfl
def yX7_add : MethodName := ⟨RX7, "add", "()V"⟩
abbrev cX7_add : ByteArray := prog_9_method_3_code
set_option maxRecDepth 20000 in
theorem coX7_add : Cond.code yX7_add cX7_add 2 none ∈ TB := tb_t3 97 rfl rfl
def yX5_addRow : MethodName := ⟨RX5, "addRow", "(LAsleepInside$Rows;)Z"⟩
abbrev cX5_addRow : ByteArray := prog_7_method_5_code
set_option maxRecDepth 20000 in
theorem coX5_addRow : Cond.code yX5_addRow cX5_addRow 2 (some .boolean) ∈ TB := tb_t3 89 rfl rfl
def yX5_readKind : MethodName := ⟨RX5, "readKind", "(LAsleepInside$Rows;)Z"⟩
abbrev cX5_readKind : ByteArray := prog_7_method_12_code
set_option maxRecDepth 20000 in
theorem coX5_readKind : Cond.code yX5_readKind cX5_readKind 2 (some .boolean) ∈ TB := tb_t3 115 rfl rfl
def yX5_take : MethodName := ⟨RX5, "take", "(LAsleepInside$Rows;I)Z"⟩
abbrev cX5_take : ByteArray := prog_7_method_22_code
set_option maxRecDepth 20000 in
theorem coX5_take : Cond.code yX5_take cX5_take 3 (some .boolean) ∈ TB := tb_t3 124 rfl rfl
def yX5_readSleeper : MethodName := ⟨RX5, "readSleepe\x72", "()Z"⟩
abbrev cX5_readSleeper : ByteArray := prog_7_method_11_code
set_option maxRecDepth 20000 in
theorem coX5_readSleeper : Cond.code yX5_readSleeper cX5_readSleeper 2 (some .boolean) ∈ TB := tb_t3 110 rfl rfl
def yX5_isTold : MethodName := ⟨RX5, "isTold", "(I)Z"⟩
abbrev cX5_isTold : ByteArray := prog_7_method_24_code
set_option maxRecDepth 20000 in
theorem coX5_isTold : Cond.code yX5_isTold cX5_isTold 3 (some .boolean) ∈ TB := tb_t3 134 rfl rfl
def yX5_readDown : MethodName := ⟨RX5, "readDown", "()Z"⟩
abbrev cX5_readDown : ByteArray := prog_7_method_13_code
set_option maxRecDepth 20000 in
theorem coX5_readDown : Cond.code yX5_readDown cX5_readDown 2 (some .boolean) ∈ TB := tb_t3 130 rfl rfl
def yX5_readAfter : MethodName := ⟨RX5, "readAfte\x72", "()Z"⟩
abbrev cX5_readAfter : ByteArray := prog_7_method_15_code
set_option maxRecDepth 20000 in
theorem coX5_readAfter : Cond.code yX5_readAfter cX5_readAfter 1 (some .boolean) ∈ TB := tb_t3 138 rfl rfl
def yX5_readUp : MethodName := ⟨RX5, "readUp", "()Z"⟩
abbrev cX5_readUp : ByteArray := prog_7_method_14_code
set_option maxRecDepth 20000 in
theorem coX5_readUp : Cond.code yX5_readUp cX5_readUp 1 (some .boolean) ∈ TB := tb_t3 152 rfl rfl
def yX5_readKnock : MethodName := ⟨RX5, "readKnock", "()Z"⟩
abbrev cX5_readKnock : ByteArray := prog_7_method_16_code
set_option maxRecDepth 20000 in
theorem coX5_readKnock : Cond.code yX5_readKnock cX5_readKnock 2 (some .boolean) ∈ TB := tb_t3 156 rfl rfl
def yX5_readTask : MethodName := ⟨RX5, "readTask", "()Z"⟩
abbrev cX5_readTask : ByteArray := prog_7_method_17_code
set_option maxRecDepth 20000 in
theorem coX5_readTask : Cond.code yX5_readTask cX5_readTask 2 (some .boolean) ∈ TB := tb_t3 163 rfl rfl
def yX5_readPays : MethodName := ⟨RX5, "readPays", "()Z"⟩
abbrev cX5_readPays : ByteArray := prog_7_method_8_code
set_option maxRecDepth 20000 in
theorem coX5_readPays : Cond.code yX5_readPays cX5_readPays 3 (some .boolean) ∈ TB := tb_t3 169 rfl rfl
def yX5_readThinks : MethodName := ⟨RX5, "readThinks", "()Z"⟩
abbrev cX5_readThinks : ByteArray := prog_7_method_9_code
set_option maxRecDepth 20000 in
theorem coX5_readThinks : Cond.code yX5_readThinks cX5_readThinks 2 (some .boolean) ∈ TB := tb_t3 173 rfl rfl
def yX5_readFelt : MethodName := ⟨RX5, "readFelt", "()Z"⟩
abbrev cX5_readFelt : ByteArray := prog_7_method_18_code
set_option maxRecDepth 20000 in
theorem coX5_readFelt : Cond.code yX5_readFelt cX5_readFelt 2 (some .boolean) ∈ TB := tb_t3 179 rfl rfl
def yX5_readCame : MethodName := ⟨RX5, "readCame", "()Z"⟩
abbrev cX5_readCame : ByteArray := prog_7_method_19_code
set_option maxRecDepth 20000 in
theorem coX5_readCame : Cond.code yX5_readCame cX5_readCame 2 (some .boolean) ∈ TB := tb_t3 183 rfl rfl
def yX5_readDid : MethodName := ⟨RX5, "readDid", "()Z"⟩
abbrev cX5_readDid : ByteArray := prog_7_method_20_code
set_option maxRecDepth 20000 in
theorem coX5_readDid : Cond.code yX5_readDid cX5_readDid 2 (some .boolean) ∈ TB := tb_t3 187 rfl rfl
def yX5_readLine : MethodName := ⟨RX5, "readLine", "()Z"⟩
abbrev cX5_readLine : ByteArray := prog_7_method_3_code
set_option maxRecDepth 20000 in
theorem coX5_readLine : Cond.code yX5_readLine cX5_readLine 1 (some .boolean) ∈ TB := tb_t2 218 rfl rfl
def yX5_read : MethodName := ⟨RX5, "read", "([BILAsleepInside$Dream;)I"⟩
abbrev cX5_read : ByteArray := prog_7_method_2_code
set_option maxRecDepth 20000 in
theorem coX5_read : Cond.code yX5_read cX5_read 5 (some .int) ∈ TB := tb_t2 185 rfl rfl
def yX6_gather : MethodName := ⟨RX6, "gathe\x72", "(LAsleepInside$Night;I)I"⟩
abbrev cX6_gather : ByteArray := prog_8_method_3_code
set_option maxRecDepth 20000 in
theorem coX6_gather : Cond.code yX6_gather cX6_gather 5 (some .int) ∈ TB := tb_t5 27 rfl rfl
def yX6_enqueue : MethodName := ⟨RX6, "enqueue", "(III)V"⟩
abbrev cX6_enqueue : ByteArray := prog_8_method_4_code
set_option maxRecDepth 20000 in
theorem coX6_enqueue : Cond.code yX6_enqueue cX6_enqueue 4 none ∈ TB := tb_t5 31 rfl rfl
def yX6_place : MethodName := ⟨RX6, "place", "(III)I"⟩
abbrev cX6_place : ByteArray := prog_8_method_6_code
set_option maxRecDepth 20000 in
theorem coX6_place : Cond.code yX6_place cX6_place 3 (some .int) ∈ TB := tb_t5 38 rfl rfl
def yX6_tryKnocks : MethodName := ⟨RX6, "tryKnocks", "(LAsleepInside$Dream;)V"⟩
abbrev cX6_tryKnocks : ByteArray := prog_8_method_5_code
set_option maxRecDepth 20000 in
theorem coX6_tryKnocks : Cond.code yX6_tryKnocks cX6_tryKnocks 5 none ∈ TB := tb_t5 35 rfl rfl
def yX6_behindKnock : MethodName := ⟨RX6, "behindKnock", "(II)I"⟩
abbrev cX6_behindKnock : ByteArray := prog_8_method_7_code
set_option maxRecDepth 20000 in
theorem coX6_behindKnock : Cond.code yX6_behindKnock cX6_behindKnock 7 (some .int) ∈ TB := tb_t5 43 rfl rfl
def yX6_trace : MethodName := ⟨RX6, "trace", "(II)I"⟩
abbrev cX6_trace : ByteArray := prog_8_method_8_code
set_option maxRecDepth 20000 in
theorem coX6_trace : Cond.code yX6_trace cX6_trace 6 (some .int) ∈ TB := tb_t5 47 rfl rfl
def yX6_seek : MethodName := ⟨RX6, "seek", "(LAsleepInside$Dream;LAsleepInside$Night;I)I"⟩
abbrev cX6_seek : ByteArray := prog_8_method_2_code
set_option maxRecDepth 20000 in
theorem coX6_seek : Cond.code yX6_seek cX6_seek 7 (some .int) ∈ TB := tb_t5 23 rfl rfl
def yX8_feedNumber : MethodName := ⟨RX8, "feedNumbe\x72", "(I)V"⟩
abbrev cX8_feedNumber : ByteArray := prog_1_method_3_code
set_option maxRecDepth 20000 in
theorem coX8_feedNumber : Cond.code yX8_feedNumber cX8_feedNumber 3 none ∈ TB := tb_t2 173 rfl rfl
def yX8_feed : MethodName := ⟨RX8, "feed", "(IIIII)I"⟩
abbrev cX8_feed : ByteArray := prog_1_method_2_code
set_option maxRecDepth 20000 in
theorem coX8_feed : Cond.code yX8_feed cX8_feed 6 (some .int) ∈ TB := tb_t2 169 rfl rfl
def yX8_refuse : MethodName := ⟨RX8, "refuse", "(I)I"⟩
abbrev cX8_refuse : ByteArray := prog_1_method_74_code
set_option maxRecDepth 20000 in
theorem coX8_refuse : Cond.code yX8_refuse cX8_refuse 2 (some .int) ∈ TB := tb_t2 181 rfl rfl
def yX8_allow : MethodName := ⟨RX8, "allow", "(I)I"⟩
abbrev cX8_allow : ByteArray := prog_1_method_75_code
set_option maxRecDepth 20000 in
theorem coX8_allow : Cond.code yX8_allow cX8_allow 2 (some .int) ∈ TB := tb_t3 232 rfl rfl
def yX8_dream : MethodName := ⟨RX8, "dream", "(I)I"⟩
abbrev cX8_dream : ByteArray := prog_1_method_4_code
set_option maxRecDepth 20000 in
theorem coX8_dream : Cond.code yX8_dream cX8_dream 3 (some .int) ∈ TB := tb_t2 177 rfl rfl
def yX8_fault : MethodName := ⟨RX8, "fault", "()I"⟩
abbrev cX8_fault : ByteArray := prog_1_method_5_code
set_option maxRecDepth 20000 in
theorem coX8_fault : Cond.code yX8_fault cX8_fault 1 (some .int) ∈ TB := tb_t3 236 rfl rfl
def yX8_where : MethodName := ⟨RX8, "where", "()I"⟩
abbrev cX8_where : ByteArray := prog_1_method_6_code
set_option maxRecDepth 20000 in
theorem coX8_where : Cond.code yX8_where cX8_where 1 (some .int) ∈ TB := tb_t4 0 rfl rfl
def yX8_isFloor : MethodName := ⟨RX8, "isFloo\x72", "(I)Z"⟩
abbrev cX8_isFloor : ByteArray := prog_1_method_77_code
set_option maxRecDepth 20000 in
theorem coX8_isFloor : Cond.code yX8_isFloor cX8_isFloor 2 (some .boolean) ∈ TB := tb_t4 8 rfl rfl
def yX8_quick : MethodName := ⟨RX8, "quick", "(I)I"⟩
abbrev cX8_quick : ByteArray := prog_1_method_7_code
set_option maxRecDepth 20000 in
theorem coX8_quick : Cond.code yX8_quick cX8_quick 2 (some .int) ∈ TB := tb_t4 4 rfl rfl
def yX8_clockOf : MethodName := ⟨RX8, "clockOf", "(I)J"⟩
abbrev cX8_clockOf : ByteArray := prog_1_method_9_code
set_option maxRecDepth 20000 in
theorem coX8_clockOf : Cond.code yX8_clockOf cX8_clockOf 2 (some .long) ∈ TB := tb_t4 17 rfl rfl
def yX8_allow_ : MethodName := ⟨RX8, "allow", "(J)J"⟩
abbrev cX8_allow_ : ByteArray := prog_1_method_76_code
set_option maxRecDepth 20000 in
theorem coX8_allow_ : Cond.code yX8_allow_ cX8_allow_ 3 (some .long) ∈ TB := tb_t4 25 rfl rfl
def yX8_clock : MethodName := ⟨RX8, "clock", "(I)J"⟩
abbrev cX8_clock : ByteArray := prog_1_method_8_code
set_option maxRecDepth 20000 in
theorem coX8_clock : Cond.code yX8_clock cX8_clock 2 (some .long) ∈ TB := tb_t4 13 rfl rfl
def yX8_ticks : MethodName := ⟨RX8, "ticks", "()J"⟩
abbrev cX8_ticks : ByteArray := prog_1_method_10_code
set_option maxRecDepth 20000 in
theorem coX8_ticks : Cond.code yX8_ticks cX8_ticks 1 (some .long) ∈ TB := tb_t4 29 rfl rfl
def yX8_inLowestTerms : MethodName := ⟨RX8, "inLowestTerms", "(JJZ)J"⟩
abbrev cX8_inLowestTerms : ByteArray := prog_1_method_85_code
set_option maxRecDepth 20000 in
theorem coX8_inLowestTerms : Cond.code yX8_inLowestTerms cX8_inLowestTerms 12 (some .long) ∈ TB := tb_t4 36 rfl rfl
def yX8_minutes : MethodName := ⟨RX8, "minutes", "(IIIZ)J"⟩
abbrev cX8_minutes : ByteArray := prog_1_method_11_code
set_option maxRecDepth 20000 in
theorem coX8_minutes : Cond.code yX8_minutes cX8_minutes 5 (some .long) ∈ TB := tb_t4 33 rfl rfl
def yX8_isSleeper : MethodName := ⟨RX8, "isSleepe\x72", "(I)Z"⟩
abbrev cX8_isSleeper : ByteArray := prog_1_method_80_code
set_option maxRecDepth 20000 in
theorem coX8_isSleeper : Cond.code yX8_isSleeper cX8_isSleeper 2 (some .boolean) ∈ TB := tb_t4 44 rfl rfl
def yX8_sleeper : MethodName := ⟨RX8, "sleepe\x72", "(II)I"⟩
abbrev cX8_sleeper : ByteArray := prog_1_method_12_code
set_option maxRecDepth 20000 in
theorem coX8_sleeper : Cond.code yX8_sleeper cX8_sleeper 3 (some .int) ∈ TB := tb_t4 40 rfl rfl
def yX8_lived : MethodName := ⟨RX8, "lived", "(IZ)J"⟩
abbrev cX8_lived : ByteArray := prog_1_method_13_code
set_option maxRecDepth 20000 in
theorem coX8_lived : Cond.code yX8_lived cX8_lived 3 (some .long) ∈ TB := tb_t4 49 rfl rfl
def yX8_isPair : MethodName := ⟨RX8, "isPai\x72", "(II)Z"⟩
abbrev cX8_isPair : ByteArray := prog_1_method_81_code
set_option maxRecDepth 20000 in
theorem coX8_isPair : Cond.code yX8_isPair cX8_isPair 3 (some .boolean) ∈ TB := tb_t4 66 rfl rfl
def yX8_meet : MethodName := ⟨RX8, "meet", "(II)I"⟩
abbrev cX8_meet : ByteArray := prog_1_method_14_code
set_option maxRecDepth 20000 in
theorem coX8_meet : Cond.code yX8_meet cX8_meet 3 (some .int) ∈ TB := tb_t4 62 rfl rfl
def yX8_off : MethodName := ⟨RX8, "off", "()I"⟩
abbrev cX8_off : ByteArray := prog_1_method_15_code
set_option maxRecDepth 20000 in
theorem coX8_off : Cond.code yX8_off cX8_off 3 (some .int) ∈ TB := tb_t4 74 rfl rfl
def yX8_isSpan : MethodName := ⟨RX8, "isSpan", "(I)Z"⟩
abbrev cX8_isSpan : ByteArray := prog_1_method_82_code
set_option maxRecDepth 20000 in
theorem coX8_isSpan : Cond.code yX8_isSpan cX8_isSpan 1 (some .boolean) ∈ TB := tb_t4 85 rfl rfl
def yX8_whyNotIn : MethodName := ⟨RX8, "whyNotIn", "(II)I"⟩
abbrev cX8_whyNotIn : ByteArray := prog_1_method_25_code
set_option maxRecDepth 20000 in
theorem coX8_whyNotIn : Cond.code yX8_whyNotIn cX8_whyNotIn 3 (some .int) ∈ TB := tb_t4 82 rfl rfl
def yX8_lookAhead : MethodName := ⟨RX8, "lookAhead", "(I)V"⟩
abbrev cX8_lookAhead : ByteArray := prog_1_method_26_code
set_option maxRecDepth 20000 in
theorem coX8_lookAhead : Cond.code yX8_lookAhead cX8_lookAhead 2 none ∈ TB := tb_t4 89 rfl rfl
def yX8_floorIn : MethodName := ⟨RX8, "floorIn", "(II)I"⟩
abbrev cX8_floorIn : ByteArray := prog_1_method_16_code
set_option maxRecDepth 20000 in
theorem coX8_floorIn : Cond.code yX8_floorIn cX8_floorIn 4 (some .int) ∈ TB := tb_t4 78 rfl rfl
def yX8_headIn : MethodName := ⟨RX8, "headIn", "(II)I"⟩
abbrev cX8_headIn : ByteArray := prog_1_method_17_code
set_option maxRecDepth 20000 in
theorem coX8_headIn : Cond.code yX8_headIn cX8_headIn 4 (some .int) ∈ TB := tb_t4 126 rfl rfl
def yX8_meetsIn : MethodName := ⟨RX8, "meetsIn", "(III)I"⟩
abbrev cX8_meetsIn : ByteArray := prog_1_method_18_code
set_option maxRecDepth 20000 in
theorem coX8_meetsIn : Cond.code yX8_meetsIn cX8_meetsIn 4 (some .int) ∈ TB := tb_t4 130 rfl rfl
def yX8_awakeIn : MethodName := ⟨RX8, "awakeIn", "(II)I"⟩
abbrev cX8_awakeIn : ByteArray := prog_1_method_19_code
set_option maxRecDepth 20000 in
theorem coX8_awakeIn : Cond.code yX8_awakeIn cX8_awakeIn 4 (some .int) ∈ TB := tb_t4 158 rfl rfl
def yX8_lonely : MethodName := ⟨RX8, "lonely", "(II)I"⟩
abbrev cX8_lonely : ByteArray := prog_1_method_20_code
set_option maxRecDepth 20000 in
theorem coX8_lonely : Cond.code yX8_lonely cX8_lonely 4 (some .int) ∈ TB := tb_t4 166 rfl rfl
def yX8_crowd : MethodName := ⟨RX8, "crowd", "(I)I"⟩
abbrev cX8_crowd : ByteArray := prog_1_method_21_code
set_option maxRecDepth 20000 in
theorem coX8_crowd : Cond.code yX8_crowd cX8_crowd 2 (some .int) ∈ TB := tb_t4 180 rfl rfl
def yX8_left : MethodName := ⟨RX8, "left", "()I"⟩
abbrev cX8_left : ByteArray := prog_1_method_22_code
set_option maxRecDepth 20000 in
theorem coX8_left : Cond.code yX8_left cX8_left 3 (some .int) ∈ TB := tb_t4 188 rfl rfl
def yX8_woken : MethodName := ⟨RX8, "woken", "(II)I"⟩
abbrev cX8_woken : ByteArray := prog_1_method_23_code
set_option maxRecDepth 20000 in
theorem coX8_woken : Cond.code yX8_woken cX8_woken 4 (some .int) ∈ TB := tb_t4 199 rfl rfl
def yX8_isStrong : MethodName := ⟨RX8, "isStrong", "(I)Z"⟩
abbrev cX8_isStrong : ByteArray := prog_1_method_83_code
set_option maxRecDepth 20000 in
theorem coX8_isStrong : Cond.code yX8_isStrong cX8_isStrong 1 (some .boolean) ∈ TB := tb_t4 206 rfl rfl
def yX8_felt : MethodName := ⟨RX8, "felt", "(III)J"⟩
abbrev cX8_felt : ByteArray := prog_1_method_24_code
set_option maxRecDepth 20000 in
theorem coX8_felt : Cond.code yX8_felt cX8_felt 4 (some .long) ∈ TB := tb_t4 203 rfl rfl
def yX8_task : MethodName := ⟨RX8, "task", "(I)I"⟩
abbrev cX8_task : ByteArray := prog_1_method_27_code
set_option maxRecDepth 20000 in
theorem coX8_task : Cond.code yX8_task cX8_task 2 (some .int) ∈ TB := tb_t4 214 rfl rfl
def yX8_best : MethodName := ⟨RX8, "best", "(I)J"⟩
abbrev cX8_best : ByteArray := prog_1_method_28_code
set_option maxRecDepth 20000 in
theorem coX8_best : Cond.code yX8_best cX8_best 2 (some .long) ∈ TB := tb_t5 2 rfl rfl
def yX8_soonest : MethodName := ⟨RX8, "soonest", "()J"⟩
abbrev cX8_soonest : ByteArray := prog_1_method_29_code
set_option maxRecDepth 20000 in
theorem coX8_soonest : Cond.code yX8_soonest cX8_soonest 1 (some .long) ∈ TB := tb_t5 6 rfl rfl
def yX8_whyNotTogether : MethodName := ⟨RX8, "whyNotTogethe\x72", "(I)I"⟩
abbrev cX8_whyNotTogether : ByteArray := prog_1_method_32_code
set_option maxRecDepth 20000 in
theorem coX8_whyNotTogether : Cond.code yX8_whyNotTogether cX8_whyNotTogether 5 (some .int) ∈ TB := tb_t5 19 rfl rfl
def yX8_together : MethodName := ⟨RX8, "togethe\x72", "(I)I"⟩
abbrev cX8_together : ByteArray := prog_1_method_30_code
set_option maxRecDepth 20000 in
theorem coX8_together : Cond.code yX8_together cX8_together 3 (some .int) ∈ TB := tb_t5 15 rfl rfl
def yX8_togetherAt : MethodName := ⟨RX8, "togetherAt", "(II)I"⟩
abbrev cX8_togetherAt : ByteArray := prog_1_method_31_code
set_option maxRecDepth 20000 in
theorem coX8_togetherAt : Cond.code yX8_togetherAt cX8_togetherAt 5 (some .int) ∈ TB := tb_t5 51 rfl rfl
def yX8_deep : MethodName := ⟨RX8, "deep", "()I"⟩
abbrev cX8_deep : ByteArray := prog_1_method_33_code
set_option maxRecDepth 20000 in
theorem coX8_deep : Cond.code yX8_deep cX8_deep 1 (some .int) ∈ TB := tb_t5 55 rfl rfl
def yJ6_bitCount_0f7a4 : MethodName := ⟨RJ6, "bitCount", "(I)I"⟩
abbrev cJ6_bitCount_0f7a4 : ByteArray := prog_16_method_49_code
set_option maxRecDepth 20000 in
theorem coJ6_bitCount_0f7a4 : Cond.code yJ6_bitCount_0f7a4 cJ6_bitCount_0f7a4 1 (some .int) ∈ TB := tb_t5 80 rfl rfl
def yX8_whyNotAsk : MethodName := ⟨RX8, "whyNotAsk", "()I"⟩
abbrev cX8_whyNotAsk : ByteArray := prog_1_method_36_code
set_option maxRecDepth 20000 in
theorem coX8_whyNotAsk : Cond.code yX8_whyNotAsk cX8_whyNotAsk 1 (some .int) ∈ TB := tb_t5 77 rfl rfl
def yX8_fewestAsked : MethodName := ⟨RX8, "fewestAsked", "(I)I"⟩
abbrev cX8_fewestAsked : ByteArray := prog_1_method_37_code
set_option maxRecDepth 20000 in
theorem coX8_fewestAsked : Cond.code yX8_fewestAsked cX8_fewestAsked 5 (some .int) ∈ TB := tb_t5 87 rfl rfl
def yX8_ask : MethodName := ⟨RX8, "ask", "()I"⟩
abbrev cX8_ask : ByteArray := prog_1_method_34_code
set_option maxRecDepth 20000 in
theorem coX8_ask : Cond.code yX8_ask cX8_ask 2 (some .int) ∈ TB := tb_t5 73 rfl rfl
def yX8_mostOfOneAnswer : MethodName := ⟨RX8, "mostOfOneAnswe\x72", "(II)I"⟩
abbrev cX8_mostOfOneAnswer : ByteArray := prog_1_method_38_code
set_option maxRecDepth 20000 in
theorem coX8_mostOfOneAnswer : Cond.code yX8_mostOfOneAnswer cX8_mostOfOneAnswer 8 (some .int) ∈ TB := tb_t5 95 rfl rfl
def yX8_askMost : MethodName := ⟨RX8, "askMost", "()I"⟩
abbrev cX8_askMost : ByteArray := prog_1_method_35_code
set_option maxRecDepth 20000 in
theorem coX8_askMost : Cond.code yX8_askMost cX8_askMost 3 (some .int) ∈ TB := tb_t5 91 rfl rfl
def yX8_isAbove : MethodName := ⟨RX8, "isAbove", "(II)Z"⟩
abbrev cX8_isAbove : ByteArray := prog_1_method_42_code
set_option maxRecDepth 20000 in
theorem coX8_isAbove : Cond.code yX8_isAbove cX8_isAbove 3 (some .boolean) ∈ TB := tb_t5 105 rfl rfl
def yX8_letter : MethodName := ⟨RX8, "lette\x72", "(III)I"⟩
abbrev cX8_letter : ByteArray := prog_1_method_39_code
set_option maxRecDepth 20000 in
theorem coX8_letter : Cond.code yX8_letter cX8_letter 4 (some .int) ∈ TB := tb_t5 101 rfl rfl
def yX8_isVocabulary : MethodName := ⟨RX8, "isVocabulary", "(I)Z"⟩
abbrev cX8_isVocabulary : ByteArray := prog_1_method_43_code
set_option maxRecDepth 20000 in
theorem coX8_isVocabulary : Cond.code yX8_isVocabulary cX8_isVocabulary 1 (some .boolean) ∈ TB := tb_t5 112 rfl rfl
def yX8_tells : MethodName := ⟨RX8, "tells", "(IIII)I"⟩
abbrev cX8_tells : ByteArray := prog_1_method_40_code
set_option maxRecDepth 20000 in
theorem coX8_tells : Cond.code yX8_tells cX8_tells 9 (some .int) ∈ TB := tb_t5 109 rfl rfl
def yX8_words : MethodName := ⟨RX8, "words", "(IIII)J"⟩
abbrev cX8_words : ByteArray := prog_1_method_41_code
set_option maxRecDepth 20000 in
theorem coX8_words : Cond.code yX8_words cX8_words 9 (some .long) ∈ TB := tb_t5 118 rfl rfl
def yX8_isDreamFloor : MethodName := ⟨RX8, "isDreamFloo\x72", "(I)Z"⟩
abbrev cX8_isDreamFloor : ByteArray := prog_1_method_78_code
set_option maxRecDepth 20000 in
theorem coX8_isDreamFloor : Cond.code yX8_isDreamFloor cX8_isDreamFloor 2 (some .boolean) ∈ TB := tb_t5 128 rfl rfl
def yX8_ticksTo : MethodName := ⟨RX8, "ticksTo", "(III)J"⟩
abbrev cX8_ticksTo : ByteArray := prog_1_method_48_code
set_option maxRecDepth 20000 in
theorem coX8_ticksTo : Cond.code yX8_ticksTo cX8_ticksTo 4 (some .long) ∈ TB := tb_t5 140 rfl rfl
def yX8_laterOfBoth : MethodName := ⟨RX8, "laterOfBoth", "(IIII)J"⟩
abbrev cX8_laterOfBoth : ByteArray := prog_1_method_47_code
set_option maxRecDepth 20000 in
theorem coX8_laterOfBoth : Cond.code yX8_laterOfBoth cX8_laterOfBoth 5 (some .long) ∈ TB := tb_t5 136 rfl rfl
def yX8_soonestHead : MethodName := ⟨RX8, "soonestHead", "(III)I"⟩
abbrev cX8_soonestHead : ByteArray := prog_1_method_46_code
set_option maxRecDepth 20000 in
theorem coX8_soonestHead : Cond.code yX8_soonestHead cX8_soonestHead 6 (some .int) ∈ TB := tb_t5 132 rfl rfl
def yX8_meeting : MethodName := ⟨RX8, "meeting", "(III)J"⟩
abbrev cX8_meeting : ByteArray := prog_1_method_44_code
set_option maxRecDepth 20000 in
theorem coX8_meeting : Cond.code yX8_meeting cX8_meeting 4 (some .long) ∈ TB := tb_t5 124 rfl rfl
def yX8_meetingHead : MethodName := ⟨RX8, "meetingHead", "(III)I"⟩
abbrev cX8_meetingHead : ByteArray := prog_1_method_45_code
set_option maxRecDepth 20000 in
theorem coX8_meetingHead : Cond.code yX8_meetingHead cX8_meetingHead 4 (some .int) ∈ TB := tb_t5 145 rfl rfl
def yX8_whyNoWages : MethodName := ⟨RX8, "whyNoWages", "(I)I"⟩
abbrev cX8_whyNoWages : ByteArray := prog_1_method_51_code
set_option maxRecDepth 20000 in
theorem coX8_whyNoWages : Cond.code yX8_whyNoWages cX8_whyNoWages 2 (some .int) ∈ TB := tb_t5 153 rfl rfl
def yX8_floorTaken : MethodName := ⟨RX8, "floorTaken", "(I)I"⟩
abbrev cX8_floorTaken : ByteArray := prog_1_method_52_code
set_option maxRecDepth 20000 in
theorem coX8_floorTaken : Cond.code yX8_floorTaken cX8_floorTaken 4 (some .int) ∈ TB := tb_t5 157 rfl rfl
def yX8_takes : MethodName := ⟨RX8, "takes", "(I)I"⟩
abbrev cX8_takes : ByteArray := prog_1_method_49_code
set_option maxRecDepth 20000 in
theorem coX8_takes : Cond.code yX8_takes cX8_takes 3 (some .int) ∈ TB := tb_t5 149 rfl rfl
def yX8_gains : MethodName := ⟨RX8, "gains", "(I)J"⟩
abbrev cX8_gains : ByteArray := prog_1_method_50_code
set_option maxRecDepth 20000 in
theorem coX8_gains : Cond.code yX8_gains cX8_gains 3 (some .long) ∈ TB := tb_t5 169 rfl rfl
def yX8_leastPay : MethodName := ⟨RX8, "leastPay", "(IIJ)I"⟩
abbrev cX8_leastPay : ByteArray := prog_1_method_55_code
set_option maxRecDepth 20000 in
theorem coX8_leastPay : Cond.code yX8_leastPay cX8_leastPay 8 (some .int) ∈ TB := tb_t5 177 rfl rfl
def yX8_price : MethodName := ⟨RX8, "price", "(II)I"⟩
abbrev cX8_price : ByteArray := prog_1_method_53_code
set_option maxRecDepth 20000 in
theorem coX8_price : Cond.code yX8_price cX8_price 6 (some .int) ∈ TB := tb_t5 173 rfl rfl
def yX8_enough : MethodName := ⟨RX8, "enough", "(II)I"⟩
abbrev cX8_enough : ByteArray := prog_1_method_54_code
set_option maxRecDepth 20000 in
theorem coX8_enough : Cond.code yX8_enough cX8_enough 3 (some .int) ∈ TB := tb_t5 183 rfl rfl
def yX8_rates : MethodName := ⟨RX8, "rates", "()I"⟩
abbrev cX8_rates : ByteArray := prog_1_method_56_code
set_option maxRecDepth 20000 in
theorem coX8_rates : Cond.code yX8_rates cX8_rates 1 (some .int) ∈ TB := tb_t5 187 rfl rfl
def yX8_rate : MethodName := ⟨RX8, "rate", "(I)I"⟩
abbrev cX8_rate : ByteArray := prog_1_method_57_code
set_option maxRecDepth 20000 in
theorem coX8_rate : Cond.code yX8_rate cX8_rate 2 (some .int) ∈ TB := tb_t5 205 rfl rfl
def yX8_hundreds : MethodName := ⟨RX8, "hundreds", "(I)J"⟩
abbrev cX8_hundreds : ByteArray := prog_1_method_60_code
set_option maxRecDepth 20000 in
theorem coX8_hundreds : Cond.code yX8_hundreds cX8_hundreds 4 (some .long) ∈ TB := tb_t5 219 rfl rfl
def yX8_wakingParts : MethodName := ⟨RX8, "wakingParts", "(III)J"⟩
abbrev cX8_wakingParts : ByteArray := prog_1_method_59_code
set_option maxRecDepth 20000 in
theorem coX8_wakingParts : Cond.code yX8_wakingParts cX8_wakingParts 3 (some .long) ∈ TB := tb_t5 216 rfl rfl
def yX8_waking : MethodName := ⟨RX8, "waking", "(IIIZ)J"⟩
abbrev cX8_waking : ByteArray := prog_1_method_58_code
set_option maxRecDepth 20000 in
theorem coX8_waking : Cond.code yX8_waking cX8_waking 7 (some .long) ∈ TB := tb_t5 213 rfl rfl
def yX8_mean : MethodName := ⟨RX8, "mean", "(IIZ)J"⟩
abbrev cX8_mean : ByteArray := prog_1_method_61_code
set_option maxRecDepth 20000 in
theorem coX8_mean : Cond.code yX8_mean cX8_mean 5 (some .long) ∈ TB := tb_t5 224 rfl rfl
def yX8_keepAct : MethodName := ⟨RX8, "keepAct", "()V"⟩
abbrev cX8_keepAct : ByteArray := prog_1_method_66_code
set_option maxRecDepth 20000 in
theorem coX8_keepAct : Cond.code yX8_keepAct cX8_keepAct 3 none ∈ TB := tb_t5 233 rfl rfl
def yX8_pass : MethodName := ⟨RX8, "pass", "(II)I"⟩
abbrev cX8_pass : ByteArray := prog_1_method_62_code
set_option maxRecDepth 20000 in
theorem coX8_pass : Cond.code yX8_pass cX8_pass 5 (some .int) ∈ TB := tb_t5 228 rfl rfl
def yX8_isHead : MethodName := ⟨RX8, "isHead", "(I)Z"⟩
abbrev cX8_isHead : ByteArray := prog_1_method_79_code
set_option maxRecDepth 20000 in
theorem coX8_isHead : Cond.code yX8_isHead cX8_isHead 2 (some .boolean) ∈ TB := tb_t6 1 rfl rfl
def yX8_lie : MethodName := ⟨RX8, "lie", "(II)I"⟩
abbrev cX8_lie : ByteArray := prog_1_method_63_code
set_option maxRecDepth 20000 in
theorem coX8_lie : Cond.code yX8_lie cX8_lie 4 (some .int) ∈ TB := tb_t5 237 rfl rfl
def yX8_wake : MethodName := ⟨RX8, "wake", "(I)I"⟩
abbrev cX8_wake : ByteArray := prog_1_method_64_code
set_option maxRecDepth 20000 in
theorem coX8_wake : Cond.code yX8_wake cX8_wake 2 (some .int) ∈ TB := tb_t6 7 rfl rfl
def yX8_knock : MethodName := ⟨RX8, "knock", "(III)I"⟩
abbrev cX8_knock : ByteArray := prog_1_method_65_code
set_option maxRecDepth 20000 in
theorem coX8_knock : Cond.code yX8_knock cX8_knock 5 (some .int) ∈ TB := tb_t6 11 rfl rfl
def yX8_undo : MethodName := ⟨RX8, "undo", "()Z"⟩
abbrev cX8_undo : ByteArray := prog_1_method_67_code
set_option maxRecDepth 20000 in
theorem coX8_undo : Cond.code yX8_undo cX8_undo 1 (some .boolean) ∈ TB := tb_t6 16 rfl rfl
def yX8_image : MethodName := ⟨RX8, "image", "()I"⟩
abbrev cX8_image : ByteArray := prog_1_method_68_code
set_option maxRecDepth 20000 in
theorem coX8_image : Cond.code yX8_image cX8_image 1 (some .int) ∈ TB := tb_t6 20 rfl rfl
def yX8_back : MethodName := ⟨RX8, "back", "(I)Z"⟩
abbrev cX8_back : ByteArray := prog_1_method_69_code
set_option maxRecDepth 20000 in
theorem coX8_back : Cond.code yX8_back cX8_back 2 (some .boolean) ∈ TB := tb_t6 24 rfl rfl
def yX8_toldSize : MethodName := ⟨RX8, "toldSize", "(I)I"⟩
abbrev cX8_toldSize : ByteArray := prog_1_method_72_code
set_option maxRecDepth 20000 in
theorem coX8_toldSize : Cond.code yX8_toldSize cX8_toldSize 2 (some .int) ∈ TB := tb_t6 32 rfl rfl
def yX8_size : MethodName := ⟨RX8, "size", "(I)I"⟩
abbrev cX8_size : ByteArray := prog_1_method_71_code
set_option maxRecDepth 20000 in
theorem coX8_size : Cond.code yX8_size cX8_size 2 (some .int) ∈ TB := tb_t6 28 rfl rfl
def yX8_trouble : MethodName := ⟨RX8, "trouble", "()I"⟩
abbrev cX8_trouble : ByteArray := prog_1_method_73_code
set_option maxRecDepth 20000 in
theorem coX8_trouble : Cond.code yX8_trouble cX8_trouble 1 (some .int) ∈ TB := tb_t6 36 rfl rfl
def yX9_thrown : MethodName := ⟨RX9, "thrown", "()I"⟩
abbrev cX9_thrown : ByteArray := prog_11_method_2_code
set_option maxRecDepth 20000 in
theorem coX9_thrown : Cond.code yX9_thrown cX9_thrown 1 (some .int) ∈ TB := tb_t7 8 rfl rfl
def yX9_good : MethodName := ⟨RX9, "good", "()V"⟩
abbrev cX9_good : ByteArray := prog_11_method_3_code
set_option maxRecDepth 20000 in
theorem coX9_good : Cond.code yX9_good cX9_good 1 none ∈ TB := tb_t7 20 rfl rfl
def yX9_no : MethodName := ⟨RX9, "no", "(I)I"⟩
abbrev cX9_no : ByteArray := prog_11_method_4_code
set_option maxRecDepth 20000 in
theorem coX9_no : Cond.code yX9_no cX9_no 2 (some .int) ∈ TB := tb_t7 27 rfl rfl
def yX9_isNot : MethodName := ⟨RX9, "isNot", "(I)Z"⟩
abbrev cX9_isNot : ByteArray := prog_11_method_5_code
set_option maxRecDepth 20000 in
theorem coX9_isNot : Cond.code yX9_isNot cX9_isNot 2 (some .boolean) ∈ TB := tb_t9 102 rfl rfl
def yX9_within : MethodName := ⟨RX9, "within", "(III)Z"⟩
abbrev cX9_within : ByteArray := prog_11_method_6_code
set_option maxRecDepth 20000 in
theorem coX9_within : Cond.code yX9_within cX9_within 3 (some .boolean) ∈ TB := tb_t7 23 rfl rfl
def yX9_hasBit : MethodName := ⟨RX9, "hasBit", "(II)Z"⟩
abbrev cX9_hasBit : ByteArray := prog_11_method_7_code
set_option maxRecDepth 20000 in
theorem coX9_hasBit : Cond.code yX9_hasBit cX9_hasBit 2 (some .boolean) ∈ TB := tb_t8 158 rfl rfl
def yX9_ones : MethodName := ⟨RX9, "ones", "(I)I"⟩
abbrev cX9_ones : ByteArray := prog_11_method_8_code
set_option maxRecDepth 20000 in
theorem coX9_ones : Cond.code yX9_ones cX9_ones 3 (some .int) ∈ TB := tb_t8 201 rfl rfl
def yX9_copy : MethodName := ⟨RX9, "copy", "([II[III)V"⟩
abbrev cX9_copy : ByteArray := prog_11_method_9_code
set_option maxRecDepth 20000 in
theorem coX9_copy : Cond.code yX9_copy cX9_copy 6 none ∈ TB := tb_t7 183 rfl rfl
def yX9_copyLongs : MethodName := ⟨RX9, "copyLongs", "([JI[JI)V"⟩
abbrev cX9_copyLongs : ByteArray := prog_11_method_10_code
set_option maxRecDepth 20000 in
theorem coX9_copyLongs : Cond.code yX9_copyLongs cX9_copyLongs 5 none ∈ TB := tb_t8 70 rfl rfl
def yX9_lowest : MethodName := ⟨RX9, "lowest", "(JJZ)J"⟩
abbrev cX9_lowest : ByteArray := prog_11_method_11_code
set_option maxRecDepth 20000 in
theorem coX9_lowest : Cond.code yX9_lowest cX9_lowest 11 (some .long) ∈ TB := tb_t8 39 rfl rfl
def yX9_feed : MethodName := ⟨RX9, "feed", "(IIIII)I"⟩
abbrev cX9_feed : ByteArray := prog_11_method_12_code
set_option maxRecDepth 20000 in
theorem coX9_feed : Cond.code yX9_feed cX9_feed 8 (some .int) ∈ TB := tb_t7 12 rfl rfl
def yX9_look : MethodName := ⟨RX9, "look", "(I)I"⟩
abbrev cX9_look : ByteArray := prog_11_method_13_code
set_option maxRecDepth 20000 in
theorem coX9_look : Cond.code yX9_look cX9_look 2 (some .int) ∈ TB := tb_t7 35 rfl rfl
def yX9_isSmall : MethodName := ⟨RX9, "isSmall", "(I)Z"⟩
abbrev cX9_isSmall : ByteArray := prog_11_method_14_code
set_option maxRecDepth 20000 in
theorem coX9_isSmall : Cond.code yX9_isSmall cX9_isSmall 1 (some .boolean) ∈ TB := tb_t7 38 rfl rfl
def yX9_isDigit : MethodName := ⟨RX9, "isDigit", "(I)Z"⟩
abbrev cX9_isDigit : ByteArray := prog_11_method_15_code
set_option maxRecDepth 20000 in
theorem coX9_isDigit : Cond.code yX9_isDigit cX9_isDigit 1 (some .boolean) ∈ TB := tb_t7 41 rfl rfl
def yX9_next : MethodName := ⟨RX9, "next", "()V"⟩
abbrev cX9_next : ByteArray := prog_11_method_16_code
set_option maxRecDepth 20000 in
theorem coX9_next : Cond.code yX9_next cX9_next 4 none ∈ TB := tb_t7 31 rfl rfl
def yX9_wrong : MethodName := ⟨RX9, "wrong", "(II)V"⟩
abbrev cX9_wrong : ByteArray := prog_11_method_17_code
set_option maxRecDepth 20000 in
theorem coX9_wrong : Cond.code yX9_wrong cX9_wrong 3 none ∈ TB := tb_t7 60 rfl rfl
def yX9_isWord : MethodName := ⟨RX9, "isWord", "(Ljava/lang/String;)Z"⟩
abbrev cX9_isWord : ByteArray := prog_11_method_18_code
set_option maxRecDepth 20000 in
theorem coX9_isWord : Cond.code yX9_isWord cX9_isWord 4 (some .boolean) ∈ TB := tb_t7 50 rfl rfl
def yX9_takesWord : MethodName := ⟨RX9, "takesWord", "(Ljava/lang/String;)Z"⟩
abbrev cX9_takesWord : ByteArray := prog_11_method_19_code
set_option maxRecDepth 20000 in
theorem coX9_takesWord : Cond.code yX9_takesWord cX9_takesWord 2 (some .boolean) ∈ TB := tb_t7 69 rfl rfl
def yX9_must : MethodName := ⟨RX9, "must", "(Ljava/lang/String;)V"⟩
abbrev cX9_must : ByteArray := prog_11_method_20_code
set_option maxRecDepth 20000 in
theorem coX9_must : Cond.code yX9_must cX9_must 2 none ∈ TB := tb_t7 65 rfl rfl
def yX9_mustName : MethodName := ⟨RX9, "mustName", "()V"⟩
abbrev cX9_mustName : ByteArray := prog_11_method_21_code
set_option maxRecDepth 20000 in
theorem coX9_mustName : Cond.code yX9_mustName cX9_mustName 2 none ∈ TB := tb_t7 104 rfl rfl
def yX9_find : MethodName := ⟨RX9, "find", "()I"⟩
abbrev cX9_find : ByteArray := prog_11_method_22_code
set_option maxRecDepth 20000 in
theorem coX9_find : Cond.code yX9_find cX9_find 4 (some .int) ∈ TB := tb_t7 118 rfl rfl
def yX9_newName : MethodName := ⟨RX9, "newName", "(I)V"⟩
abbrev cX9_newName : ByteArray := prog_11_method_23_code
set_option maxRecDepth 20000 in
theorem coX9_newName : Cond.code yX9_newName cX9_newName 3 none ∈ TB := tb_t7 100 rfl rfl
def yX9_named : MethodName := ⟨RX9, "named", "(II)I"⟩
abbrev cX9_named : ByteArray := prog_11_method_24_code
set_option maxRecDepth 20000 in
theorem coX9_named : Cond.code yX9_named cX9_named 4 (some .int) ∈ TB := tb_t7 145 rfl rfl
def yX9_headPassed : MethodName := ⟨RX9, "headPassed", "()I"⟩
abbrev cX9_headPassed : ByteArray := prog_11_method_25_code
set_option maxRecDepth 20000 in
theorem coX9_headPassed : Cond.code yX9_headPassed cX9_headPassed 2 (some .int) ∈ TB := tb_t7 149 rfl rfl
def yX9_sleeperHere : MethodName := ⟨RX9, "sleeperHere", "()I"⟩
abbrev cX9_sleeperHere : ByteArray := prog_11_method_26_code
set_option maxRecDepth 20000 in
theorem coX9_sleeperHere : Cond.code yX9_sleeperHere cX9_sleeperHere 1 (some .int) ∈ TB := tb_t7 141 rfl rfl
def yX9_sleeperPassed : MethodName := ⟨RX9, "sleeperPassed", "()I"⟩
abbrev cX9_sleeperPassed : ByteArray := prog_11_method_27_code
set_option maxRecDepth 20000 in
theorem coX9_sleeperPassed : Cond.code yX9_sleeperPassed cX9_sleeperPassed 2 (some .int) ∈ TB := tb_t7 137 rfl rfl
def yX9_numberHere : MethodName := ⟨RX9, "numberHere", "(II)I"⟩
abbrev cX9_numberHere : ByteArray := prog_11_method_28_code
set_option maxRecDepth 20000 in
theorem coX9_numberHere : Cond.code yX9_numberHere cX9_numberHere 3 (some .int) ∈ TB := tb_t7 73 rfl rfl
def yX9_number : MethodName := ⟨RX9, "numbe\x72", "(II)I"⟩
abbrev cX9_number : ByteArray := prog_11_method_29_code
set_option maxRecDepth 20000 in
theorem coX9_number : Cond.code yX9_number cX9_number 4 (some .int) ∈ TB := tb_t7 86 rfl rfl
def yX9_after : MethodName := ⟨RX9, "afte\x72", "(Ljava/lang/String;II)I"⟩
abbrev cX9_after : ByteArray := prog_11_method_30_code
set_option maxRecDepth 20000 in
theorem coX9_after : Cond.code yX9_after cX9_after 4 (some .int) ∈ TB := tb_t7 82 rfl rfl
def yX9_comma : MethodName := ⟨RX9, "comma", "()Z"⟩
abbrev cX9_comma : ByteArray := prog_11_method_31_code
set_option maxRecDepth 20000 in
theorem coX9_comma : Cond.code yX9_comma cX9_comma 1 (some .boolean) ∈ TB := tb_t7 77 rfl rfl
def yX9_dreamLine : MethodName := ⟨RX9, "dreamLine", "()V"⟩
abbrev cX9_dreamLine : ByteArray := prog_11_method_35_code
set_option maxRecDepth 20000 in
theorem coX9_dreamLine : Cond.code yX9_dreamLine cX9_dreamLine 3 none ∈ TB := tb_t7 56 rfl rfl
def yX9_begins : MethodName := ⟨RX9, "begins", "(Ljava/lang/String;Z)Z"⟩
abbrev cX9_begins : ByteArray := prog_11_method_33_code
set_option maxRecDepth 20000 in
theorem coX9_begins : Cond.code yX9_begins cX9_begins 3 (some .boolean) ∈ TB := tb_t7 92 rfl rfl
def yX9_headLine : MethodName := ⟨RX9, "headLine", "()V"⟩
abbrev cX9_headLine : ByteArray := prog_11_method_36_code
set_option maxRecDepth 20000 in
theorem coX9_headLine : Cond.code yX9_headLine cX9_headLine 1 none ∈ TB := tb_t7 96 rfl rfl
def yX9_sleeperLine : MethodName := ⟨RX9, "sleeperLine", "()V"⟩
abbrev cX9_sleeperLine : ByteArray := prog_11_method_37_code
set_option maxRecDepth 20000 in
theorem coX9_sleeperLine : Cond.code yX9_sleeperLine cX9_sleeperLine 4 none ∈ TB := tb_t7 122 rfl rfl
def yX9_stepLine : MethodName := ⟨RX9, "stepLine", "(Z)V"⟩
abbrev cX9_stepLine : ByteArray := prog_11_method_38_code
set_option maxRecDepth 20000 in
theorem coX9_stepLine : Cond.code yX9_stepLine cX9_stepLine 3 none ∈ TB := tb_t7 133 rfl rfl
def yX9_knockLine : MethodName := ⟨RX9, "knockLine", "()V"⟩
abbrev cX9_knockLine : ByteArray := prog_11_method_39_code
set_option maxRecDepth 20000 in
theorem coX9_knockLine : Cond.code yX9_knockLine cX9_knockLine 2 none ∈ TB := tb_t7 154 rfl rfl
def yX9_taskLine : MethodName := ⟨RX9, "taskLine", "()V"⟩
abbrev cX9_taskLine : ByteArray := prog_11_method_40_code
set_option maxRecDepth 20000 in
theorem coX9_taskLine : Cond.code yX9_taskLine cX9_taskLine 2 none ∈ TB := tb_t7 161 rfl rfl
def yX9_paysLine : MethodName := ⟨RX9, "paysLine", "()V"⟩
abbrev cX9_paysLine : ByteArray := prog_11_method_41_code
set_option maxRecDepth 20000 in
theorem coX9_paysLine : Cond.code yX9_paysLine cX9_paysLine 4 none ∈ TB := tb_t7 167 rfl rfl
def yX9_thinksLine : MethodName := ⟨RX9, "thinksLine", "()V"⟩
abbrev cX9_thinksLine : ByteArray := prog_11_method_42_code
set_option maxRecDepth 20000 in
theorem coX9_thinksLine : Cond.code yX9_thinksLine cX9_thinksLine 4 none ∈ TB := tb_t7 171 rfl rfl
def yX9_signLine : MethodName := ⟨RX9, "signLine", "(Z)V"⟩
abbrev cX9_signLine : ByteArray := prog_11_method_43_code
set_option maxRecDepth 20000 in
theorem coX9_signLine : Cond.code yX9_signLine cX9_signLine 3 none ∈ TB := tb_t7 175 rfl rfl
def yX9_didLine : MethodName := ⟨RX9, "didLine", "()V"⟩
abbrev cX9_didLine : ByteArray := prog_11_method_44_code
set_option maxRecDepth 20000 in
theorem coX9_didLine : Cond.code yX9_didLine cX9_didLine 2 none ∈ TB := tb_t7 179 rfl rfl
def yX9_readLine : MethodName := ⟨RX9, "readLine", "()V"⟩
abbrev cX9_readLine : ByteArray := prog_11_method_34_code
set_option maxRecDepth 20000 in
theorem coX9_readLine : Cond.code yX9_readLine cX9_readLine 1 none ∈ TB := tb_t7 45 rfl rfl
def yX9_quickOf : MethodName := ⟨RX9, "quickOf", "(I)I"⟩
abbrev cX9_quickOf : ByteArray := prog_11_method_52_code
set_option maxRecDepth 20000 in
theorem coX9_quickOf : Cond.code yX9_quickOf cX9_quickOf 4 (some .int) ∈ TB := tb_t7 195 rfl rfl
def yX9_bottom : MethodName := ⟨RX9, "bottom", "()I"⟩
abbrev cX9_bottom : ByteArray := prog_11_method_53_code
set_option maxRecDepth 20000 in
theorem coX9_bottom : Cond.code yX9_bottom cX9_bottom 1 (some .int) ∈ TB := tb_t7 191 rfl rfl
def yX9_its : MethodName := ⟨RX9, "its", "(II)I"⟩
abbrev cX9_its : ByteArray := prog_11_method_51_code
set_option maxRecDepth 20000 in
theorem coX9_its : Cond.code yX9_its cX9_its 3 (some .int) ∈ TB := tb_t7 203 rfl rfl
def yX9_feelOf : MethodName := ⟨RX9, "feelOf", "(III)J"⟩
abbrev cX9_feelOf : ByteArray := prog_11_method_60_code
set_option maxRecDepth 20000 in
theorem coX9_feelOf : Cond.code yX9_feelOf cX9_feelOf 4 (some .long) ∈ TB := tb_t7 211 rfl rfl
def yX9_of : MethodName := ⟨RX9, "of", "(II)I"⟩
abbrev cX9_of : ByteArray := prog_11_method_50_code
set_option maxRecDepth 20000 in
theorem coX9_of : Cond.code yX9_of cX9_of 3 (some .int) ∈ TB := tb_t7 215 rfl rfl
def yX9_broughtTo : MethodName := ⟨RX9, "broughtTo", "(IIII)I"⟩
abbrev cX9_broughtTo : ByteArray := prog_11_method_61_code
set_option maxRecDepth 20000 in
theorem coX9_broughtTo : Cond.code yX9_broughtTo cX9_broughtTo 9 (some .int) ∈ TB := tb_t7 207 rfl rfl
def yX9_comes : MethodName := ⟨RX9, "comes", "(II)V"⟩
abbrev cX9_comes : ByteArray := prog_11_method_57_code
set_option maxRecDepth 20000 in
theorem coX9_comes : Cond.code yX9_comes cX9_comes 3 none ∈ TB := tb_t7 219 rfl rfl
def yX9_knocks : MethodName := ⟨RX9, "knocks", "(III)I"⟩
abbrev cX9_knocks : ByteArray := prog_11_method_62_code
set_option maxRecDepth 20000 in
theorem coX9_knocks : Cond.code yX9_knocks cX9_knocks 7 (some .int) ∈ TB := tb_t7 199 rfl rfl
def yX9_knocksNow : MethodName := ⟨RX9, "knocksNow", "()V"⟩
abbrev cX9_knocksNow : ByteArray := prog_11_method_63_code
set_option maxRecDepth 20000 in
theorem coX9_knocksNow : Cond.code yX9_knocksNow cX9_knocksNow 3 none ∈ TB := tb_t7 187 rfl rfl
def yX9_nextStep : MethodName := ⟨RX9, "nextStep", "(I)I"⟩
abbrev cX9_nextStep : ByteArray := prog_11_method_55_code
set_option maxRecDepth 20000 in
theorem coX9_nextStep : Cond.code yX9_nextStep cX9_nextStep 4 (some .int) ∈ TB := tb_t7 231 rfl rfl
def yX9_minute : MethodName := ⟨RX9, "minute", "(I)J"⟩
abbrev cX9_minute : ByteArray := prog_11_method_54_code
set_option maxRecDepth 20000 in
theorem coX9_minute : Cond.code yX9_minute cX9_minute 2 (some .long) ∈ TB := tb_t7 236 rfl rfl
def yX9_dueOf : MethodName := ⟨RX9, "dueOf", "(I)J"⟩
abbrev cX9_dueOf : ByteArray := prog_11_method_56_code
set_option maxRecDepth 20000 in
theorem coX9_dueOf : Cond.code yX9_dueOf cX9_dueOf 3 (some .long) ∈ TB := tb_t7 227 rfl rfl
def yX9_steps : MethodName := ⟨RX9, "steps", "(I)V"⟩
abbrev cX9_steps : ByteArray := prog_11_method_58_code
set_option maxRecDepth 20000 in
theorem coX9_steps : Cond.code yX9_steps cX9_steps 5 none ∈ TB := tb_t8 0 rfl rfl
def yX9_stepsNow : MethodName := ⟨RX9, "stepsNow", "()V"⟩
abbrev cX9_stepsNow : ByteArray := prog_11_method_59_code
set_option maxRecDepth 20000 in
theorem coX9_stepsNow : Cond.code yX9_stepsNow cX9_stepsNow 2 none ∈ TB := tb_t7 223 rfl rfl
def yX9_dream : MethodName := ⟨RX9, "dream", "(I)I"⟩
abbrev cX9_dream : ByteArray := prog_11_method_32_code
set_option maxRecDepth 20000 in
theorem coX9_dream : Cond.code yX9_dream cX9_dream 3 (some .int) ∈ TB := tb_t7 16 rfl rfl
def yX9_fault : MethodName := ⟨RX9, "fault", "()I"⟩
abbrev cX9_fault : ByteArray := prog_11_method_45_code
set_option maxRecDepth 20000 in
theorem coX9_fault : Cond.code yX9_fault cX9_fault 1 (some .int) ∈ TB := tb_t8 4 rfl rfl
def yX9_where : MethodName := ⟨RX9, "where", "()I"⟩
abbrev cX9_where : ByteArray := prog_11_method_46_code
set_option maxRecDepth 20000 in
theorem coX9_where : Cond.code yX9_where cX9_where 1 (some .int) ∈ TB := tb_t8 8 rfl rfl
def yX9_isFloor : MethodName := ⟨RX9, "isFloo\x72", "(I)Z"⟩
abbrev cX9_isFloor : ByteArray := prog_11_method_47_code
set_option maxRecDepth 20000 in
theorem coX9_isFloor : Cond.code yX9_isFloor cX9_isFloor 2 (some .boolean) ∈ TB := tb_t8 16 rfl rfl
def yX9_isSleeper : MethodName := ⟨RX9, "isSleepe\x72", "(I)Z"⟩
abbrev cX9_isSleeper : ByteArray := prog_11_method_48_code
set_option maxRecDepth 20000 in
theorem coX9_isSleeper : Cond.code yX9_isSleeper cX9_isSleeper 2 (some .boolean) ∈ TB := tb_t8 32 rfl rfl
def yX9_isHead : MethodName := ⟨RX9, "isHead", "(I)Z"⟩
abbrev cX9_isHead : ByteArray := prog_11_method_49_code
set_option maxRecDepth 20000 in
theorem coX9_isHead : Cond.code yX9_isHead cX9_isHead 2 (some .boolean) ∈ TB := tb_t9 86 rfl rfl
def yX9_goOn : MethodName := ⟨RX9, "goOn", "(J)V"⟩
abbrev cX9_goOn : ByteArray := prog_11_method_64_code
set_option maxRecDepth 20000 in
theorem coX9_goOn : Cond.code yX9_goOn cX9_goOn 8 none ∈ TB := tb_t8 74 rfl rfl
def yX9_save : MethodName := ⟨RX9, "save", "()V"⟩
abbrev cX9_save : ByteArray := prog_11_method_65_code
set_option maxRecDepth 20000 in
theorem coX9_save : Cond.code yX9_save cX9_save 1 none ∈ TB := tb_t8 67 rfl rfl
def yX9_bringBack : MethodName := ⟨RX9, "bringBack", "()V"⟩
abbrev cX9_bringBack : ByteArray := prog_11_method_66_code
set_option maxRecDepth 20000 in
theorem coX9_bringBack : Cond.code yX9_bringBack cX9_bringBack 1 none ∈ TB := tb_t8 78 rfl rfl
def yX9_quick : MethodName := ⟨RX9, "quick", "(I)I"⟩
abbrev cX9_quick : ByteArray := prog_11_method_67_code
set_option maxRecDepth 20000 in
theorem coX9_quick : Cond.code yX9_quick cX9_quick 2 (some .int) ∈ TB := tb_t8 12 rfl rfl
def yX9_clock : MethodName := ⟨RX9, "clock", "(I)J"⟩
abbrev cX9_clock : ByteArray := prog_11_method_68_code
set_option maxRecDepth 20000 in
theorem coX9_clock : Cond.code yX9_clock cX9_clock 2 (some .long) ∈ TB := tb_t8 20 rfl rfl
def yX9_ticks : MethodName := ⟨RX9, "ticks", "()J"⟩
abbrev cX9_ticks : ByteArray := prog_11_method_69_code
set_option maxRecDepth 20000 in
theorem coX9_ticks : Cond.code yX9_ticks cX9_ticks 1 (some .long) ∈ TB := tb_t8 24 rfl rfl
def yX9_sleeper : MethodName := ⟨RX9, "sleepe\x72", "(II)I"⟩
abbrev cX9_sleeper : ByteArray := prog_11_method_70_code
set_option maxRecDepth 20000 in
theorem coX9_sleeper : Cond.code yX9_sleeper cX9_sleeper 3 (some .int) ∈ TB := tb_t8 28 rfl rfl
def yX9_lived : MethodName := ⟨RX9, "lived", "(IZ)J"⟩
abbrev cX9_lived : ByteArray := prog_11_method_71_code
set_option maxRecDepth 20000 in
theorem coX9_lived : Cond.code yX9_lived cX9_lived 6 (some .long) ∈ TB := tb_t8 36 rfl rfl
def yX9_doMeet : MethodName := ⟨RX9, "doMeet", "(II)Z"⟩
abbrev cX9_doMeet : ByteArray := prog_11_method_72_code
set_option maxRecDepth 20000 in
theorem coX9_doMeet : Cond.code yX9_doMeet cX9_doMeet 3 (some .boolean) ∈ TB := tb_t8 47 rfl rfl
def yX9_meet : MethodName := ⟨RX9, "meet", "(II)I"⟩
abbrev cX9_meet : ByteArray := prog_11_method_73_code
set_option maxRecDepth 20000 in
theorem coX9_meet : Cond.code yX9_meet cX9_meet 3 (some .int) ∈ TB := tb_t8 43 rfl rfl
def yX9_off : MethodName := ⟨RX9, "off", "()I"⟩
abbrev cX9_off : ByteArray := prog_11_method_74_code
set_option maxRecDepth 20000 in
theorem coX9_off : Cond.code yX9_off cX9_off 2 (some .int) ∈ TB := tb_t8 51 rfl rfl
def yX9_inWhy : MethodName := ⟨RX9, "inWhy", "(II)I"⟩
abbrev cX9_inWhy : ByteArray := prog_11_method_75_code
set_option maxRecDepth 20000 in
theorem coX9_inWhy : Cond.code yX9_inWhy cX9_inWhy 3 (some .int) ∈ TB := tb_t8 59 rfl rfl
def yX9_itsIn : MethodName := ⟨RX9, "itsIn", "(III)I"⟩
abbrev cX9_itsIn : ByteArray := prog_11_method_76_code
set_option maxRecDepth 20000 in
theorem coX9_itsIn : Cond.code yX9_itsIn cX9_itsIn 5 (some .int) ∈ TB := tb_t8 63 rfl rfl
def yX9_floorIn : MethodName := ⟨RX9, "floorIn", "(II)I"⟩
abbrev cX9_floorIn : ByteArray := prog_11_method_77_code
set_option maxRecDepth 20000 in
theorem coX9_floorIn : Cond.code yX9_floorIn cX9_floorIn 4 (some .int) ∈ TB := tb_t8 55 rfl rfl
def yX9_headIn : MethodName := ⟨RX9, "headIn", "(II)I"⟩
abbrev cX9_headIn : ByteArray := prog_11_method_78_code
set_option maxRecDepth 20000 in
theorem coX9_headIn : Cond.code yX9_headIn cX9_headIn 5 (some .int) ∈ TB := tb_t8 82 rfl rfl
def yX9_meetsIn : MethodName := ⟨RX9, "meetsIn", "(III)I"⟩
abbrev cX9_meetsIn : ByteArray := prog_11_method_79_code
set_option maxRecDepth 20000 in
theorem coX9_meetsIn : Cond.code yX9_meetsIn cX9_meetsIn 6 (some .int) ∈ TB := tb_t8 86 rfl rfl
def yX9_left : MethodName := ⟨RX9, "left", "()I"⟩
abbrev cX9_left : ByteArray := prog_11_method_80_code
set_option maxRecDepth 20000 in
theorem coX9_left : Cond.code yX9_left cX9_left 3 (some .int) ∈ TB := tb_t8 90 rfl rfl
def yX9_woken : MethodName := ⟨RX9, "woken", "(II)I"⟩
abbrev cX9_woken : ByteArray := prog_11_method_81_code
set_option maxRecDepth 20000 in
theorem coX9_woken : Cond.code yX9_woken cX9_woken 4 (some .int) ∈ TB := tb_t8 94 rfl rfl
def yX9_minutes : MethodName := ⟨RX9, "minutes", "(IIIZ)J"⟩
abbrev cX9_minutes : ByteArray := prog_11_method_82_code
set_option maxRecDepth 20000 in
theorem coX9_minutes : Cond.code yX9_minutes cX9_minutes 5 (some .long) ∈ TB := tb_t8 98 rfl rfl
def yX9_awakeIn : MethodName := ⟨RX9, "awakeIn", "(II)I"⟩
abbrev cX9_awakeIn : ByteArray := prog_11_method_83_code
set_option maxRecDepth 20000 in
theorem coX9_awakeIn : Cond.code yX9_awakeIn cX9_awakeIn 6 (some .int) ∈ TB := tb_t8 102 rfl rfl
def yX9_lonely : MethodName := ⟨RX9, "lonely", "(II)I"⟩
abbrev cX9_lonely : ByteArray := prog_11_method_84_code
set_option maxRecDepth 20000 in
theorem coX9_lonely : Cond.code yX9_lonely cX9_lonely 8 (some .int) ∈ TB := tb_t8 106 rfl rfl
def yX9_crowdNow : MethodName := ⟨RX9, "crowdNow", "()I"⟩
abbrev cX9_crowdNow : ByteArray := prog_11_method_85_code
set_option maxRecDepth 20000 in
theorem coX9_crowdNow : Cond.code yX9_crowdNow cX9_crowdNow 5 (some .int) ∈ TB := tb_t8 114 rfl rfl
def yX9_crowd : MethodName := ⟨RX9, "crowd", "(I)I"⟩
abbrev cX9_crowd : ByteArray := prog_11_method_86_code
set_option maxRecDepth 20000 in
theorem coX9_crowd : Cond.code yX9_crowd cX9_crowd 4 (some .int) ∈ TB := tb_t8 110 rfl rfl
def yX9_felt : MethodName := ⟨RX9, "felt", "(III)J"⟩
abbrev cX9_felt : ByteArray := prog_11_method_87_code
set_option maxRecDepth 20000 in
theorem coX9_felt : Cond.code yX9_felt cX9_felt 4 (some .long) ∈ TB := tb_t8 118 rfl rfl
def yX9_down : MethodName := ⟨RX9, "down", "(II)J"⟩
abbrev cX9_down : ByteArray := prog_11_method_88_code
set_option maxRecDepth 20000 in
theorem coX9_down : Cond.code yX9_down cX9_down 6 (some .long) ∈ TB := tb_t8 134 rfl rfl
def yX9_endTasks : MethodName := ⟨RX9, "endTasks", "(JJJ)V"⟩
abbrev cX9_endTasks : ByteArray := prog_11_method_91_code
set_option maxRecDepth 20000 in
theorem coX9_endTasks : Cond.code yX9_endTasks cX9_endTasks 7 none ∈ TB := tb_t8 138 rfl rfl
def yX9_seekFrom : MethodName := ⟨RX9, "seekFrom", "(IIJJJ)V"⟩
abbrev cX9_seekFrom : ByteArray := prog_11_method_90_code
set_option maxRecDepth 20000 in
theorem coX9_seekFrom : Cond.code yX9_seekFrom cX9_seekFrom 11 none ∈ TB := tb_t8 130 rfl rfl
def yX9_seekTasks : MethodName := ⟨RX9, "seekTasks", "()V"⟩
abbrev cX9_seekTasks : ByteArray := prog_11_method_89_code
set_option maxRecDepth 20000 in
theorem coX9_seekTasks : Cond.code yX9_seekTasks cX9_seekTasks 1 none ∈ TB := tb_t8 126 rfl rfl
def yX9_task : MethodName := ⟨RX9, "task", "(I)I"⟩
abbrev cX9_task : ByteArray := prog_11_method_92_code
set_option maxRecDepth 20000 in
theorem coX9_task : Cond.code yX9_task cX9_task 2 (some .int) ∈ TB := tb_t8 122 rfl rfl
def yX9_best : MethodName := ⟨RX9, "best", "(I)J"⟩
abbrev cX9_best : ByteArray := prog_11_method_93_code
set_option maxRecDepth 20000 in
theorem coX9_best : Cond.code yX9_best cX9_best 2 (some .long) ∈ TB := tb_t8 142 rfl rfl
def yX9_soonest : MethodName := ⟨RX9, "soonest", "()J"⟩
abbrev cX9_soonest : ByteArray := prog_11_method_94_code
set_option maxRecDepth 20000 in
theorem coX9_soonest : Cond.code yX9_soonest cX9_soonest 1 (some .long) ∈ TB := tb_t8 147 rfl rfl
def yX9_behind : MethodName := ⟨RX9, "behind", "(III)I"⟩
abbrev cX9_behind : ByteArray := prog_11_method_95_code
set_option maxRecDepth 20000 in
theorem coX9_behind : Cond.code yX9_behind cX9_behind 9 (some .int) ∈ TB := tb_t8 170 rfl rfl
def yX9_doSleep : MethodName := ⟨RX9, "doSleep", "(II)Z"⟩
abbrev cX9_doSleep : ByteArray := prog_11_method_96_code
set_option maxRecDepth 20000 in
theorem coX9_doSleep : Cond.code yX9_doSleep cX9_doSleep 6 (some .boolean) ∈ TB := tb_t8 174 rfl rfl
def yX9_codeNow : MethodName := ⟨RX9, "codeNow", "(I)I"⟩
abbrev cX9_codeNow : ByteArray := prog_11_method_97_code
set_option maxRecDepth 20000 in
theorem coX9_codeNow : Cond.code yX9_codeNow cX9_codeNow 5 (some .int) ∈ TB := tb_t8 166 rfl rfl
def yX9_togetherOf : MethodName := ⟨RX9, "togetherOf", "(I)I"⟩
abbrev cX9_togetherOf : ByteArray := prog_11_method_98_code
set_option maxRecDepth 20000 in
theorem coX9_togetherOf : Cond.code yX9_togetherOf cX9_togetherOf 7 (some .int) ∈ TB := tb_t8 162 rfl rfl
def yX9_setWhy : MethodName := ⟨RX9, "setWhy", "(I)I"⟩
abbrev cX9_setWhy : ByteArray := prog_11_method_99_code
set_option maxRecDepth 20000 in
theorem coX9_setWhy : Cond.code yX9_setWhy cX9_setWhy 4 (some .int) ∈ TB := tb_t8 155 rfl rfl
def yX9_together : MethodName := ⟨RX9, "togethe\x72", "(I)I"⟩
abbrev cX9_together : ByteArray := prog_11_method_100_code
set_option maxRecDepth 20000 in
theorem coX9_together : Cond.code yX9_together cX9_together 3 (some .int) ∈ TB := tb_t8 151 rfl rfl
def yX9_togetherAt : MethodName := ⟨RX9, "togetherAt", "(II)I"⟩
abbrev cX9_togetherAt : ByteArray := prog_11_method_101_code
set_option maxRecDepth 20000 in
theorem coX9_togetherAt : Cond.code yX9_togetherAt cX9_togetherAt 8 (some .int) ∈ TB := tb_t8 178 rfl rfl
def yX9_isDeep : MethodName := ⟨RX9, "isDeep", "(I)Z"⟩
abbrev cX9_isDeep : ByteArray := prog_11_method_102_code
set_option maxRecDepth 20000 in
theorem coX9_isDeep : Cond.code yX9_isDeep cX9_isDeep 5 (some .boolean) ∈ TB := tb_t8 190 rfl rfl
def yX9_deepOnes : MethodName := ⟨RX9, "deepOnes", "()I"⟩
abbrev cX9_deepOnes : ByteArray := prog_11_method_103_code
set_option maxRecDepth 20000 in
theorem coX9_deepOnes : Cond.code yX9_deepOnes cX9_deepOnes 3 (some .int) ∈ TB := tb_t8 186 rfl rfl
def yX9_deep : MethodName := ⟨RX9, "deep", "()I"⟩
abbrev cX9_deep : ByteArray := prog_11_method_104_code
set_option maxRecDepth 20000 in
theorem coX9_deep : Cond.code yX9_deep cX9_deep 1 (some .int) ∈ TB := tb_t8 182 rfl rfl
def yX9_askOf : MethodName := ⟨RX9, "askOf", "(I)I"⟩
abbrev cX9_askOf : ByteArray := prog_11_method_105_code
set_option maxRecDepth 20000 in
theorem coX9_askOf : Cond.code yX9_askOf cX9_askOf 8 (some .int) ∈ TB := tb_t8 205 rfl rfl
def yX9_askWhy : MethodName := ⟨RX9, "askWhy", "()I"⟩
abbrev cX9_askWhy : ByteArray := prog_11_method_106_code
set_option maxRecDepth 20000 in
theorem coX9_askWhy : Cond.code yX9_askWhy cX9_askWhy 1 (some .int) ∈ TB := tb_t8 198 rfl rfl
def yX9_ask : MethodName := ⟨RX9, "ask", "()I"⟩
abbrev cX9_ask : ByteArray := prog_11_method_107_code
set_option maxRecDepth 20000 in
theorem coX9_ask : Cond.code yX9_ask cX9_ask 2 (some .int) ∈ TB := tb_t8 194 rfl rfl
def yX9_askMost : MethodName := ⟨RX9, "askMost", "()I"⟩
abbrev cX9_askMost : ByteArray := prog_11_method_108_code
set_option maxRecDepth 20000 in
theorem coX9_askMost : Cond.code yX9_askMost cX9_askMost 2 (some .int) ∈ TB := tb_t8 210 rfl rfl
def yX9_isUpward : MethodName := ⟨RX9, "isUpward", "(II)Z"⟩
abbrev cX9_isUpward : ByteArray := prog_11_method_109_code
set_option maxRecDepth 20000 in
theorem coX9_isUpward : Cond.code yX9_isUpward cX9_isUpward 3 (some .boolean) ∈ TB := tb_t8 218 rfl rfl
def yX9_ratio : MethodName := ⟨RX9, "ratio", "(II)I"⟩
abbrev cX9_ratio : ByteArray := prog_11_method_110_code
set_option maxRecDepth 20000 in
theorem coX9_ratio : Cond.code yX9_ratio cX9_ratio 3 (some .int) ∈ TB := tb_t8 222 rfl rfl
def yX9_letter : MethodName := ⟨RX9, "lette\x72", "(III)I"⟩
abbrev cX9_letter : ByteArray := prog_11_method_111_code
set_option maxRecDepth 20000 in
theorem coX9_letter : Cond.code yX9_letter cX9_letter 4 (some .int) ∈ TB := tb_t8 214 rfl rfl
def yX9_tells : MethodName := ⟨RX9, "tells", "(IIII)I"⟩
abbrev cX9_tells : ByteArray := prog_11_method_112_code
set_option maxRecDepth 20000 in
theorem coX9_tells : Cond.code yX9_tells cX9_tells 7 (some .int) ∈ TB := tb_t8 226 rfl rfl
def yX9_words : MethodName := ⟨RX9, "words", "(IIII)J"⟩
abbrev cX9_words : ByteArray := prog_11_method_113_code
set_option maxRecDepth 20000 in
theorem coX9_words : Cond.code yX9_words cX9_words 9 (some .long) ∈ TB := tb_t8 230 rfl rfl
def yX9_tillThere : MethodName := ⟨RX9, "tillThere", "(III)J"⟩
abbrev cX9_tillThere : ByteArray := prog_11_method_114_code
set_option maxRecDepth 20000 in
theorem coX9_tillThere : Cond.code yX9_tillThere cX9_tillThere 4 (some .long) ∈ TB := tb_t9 6 rfl rfl
def yX9_meetWhy : MethodName := ⟨RX9, "meetWhy", "(III)I"⟩
abbrev cX9_meetWhy : ByteArray := prog_11_method_115_code
set_option maxRecDepth 20000 in
theorem coX9_meetWhy : Cond.code yX9_meetWhy cX9_meetWhy 4 (some .int) ∈ TB := tb_t8 238 rfl rfl
def yX9_meetHead : MethodName := ⟨RX9, "meetHead", "(III)I"⟩
abbrev cX9_meetHead : ByteArray := prog_11_method_116_code
set_option maxRecDepth 20000 in
theorem coX9_meetHead : Cond.code yX9_meetHead cX9_meetHead 12 (some .int) ∈ TB := tb_t9 2 rfl rfl
def yX9_meeting : MethodName := ⟨RX9, "meeting", "(III)J"⟩
abbrev cX9_meeting : ByteArray := prog_11_method_117_code
set_option maxRecDepth 20000 in
theorem coX9_meeting : Cond.code yX9_meeting cX9_meeting 5 (some .long) ∈ TB := tb_t8 234 rfl rfl
def yX9_meetingHead : MethodName := ⟨RX9, "meetingHead", "(III)I"⟩
abbrev cX9_meetingHead : ByteArray := prog_11_method_118_code
set_option maxRecDepth 20000 in
theorem coX9_meetingHead : Cond.code yX9_meetingHead cX9_meetingHead 5 (some .int) ∈ TB := tb_t9 10 rfl rfl
def yX9_gainOf : MethodName := ⟨RX9, "gainOf", "(IIJ)J"⟩
abbrev cX9_gainOf : ByteArray := prog_11_method_119_code
set_option maxRecDepth 20000 in
theorem coX9_gainOf : Cond.code yX9_gainOf cX9_gainOf 5 (some .long) ∈ TB := tb_t9 26 rfl rfl
def yX9_takesOf : MethodName := ⟨RX9, "takesOf", "(I)I"⟩
abbrev cX9_takesOf : ByteArray := prog_11_method_120_code
set_option maxRecDepth 20000 in
theorem coX9_takesOf : Cond.code yX9_takesOf cX9_takesOf 4 (some .int) ∈ TB := tb_t9 22 rfl rfl
def yX9_payWhy : MethodName := ⟨RX9, "payWhy", "(I)I"⟩
abbrev cX9_payWhy : ByteArray := prog_11_method_121_code
set_option maxRecDepth 20000 in
theorem coX9_payWhy : Cond.code yX9_payWhy cX9_payWhy 2 (some .int) ∈ TB := tb_t9 18 rfl rfl
def yX9_takes : MethodName := ⟨RX9, "takes", "(I)I"⟩
abbrev cX9_takes : ByteArray := prog_11_method_122_code
set_option maxRecDepth 20000 in
theorem coX9_takes : Cond.code yX9_takes cX9_takes 3 (some .int) ∈ TB := tb_t9 14 rfl rfl
def yX9_gains : MethodName := ⟨RX9, "gains", "(I)J"⟩
abbrev cX9_gains : ByteArray := prog_11_method_123_code
set_option maxRecDepth 20000 in
theorem coX9_gains : Cond.code yX9_gains cX9_gains 4 (some .long) ∈ TB := tb_t9 30 rfl rfl
def yX9_doesTake : MethodName := ⟨RX9, "doesTake", "(IIJ)Z"⟩
abbrev cX9_doesTake : ByteArray := prog_11_method_124_code
set_option maxRecDepth 20000 in
theorem coX9_doesTake : Cond.code yX9_doesTake cX9_doesTake 11 (some .boolean) ∈ TB := tb_t9 39 rfl rfl
def yX9_price : MethodName := ⟨RX9, "price", "(II)I"⟩
abbrev cX9_price : ByteArray := prog_11_method_125_code
set_option maxRecDepth 20000 in
theorem coX9_price : Cond.code yX9_price cX9_price 7 (some .int) ∈ TB := tb_t9 34 rfl rfl
def yX9_enough : MethodName := ⟨RX9, "enough", "(II)I"⟩
abbrev cX9_enough : ByteArray := prog_11_method_126_code
set_option maxRecDepth 20000 in
theorem coX9_enough : Cond.code yX9_enough cX9_enough 4 (some .int) ∈ TB := tb_t9 44 rfl rfl
def yX9_doRatesFit : MethodName := ⟨RX9, "doRatesFit", "()Z"⟩
abbrev cX9_doRatesFit : ByteArray := prog_11_method_128_code
set_option maxRecDepth 20000 in
theorem coX9_doRatesFit : Cond.code yX9_doRatesFit cX9_doRatesFit 7 (some .boolean) ∈ TB := tb_t9 56 rfl rfl
def yX9_seekRates : MethodName := ⟨RX9, "seekRates", "()V"⟩
abbrev cX9_seekRates : ByteArray := prog_11_method_127_code
set_option maxRecDepth 20000 in
theorem coX9_seekRates : Cond.code yX9_seekRates cX9_seekRates 5 none ∈ TB := tb_t9 52 rfl rfl
def yX9_rates : MethodName := ⟨RX9, "rates", "()I"⟩
abbrev cX9_rates : ByteArray := prog_11_method_129_code
set_option maxRecDepth 20000 in
theorem coX9_rates : Cond.code yX9_rates cX9_rates 1 (some .int) ∈ TB := tb_t9 48 rfl rfl
def yX9_rate : MethodName := ⟨RX9, "rate", "(I)I"⟩
abbrev cX9_rate : ByteArray := prog_11_method_130_code
set_option maxRecDepth 20000 in
theorem coX9_rate : Cond.code yX9_rate cX9_rate 3 (some .int) ∈ TB := tb_t9 60 rfl rfl
def yX9_waking : MethodName := ⟨RX9, "waking", "(IIIZ)J"⟩
abbrev cX9_waking : ByteArray := prog_11_method_131_code
set_option maxRecDepth 20000 in
theorem coX9_waking : Cond.code yX9_waking cX9_waking 15 (some .long) ∈ TB := tb_t9 64 rfl rfl
def yX9_mean : MethodName := ⟨RX9, "mean", "(IIZ)J"⟩
abbrev cX9_mean : ByteArray := prog_11_method_132_code
set_option maxRecDepth 20000 in
theorem coX9_mean : Cond.code yX9_mean cX9_mean 5 (some .long) ∈ TB := tb_t9 69 rfl rfl
def yX9_note : MethodName := ⟨RX9, "note", "()V"⟩
abbrev cX9_note : ByteArray := prog_11_method_133_code
set_option maxRecDepth 20000 in
theorem coX9_note : Cond.code yX9_note cX9_note 2 none ∈ TB := tb_t9 78 rfl rfl
def yX9_pass : MethodName := ⟨RX9, "pass", "(II)I"⟩
abbrev cX9_pass : ByteArray := prog_11_method_134_code
set_option maxRecDepth 20000 in
theorem coX9_pass : Cond.code yX9_pass cX9_pass 5 (some .int) ∈ TB := tb_t9 73 rfl rfl
def yX9_lie : MethodName := ⟨RX9, "lie", "(II)I"⟩
abbrev cX9_lie : ByteArray := prog_11_method_135_code
set_option maxRecDepth 20000 in
theorem coX9_lie : Cond.code yX9_lie cX9_lie 4 (some .int) ∈ TB := tb_t9 82 rfl rfl
def yX9_wake : MethodName := ⟨RX9, "wake", "(I)I"⟩
abbrev cX9_wake : ByteArray := prog_11_method_136_code
set_option maxRecDepth 20000 in
theorem coX9_wake : Cond.code yX9_wake cX9_wake 2 (some .int) ∈ TB := tb_t9 90 rfl rfl
def yX9_knock : MethodName := ⟨RX9, "knock", "(III)I"⟩
abbrev cX9_knock : ByteArray := prog_11_method_137_code
set_option maxRecDepth 20000 in
theorem coX9_knock : Cond.code yX9_knock cX9_knock 5 (some .int) ∈ TB := tb_t9 94 rfl rfl
def yX9_undo : MethodName := ⟨RX9, "undo", "()Z"⟩
abbrev cX9_undo : ByteArray := prog_11_method_138_code
set_option maxRecDepth 20000 in
theorem coX9_undo : Cond.code yX9_undo cX9_undo 1 (some .boolean) ∈ TB := tb_t9 98 rfl rfl
def yX9_image : MethodName := ⟨RX9, "image", "()I"⟩
abbrev cX9_image : ByteArray := prog_11_method_139_code
set_option maxRecDepth 20000 in
theorem coX9_image : Cond.code yX9_image cX9_image 1 (some .int) ∈ TB := tb_t9 106 rfl rfl
def yX9_back : MethodName := ⟨RX9, "back", "(I)Z"⟩
abbrev cX9_back : ByteArray := prog_11_method_140_code
set_option maxRecDepth 20000 in
theorem coX9_back : Cond.code yX9_back cX9_back 2 (some .boolean) ∈ TB := tb_t9 110 rfl rfl
def yX9_led : MethodName := ⟨RX9, "led", "(I)I"⟩
abbrev cX9_led : ByteArray := prog_11_method_141_code
set_option maxRecDepth 20000 in
theorem coX9_led : Cond.code yX9_led cX9_led 4 (some .int) ∈ TB := tb_t9 114 rfl rfl
def yX9_size : MethodName := ⟨RX9, "size", "(I)I"⟩
abbrev cX9_size : ByteArray := prog_11_method_142_code
set_option maxRecDepth 20000 in
theorem coX9_size : Cond.code yX9_size cX9_size 2 (some .int) ∈ TB := tb_t9 118 rfl rfl
def yX9_trouble : MethodName := ⟨RX9, "trouble", "()I"⟩
abbrev cX9_trouble : ByteArray := prog_11_method_143_code
set_option maxRecDepth 20000 in
theorem coX9_trouble : Cond.code yX9_trouble cX9_trouble 1 (some .int) ∈ TB := tb_t9 122 rfl rfl
def yJ0_length_8abf5 : MethodName := ⟨RJ0, "length", "()I"⟩
abbrev cJ0_length_8abf5 : ByteArray := prog_19_method_54_code
set_option maxRecDepth 20000 in
theorem coJ0_length_8abf5 : Cond.code yJ0_length_8abf5 cJ0_length_8abf5 1 (some .int) ∈ TB := tb_t2 231 rfl rfl
def yJ0_charAt_5068e : MethodName := ⟨RJ0, "charAt", "(I)C"⟩
abbrev cJ0_charAt_5068e : ByteArray := prog_19_method_56_code
set_option maxRecDepth 20000 in
theorem coJ0_charAt_5068e : Cond.code yJ0_charAt_5068e cJ0_charAt_5068e 2 (some .char) ∈ TB := tb_t3 1 rfl rfl
