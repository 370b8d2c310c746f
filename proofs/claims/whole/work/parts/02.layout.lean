def RX0 : String := "AsleepInside$Dream"
def TX0 : u_T := fun k => match k with
  | 0 => ("AsleepInside$Dream", "quicks", "[I", true)
  | 1 => ("AsleepInside$Dream", "pay", "[I", true)
  | 2 => ("AsleepInside$Dream", "orde\x72", "[I", true)
  | 3 => ("AsleepInside$Dream", "sleepers", "LAsleepInside$Rows;", true)
  | 4 => ("AsleepInside$Dream", "steps", "LAsleepInside$Rows;", true)
  | 5 => ("AsleepInside$Dream", "knocks", "LAsleepInside$Rows;", true)
  | 6 => ("AsleepInside$Dream", "tasks", "LAsleepInside$Rows;", true)
  | 7 => ("AsleepInside$Dream", "signs", "LAsleepInside$Rows;", true)
  | 8 => ("AsleepInside$Dream", "dids", "LAsleepInside$Rows;", true)
  | 9 => ("AsleepInside$Dream", "floors", "I", false)
  | 10 => ("AsleepInside$Dream", "fall", "I", false)
  | 11 => ("AsleepInside$Dream", "morning", "I", false)
  | 12 => ("AsleepInside$Dream", "heads", "I", false)
  | _ => ("AsleepInside$Dream", "paid", "Z", false)
def tyX0 : Nat → FieldType := fun k => match k with
  | 0 => .array .int
  | 1 => .array .int
  | 2 => .array .int
  | 3 => .object "AsleepInside$Rows"
  | 4 => .object "AsleepInside$Rows"
  | 5 => .object "AsleepInside$Rows"
  | 6 => .object "AsleepInside$Rows"
  | 7 => .object "AsleepInside$Rows"
  | 8 => .object "AsleepInside$Rows"
  | 9 => .int
  | 10 => .int
  | 11 => .int
  | 12 => .int
  | _ => .boolean
theorem nmX0 : ∀ a, a < 14 → ∀ b, b < 14 → a ≠ b → (TX0 a).2.1 ≠ (TX0 b).2.1 := by decide +kernel
theorem tokX0 : ∀ k, k < 14 → parseFieldDescriptor (TX0 k).2.2.1 = some (tyX0 k) := by decide +kernel
set_option maxRecDepth 20000 in
theorem inX0 : ∀ w ∈ u_ws RX0 TX0 14, w ∈ TB := tb_all _ [472, 474, 476, 478, 480, 482, 484, 486, 488, 490, 492, 494, 496, 498] (by decide +kernel) (by decide +kernel)
def RX1 : String := "AsleepInside$Fitting"
def TX1 : u_T := fun k => match k with
  | 0 => ("AsleepInside$Fitting", "ready", "Z", false)
  | 1 => ("AsleepInside$Fitting", "rows", "I", false)
  | 2 => ("AsleepInside$Fitting", "ratesSeen", "[I", true)
  | _ => ("AsleepInside$Fitting", "needed", "[I", true)
def tyX1 : Nat → FieldType := fun k => match k with
  | 0 => .boolean
  | 1 => .int
  | 2 => .array .int
  | _ => .array .int
theorem nmX1 : ∀ a, a < 4 → ∀ b, b < 4 → a ≠ b → (TX1 a).2.1 ≠ (TX1 b).2.1 := by decide +kernel
theorem tokX1 : ∀ k, k < 4 → parseFieldDescriptor (TX1 k).2.2.1 = some (tyX1 k) := by decide +kernel
set_option maxRecDepth 20000 in
theorem inX1 : ∀ w ∈ u_ws RX1 TX1 4, w ∈ TB := tb_all _ [380, 382, 384, 386] (by decide +kernel) (by decide +kernel)
def RX2 : String := "AsleepInside$Night"
def TX2 : u_T := fun k => match k with
  | 0 => ("AsleepInside$Night", "floors", "[I", true)
  | 1 => ("AsleepInside$Night", "heads", "[I", true)
  | 2 => ("AsleepInside$Night", "done", "[I", true)
  | 3 => ("AsleepInside$Night", "roused", "[I", true)
  | 4 => ("AsleepInside$Night", "came", "[J", true)
  | 5 => ("AsleepInside$Night", "spent", "[J", true)
  | _ => ("AsleepInside$Night", "now", "J", false)
def tyX2 : Nat → FieldType := fun k => match k with
  | 0 => .array .int
  | 1 => .array .int
  | 2 => .array .int
  | 3 => .array .int
  | 4 => .array .long
  | 5 => .array .long
  | _ => .long
theorem nmX2 : ∀ a, a < 7 → ∀ b, b < 7 → a ≠ b → (TX2 a).2.1 ≠ (TX2 b).2.1 := by decide +kernel
theorem tokX2 : ∀ k, k < 7 → parseFieldDescriptor (TX2 k).2.2.1 = some (tyX2 k) := by decide +kernel
set_option maxRecDepth 20000 in
theorem inX2 : ∀ w ∈ u_ws RX2 TX2 7, w ∈ TB := tb_all _ [254, 256, 258, 260, 262, 264, 266] (by decide +kernel) (by decide +kernel)
def RX3 : String := "AsleepInside$Outlook"
def TX3 : u_T := fun k => match k with
  | 0 => ("AsleepInside$Outlook", "ahead", "LAsleepInside$Night;", true)
  | 1 => ("AsleepInside$Outlook", "start", "J", false)
  | 2 => ("AsleepInside$Outlook", "span", "I", false)
  | 3 => ("AsleepInside$Outlook", "first", "I", false)
  | _ => ("AsleepInside$Outlook", "last", "I", false)
def tyX3 : Nat → FieldType := fun k => match k with
  | 0 => .object "AsleepInside$Night"
  | 1 => .long
  | 2 => .int
  | 3 => .int
  | _ => .int
theorem nmX3 : ∀ a, a < 5 → ∀ b, b < 5 → a ≠ b → (TX3 a).2.1 ≠ (TX3 b).2.1 := by decide +kernel
theorem tokX3 : ∀ k, k < 5 → parseFieldDescriptor (TX3 k).2.2.1 = some (tyX3 k) := by decide +kernel
set_option maxRecDepth 20000 in
theorem inX3 : ∀ w ∈ u_ws RX3 TX3 5, w ∈ TB := tb_all _ [282, 284, 286, 288, 290] (by decide +kernel) (by decide +kernel)
def RX4 : String := "AsleepInside$Plan"
def TX4 : u_T := fun k => match k with
  | 0 => ("AsleepInside$Plan", "chosen", "[I", true)
  | 1 => ("AsleepInside$Plan", "tried", "[I", true)
  | 2 => ("AsleepInside$Plan", "ready", "Z", false)
  | 3 => ("AsleepInside$Plan", "found", "Z", false)
  | 4 => ("AsleepInside$Plan", "risk", "J", false)
  | 5 => ("AsleepInside$Plan", "ticks", "J", false)
  | 6 => ("AsleepInside$Plan", "own", "J", false)
  | _ => ("AsleepInside$Plan", "minutes", "J", false)
def tyX4 : Nat → FieldType := fun k => match k with
  | 0 => .array .int
  | 1 => .array .int
  | 2 => .boolean
  | 3 => .boolean
  | 4 => .long
  | 5 => .long
  | 6 => .long
  | _ => .long
theorem nmX4 : ∀ a, a < 8 → ∀ b, b < 8 → a ≠ b → (TX4 a).2.1 ≠ (TX4 b).2.1 := by decide +kernel
theorem tokX4 : ∀ k, k < 8 → parseFieldDescriptor (TX4 k).2.2.1 = some (tyX4 k) := by decide +kernel
set_option maxRecDepth 20000 in
theorem inX4 : ∀ w ∈ u_ws RX4 TX4 8, w ∈ TB := tb_all _ [313, 315, 317, 319, 321, 323, 325, 327] (by decide +kernel) (by decide +kernel)
def RX5 : String := "AsleepInside$Reade\x72"
def TX5 : u_T := fun k => match k with
  | 0 => ("AsleepInside$Reade\x72", "names", "[J", true)
  | 1 => ("AsleepInside$Reade\x72", "sorts", "[I", true)
  | 2 => ("AsleepInside$Reade\x72", "numbers", "[I", true)
  | 3 => ("AsleepInside$Reade\x72", "nameCount", "I", false)
  | 4 => ("AsleepInside$Reade\x72", "text", "[B", false)
  | 5 => ("AsleepInside$Reade\x72", "end", "I", false)
  | 6 => ("AsleepInside$Reade\x72", "dream", "LAsleepInside$Dream;", false)
  | 7 => ("AsleepInside$Reade\x72", "fault", "I", false)
  | 8 => ("AsleepInside$Reade\x72", "place", "I", false)
  | 9 => ("AsleepInside$Reade\x72", "behind", "I", false)
  | 10 => ("AsleepInside$Reade\x72", "kind", "I", false)
  | 11 => ("AsleepInside$Reade\x72", "numbe\x72", "I", false)
  | _ => ("AsleepInside$Reade\x72", "name", "J", false)
def tyX5 : Nat → FieldType := fun k => match k with
  | 0 => .array .long
  | 1 => .array .int
  | 2 => .array .int
  | 3 => .int
  | 4 => .array .byte
  | 5 => .int
  | 6 => .object "AsleepInside$Dream"
  | 7 => .int
  | 8 => .int
  | 9 => .int
  | 10 => .int
  | 11 => .int
  | _ => .long
theorem nmX5 : ∀ a, a < 13 → ∀ b, b < 13 → a ≠ b → (TX5 a).2.1 ≠ (TX5 b).2.1 := by decide +kernel
theorem tokX5 : ∀ k, k < 13 → parseFieldDescriptor (TX5 k).2.2.1 = some (tyX5 k) := by decide +kernel
set_option maxRecDepth 20000 in
theorem inX5 : ∀ w ∈ u_ws RX5 TX5 13, w ∈ TB := tb_all _ [202, 204, 206, 208, 210, 212, 214, 216, 218, 220, 222, 224, 226] (by decide +kernel) (by decide +kernel)
def RX6 : String := "AsleepInside$Rousing"
def TX6 : u_T := fun k => match k with
  | 0 => ("AsleepInside$Rousing", "row", "[I", true)
  | 1 => ("AsleepInside$Rousing", "members", "[I", true)
  | 2 => ("AsleepInside$Rousing", "floorsBehind", "[I", true)
  | 3 => ("AsleepInside$Rousing", "queue", "[I", true)
  | 4 => ("AsleepInside$Rousing", "parents", "[I", true)
  | 5 => ("AsleepInside$Rousing", "strengths", "[I", true)
  | 6 => ("AsleepInside$Rousing", "metBy", "[I", true)
  | 7 => ("AsleepInside$Rousing", "search", "I", false)
  | 8 => ("AsleepInside$Rousing", "size", "I", false)
  | _ => ("AsleepInside$Rousing", "queued", "I", false)
def tyX6 : Nat → FieldType := fun k => match k with
  | 0 => .array .int
  | 1 => .array .int
  | 2 => .array .int
  | 3 => .array .int
  | 4 => .array .int
  | 5 => .array .int
  | 6 => .array .int
  | 7 => .int
  | 8 => .int
  | _ => .int
theorem nmX6 : ∀ a, a < 10 → ∀ b, b < 10 → a ≠ b → (TX6 a).2.1 ≠ (TX6 b).2.1 := by decide +kernel
theorem tokX6 : ∀ k, k < 10 → parseFieldDescriptor (TX6 k).2.2.1 = some (tyX6 k) := by decide +kernel
set_option maxRecDepth 20000 in
theorem inX6 : ∀ w ∈ u_ws RX6 TX6 10, w ∈ TB := tb_all _ [347, 349, 351, 353, 355, 357, 359, 361, 363, 365] (by decide +kernel) (by decide +kernel)
def RX7 : String := "AsleepInside$Rows"
def TX7 : u_T := fun k => match k with
  | 0 => ("AsleepInside$Rows", "room", "I", true)
  | 1 => ("AsleepInside$Rows", "columns", "I", true)
  | 2 => ("AsleepInside$Rows", "cells", "[I", true)
  | _ => ("AsleepInside$Rows", "count", "I", false)
def tyX7 : Nat → FieldType := fun k => match k with
  | 0 => .int
  | 1 => .int
  | 2 => .array .int
  | _ => .int
theorem nmX7 : ∀ a, a < 4 → ∀ b, b < 4 → a ≠ b → (TX7 a).2.1 ≠ (TX7 b).2.1 := by decide +kernel
theorem tokX7 : ∀ k, k < 4 → parseFieldDescriptor (TX7 k).2.2.1 = some (tyX7 k) := by decide +kernel
set_option maxRecDepth 20000 in
theorem inX7 : ∀ w ∈ u_ws RX7 TX7 4, w ∈ TB := tb_all _ [416, 418, 420, 422] (by decide +kernel) (by decide +kernel)
def RX8 : String := "AsleepInside"
def TX8 : u_T := fun k => match k with
  | 0 => ("AsleepInside", "tape", "[B", true)
  | 1 => ("AsleepInside", "reade\x72", "LAsleepInside$Reader;", true)
  | 2 => ("AsleepInside", "night", "LAsleepInside$Night;", true)
  | 3 => ("AsleepInside", "ahead", "LAsleepInside$Night;", true)
  | 4 => ("AsleepInside", "outlook", "LAsleepInside$Outlook;", true)
  | 5 => ("AsleepInside", "plan", "LAsleepInside$Plan;", true)
  | 6 => ("AsleepInside", "rousing", "LAsleepInside$Rousing;", true)
  | 7 => ("AsleepInside", "fitting", "LAsleepInside$Fitting;", true)
  | 8 => ("AsleepInside", "acts", "[LAsleepInside$Night;", true)
  | 9 => ("AsleepInside", "images", "[LAsleepInside$Night;", true)
  | 10 => ("AsleepInside", "told", "LAsleepInside$Dream;", false)
  | 11 => ("AsleepInside", "spare", "LAsleepInside$Dream;", false)
  | 12 => ("AsleepInside", "dreaming", "Z", false)
  | 13 => ("AsleepInside", "tapeSize", "I", false)
  | 14 => ("AsleepInside", "actCount", "I", false)
  | 15 => ("AsleepInside", "imageCount", "I", false)
  | 16 => ("AsleepInside", "trouble", "I", false)
  | 17 => ("AsleepInside", "fault", "I", false)
  | _ => ("AsleepInside", "place", "I", false)
def tyX8 : Nat → FieldType := fun k => match k with
  | 0 => .array .byte
  | 1 => .object "AsleepInside$Reade\x72"
  | 2 => .object "AsleepInside$Night"
  | 3 => .object "AsleepInside$Night"
  | 4 => .object "AsleepInside$Outlook"
  | 5 => .object "AsleepInside$Plan"
  | 6 => .object "AsleepInside$Rousing"
  | 7 => .object "AsleepInside$Fitting"
  | 8 => .array (.object "AsleepInside$Night")
  | 9 => .array (.object "AsleepInside$Night")
  | 10 => .object "AsleepInside$Dream"
  | 11 => .object "AsleepInside$Dream"
  | 12 => .boolean
  | 13 => .int
  | 14 => .int
  | 15 => .int
  | 16 => .int
  | 17 => .int
  | _ => .int
theorem nmX8 : ∀ a, a < 19 → ∀ b, b < 19 → a ≠ b → (TX8 a).2.1 ≠ (TX8 b).2.1 := by decide +kernel
theorem tokX8 : ∀ k, k < 19 → parseFieldDescriptor (TX8 k).2.2.1 = some (tyX8 k) := by decide +kernel
set_option maxRecDepth 20000 in
theorem inX8 : ∀ w ∈ u_ws RX8 TX8 19, w ∈ TB := tb_all _ [520, 522, 524, 526, 528, 530, 532, 534, 536, 538, 540, 542, 544, 546, 548, 550, 552, 554, 556] (by decide +kernel) (by decide +kernel)
def RX9 : String := "AsleepInsideModel"
def TX9 : u_T := fun k => match k with
  | 0 => ("AsleepInsideModel", "thrown", "I", false)
  | 1 => ("AsleepInsideModel", "tape", "[I", true)
  | 2 => ("AsleepInsideModel", "taped", "I", false)
  | 3 => ("AsleepInsideModel", "size", "I", false)
  | 4 => ("AsleepInsideModel", "at", "I", false)
  | 5 => ("AsleepInsideModel", "end", "I", false)
  | 6 => ("AsleepInsideModel", "token", "I", false)
  | 7 => ("AsleepInsideModel", "whole", "I", false)
  | 8 => ("AsleepInsideModel", "nameSize", "I", false)
  | 9 => ("AsleepInsideModel", "fault", "I", false)
  | 10 => ("AsleepInsideModel", "place", "I", false)
  | 11 => ("AsleepInsideModel", "trouble", "I", false)
  | 12 => ("AsleepInsideModel", "letters", "[I", true)
  | 13 => ("AsleepInsideModel", "failed", "Z", false)
  | 14 => ("AsleepInsideModel", "hasDream", "Z", false)
  | 15 => ("AsleepInsideModel", "\x72", "[I", true)
  | 16 => ("AsleepInsideModel", "fresh", "[I", true)
  | 17 => ("AsleepInsideModel", "st", "[I", true)
  | 18 => ("AsleepInsideModel", "undone", "[I", true)
  | 19 => ("AsleepInsideModel", "kept", "[I", true)
  | 20 => ("AsleepInsideModel", "saved", "[I", true)
  | 21 => ("AsleepInsideModel", "ticks", "[J", true)
  | 22 => ("AsleepInsideModel", "undoneTicks", "[J", true)
  | 23 => ("AsleepInsideModel", "keptTicks", "[J", true)
  | 24 => ("AsleepInsideModel", "savedTicks", "[J", true)
  | 25 => ("AsleepInsideModel", "undos", "I", false)
  | 26 => ("AsleepInsideModel", "images", "I", false)
  | 27 => ("AsleepInsideModel", "floors", "[I", true)
  | 28 => ("AsleepInsideModel", "bestFloors", "[I", true)
  | 29 => ("AsleepInsideModel", "bestRisk", "J", false)
  | 30 => ("AsleepInsideModel", "bestTime", "J", false)
  | 31 => ("AsleepInsideModel", "bestOwn", "J", false)
  | 32 => ("AsleepInsideModel", "soonTime", "J", false)
  | 33 => ("AsleepInsideModel", "came", "[I", true)
  | 34 => ("AsleepInsideModel", "queue", "[I", true)
  | 35 => ("AsleepInsideModel", "fa\x72", "[I", true)
  | 36 => ("AsleepInsideModel", "queued", "I", false)
  | 37 => ("AsleepInsideModel", "last", "I", false)
  | 38 => ("AsleepInsideModel", "lastStrong", "I", false)
  | 39 => ("AsleepInsideModel", "askMost", "I", false)
  | 40 => ("AsleepInsideModel", "meetTicks", "J", false)
  | 41 => ("AsleepInsideModel", "rateMany", "I", false)
  | 42 => ("AsleepInsideModel", "rateBits", "[I", true)
  | _ => ("AsleepInsideModel", "tried", "[I", true)
def tyX9 : Nat → FieldType := fun k => match k with
  | 0 => .int
  | 1 => .array .int
  | 2 => .int
  | 3 => .int
  | 4 => .int
  | 5 => .int
  | 6 => .int
  | 7 => .int
  | 8 => .int
  | 9 => .int
  | 10 => .int
  | 11 => .int
  | 12 => .array .int
  | 13 => .boolean
  | 14 => .boolean
  | 15 => .array .int
  | 16 => .array .int
  | 17 => .array .int
  | 18 => .array .int
  | 19 => .array .int
  | 20 => .array .int
  | 21 => .array .long
  | 22 => .array .long
  | 23 => .array .long
  | 24 => .array .long
  | 25 => .int
  | 26 => .int
  | 27 => .array .int
  | 28 => .array .int
  | 29 => .long
  | 30 => .long
  | 31 => .long
  | 32 => .long
  | 33 => .array .int
  | 34 => .array .int
  | 35 => .array .int
  | 36 => .int
  | 37 => .int
  | 38 => .int
  | 39 => .int
  | 40 => .long
  | 41 => .int
  | 42 => .array .int
  | _ => .array .int
theorem nmX9 : ∀ a, a < 44 → ∀ b, b < 44 → a ≠ b → (TX9 a).2.1 ≠ (TX9 b).2.1 := by decide +kernel
theorem tokX9 : ∀ k, k < 44 → parseFieldDescriptor (TX9 k).2.2.1 = some (tyX9 k) := by decide +kernel
set_option maxRecDepth 20000 in
theorem inX9 : ∀ w ∈ u_ws RX9 TX9 44, w ∈ TB := tb_all _ [1509, 1511, 1513, 1515, 1517, 1519, 1521, 1523, 1525, 1527, 1529, 1531, 1533, 1535, 1537, 1539, 1541, 1543, 1545, 1547, 1549, 1551, 1553, 1555, 1557, 1559, 1561, 1563, 1565, 1567, 1569, 1571, 1573, 1575, 1577, 1579, 1581, 1583, 1585, 1587, 1589, 1591, 1593, 1595] (by decide +kernel) (by decide +kernel)
abbrev cls : List vw_C := [(RX0, TX0, 14), (RX1, TX1, 4), (RX2, TX2, 7), (RX3, TX3, 5), (RX4, TX4, 8), (RX5, TX5, 13), (RX6, TX6, 10), (RX7, TX7, 4), (RX8, TX8, 19), (RX9, TX9, 44)]
/-! THE PICTURE OF THE HEAP. Addresses 0 .. 201 of its own; what each number holds: ints, longs, references (a number from 202 on: null). -/
abbrev HH : Type := (Nat → Nat → Int32) × (Nat → Nat → Int64) × (Nat → Nat → Nat)
def gI (h : HH) (a k : Nat) : Int32 := h.1 a k
def gL (h : HH) (a k : Nat) : Int64 := h.2.1 a k
def gR (h : HH) (a k : Nat) : Nat := h.2.2 a k
def sI (h : HH) (a k : Nat) (v : Int32) : HH := (fun a' k' => if a' = a ∧ k' = k then v else h.1 a' k', h.2)
def sL (h : HH) (a k : Nat) (v : Int64) : HH := (h.1, fun a' k' => if a' = a ∧ k' = k then v else h.2.1 a' k', h.2.2)
def sR (h : HH) (a k : Nat) (v : Nat) : HH := (h.1, h.2.1, fun a' k' => if a' = a ∧ k' = k then v else h.2.2 a' k')
abbrev NW : Nat := 202
def kdl : List Nat := [8, 10, 5, 12, 11, 11, 2, 11, 11, 11, 11, 12, 12, 2, 11, 11, 11, 11, 12, 12, 3, 2, 11, 11, 11, 11, 12, 12, 4, 11, 11, 6, 11, 11, 11, 11, 11, 11, 11, 1, 11, 11, 13, 13, 0, 11, 11, 11, 7, 11, 7, 11, 7, 11, 7, 11, 7, 11, 7, 11, 0, 11, 11, 11, 7, 11, 7, 11, 7, 11, 7, 11, 7, 11, 7, 11, 2, 11, 11, 11, 11, 12, 12, 2, 11, 11, 11, 11, 12, 12, 2, 11, 11, 11, 11, 12, 12, 2, 11, 11, 11, 11, 12, 12, 2, 11, 11, 11, 11, 12, 12, 2, 11, 11, 11, 11, 12, 12, 2, 11, 11, 11, 11, 12, 12, 2, 11, 11, 11, 11, 12, 12, 2, 11, 11, 11, 11, 12, 12, 2, 11, 11, 11, 11, 12, 12, 2, 11, 11, 11, 11, 12, 12, 2, 11, 11, 11, 11, 12, 12, 2, 11, 11, 11, 11, 12, 12, 2, 11, 11, 11, 11, 12, 12, 2, 11, 11, 11, 11, 12, 12, 9, 11, 11, 11, 11, 11, 11, 11, 11, 12, 12, 12, 12, 11, 11, 11, 11, 11, 11, 11, 12]
def lnl : List Nat := [0, 1000, 0, 14, 14, 14, 0, 5, 5, 5, 5, 5, 5, 0, 5, 5, 5, 5, 5, 5, 0, 0, 5, 5, 5, 5, 5, 5, 0, 6, 6, 0, 20, 5, 200, 1024, 1024, 1024, 1024, 0, 5, 5, 12, 3, 0, 5, 5, 100, 0, 30, 0, 60, 0, 32, 0, 18, 0, 18, 0, 18, 0, 5, 5, 100, 0, 30, 0, 60, 0, 32, 0, 18, 0, 18, 0, 18, 0, 5, 5, 5, 5, 5, 5, 0, 5, 5, 5, 5, 5, 5, 0, 5, 5, 5, 5, 5, 5, 0, 5, 5, 5, 5, 5, 5, 0, 5, 5, 5, 5, 5, 5, 0, 5, 5, 5, 5, 5, 5, 0, 5, 5, 5, 5, 5, 5, 0, 5, 5, 5, 5, 5, 5, 0, 5, 5, 5, 5, 5, 5, 0, 5, 5, 5, 5, 5, 5, 0, 5, 5, 5, 5, 5, 5, 0, 5, 5, 5, 5, 5, 5, 0, 5, 5, 5, 5, 5, 5, 0, 5, 5, 5, 5, 5, 5, 0, 5, 5, 5, 5, 5, 5, 0, 1000, 8, 316, 316, 20, 240, 60, 20, 31, 372, 93, 31, 6, 6, 3125, 3125, 3125, 4, 4, 1]
def kd (a : Nat) : Nat := kdl.getD a 99
def ln (a : Nat) : Nat := lnl.getD a 0
/-- a cell of a kind -/
abbrev isK (c a : Nat) : Prop := a < NW ∧ kd a = c
/-- an array of a kind and a length -/
abbrev isA (c n a : Nat) : Prop := a < NW ∧ kd a = c ∧ ln a = n
def isKb (c a : Nat) : Bool := decide (a < NW) && (kd a == c)
theorem isK_of {c a : Nat} (h : isKb c a = true) : isK c a := by
  simp only [isKb, Bool.and_eq_true, decide_eq_true_eq, beq_iff_eq] at h
  exact h
def rfv (ad : Nat → Nat) (r : Nat) : Value := if r < NW then .ref (ad r) else .null
theorem rfv_of {ad : Nat → Nat} {c r : Nat} (h : isK c r) : rfv ad r = .ref (ad r) := if_pos h.1
abbrev CY : Type := ClassId × ClassId × ClassId × ClassId
/-- the fields of an object of a class, in the order of the slots -/
def fldv (ad : Nat → Nat) (h : HH) (c a : Nat) : List Value := match c with
  | 0 => [.ref (ad (a + 1)), .ref (ad (a + 2)), .ref (ad (a + 3)), .ref (ad (a + 4)), .ref (ad (a + 6)), .ref (ad (a + 8)), .ref (ad (a + 10)), .ref (ad (a + 12)), .ref (ad (a + 14)), .int (gI h a 9), .int (gI h a 10), .int (gI h a 11), .int (gI h a 12), .int (gI h a 13)]
  | 1 => [.int (gI h a 0), .int (gI h a 1), .ref (ad (a + 1)), .ref (ad (a + 2))]
  | 2 => [.ref (ad (a + 1)), .ref (ad (a + 2)), .ref (ad (a + 3)), .ref (ad (a + 4)), .ref (ad (a + 5)), .ref (ad (a + 6)), .long (gL h a 6)]
  | 3 => [.ref (ad (a + 1)), .long (gL h a 1), .int (gI h a 2), .int (gI h a 3), .int (gI h a 4)]
  | 4 => [.ref (ad (a + 1)), .ref (ad (a + 2)), .int (gI h a 2), .int (gI h a 3), .long (gL h a 4), .long (gL h a 5), .long (gL h a 6), .long (gL h a 7)]
  | 5 => [.ref (ad (a + 1)), .ref (ad (a + 2)), .ref (ad (a + 3)), .int (gI h a 3), rfv ad (gR h a 4), .int (gI h a 5), rfv ad (gR h a 6), .int (gI h a 7), .int (gI h a 8), .int (gI h a 9), .int (gI h a 10), .int (gI h a 11), .long (gL h a 12)]
  | 6 => [.ref (ad (a + 1)), .ref (ad (a + 2)), .ref (ad (a + 3)), .ref (ad (a + 4)), .ref (ad (a + 5)), .ref (ad (a + 6)), .ref (ad (a + 7)), .int (gI h a 7), .int (gI h a 8), .int (gI h a 9)]
  | 7 => [.int (gI h a 0), .int (gI h a 1), .ref (ad (a + 1)), .int (gI h a 3)]
  | 8 => [.ref (ad (a + 1)), .ref (ad (a + 2)), .ref (ad (a + 6)), .ref (ad (a + 13)), .ref (ad (a + 20)), .ref (ad (a + 28)), .ref (ad (a + 31)), .ref (ad (a + 39)), .ref (ad (a + 42)), .ref (ad (a + 43)), rfv ad (gR h a 10), rfv ad (gR h a 11), .int (gI h a 12), .int (gI h a 13), .int (gI h a 14), .int (gI h a 15), .int (gI h a 16), .int (gI h a 17), .int (gI h a 18)]
  | 9 => [.int (gI h a 0), .ref (ad (a + 1)), .int (gI h a 2), .int (gI h a 3), .int (gI h a 4), .int (gI h a 5), .int (gI h a 6), .int (gI h a 7), .int (gI h a 8), .int (gI h a 9), .int (gI h a 10), .int (gI h a 11), .ref (ad (a + 2)), .int (gI h a 13), .int (gI h a 14), .ref (ad (a + 3)), .ref (ad (a + 4)), .ref (ad (a + 5)), .ref (ad (a + 6)), .ref (ad (a + 7)), .ref (ad (a + 8)), .ref (ad (a + 9)), .ref (ad (a + 10)), .ref (ad (a + 11)), .ref (ad (a + 12)), .int (gI h a 25), .int (gI h a 26), .ref (ad (a + 13)), .ref (ad (a + 14)), .long (gL h a 29), .long (gL h a 30), .long (gL h a 31), .long (gL h a 32), .ref (ad (a + 15)), .ref (ad (a + 16)), .ref (ad (a + 17)), .int (gI h a 36), .int (gI h a 37), .int (gI h a 38), .int (gI h a 39), .long (gL h a 40), .int (gI h a 41), .ref (ad (a + 18)), .ref (ad (a + 19))]
  | _ => []
def cel (ad : Nat → Nat) (cy : CY) (h : HH) (a : Nat) : va_E :=
  if kd a = 10 then .inl (cy.1, ln a, .inl (h.1 a)) else if kd a = 11 then .inl (cy.2.1, ln a, .inl (h.1 a))
  else if kd a = 12 then .inl (cy.2.2.1, ln a, .inr (.inl (h.2.1 a)))
  else if kd a = 13 then .inl (cy.2.2.2, ln a, .inr (.inr (.inr (.inr (fun j => if h.2.2 a j < NW then some (ad (h.2.2 a j)) else none)))))
  else .inr (kd a, fldv ad h (kd a) a)
def wld (ad : Nat → Nat) (cy : CY) (h : HH) : va_W := (List.range NW).map (fun i => (ad i, cel ad cy h i))
theorem wld_get (ad : Nat → Nat) (cy : CY) (h : HH) {a : Nat} (ha : a < NW) : (wld ad cy h)[a]? = some (ad a, cel ad cy h a) := by
  simp [wld, List.getElem?_map, List.getElem?_range ha]
theorem fldv_congr (ad : Nat → Nat) {h h' : HH} (c : Nat) {b : Nat} (h1 : h'.1 b = h.1 b) (h2 : h'.2.1 b = h.2.1 b) (h3 : h'.2.2 b = h.2.2 b) : fldv ad h' c b = fldv ad h c b := by
  unfold fldv gI gL gR
  rw [h1, h2, h3]
theorem cel_congr (ad : Nat → Nat) (cy : CY) {h h' : HH} {b : Nat} (h1 : h'.1 b = h.1 b) (h2 : h'.2.1 b = h.2.1 b) (h3 : h'.2.2 b = h.2.2 b) : cel ad cy h' b = cel ad cy h b := by
  unfold cel
  rw [h1, h2, h3, fldv_congr ad _ h1 h2 h3]
theorem wld_set {ad : Nat → Nat} {cy : CY} {h h' : HH} {a : Nat} {e : va_E} (he : cel ad cy h' a = e) (ho : ∀ b, b ≠ a → cel ad cy h' b = cel ad cy h b) : (wld ad cy h).set a (ad a, e) = wld ad cy h' := by
  apply List.ext_getElem?
  intro i
  rw [List.getElem?_set]
  unfold wld
  rcases Nat.lt_or_ge i NW with hi | hi
  · by_cases q : a = i
    · subst q
      simp [List.getElem?_map, List.getElem?_range hi, he, hi]
    · rw [if_neg q]
      simp only [List.getElem?_map, List.getElem?_range hi, Option.map_some]
      rw [ho i (fun z => q z.symm)]
  · have e1 : ∀ f : Nat → Nat × va_E, ((List.range NW).map f)[i]? = none := fun f => List.getElem?_eq_none (by simpa using hi)
    rw [e1, e1]
    by_cases q : a = i
    · rw [if_pos q, if_neg (by simp; omega)]
    · rw [if_neg q]
theorem sI_1 (h : HH) (a k : Nat) (v : Int32) : (sI h a k v).1 a = upd (h.1 a) k v := by
  funext j
  simp [sI, upd]
theorem sI_o (h : HH) {a b : Nat} (k : Nat) (v : Int32) (hb : b ≠ a) : (sI h a k v).1 b = h.1 b := by
  funext j
  simp [sI, hb]
theorem sL_1 (h : HH) (a k : Nat) (v : Int64) : (sL h a k v).2.1 a = vp_updL (h.2.1 a) k v := by
  funext j
  simp [sL, vp_updL]
theorem sL_o (h : HH) {a b : Nat} (k : Nat) (v : Int64) (hb : b ≠ a) : (sL h a k v).2.1 b = h.2.1 b := by
  funext j
  simp [sL, hb]
theorem sR_o (h : HH) {a b : Nat} (k : Nat) (v : Nat) (hb : b ≠ a) : (sR h a k v).2.2 b = h.2.2 b := by
  funext j
  simp [sR, hb]
theorem cel_sI {ad : Nat → Nat} {cy : CY} {h : HH} {a k : Nat} {v : Int32} : ∀ b, b ≠ a → cel ad cy (sI h a k v) b = cel ad cy h b := fun b hb => cel_congr ad cy (sI_o h k v hb) rfl rfl
theorem cel_sL {ad : Nat → Nat} {cy : CY} {h : HH} {a k : Nat} {v : Int64} : ∀ b, b ≠ a → cel ad cy (sL h a k v) b = cel ad cy h b := fun b hb => cel_congr ad cy rfl (sL_o h k v hb) rfl
theorem cel_sR {ad : Nat → Nat} {cy : CY} {h : HH} {a k : Nat} {v : Nat} : ∀ b, b ≠ a → cel ad cy (sR h a k v) b = cel ad cy h b := fun b hb => cel_congr ad cy rfl rfl (sR_o h k v hb)
theorem cel_B {ad : Nat → Nat} {cy : CY} {h : HH} {n a : Nat} (hk : isA 10 n a) : cel ad cy h a = .inl (cy.1, n, .inl (h.1 a)) := by
  unfold cel; rw [if_pos hk.2.1, hk.2.2]
theorem cel_I {ad : Nat → Nat} {cy : CY} {h : HH} {n a : Nat} (hk : isA 11 n a) : cel ad cy h a = .inl (cy.2.1, n, .inl (h.1 a)) := by
  unfold cel; rw [if_neg (by rw [hk.2.1]; decide), if_pos hk.2.1, hk.2.2]
theorem cel_J {ad : Nat → Nat} {cy : CY} {h : HH} {n a : Nat} (hk : isA 12 n a) : cel ad cy h a = .inl (cy.2.2.1, n, .inr (.inl (h.2.1 a))) := by
  unfold cel; rw [if_neg (by rw [hk.2.1]; decide), if_neg (by rw [hk.2.1]; decide), if_pos hk.2.1, hk.2.2]
theorem cel_N {ad : Nat → Nat} {cy : CY} {h : HH} {n a : Nat} (hk : isA 13 n a) : cel ad cy h a = .inl (cy.2.2.2, n, .inr (.inr (.inr (.inr (fun j => if h.2.2 a j < NW then some (ad (h.2.2 a j)) else none))))) := by
  unfold cel; rw [if_neg (by rw [hk.2.1]; decide), if_neg (by rw [hk.2.1]; decide), if_neg (by rw [hk.2.1]; decide), if_pos hk.2.1, hk.2.2]
theorem cel_O {ad : Nat → Nat} {cy : CY} {h : HH} {c a : Nat} (hk : isK c a) (hc : c < 10) : cel ad cy h a = .inr (c, fldv ad h c a) := by
  have e := hk.2
  unfold cel; rw [if_neg (by omega), if_neg (by omega), if_neg (by omega), if_neg (by omega), e]

theorem fs_0_9 {ad : Nat → Nat} {h : HH} {a : Nat} {v : Int32} : (fldv ad h 0 a).set 9 (.int v) = fldv ad (sI h a 9 v) 0 a := by simp [fldv, gI, gL, gR, sI]
theorem fs_0_10 {ad : Nat → Nat} {h : HH} {a : Nat} {v : Int32} : (fldv ad h 0 a).set 10 (.int v) = fldv ad (sI h a 10 v) 0 a := by simp [fldv, gI, gL, gR, sI]
theorem fs_0_11 {ad : Nat → Nat} {h : HH} {a : Nat} {v : Int32} : (fldv ad h 0 a).set 11 (.int v) = fldv ad (sI h a 11 v) 0 a := by simp [fldv, gI, gL, gR, sI]
theorem fs_0_12 {ad : Nat → Nat} {h : HH} {a : Nat} {v : Int32} : (fldv ad h 0 a).set 12 (.int v) = fldv ad (sI h a 12 v) 0 a := by simp [fldv, gI, gL, gR, sI]
theorem fs_0_13 {ad : Nat → Nat} {h : HH} {a : Nat} {v : Int32} : (fldv ad h 0 a).set 13 (.int v) = fldv ad (sI h a 13 v) 0 a := by simp [fldv, gI, gL, gR, sI]
theorem fs_1_0 {ad : Nat → Nat} {h : HH} {a : Nat} {v : Int32} : (fldv ad h 1 a).set 0 (.int v) = fldv ad (sI h a 0 v) 1 a := by simp [fldv, gI, gL, gR, sI]
theorem fs_1_1 {ad : Nat → Nat} {h : HH} {a : Nat} {v : Int32} : (fldv ad h 1 a).set 1 (.int v) = fldv ad (sI h a 1 v) 1 a := by simp [fldv, gI, gL, gR, sI]
theorem fs_2_6 {ad : Nat → Nat} {h : HH} {a : Nat} {v : Int64} : (fldv ad h 2 a).set 6 (.long v) = fldv ad (sL h a 6 v) 2 a := by simp [fldv, gI, gL, gR, sL]
theorem fs_3_1 {ad : Nat → Nat} {h : HH} {a : Nat} {v : Int64} : (fldv ad h 3 a).set 1 (.long v) = fldv ad (sL h a 1 v) 3 a := by simp [fldv, gI, gL, gR, sL]
theorem fs_3_2 {ad : Nat → Nat} {h : HH} {a : Nat} {v : Int32} : (fldv ad h 3 a).set 2 (.int v) = fldv ad (sI h a 2 v) 3 a := by simp [fldv, gI, gL, gR, sI]
theorem fs_3_3 {ad : Nat → Nat} {h : HH} {a : Nat} {v : Int32} : (fldv ad h 3 a).set 3 (.int v) = fldv ad (sI h a 3 v) 3 a := by simp [fldv, gI, gL, gR, sI]
theorem fs_3_4 {ad : Nat → Nat} {h : HH} {a : Nat} {v : Int32} : (fldv ad h 3 a).set 4 (.int v) = fldv ad (sI h a 4 v) 3 a := by simp [fldv, gI, gL, gR, sI]
theorem fs_4_2 {ad : Nat → Nat} {h : HH} {a : Nat} {v : Int32} : (fldv ad h 4 a).set 2 (.int v) = fldv ad (sI h a 2 v) 4 a := by simp [fldv, gI, gL, gR, sI]
theorem fs_4_3 {ad : Nat → Nat} {h : HH} {a : Nat} {v : Int32} : (fldv ad h 4 a).set 3 (.int v) = fldv ad (sI h a 3 v) 4 a := by simp [fldv, gI, gL, gR, sI]
theorem fs_4_4 {ad : Nat → Nat} {h : HH} {a : Nat} {v : Int64} : (fldv ad h 4 a).set 4 (.long v) = fldv ad (sL h a 4 v) 4 a := by simp [fldv, gI, gL, gR, sL]
theorem fs_4_5 {ad : Nat → Nat} {h : HH} {a : Nat} {v : Int64} : (fldv ad h 4 a).set 5 (.long v) = fldv ad (sL h a 5 v) 4 a := by simp [fldv, gI, gL, gR, sL]
theorem fs_4_6 {ad : Nat → Nat} {h : HH} {a : Nat} {v : Int64} : (fldv ad h 4 a).set 6 (.long v) = fldv ad (sL h a 6 v) 4 a := by simp [fldv, gI, gL, gR, sL]
theorem fs_4_7 {ad : Nat → Nat} {h : HH} {a : Nat} {v : Int64} : (fldv ad h 4 a).set 7 (.long v) = fldv ad (sL h a 7 v) 4 a := by simp [fldv, gI, gL, gR, sL]
theorem fs_5_3 {ad : Nat → Nat} {h : HH} {a : Nat} {v : Int32} : (fldv ad h 5 a).set 3 (.int v) = fldv ad (sI h a 3 v) 5 a := by simp [fldv, gI, gL, gR, sI]
theorem fs_5_4 {ad : Nat → Nat} {h : HH} {a : Nat} {v : Nat} : (fldv ad h 5 a).set 4 (rfv ad v) = fldv ad (sR h a 4 v) 5 a := by simp [fldv, gI, gL, gR, sR]
theorem fs_5_5 {ad : Nat → Nat} {h : HH} {a : Nat} {v : Int32} : (fldv ad h 5 a).set 5 (.int v) = fldv ad (sI h a 5 v) 5 a := by simp [fldv, gI, gL, gR, sI]
theorem fs_5_6 {ad : Nat → Nat} {h : HH} {a : Nat} {v : Nat} : (fldv ad h 5 a).set 6 (rfv ad v) = fldv ad (sR h a 6 v) 5 a := by simp [fldv, gI, gL, gR, sR]
theorem fs_5_7 {ad : Nat → Nat} {h : HH} {a : Nat} {v : Int32} : (fldv ad h 5 a).set 7 (.int v) = fldv ad (sI h a 7 v) 5 a := by simp [fldv, gI, gL, gR, sI]
theorem fs_5_8 {ad : Nat → Nat} {h : HH} {a : Nat} {v : Int32} : (fldv ad h 5 a).set 8 (.int v) = fldv ad (sI h a 8 v) 5 a := by simp [fldv, gI, gL, gR, sI]
theorem fs_5_9 {ad : Nat → Nat} {h : HH} {a : Nat} {v : Int32} : (fldv ad h 5 a).set 9 (.int v) = fldv ad (sI h a 9 v) 5 a := by simp [fldv, gI, gL, gR, sI]
theorem fs_5_10 {ad : Nat → Nat} {h : HH} {a : Nat} {v : Int32} : (fldv ad h 5 a).set 10 (.int v) = fldv ad (sI h a 10 v) 5 a := by simp [fldv, gI, gL, gR, sI]
theorem fs_5_11 {ad : Nat → Nat} {h : HH} {a : Nat} {v : Int32} : (fldv ad h 5 a).set 11 (.int v) = fldv ad (sI h a 11 v) 5 a := by simp [fldv, gI, gL, gR, sI]
theorem fs_5_12 {ad : Nat → Nat} {h : HH} {a : Nat} {v : Int64} : (fldv ad h 5 a).set 12 (.long v) = fldv ad (sL h a 12 v) 5 a := by simp [fldv, gI, gL, gR, sL]
theorem fs_6_7 {ad : Nat → Nat} {h : HH} {a : Nat} {v : Int32} : (fldv ad h 6 a).set 7 (.int v) = fldv ad (sI h a 7 v) 6 a := by simp [fldv, gI, gL, gR, sI]
theorem fs_6_8 {ad : Nat → Nat} {h : HH} {a : Nat} {v : Int32} : (fldv ad h 6 a).set 8 (.int v) = fldv ad (sI h a 8 v) 6 a := by simp [fldv, gI, gL, gR, sI]
theorem fs_6_9 {ad : Nat → Nat} {h : HH} {a : Nat} {v : Int32} : (fldv ad h 6 a).set 9 (.int v) = fldv ad (sI h a 9 v) 6 a := by simp [fldv, gI, gL, gR, sI]
theorem fs_7_3 {ad : Nat → Nat} {h : HH} {a : Nat} {v : Int32} : (fldv ad h 7 a).set 3 (.int v) = fldv ad (sI h a 3 v) 7 a := by simp [fldv, gI, gL, gR, sI]
theorem fs_8_10 {ad : Nat → Nat} {h : HH} {a : Nat} {v : Nat} : (fldv ad h 8 a).set 10 (rfv ad v) = fldv ad (sR h a 10 v) 8 a := by simp [fldv, gI, gL, gR, sR]
theorem fs_8_11 {ad : Nat → Nat} {h : HH} {a : Nat} {v : Nat} : (fldv ad h 8 a).set 11 (rfv ad v) = fldv ad (sR h a 11 v) 8 a := by simp [fldv, gI, gL, gR, sR]
theorem fs_8_12 {ad : Nat → Nat} {h : HH} {a : Nat} {v : Int32} : (fldv ad h 8 a).set 12 (.int v) = fldv ad (sI h a 12 v) 8 a := by simp [fldv, gI, gL, gR, sI]
theorem fs_8_13 {ad : Nat → Nat} {h : HH} {a : Nat} {v : Int32} : (fldv ad h 8 a).set 13 (.int v) = fldv ad (sI h a 13 v) 8 a := by simp [fldv, gI, gL, gR, sI]
theorem fs_8_14 {ad : Nat → Nat} {h : HH} {a : Nat} {v : Int32} : (fldv ad h 8 a).set 14 (.int v) = fldv ad (sI h a 14 v) 8 a := by simp [fldv, gI, gL, gR, sI]
theorem fs_8_15 {ad : Nat → Nat} {h : HH} {a : Nat} {v : Int32} : (fldv ad h 8 a).set 15 (.int v) = fldv ad (sI h a 15 v) 8 a := by simp [fldv, gI, gL, gR, sI]
theorem fs_8_16 {ad : Nat → Nat} {h : HH} {a : Nat} {v : Int32} : (fldv ad h 8 a).set 16 (.int v) = fldv ad (sI h a 16 v) 8 a := by simp [fldv, gI, gL, gR, sI]
theorem fs_8_17 {ad : Nat → Nat} {h : HH} {a : Nat} {v : Int32} : (fldv ad h 8 a).set 17 (.int v) = fldv ad (sI h a 17 v) 8 a := by simp [fldv, gI, gL, gR, sI]
theorem fs_8_18 {ad : Nat → Nat} {h : HH} {a : Nat} {v : Int32} : (fldv ad h 8 a).set 18 (.int v) = fldv ad (sI h a 18 v) 8 a := by simp [fldv, gI, gL, gR, sI]
theorem fs_9_0 {ad : Nat → Nat} {h : HH} {a : Nat} {v : Int32} : (fldv ad h 9 a).set 0 (.int v) = fldv ad (sI h a 0 v) 9 a := by simp [fldv, gI, gL, gR, sI]
theorem fs_9_2 {ad : Nat → Nat} {h : HH} {a : Nat} {v : Int32} : (fldv ad h 9 a).set 2 (.int v) = fldv ad (sI h a 2 v) 9 a := by simp [fldv, gI, gL, gR, sI]
theorem fs_9_3 {ad : Nat → Nat} {h : HH} {a : Nat} {v : Int32} : (fldv ad h 9 a).set 3 (.int v) = fldv ad (sI h a 3 v) 9 a := by simp [fldv, gI, gL, gR, sI]
theorem fs_9_4 {ad : Nat → Nat} {h : HH} {a : Nat} {v : Int32} : (fldv ad h 9 a).set 4 (.int v) = fldv ad (sI h a 4 v) 9 a := by simp [fldv, gI, gL, gR, sI]
theorem fs_9_5 {ad : Nat → Nat} {h : HH} {a : Nat} {v : Int32} : (fldv ad h 9 a).set 5 (.int v) = fldv ad (sI h a 5 v) 9 a := by simp [fldv, gI, gL, gR, sI]
theorem fs_9_6 {ad : Nat → Nat} {h : HH} {a : Nat} {v : Int32} : (fldv ad h 9 a).set 6 (.int v) = fldv ad (sI h a 6 v) 9 a := by simp [fldv, gI, gL, gR, sI]
theorem fs_9_7 {ad : Nat → Nat} {h : HH} {a : Nat} {v : Int32} : (fldv ad h 9 a).set 7 (.int v) = fldv ad (sI h a 7 v) 9 a := by simp [fldv, gI, gL, gR, sI]
theorem fs_9_8 {ad : Nat → Nat} {h : HH} {a : Nat} {v : Int32} : (fldv ad h 9 a).set 8 (.int v) = fldv ad (sI h a 8 v) 9 a := by simp [fldv, gI, gL, gR, sI]
theorem fs_9_9 {ad : Nat → Nat} {h : HH} {a : Nat} {v : Int32} : (fldv ad h 9 a).set 9 (.int v) = fldv ad (sI h a 9 v) 9 a := by simp [fldv, gI, gL, gR, sI]
theorem fs_9_10 {ad : Nat → Nat} {h : HH} {a : Nat} {v : Int32} : (fldv ad h 9 a).set 10 (.int v) = fldv ad (sI h a 10 v) 9 a := by simp [fldv, gI, gL, gR, sI]
theorem fs_9_11 {ad : Nat → Nat} {h : HH} {a : Nat} {v : Int32} : (fldv ad h 9 a).set 11 (.int v) = fldv ad (sI h a 11 v) 9 a := by simp [fldv, gI, gL, gR, sI]
theorem fs_9_13 {ad : Nat → Nat} {h : HH} {a : Nat} {v : Int32} : (fldv ad h 9 a).set 13 (.int v) = fldv ad (sI h a 13 v) 9 a := by simp [fldv, gI, gL, gR, sI]
theorem fs_9_14 {ad : Nat → Nat} {h : HH} {a : Nat} {v : Int32} : (fldv ad h 9 a).set 14 (.int v) = fldv ad (sI h a 14 v) 9 a := by simp [fldv, gI, gL, gR, sI]
theorem fs_9_25 {ad : Nat → Nat} {h : HH} {a : Nat} {v : Int32} : (fldv ad h 9 a).set 25 (.int v) = fldv ad (sI h a 25 v) 9 a := by simp [fldv, gI, gL, gR, sI]
theorem fs_9_26 {ad : Nat → Nat} {h : HH} {a : Nat} {v : Int32} : (fldv ad h 9 a).set 26 (.int v) = fldv ad (sI h a 26 v) 9 a := by simp [fldv, gI, gL, gR, sI]
theorem fs_9_29 {ad : Nat → Nat} {h : HH} {a : Nat} {v : Int64} : (fldv ad h 9 a).set 29 (.long v) = fldv ad (sL h a 29 v) 9 a := by simp [fldv, gI, gL, gR, sL]
theorem fs_9_30 {ad : Nat → Nat} {h : HH} {a : Nat} {v : Int64} : (fldv ad h 9 a).set 30 (.long v) = fldv ad (sL h a 30 v) 9 a := by simp [fldv, gI, gL, gR, sL]
theorem fs_9_31 {ad : Nat → Nat} {h : HH} {a : Nat} {v : Int64} : (fldv ad h 9 a).set 31 (.long v) = fldv ad (sL h a 31 v) 9 a := by simp [fldv, gI, gL, gR, sL]
theorem fs_9_32 {ad : Nat → Nat} {h : HH} {a : Nat} {v : Int64} : (fldv ad h 9 a).set 32 (.long v) = fldv ad (sL h a 32 v) 9 a := by simp [fldv, gI, gL, gR, sL]
theorem fs_9_36 {ad : Nat → Nat} {h : HH} {a : Nat} {v : Int32} : (fldv ad h 9 a).set 36 (.int v) = fldv ad (sI h a 36 v) 9 a := by simp [fldv, gI, gL, gR, sI]
theorem fs_9_37 {ad : Nat → Nat} {h : HH} {a : Nat} {v : Int32} : (fldv ad h 9 a).set 37 (.int v) = fldv ad (sI h a 37 v) 9 a := by simp [fldv, gI, gL, gR, sI]
theorem fs_9_38 {ad : Nat → Nat} {h : HH} {a : Nat} {v : Int32} : (fldv ad h 9 a).set 38 (.int v) = fldv ad (sI h a 38 v) 9 a := by simp [fldv, gI, gL, gR, sI]
theorem fs_9_39 {ad : Nat → Nat} {h : HH} {a : Nat} {v : Int32} : (fldv ad h 9 a).set 39 (.int v) = fldv ad (sI h a 39 v) 9 a := by simp [fldv, gI, gL, gR, sI]
theorem fs_9_40 {ad : Nat → Nat} {h : HH} {a : Nat} {v : Int64} : (fldv ad h 9 a).set 40 (.long v) = fldv ad (sL h a 40 v) 9 a := by simp [fldv, gI, gL, gR, sL]
theorem fs_9_41 {ad : Nat → Nat} {h : HH} {a : Nat} {v : Int32} : (fldv ad h 9 a).set 41 (.int v) = fldv ad (sI h a 41 v) 9 a := by simp [fldv, gI, gL, gR, sI]
theorem of_0_0 {a : Nat} (h : isK 0 a) : isA 11 5 (a + 1) := (by decide +kernel : ∀ a, a < NW → kd a = 0 → isA 11 5 (a + 1)) a h.1 h.2
theorem of_0_1 {a : Nat} (h : isK 0 a) : isA 11 5 (a + 2) := (by decide +kernel : ∀ a, a < NW → kd a = 0 → isA 11 5 (a + 2)) a h.1 h.2
theorem of_0_2 {a : Nat} (h : isK 0 a) : isA 11 100 (a + 3) := (by decide +kernel : ∀ a, a < NW → kd a = 0 → isA 11 100 (a + 3)) a h.1 h.2
theorem of_0_3 {a : Nat} (h : isK 0 a) : isK 7 (a + 4) := (by decide +kernel : ∀ a, a < NW → kd a = 0 → isK 7 (a + 4)) a h.1 h.2
theorem of_0_4 {a : Nat} (h : isK 0 a) : isK 7 (a + 6) := (by decide +kernel : ∀ a, a < NW → kd a = 0 → isK 7 (a + 6)) a h.1 h.2
theorem of_0_5 {a : Nat} (h : isK 0 a) : isK 7 (a + 8) := (by decide +kernel : ∀ a, a < NW → kd a = 0 → isK 7 (a + 8)) a h.1 h.2
theorem of_0_6 {a : Nat} (h : isK 0 a) : isK 7 (a + 10) := (by decide +kernel : ∀ a, a < NW → kd a = 0 → isK 7 (a + 10)) a h.1 h.2
theorem of_0_7 {a : Nat} (h : isK 0 a) : isK 7 (a + 12) := (by decide +kernel : ∀ a, a < NW → kd a = 0 → isK 7 (a + 12)) a h.1 h.2
theorem of_0_8 {a : Nat} (h : isK 0 a) : isK 7 (a + 14) := (by decide +kernel : ∀ a, a < NW → kd a = 0 → isK 7 (a + 14)) a h.1 h.2
theorem of_1_2 {a : Nat} (h : isK 1 a) : isA 11 5 (a + 1) := (by decide +kernel : ∀ a, a < NW → kd a = 1 → isA 11 5 (a + 1)) a h.1 h.2
theorem of_1_3 {a : Nat} (h : isK 1 a) : isA 11 5 (a + 2) := (by decide +kernel : ∀ a, a < NW → kd a = 1 → isA 11 5 (a + 2)) a h.1 h.2
theorem of_2_0 {a : Nat} (h : isK 2 a) : isA 11 5 (a + 1) := (by decide +kernel : ∀ a, a < NW → kd a = 2 → isA 11 5 (a + 1)) a h.1 h.2
theorem of_2_1 {a : Nat} (h : isK 2 a) : isA 11 5 (a + 2) := (by decide +kernel : ∀ a, a < NW → kd a = 2 → isA 11 5 (a + 2)) a h.1 h.2
theorem of_2_2 {a : Nat} (h : isK 2 a) : isA 11 5 (a + 3) := (by decide +kernel : ∀ a, a < NW → kd a = 2 → isA 11 5 (a + 3)) a h.1 h.2
theorem of_2_3 {a : Nat} (h : isK 2 a) : isA 11 5 (a + 4) := (by decide +kernel : ∀ a, a < NW → kd a = 2 → isA 11 5 (a + 4)) a h.1 h.2
theorem of_2_4 {a : Nat} (h : isK 2 a) : isA 12 5 (a + 5) := (by decide +kernel : ∀ a, a < NW → kd a = 2 → isA 12 5 (a + 5)) a h.1 h.2
theorem of_2_5 {a : Nat} (h : isK 2 a) : isA 12 5 (a + 6) := (by decide +kernel : ∀ a, a < NW → kd a = 2 → isA 12 5 (a + 6)) a h.1 h.2
theorem of_3_0 {a : Nat} (h : isK 3 a) : isK 2 (a + 1) := (by decide +kernel : ∀ a, a < NW → kd a = 3 → isK 2 (a + 1)) a h.1 h.2
theorem of_4_0 {a : Nat} (h : isK 4 a) : isA 11 6 (a + 1) := (by decide +kernel : ∀ a, a < NW → kd a = 4 → isA 11 6 (a + 1)) a h.1 h.2
theorem of_4_1 {a : Nat} (h : isK 4 a) : isA 11 6 (a + 2) := (by decide +kernel : ∀ a, a < NW → kd a = 4 → isA 11 6 (a + 2)) a h.1 h.2
theorem of_5_0 {a : Nat} (h : isK 5 a) : isA 12 14 (a + 1) := (by decide +kernel : ∀ a, a < NW → kd a = 5 → isA 12 14 (a + 1)) a h.1 h.2
theorem of_5_1 {a : Nat} (h : isK 5 a) : isA 11 14 (a + 2) := (by decide +kernel : ∀ a, a < NW → kd a = 5 → isA 11 14 (a + 2)) a h.1 h.2
theorem of_5_2 {a : Nat} (h : isK 5 a) : isA 11 14 (a + 3) := (by decide +kernel : ∀ a, a < NW → kd a = 5 → isA 11 14 (a + 3)) a h.1 h.2
theorem of_6_0 {a : Nat} (h : isK 6 a) : isA 11 20 (a + 1) := (by decide +kernel : ∀ a, a < NW → kd a = 6 → isA 11 20 (a + 1)) a h.1 h.2
theorem of_6_1 {a : Nat} (h : isK 6 a) : isA 11 5 (a + 2) := (by decide +kernel : ∀ a, a < NW → kd a = 6 → isA 11 5 (a + 2)) a h.1 h.2
theorem of_6_2 {a : Nat} (h : isK 6 a) : isA 11 200 (a + 3) := (by decide +kernel : ∀ a, a < NW → kd a = 6 → isA 11 200 (a + 3)) a h.1 h.2
theorem of_6_3 {a : Nat} (h : isK 6 a) : isA 11 1024 (a + 4) := (by decide +kernel : ∀ a, a < NW → kd a = 6 → isA 11 1024 (a + 4)) a h.1 h.2
theorem of_6_4 {a : Nat} (h : isK 6 a) : isA 11 1024 (a + 5) := (by decide +kernel : ∀ a, a < NW → kd a = 6 → isA 11 1024 (a + 5)) a h.1 h.2
theorem of_6_5 {a : Nat} (h : isK 6 a) : isA 11 1024 (a + 6) := (by decide +kernel : ∀ a, a < NW → kd a = 6 → isA 11 1024 (a + 6)) a h.1 h.2
theorem of_6_6 {a : Nat} (h : isK 6 a) : isA 11 1024 (a + 7) := (by decide +kernel : ∀ a, a < NW → kd a = 6 → isA 11 1024 (a + 7)) a h.1 h.2
theorem of_7_2 {a : Nat} (h : isK 7 a) : isA 11 (ln (a + 1)) (a + 1) := (by decide +kernel : ∀ a, a < NW → kd a = 7 → isA 11 (ln (a + 1)) (a + 1)) a h.1 h.2
theorem of_8_0 {a : Nat} (h : isK 8 a) : isA 10 1000 (a + 1) := (by decide +kernel : ∀ a, a < NW → kd a = 8 → isA 10 1000 (a + 1)) a h.1 h.2
theorem of_8_1 {a : Nat} (h : isK 8 a) : isK 5 (a + 2) := (by decide +kernel : ∀ a, a < NW → kd a = 8 → isK 5 (a + 2)) a h.1 h.2
theorem of_8_2 {a : Nat} (h : isK 8 a) : isK 2 (a + 6) := (by decide +kernel : ∀ a, a < NW → kd a = 8 → isK 2 (a + 6)) a h.1 h.2
theorem of_8_3 {a : Nat} (h : isK 8 a) : isK 2 (a + 13) := (by decide +kernel : ∀ a, a < NW → kd a = 8 → isK 2 (a + 13)) a h.1 h.2
theorem of_8_4 {a : Nat} (h : isK 8 a) : isK 3 (a + 20) := (by decide +kernel : ∀ a, a < NW → kd a = 8 → isK 3 (a + 20)) a h.1 h.2
theorem of_8_5 {a : Nat} (h : isK 8 a) : isK 4 (a + 28) := (by decide +kernel : ∀ a, a < NW → kd a = 8 → isK 4 (a + 28)) a h.1 h.2
theorem of_8_6 {a : Nat} (h : isK 8 a) : isK 6 (a + 31) := (by decide +kernel : ∀ a, a < NW → kd a = 8 → isK 6 (a + 31)) a h.1 h.2
theorem of_8_7 {a : Nat} (h : isK 8 a) : isK 1 (a + 39) := (by decide +kernel : ∀ a, a < NW → kd a = 8 → isK 1 (a + 39)) a h.1 h.2
theorem of_8_8 {a : Nat} (h : isK 8 a) : isA 13 12 (a + 42) := (by decide +kernel : ∀ a, a < NW → kd a = 8 → isA 13 12 (a + 42)) a h.1 h.2
theorem of_8_9 {a : Nat} (h : isK 8 a) : isA 13 3 (a + 43) := (by decide +kernel : ∀ a, a < NW → kd a = 8 → isA 13 3 (a + 43)) a h.1 h.2
theorem of_9_1 {a : Nat} (h : isK 9 a) : isA 11 1000 (a + 1) := (by decide +kernel : ∀ a, a < NW → kd a = 9 → isA 11 1000 (a + 1)) a h.1 h.2
theorem of_9_12 {a : Nat} (h : isK 9 a) : isA 11 8 (a + 2) := (by decide +kernel : ∀ a, a < NW → kd a = 9 → isA 11 8 (a + 2)) a h.1 h.2
theorem of_9_15 {a : Nat} (h : isK 9 a) : isA 11 316 (a + 3) := (by decide +kernel : ∀ a, a < NW → kd a = 9 → isA 11 316 (a + 3)) a h.1 h.2
theorem of_9_16 {a : Nat} (h : isK 9 a) : isA 11 316 (a + 4) := (by decide +kernel : ∀ a, a < NW → kd a = 9 → isA 11 316 (a + 4)) a h.1 h.2
theorem of_9_17 {a : Nat} (h : isK 9 a) : isA 11 20 (a + 5) := (by decide +kernel : ∀ a, a < NW → kd a = 9 → isA 11 20 (a + 5)) a h.1 h.2
theorem of_9_18 {a : Nat} (h : isK 9 a) : isA 11 240 (a + 6) := (by decide +kernel : ∀ a, a < NW → kd a = 9 → isA 11 240 (a + 6)) a h.1 h.2
theorem of_9_19 {a : Nat} (h : isK 9 a) : isA 11 60 (a + 7) := (by decide +kernel : ∀ a, a < NW → kd a = 9 → isA 11 60 (a + 7)) a h.1 h.2
theorem of_9_20 {a : Nat} (h : isK 9 a) : isA 11 20 (a + 8) := (by decide +kernel : ∀ a, a < NW → kd a = 9 → isA 11 20 (a + 8)) a h.1 h.2
theorem of_9_21 {a : Nat} (h : isK 9 a) : isA 12 31 (a + 9) := (by decide +kernel : ∀ a, a < NW → kd a = 9 → isA 12 31 (a + 9)) a h.1 h.2
theorem of_9_22 {a : Nat} (h : isK 9 a) : isA 12 372 (a + 10) := (by decide +kernel : ∀ a, a < NW → kd a = 9 → isA 12 372 (a + 10)) a h.1 h.2
theorem of_9_23 {a : Nat} (h : isK 9 a) : isA 12 93 (a + 11) := (by decide +kernel : ∀ a, a < NW → kd a = 9 → isA 12 93 (a + 11)) a h.1 h.2
theorem of_9_24 {a : Nat} (h : isK 9 a) : isA 12 31 (a + 12) := (by decide +kernel : ∀ a, a < NW → kd a = 9 → isA 12 31 (a + 12)) a h.1 h.2
theorem of_9_27 {a : Nat} (h : isK 9 a) : isA 11 6 (a + 13) := (by decide +kernel : ∀ a, a < NW → kd a = 9 → isA 11 6 (a + 13)) a h.1 h.2
theorem of_9_28 {a : Nat} (h : isK 9 a) : isA 11 6 (a + 14) := (by decide +kernel : ∀ a, a < NW → kd a = 9 → isA 11 6 (a + 14)) a h.1 h.2
theorem of_9_33 {a : Nat} (h : isK 9 a) : isA 11 3125 (a + 15) := (by decide +kernel : ∀ a, a < NW → kd a = 9 → isA 11 3125 (a + 15)) a h.1 h.2
theorem of_9_34 {a : Nat} (h : isK 9 a) : isA 11 3125 (a + 16) := (by decide +kernel : ∀ a, a < NW → kd a = 9 → isA 11 3125 (a + 16)) a h.1 h.2
theorem of_9_35 {a : Nat} (h : isK 9 a) : isA 11 3125 (a + 17) := (by decide +kernel : ∀ a, a < NW → kd a = 9 → isA 11 3125 (a + 17)) a h.1 h.2
theorem of_9_42 {a : Nat} (h : isK 9 a) : isA 11 4 (a + 18) := (by decide +kernel : ∀ a, a < NW → kd a = 9 → isA 11 4 (a + 18)) a h.1 h.2
theorem of_9_43 {a : Nat} (h : isK 9 a) : isA 11 4 (a + 19) := (by decide +kernel : ∀ a, a < NW → kd a = 9 → isA 11 4 (a + 19)) a h.1 h.2
