/-! ALL CALLS -/
section ALLC
variable {h : HH} {n : Nat}
set_option maxRecDepth 100000 in
theorem aQuick (I : GI h n) (hn : n ≤ 600) (x : Int32) : OpG h n (fun h => fX8_quick 0 x h) (fun h => fX9_quick 181 x h) := by
  obtain ⟨G, B, ⟨q, hq, Q⟩, Z | ⟨d, R, N, T, D⟩⟩ := I
  · exact nQuick G B Z hq Q x
  · exact OpW.G G B D hq Q (oQuick D.1 x).W
set_option maxRecDepth 100000 in
theorem aClock (I : GI h n) (hn : n ≤ 600) (x : Int32) : OpG h n (fun h => fX8_clock 0 x h) (fun h => fX9_clock 181 x h) := by
  obtain ⟨G, B, ⟨q, hq, Q⟩, Z | ⟨d, R, N, T, D⟩⟩ := I
  · exact nClock G B Z hq Q x
  · exact OpW.G G B D hq Q (oClock D.1 x).W
set_option maxRecDepth 100000 in
theorem aTicks (I : GI h n) (hn : n ≤ 600)  : OpG h n (fun h => fX8_ticks 0 h) (fun h => fX9_ticks 181 h) := by
  obtain ⟨G, B, ⟨q, hq, Q⟩, Z | ⟨d, R, N, T, D⟩⟩ := I
  · exact nTicks G B Z hq Q
  · exact OpW.G G B D hq Q (oTicks D.1).W
set_option maxRecDepth 100000 in
theorem aMinutes (I : GI h n) (hn : n ≤ 600) (x : Int32) (y : Int32) (z : Int32) (b : Bool) : OpG h n (fun h => fX8_minutes 0 x y z b h) (fun h => fX9_minutes 181 x y z b h) := by
  obtain ⟨G, B, ⟨q, hq, Q⟩, Z | ⟨d, R, N, T, D⟩⟩ := I
  · exact nMinutes G B Z hq Q x y z b
  · exact OpW.G G B D hq Q (oMinutes D.1 x y z b).W
set_option maxRecDepth 100000 in
theorem aSleeper (I : GI h n) (hn : n ≤ 600) (x : Int32) (y : Int32) : OpG h n (fun h => fX8_sleeper 0 x y h) (fun h => fX9_sleeper 181 x y h) := by
  obtain ⟨G, B, ⟨q, hq, Q⟩, Z | ⟨d, R, N, T, D⟩⟩ := I
  · exact nSleeper G B Z hq Q x y
  · exact OpW.G G B D hq Q (oSleeper D.1 x y).W
set_option maxRecDepth 100000 in
theorem aLived (I : GI h n) (hn : n ≤ 600) (x : Int32) (b : Bool) : OpG h n (fun h => fX8_lived 0 x b h) (fun h => fX9_lived 181 x b h) := by
  obtain ⟨G, B, ⟨q, hq, Q⟩, Z | ⟨d, R, N, T, D⟩⟩ := I
  · exact nLived G B Z hq Q x b
  · exact OpW.G G B D hq Q (oLived D.1 x b).W
set_option maxRecDepth 100000 in
theorem aMeet (I : GI h n) (hn : n ≤ 600) (x : Int32) (y : Int32) : OpG h n (fun h => fX8_meet 0 x y h) (fun h => fX9_meet 181 x y h) := by
  obtain ⟨G, B, ⟨q, hq, Q⟩, Z | ⟨d, R, N, T, D⟩⟩ := I
  · exact nMeet G B Z hq Q x y
  · exact OpW.G G B D hq Q (oMeet D.1 x y).W
set_option maxRecDepth 100000 in
theorem aOff (I : GI h n) (hn : n ≤ 600)  : OpG h n (fun h => fX8_off 0 h) (fun h => fX9_off 181 h) := by
  obtain ⟨G, B, ⟨q, hq, Q⟩, Z | ⟨d, R, N, T, D⟩⟩ := I
  · exact nOff G B Z hq Q
  · exact OpW.G G B D hq Q (oOff D.1).W
set_option maxRecDepth 100000 in
theorem aFloorIn (I : GI h n) (hn : n ≤ 600) (x : Int32) (y : Int32) : OpG h n (fun h => fX8_floorIn 0 x y h) (fun h => fX9_floorIn 181 x y h) := by
  obtain ⟨G, B, ⟨q, hq, Q⟩, Z | ⟨d, R, N, T, D⟩⟩ := I
  · exact nFloorIn G B Z hq Q x y
  · exact OpW.G G B D hq Q (oFloorIn D.1 x y)
set_option maxRecDepth 100000 in
theorem aHeadIn (I : GI h n) (hn : n ≤ 600) (x : Int32) (y : Int32) : OpG h n (fun h => fX8_headIn 0 x y h) (fun h => fX9_headIn 181 x y h) := by
  obtain ⟨G, B, ⟨q, hq, Q⟩, Z | ⟨d, R, N, T, D⟩⟩ := I
  · exact nHeadIn G B Z hq Q x y
  · exact OpW.G G B D hq Q (oHeadIn D.1 x y)
set_option maxRecDepth 100000 in
theorem aMeetsIn (I : GI h n) (hn : n ≤ 600) (x : Int32) (y : Int32) (z : Int32) : OpG h n (fun h => fX8_meetsIn 0 x y z h) (fun h => fX9_meetsIn 181 x y z h) := by
  obtain ⟨G, B, ⟨q, hq, Q⟩, Z | ⟨d, R, N, T, D⟩⟩ := I
  · exact nMeetsIn G B Z hq Q x y z
  · exact OpW.G G B D hq Q (oMeetsIn D.1 x y z)
set_option maxRecDepth 100000 in
theorem aAwakeIn (I : GI h n) (hn : n ≤ 600) (x : Int32) (y : Int32) : OpG h n (fun h => fX8_awakeIn 0 x y h) (fun h => fX9_awakeIn 181 x y h) := by
  obtain ⟨G, B, ⟨q, hq, Q⟩, Z | ⟨d, R, N, T, D⟩⟩ := I
  · exact nAwakeIn G B Z hq Q x y
  · exact OpW.G G B D hq Q (oAwakeIn D.1 x y)
set_option maxRecDepth 100000 in
theorem aLonely (I : GI h n) (hn : n ≤ 600) (x : Int32) (y : Int32) : OpG h n (fun h => fX8_lonely 0 x y h) (fun h => fX9_lonely 181 x y h) := by
  obtain ⟨G, B, ⟨q, hq, Q⟩, Z | ⟨d, R, N, T, D⟩⟩ := I
  · exact nLonely G B Z hq Q x y
  · exact OpW.G G B D hq Q (oLonely D.1 x y)
set_option maxRecDepth 100000 in
theorem aCrowd (I : GI h n) (hn : n ≤ 600) (x : Int32) : OpG h n (fun h => fX8_crowd 0 x h) (fun h => fX9_crowd 181 x h) := by
  obtain ⟨G, B, ⟨q, hq, Q⟩, Z | ⟨d, R, N, T, D⟩⟩ := I
  · exact nCrowd G B Z hq Q x
  · exact OpW.G G B D hq Q (oCrowd D.1 x)
set_option maxRecDepth 100000 in
theorem aLeft (I : GI h n) (hn : n ≤ 600)  : OpG h n (fun h => fX8_left 0 h) (fun h => fX9_left 181 h) := by
  obtain ⟨G, B, ⟨q, hq, Q⟩, Z | ⟨d, R, N, T, D⟩⟩ := I
  · exact nLeft G B Z hq Q
  · exact OpW.G G B D hq Q (oLeft D.1)
set_option maxRecDepth 100000 in
theorem aWoken (I : GI h n) (hn : n ≤ 600) (x : Int32) (y : Int32) : OpG h n (fun h => fX8_woken 0 x y h) (fun h => fX9_woken 181 x y h) := by
  obtain ⟨G, B, ⟨q, hq, Q⟩, Z | ⟨d, R, N, T, D⟩⟩ := I
  · exact nWoken G B Z hq Q x y
  · exact OpW.G G B D hq Q (oWoken D.1 x y)
set_option maxRecDepth 100000 in
theorem aFelt (I : GI h n) (hn : n ≤ 600) (x : Int32) (y : Int32) (z : Int32) : OpG h n (fun h => fX8_felt 0 x y z h) (fun h => fX9_felt 181 x y z h) := by
  obtain ⟨G, B, ⟨q, hq, Q⟩, Z | ⟨d, R, N, T, D⟩⟩ := I
  · exact nFelt G B Z hq Q x y z
  · exact OpW.G G B D hq Q (oFelt D.1 x y z).W
set_option maxRecDepth 100000 in
theorem aTask (I : GI h n) (hn : n ≤ 600) (x : Int32) : OpG h n (fun h => fX8_task 0 x h) (fun h => fX9_task 181 x h) := by
  obtain ⟨G, B, ⟨q, hq, Q⟩, Z | ⟨d, R, N, T, D⟩⟩ := I
  · exact nTask G B Z hq Q x
  · exact gTask G B D hq Q x
set_option maxRecDepth 100000 in
theorem aBest (I : GI h n) (hn : n ≤ 600) (x : Int32) : OpG h n (fun h => fX8_best 0 x h) (fun h => fX9_best 181 x h) := by
  obtain ⟨G, B, ⟨q, hq, Q⟩, Z | ⟨d, R, N, T, D⟩⟩ := I
  · exact nBest G B Z hq Q x
  · exact gBest G B D hq Q x
set_option maxRecDepth 100000 in
theorem aSoonest (I : GI h n) (hn : n ≤ 600)  : OpG h n (fun h => fX8_soonest 0 h) (fun h => fX9_soonest 181 h) := by
  obtain ⟨G, B, ⟨q, hq, Q⟩, Z | ⟨d, R, N, T, D⟩⟩ := I
  · exact nSoonest G B Z hq Q
  · exact gSoon G B D hq Q
set_option maxRecDepth 100000 in
theorem aTogether (I : GI h n) (hn : n ≤ 600) (x : Int32) : OpG h n (fun h => fX8_together 0 x h) (fun h => fX9_together 181 x h) := by
  obtain ⟨G, B, ⟨q, hq, Q⟩, Z | ⟨d, R, N, T, D⟩⟩ := I
  · exact nTogether G B Z hq Q x
  · exact gTog G B D hq hn Q x
set_option maxRecDepth 100000 in
theorem aTogetherAt (I : GI h n) (hn : n ≤ 600) (x : Int32) (y : Int32) : OpG h n (fun h => fX8_togetherAt 0 x y h) (fun h => fX9_togetherAt 181 x y h) := by
  obtain ⟨G, B, ⟨q, hq, Q⟩, Z | ⟨d, R, N, T, D⟩⟩ := I
  · exact nTogetherAt G B Z hq Q x y
  · exact gTogAt G B D hq hn Q x y
set_option maxRecDepth 100000 in
theorem aDeep (I : GI h n) (hn : n ≤ 600)  : OpG h n (fun h => fX8_deep 0 h) (fun h => fX9_deep 181 h) := by
  obtain ⟨G, B, ⟨q, hq, Q⟩, Z | ⟨d, R, N, T, D⟩⟩ := I
  · exact nDeep G B Z hq Q
  · exact OpW.G G B D hq Q (oDeep D.1).W
set_option maxRecDepth 100000 in
theorem aAsk (I : GI h n) (hn : n ≤ 600)  : OpG h n (fun h => fX8_ask 0 h) (fun h => fX9_ask 181 h) := by
  obtain ⟨G, B, ⟨q, hq, Q⟩, Z | ⟨d, R, N, T, D⟩⟩ := I
  · exact nAsk G B Z hq Q
  · exact OpW.G G B D hq Q (oAsk D.1).W
set_option maxRecDepth 100000 in
theorem aAskMost (I : GI h n) (hn : n ≤ 600)  : OpG h n (fun h => fX8_askMost 0 h) (fun h => fX9_askMost 181 h) := by
  obtain ⟨G, B, ⟨q, hq, Q⟩, Z | ⟨d, R, N, T, D⟩⟩ := I
  · exact nAskMost G B Z hq Q
  · exact OpW.G G B D hq Q (oAskMost D.1).W
set_option maxRecDepth 100000 in
theorem aLetter (I : GI h n) (hn : n ≤ 600) (x : Int32) (y : Int32) (z : Int32) : OpG h n (fun h => fX8_letter 0 x y z h) (fun h => fX9_letter 181 x y z h) := by
  obtain ⟨G, B, ⟨q, hq, Q⟩, Z | ⟨d, R, N, T, D⟩⟩ := I
  · exact nLetter G B Z hq Q x y z
  · exact OpW.G G B D hq Q (oLetter D.1 x y z).W
set_option maxRecDepth 100000 in
theorem aTells (I : GI h n) (hn : n ≤ 600) (x : Int32) (y : Int32) (z : Int32) (w : Int32) : OpG h n (fun h => fX8_tells 0 x y z w h) (fun h => fX9_tells 181 x y z w h) := by
  obtain ⟨G, B, ⟨q, hq, Q⟩, Z | ⟨d, R, N, T, D⟩⟩ := I
  · exact nTells G B Z hq Q x y z w
  · exact OpW.G G B D hq Q (oTells D.1 x y z w).W
set_option maxRecDepth 100000 in
theorem aWords (I : GI h n) (hn : n ≤ 600) (x : Int32) (y : Int32) (z : Int32) (w : Int32) : OpG h n (fun h => fX8_words 0 x y z w h) (fun h => fX9_words 181 x y z w h) := by
  obtain ⟨G, B, ⟨q, hq, Q⟩, Z | ⟨d, R, N, T, D⟩⟩ := I
  · exact nWords G B Z hq Q x y z w
  · exact OpW.G G B D hq Q (oWords D.1 x y z w).W
set_option maxRecDepth 100000 in
theorem aMeeting (I : GI h n) (hn : n ≤ 600) (x : Int32) (y : Int32) (z : Int32) : OpG h n (fun h => fX8_meeting 0 x y z h) (fun h => fX9_meeting 181 x y z h) := by
  obtain ⟨G, B, ⟨q, hq, Q⟩, Z | ⟨d, R, N, T, D⟩⟩ := I
  · exact nMeeting G B Z hq Q x y z
  · exact OpW.G G B D hq Q (oMeeting D.1 x y z).W
set_option maxRecDepth 100000 in
theorem aMeetingHead (I : GI h n) (hn : n ≤ 600) (x : Int32) (y : Int32) (z : Int32) : OpG h n (fun h => fX8_meetingHead 0 x y z h) (fun h => fX9_meetingHead 181 x y z h) := by
  obtain ⟨G, B, ⟨q, hq, Q⟩, Z | ⟨d, R, N, T, D⟩⟩ := I
  · exact nMeetingHead G B Z hq Q x y z
  · exact OpW.G G B D hq Q (oMeetingHead D.1 x y z).W
set_option maxRecDepth 100000 in
theorem aTakes (I : GI h n) (hn : n ≤ 600) (x : Int32) : OpG h n (fun h => fX8_takes 0 x h) (fun h => fX9_takes 181 x h) := by
  obtain ⟨G, B, ⟨q, hq, Q⟩, Z | ⟨d, R, N, T, D⟩⟩ := I
  · exact nTakes G B Z hq Q x
  · exact OpW.G G B D hq Q (oTakes D.1 x).W
set_option maxRecDepth 100000 in
theorem aGains (I : GI h n) (hn : n ≤ 600) (x : Int32) : OpG h n (fun h => fX8_gains 0 x h) (fun h => fX9_gains 181 x h) := by
  obtain ⟨G, B, ⟨q, hq, Q⟩, Z | ⟨d, R, N, T, D⟩⟩ := I
  · exact nGains G B Z hq Q x
  · exact OpW.G G B D hq Q (oGains D.1 x).W
set_option maxRecDepth 100000 in
theorem aPrice (I : GI h n) (hn : n ≤ 600) (x : Int32) (y : Int32) : OpG h n (fun h => fX8_price 0 x y h) (fun h => fX9_price 181 x y h) := by
  obtain ⟨G, B, ⟨q, hq, Q⟩, Z | ⟨d, R, N, T, D⟩⟩ := I
  · exact nPrice G B Z hq Q x y
  · exact OpW.G G B D hq Q (oPrice D.1 x y).W
set_option maxRecDepth 100000 in
theorem aEnough (I : GI h n) (hn : n ≤ 600) (x : Int32) (y : Int32) : OpG h n (fun h => fX8_enough 0 x y h) (fun h => fX9_enough 181 x y h) := by
  obtain ⟨G, B, ⟨q, hq, Q⟩, Z | ⟨d, R, N, T, D⟩⟩ := I
  · exact nEnough G B Z hq Q x y
  · exact OpW.G G B D hq Q (oEnough D.1 x y).W
set_option maxRecDepth 100000 in
theorem aRates (I : GI h n) (hn : n ≤ 600)  : OpG h n (fun h => fX8_rates 0 h) (fun h => fX9_rates 181 h) := by
  obtain ⟨G, B, ⟨q, hq, Q⟩, Z | ⟨d, R, N, T, D⟩⟩ := I
  · exact nRates G B Z hq Q
  · exact gRates G B D hq Q
set_option maxRecDepth 100000 in
theorem aRate (I : GI h n) (hn : n ≤ 600) (x : Int32) : OpG h n (fun h => fX8_rate 0 x h) (fun h => fX9_rate 181 x h) := by
  obtain ⟨G, B, ⟨q, hq, Q⟩, Z | ⟨d, R, N, T, D⟩⟩ := I
  · exact nRate G B Z hq Q x
  · exact gRate G B D hq Q x
set_option maxRecDepth 100000 in
theorem aWaking (I : GI h n) (hn : n ≤ 600) (x : Int32) (y : Int32) (z : Int32) (b : Bool) : OpG h n (fun h => fX8_waking 0 x y z b h) (fun h => fX9_waking 181 x y z b h) := by
  obtain ⟨G, B, ⟨q, hq, Q⟩, Z | ⟨d, R, N, T, D⟩⟩ := I
  · exact nWaking G B Z hq Q x y z b
  · exact OpW.G G B D hq Q (oWaking D.1 x y z b).W
set_option maxRecDepth 100000 in
theorem aMean (I : GI h n) (hn : n ≤ 600) (x : Int32) (y : Int32) (b : Bool) : OpG h n (fun h => fX8_mean 0 x y b h) (fun h => fX9_mean 181 x y b h) := by
  obtain ⟨G, B, ⟨q, hq, Q⟩, Z | ⟨d, R, N, T, D⟩⟩ := I
  · exact nMean G B Z hq Q x y b
  · exact OpW.G G B D hq Q (oMean D.1 x y b).W
set_option maxRecDepth 100000 in
theorem aPass (I : GI h n) (hn : n ≤ 600) (x : Int32) (y : Int32) : OpG h n (fun h => fX8_pass 0 x y h) (fun h => fX9_pass 181 x y h) := by
  obtain ⟨G, B, ⟨q, hq, Q⟩, Z | ⟨d, R, N, T, D⟩⟩ := I
  · exact nPass G B Z hq Q x y
  · exact gPass G B D hq Q x y
set_option maxRecDepth 100000 in
theorem aLie (I : GI h n) (hn : n ≤ 600) (x : Int32) (y : Int32) : OpG h n (fun h => fX8_lie 0 x y h) (fun h => fX9_lie 181 x y h) := by
  obtain ⟨G, B, ⟨q, hq, Q⟩, Z | ⟨d, R, N, T, D⟩⟩ := I
  · exact nLie G B Z hq Q x y
  · exact gLie G B D hq Q x y
set_option maxRecDepth 100000 in
theorem aWake (I : GI h n) (hn : n ≤ 600) (x : Int32) : OpG h n (fun h => fX8_wake 0 x h) (fun h => fX9_wake 181 x h) := by
  obtain ⟨G, B, ⟨q, hq, Q⟩, Z | ⟨d, R, N, T, D⟩⟩ := I
  · exact nWake G B Z hq Q x
  · exact gWake G B D hq Q x
set_option maxRecDepth 100000 in
theorem aKnock (I : GI h n) (hn : n ≤ 600) (x : Int32) (y : Int32) (z : Int32) : OpG h n (fun h => fX8_knock 0 x y z h) (fun h => fX9_knock 181 x y z h) := by
  obtain ⟨G, B, ⟨q, hq, Q⟩, Z | ⟨d, R, N, T, D⟩⟩ := I
  · exact nKnock G B Z hq Q x y z
  · exact gKnock G B D hq Q x y z
set_option maxRecDepth 100000 in
theorem aUndo (I : GI h n) (hn : n ≤ 600)  : OpG h n (fun h => fX8_undo 0 h) (fun h => fX9_undo 181 h) := by
  obtain ⟨G, B, ⟨q, hq, Q⟩, Z | ⟨d, R, N, T, D⟩⟩ := I
  · exact nUndo G B Z hq Q
  · exact gUndo G B D hq Q
set_option maxRecDepth 100000 in
theorem aImage (I : GI h n) (hn : n ≤ 600)  : OpG h n (fun h => fX8_image 0 h) (fun h => fX9_image 181 h) := by
  obtain ⟨G, B, ⟨q, hq, Q⟩, Z | ⟨d, R, N, T, D⟩⟩ := I
  · exact nImage G B Z hq Q
  · exact gImage G B D hq Q
set_option maxRecDepth 100000 in
theorem aBack (I : GI h n) (hn : n ≤ 600) (x : Int32) : OpG h n (fun h => fX8_back 0 x h) (fun h => fX9_back 181 x h) := by
  obtain ⟨G, B, ⟨q, hq, Q⟩, Z | ⟨d, R, N, T, D⟩⟩ := I
  · exact nBack G B Z hq Q x
  · exact gBack G B D hq Q x
end ALLC
section LAWL
variable {xs : Nat → Int32} {L n : Nat} {h : HH}
set_option maxRecDepth 100000 in
theorem kFeed (self : Int32 → HH → Option (Bool × HH)) {i : Nat} (hi : i + 6 ≤ L) (hL : L ≤ 3072) (I : GI h n) (hn : n ≤ 600) : ∃ h2, fL_law_b264 self xs L 0 181 201 (nI i) h = self (nI (i + 6)) h2 ∧ GI h2 (n + 1) := by
  obtain ⟨a, h1, h2, e1, e2, I'⟩ := aFeed I (xs (i + 1)) (xs (i + 2)) (xs (i + 3)) (xs (i + 4)) (xs (i + 5))
  refine ⟨h2, ?_, I'⟩
  simp (disch := omega) only [lI, gd_1, bd_1, inbN, ixN, nI_add, fL_law_b264, e1, e2, if_true]
set_option maxRecDepth 100000 in
theorem kDream (self : Int32 → HH → Option (Bool × HH)) {i : Nat} (hi : i + 6 ≤ L) (hL : L ≤ 3072) (dr : ∀ (h : HH) (n : Nat) (x : Int32), GI h n → OpG h n (fun h => fX8_dream 0 x h) (fun h => fX9_dream 181 x h)) (I : GI h n) (hn : n ≤ 600) : ∃ h2, fL_law_b337 self xs L 0 181 201 (nI i) h = self (nI (i + 6)) h2 ∧ GI h2 (n + 1) := by
  obtain ⟨a, h1, h2, e1, e2, I'⟩ := dr h n (xs (i + 1)) I
  refine ⟨h2, ?_, I'⟩
  simp (disch := omega) only [lI, gd_1, bd_1, inbN, ixN, nI_add, fL_law_b337, e1, e2, if_true]
set_option maxRecDepth 100000 in
theorem kFault (self : Int32 → HH → Option (Bool × HH)) {i : Nat} (hi : i + 6 ≤ L) (hL : L ≤ 3072) (I : GI h n) (hn : n ≤ 600) : ∃ h2, fL_law_b362 self xs L 0 181 201 (nI i) h = self (nI (i + 6)) h2 ∧ GI h2 (n + 1) := by
  obtain ⟨a, h1, h2, e1, e2, I'⟩ := aFault I
  refine ⟨h2, ?_, I'⟩
  simp (disch := omega) only [lI, gd_1, bd_1, inbN, ixN, nI_add, fL_law_b362, e1, e2, if_true]
set_option maxRecDepth 100000 in
theorem kWhere (self : Int32 → HH → Option (Bool × HH)) {i : Nat} (hi : i + 6 ≤ L) (hL : L ≤ 3072) (I : GI h n) (hn : n ≤ 600) : ∃ h2, fL_law_b375 self xs L 0 181 201 (nI i) h = self (nI (i + 6)) h2 ∧ GI h2 (n + 1) := by
  obtain ⟨a, h1, h2, e1, e2, I'⟩ := aWhere I
  refine ⟨h2, ?_, I'⟩
  simp (disch := omega) only [lI, gd_1, bd_1, inbN, ixN, nI_add, fL_law_b375, e1, e2, if_true]
set_option maxRecDepth 100000 in
theorem kQuick (self : Int32 → HH → Option (Bool × HH)) {i : Nat} (hi : i + 6 ≤ L) (hL : L ≤ 3072) (I : GI h n) (hn : n ≤ 600) : ∃ h2, fL_law_b388 self xs L 0 181 201 (nI i) h = self (nI (i + 6)) h2 ∧ GI h2 (n + 1) := by
  obtain ⟨a, h1, h2, e1, e2, I'⟩ := aQuick I hn (xs (i + 1))
  refine ⟨h2, ?_, I'⟩
  simp (disch := omega) only [lI, gd_1, bd_1, inbN, ixN, nI_add, fL_law_b388, e1, e2, if_true]
set_option maxRecDepth 100000 in
theorem kClock (self : Int32 → HH → Option (Bool × HH)) {i : Nat} (hi : i + 6 ≤ L) (hL : L ≤ 3072) (I : GI h n) (hn : n ≤ 600) : ∃ h2, fL_law_b413 self xs L 0 181 201 (nI i) h = self (nI (i + 6)) h2 ∧ GI h2 (n + 1) := by
  obtain ⟨a, h1, h2, e1, e2, I'⟩ := aClock I hn (xs (i + 1))
  refine ⟨h2, ?_, I'⟩
  simp (disch := omega) only [lI, gd_1, bd_1, inbN, ixN, nI_add, fL_law_b413, e1, e2, if_true]
set_option maxRecDepth 100000 in
theorem kTicks (self : Int32 → HH → Option (Bool × HH)) {i : Nat} (hi : i + 6 ≤ L) (hL : L ≤ 3072) (I : GI h n) (hn : n ≤ 600) : ∃ h2, fL_law_b439 self xs L 0 181 201 (nI i) h = self (nI (i + 6)) h2 ∧ GI h2 (n + 1) := by
  obtain ⟨a, h1, h2, e1, e2, I'⟩ := aTicks I hn
  refine ⟨h2, ?_, I'⟩
  simp (disch := omega) only [lI, gd_1, bd_1, inbN, ixN, nI_add, fL_law_b439, e1, e2, if_true]
set_option maxRecDepth 100000 in
theorem kMinutes (self : Int32 → HH → Option (Bool × HH)) {i : Nat} (hi : i + 6 ≤ L) (hL : L ≤ 3072) (I : GI h n) (hn : n ≤ 600) : ∃ h2, fL_law_b453 self xs L 0 181 201 (nI i) h = self (nI (i + 6)) h2 ∧ GI h2 (n + 1) := by
  by_cases c : xs (i + 4) = nI 0
  · obtain ⟨a, h1, h2, e1, e2, I'⟩ := aMinutes I hn (xs (i + 1)) (xs (i + 2)) (xs (i + 3)) false
    refine ⟨h2, ?_, I'⟩
    simp (disch := omega) only [lI, gd_1, bd_1, inbN, ixN, nI_add, fL_law_b453, e1, e2, if_true, c]
  · obtain ⟨a, h1, h2, e1, e2, I'⟩ := aMinutes I hn (xs (i + 1)) (xs (i + 2)) (xs (i + 3)) true
    refine ⟨h2, ?_, I'⟩
    simp (disch := omega) only [lI, gd_1, bd_1, inbN, ixN, nI_add, fL_law_b453, e1, e2, if_true, c, if_false]
set_option maxRecDepth 100000 in
theorem kSleeper (self : Int32 → HH → Option (Bool × HH)) {i : Nat} (hi : i + 6 ≤ L) (hL : L ≤ 3072) (I : GI h n) (hn : n ≤ 600) : ∃ h2, fL_law_b531 self xs L 0 181 201 (nI i) h = self (nI (i + 6)) h2 ∧ GI h2 (n + 1) := by
  obtain ⟨a, h1, h2, e1, e2, I'⟩ := aSleeper I hn (xs (i + 1)) (xs (i + 2))
  refine ⟨h2, ?_, I'⟩
  simp (disch := omega) only [lI, gd_1, bd_1, inbN, ixN, nI_add, fL_law_b531, e1, e2, if_true]
set_option maxRecDepth 100000 in
theorem kLived (self : Int32 → HH → Option (Bool × HH)) {i : Nat} (hi : i + 6 ≤ L) (hL : L ≤ 3072) (I : GI h n) (hn : n ≤ 600) : ∃ h2, fL_law_b568 self xs L 0 181 201 (nI i) h = self (nI (i + 6)) h2 ∧ GI h2 (n + 1) := by
  by_cases c : xs (i + 2) = nI 0
  · obtain ⟨a, h1, h2, e1, e2, I'⟩ := aLived I hn (xs (i + 1)) false
    refine ⟨h2, ?_, I'⟩
    simp (disch := omega) only [lI, gd_1, bd_1, inbN, ixN, nI_add, fL_law_b568, e1, e2, if_true, c]
  · obtain ⟨a, h1, h2, e1, e2, I'⟩ := aLived I hn (xs (i + 1)) true
    refine ⟨h2, ?_, I'⟩
    simp (disch := omega) only [lI, gd_1, bd_1, inbN, ixN, nI_add, fL_law_b568, e1, e2, if_true, c, if_false]
set_option maxRecDepth 100000 in
theorem kMeet (self : Int32 → HH → Option (Bool × HH)) {i : Nat} (hi : i + 6 ≤ L) (hL : L ≤ 3072) (I : GI h n) (hn : n ≤ 600) : ∃ h2, fL_law_b622 self xs L 0 181 201 (nI i) h = self (nI (i + 6)) h2 ∧ GI h2 (n + 1) := by
  obtain ⟨a, h1, h2, e1, e2, I'⟩ := aMeet I hn (xs (i + 1)) (xs (i + 2))
  refine ⟨h2, ?_, I'⟩
  simp (disch := omega) only [lI, gd_1, bd_1, inbN, ixN, nI_add, fL_law_b622, e1, e2, if_true]
set_option maxRecDepth 100000 in
theorem kOff (self : Int32 → HH → Option (Bool × HH)) {i : Nat} (hi : i + 6 ≤ L) (hL : L ≤ 3072) (I : GI h n) (hn : n ≤ 600) : ∃ h2, fL_law_b659 self xs L 0 181 201 (nI i) h = self (nI (i + 6)) h2 ∧ GI h2 (n + 1) := by
  obtain ⟨a, h1, h2, e1, e2, I'⟩ := aOff I hn
  refine ⟨h2, ?_, I'⟩
  simp (disch := omega) only [lI, gd_1, bd_1, inbN, ixN, nI_add, fL_law_b659, e1, e2, if_true]
set_option maxRecDepth 100000 in
theorem kFloorIn (self : Int32 → HH → Option (Bool × HH)) {i : Nat} (hi : i + 6 ≤ L) (hL : L ≤ 3072) (I : GI h n) (hn : n ≤ 600) : ∃ h2, fL_law_b672 self xs L 0 181 201 (nI i) h = self (nI (i + 6)) h2 ∧ GI h2 (n + 1) := by
  obtain ⟨a, h1, h2, e1, e2, I'⟩ := aFloorIn I hn (xs (i + 1)) (xs (i + 2))
  refine ⟨h2, ?_, I'⟩
  simp (disch := omega) only [lI, gd_1, bd_1, inbN, ixN, nI_add, fL_law_b672, e1, e2, if_true]
set_option maxRecDepth 100000 in
theorem kHeadIn (self : Int32 → HH → Option (Bool × HH)) {i : Nat} (hi : i + 6 ≤ L) (hL : L ≤ 3072) (I : GI h n) (hn : n ≤ 600) : ∃ h2, fL_law_b709 self xs L 0 181 201 (nI i) h = self (nI (i + 6)) h2 ∧ GI h2 (n + 1) := by
  obtain ⟨a, h1, h2, e1, e2, I'⟩ := aHeadIn I hn (xs (i + 1)) (xs (i + 2))
  refine ⟨h2, ?_, I'⟩
  simp (disch := omega) only [lI, gd_1, bd_1, inbN, ixN, nI_add, fL_law_b709, e1, e2, if_true]
set_option maxRecDepth 100000 in
theorem kMeetsIn (self : Int32 → HH → Option (Bool × HH)) {i : Nat} (hi : i + 6 ≤ L) (hL : L ≤ 3072) (I : GI h n) (hn : n ≤ 600) : ∃ h2, fL_law_b746 self xs L 0 181 201 (nI i) h = self (nI (i + 6)) h2 ∧ GI h2 (n + 1) := by
  obtain ⟨a, h1, h2, e1, e2, I'⟩ := aMeetsIn I hn (xs (i + 1)) (xs (i + 2)) (xs (i + 3))
  refine ⟨h2, ?_, I'⟩
  simp (disch := omega) only [lI, gd_1, bd_1, inbN, ixN, nI_add, fL_law_b746, e1, e2, if_true]
set_option maxRecDepth 100000 in
theorem kAwakeIn (self : Int32 → HH → Option (Bool × HH)) {i : Nat} (hi : i + 6 ≤ L) (hL : L ≤ 3072) (I : GI h n) (hn : n ≤ 600) : ∃ h2, fL_law_b795 self xs L 0 181 201 (nI i) h = self (nI (i + 6)) h2 ∧ GI h2 (n + 1) := by
  obtain ⟨a, h1, h2, e1, e2, I'⟩ := aAwakeIn I hn (xs (i + 1)) (xs (i + 2))
  refine ⟨h2, ?_, I'⟩
  simp (disch := omega) only [lI, gd_1, bd_1, inbN, ixN, nI_add, fL_law_b795, e1, e2, if_true]
set_option maxRecDepth 100000 in
theorem kLonely (self : Int32 → HH → Option (Bool × HH)) {i : Nat} (hi : i + 6 ≤ L) (hL : L ≤ 3072) (I : GI h n) (hn : n ≤ 600) : ∃ h2, fL_law_b832 self xs L 0 181 201 (nI i) h = self (nI (i + 6)) h2 ∧ GI h2 (n + 1) := by
  obtain ⟨a, h1, h2, e1, e2, I'⟩ := aLonely I hn (xs (i + 1)) (xs (i + 2))
  refine ⟨h2, ?_, I'⟩
  simp (disch := omega) only [lI, gd_1, bd_1, inbN, ixN, nI_add, fL_law_b832, e1, e2, if_true]
set_option maxRecDepth 100000 in
theorem kCrowd (self : Int32 → HH → Option (Bool × HH)) {i : Nat} (hi : i + 6 ≤ L) (hL : L ≤ 3072) (I : GI h n) (hn : n ≤ 600) : ∃ h2, fL_law_b869 self xs L 0 181 201 (nI i) h = self (nI (i + 6)) h2 ∧ GI h2 (n + 1) := by
  obtain ⟨a, h1, h2, e1, e2, I'⟩ := aCrowd I hn (xs (i + 1))
  refine ⟨h2, ?_, I'⟩
  simp (disch := omega) only [lI, gd_1, bd_1, inbN, ixN, nI_add, fL_law_b869, e1, e2, if_true]
set_option maxRecDepth 100000 in
theorem kLeft (self : Int32 → HH → Option (Bool × HH)) {i : Nat} (hi : i + 6 ≤ L) (hL : L ≤ 3072) (I : GI h n) (hn : n ≤ 600) : ∃ h2, fL_law_b894 self xs L 0 181 201 (nI i) h = self (nI (i + 6)) h2 ∧ GI h2 (n + 1) := by
  obtain ⟨a, h1, h2, e1, e2, I'⟩ := aLeft I hn
  refine ⟨h2, ?_, I'⟩
  simp (disch := omega) only [lI, gd_1, bd_1, inbN, ixN, nI_add, fL_law_b894, e1, e2, if_true]
set_option maxRecDepth 100000 in
theorem kWoken (self : Int32 → HH → Option (Bool × HH)) {i : Nat} (hi : i + 6 ≤ L) (hL : L ≤ 3072) (I : GI h n) (hn : n ≤ 600) : ∃ h2, fL_law_b907 self xs L 0 181 201 (nI i) h = self (nI (i + 6)) h2 ∧ GI h2 (n + 1) := by
  obtain ⟨a, h1, h2, e1, e2, I'⟩ := aWoken I hn (xs (i + 1)) (xs (i + 2))
  refine ⟨h2, ?_, I'⟩
  simp (disch := omega) only [lI, gd_1, bd_1, inbN, ixN, nI_add, fL_law_b907, e1, e2, if_true]
set_option maxRecDepth 100000 in
theorem kFelt (self : Int32 → HH → Option (Bool × HH)) {i : Nat} (hi : i + 6 ≤ L) (hL : L ≤ 3072) (I : GI h n) (hn : n ≤ 600) : ∃ h2, fL_law_b944 self xs L 0 181 201 (nI i) h = self (nI (i + 6)) h2 ∧ GI h2 (n + 1) := by
  obtain ⟨a, h1, h2, e1, e2, I'⟩ := aFelt I hn (xs (i + 1)) (xs (i + 2)) (xs (i + 3))
  refine ⟨h2, ?_, I'⟩
  simp (disch := omega) only [lI, gd_1, bd_1, inbN, ixN, nI_add, fL_law_b944, e1, e2, if_true]
set_option maxRecDepth 100000 in
theorem kTask (self : Int32 → HH → Option (Bool × HH)) {i : Nat} (hi : i + 6 ≤ L) (hL : L ≤ 3072) (I : GI h n) (hn : n ≤ 600) : ∃ h2, fL_law_b994 self xs L 0 181 201 (nI i) h = self (nI (i + 6)) h2 ∧ GI h2 (n + 1) := by
  obtain ⟨a, h1, h2, e1, e2, I'⟩ := aTask I hn (xs (i + 1))
  refine ⟨h2, ?_, I'⟩
  simp (disch := omega) only [lI, gd_1, bd_1, inbN, ixN, nI_add, fL_law_b994, e1, e2, if_true]
set_option maxRecDepth 100000 in
theorem kBest (self : Int32 → HH → Option (Bool × HH)) {i : Nat} (hi : i + 6 ≤ L) (hL : L ≤ 3072) (I : GI h n) (hn : n ≤ 600) : ∃ h2, fL_law_b1019 self xs L 0 181 201 (nI i) h = self (nI (i + 6)) h2 ∧ GI h2 (n + 1) := by
  obtain ⟨a, h1, h2, e1, e2, I'⟩ := aBest I hn (xs (i + 1))
  refine ⟨h2, ?_, I'⟩
  simp (disch := omega) only [lI, gd_1, bd_1, inbN, ixN, nI_add, fL_law_b1019, e1, e2, if_true]
set_option maxRecDepth 100000 in
theorem kSoonest (self : Int32 → HH → Option (Bool × HH)) {i : Nat} (hi : i + 6 ≤ L) (hL : L ≤ 3072) (I : GI h n) (hn : n ≤ 600) : ∃ h2, fL_law_b1045 self xs L 0 181 201 (nI i) h = self (nI (i + 6)) h2 ∧ GI h2 (n + 1) := by
  obtain ⟨a, h1, h2, e1, e2, I'⟩ := aSoonest I hn
  refine ⟨h2, ?_, I'⟩
  simp (disch := omega) only [lI, gd_1, bd_1, inbN, ixN, nI_add, fL_law_b1045, e1, e2, if_true]
set_option maxRecDepth 100000 in
theorem kTogether (self : Int32 → HH → Option (Bool × HH)) {i : Nat} (hi : i + 6 ≤ L) (hL : L ≤ 3072) (I : GI h n) (hn : n ≤ 600) : ∃ h2, fL_law_b1059 self xs L 0 181 201 (nI i) h = self (nI (i + 6)) h2 ∧ GI h2 (n + 1) := by
  obtain ⟨a, h1, h2, e1, e2, I'⟩ := aTogether I hn (xs (i + 1))
  refine ⟨h2, ?_, I'⟩
  simp (disch := omega) only [lI, gd_1, bd_1, inbN, ixN, nI_add, fL_law_b1059, e1, e2, if_true]
set_option maxRecDepth 100000 in
theorem kTogetherAt (self : Int32 → HH → Option (Bool × HH)) {i : Nat} (hi : i + 6 ≤ L) (hL : L ≤ 3072) (I : GI h n) (hn : n ≤ 600) : ∃ h2, fL_law_b1084 self xs L 0 181 201 (nI i) h = self (nI (i + 6)) h2 ∧ GI h2 (n + 1) := by
  obtain ⟨a, h1, h2, e1, e2, I'⟩ := aTogetherAt I hn (xs (i + 1)) (xs (i + 2))
  refine ⟨h2, ?_, I'⟩
  simp (disch := omega) only [lI, gd_1, bd_1, inbN, ixN, nI_add, fL_law_b1084, e1, e2, if_true]
set_option maxRecDepth 100000 in
theorem kDeep (self : Int32 → HH → Option (Bool × HH)) {i : Nat} (hi : i + 6 ≤ L) (hL : L ≤ 3072) (I : GI h n) (hn : n ≤ 600) : ∃ h2, fL_law_b1121 self xs L 0 181 201 (nI i) h = self (nI (i + 6)) h2 ∧ GI h2 (n + 1) := by
  obtain ⟨a, h1, h2, e1, e2, I'⟩ := aDeep I hn
  refine ⟨h2, ?_, I'⟩
  simp (disch := omega) only [lI, gd_1, bd_1, inbN, ixN, nI_add, fL_law_b1121, e1, e2, if_true]
set_option maxRecDepth 100000 in
theorem kAsk (self : Int32 → HH → Option (Bool × HH)) {i : Nat} (hi : i + 6 ≤ L) (hL : L ≤ 3072) (I : GI h n) (hn : n ≤ 600) : ∃ h2, fL_law_b1134 self xs L 0 181 201 (nI i) h = self (nI (i + 6)) h2 ∧ GI h2 (n + 1) := by
  obtain ⟨a, h1, h2, e1, e2, I'⟩ := aAsk I hn
  refine ⟨h2, ?_, I'⟩
  simp (disch := omega) only [lI, gd_1, bd_1, inbN, ixN, nI_add, fL_law_b1134, e1, e2, if_true]
set_option maxRecDepth 100000 in
theorem kAskMost (self : Int32 → HH → Option (Bool × HH)) {i : Nat} (hi : i + 6 ≤ L) (hL : L ≤ 3072) (I : GI h n) (hn : n ≤ 600) : ∃ h2, fL_law_b1147 self xs L 0 181 201 (nI i) h = self (nI (i + 6)) h2 ∧ GI h2 (n + 1) := by
  obtain ⟨a, h1, h2, e1, e2, I'⟩ := aAskMost I hn
  refine ⟨h2, ?_, I'⟩
  simp (disch := omega) only [lI, gd_1, bd_1, inbN, ixN, nI_add, fL_law_b1147, e1, e2, if_true]
set_option maxRecDepth 100000 in
theorem kLetter (self : Int32 → HH → Option (Bool × HH)) {i : Nat} (hi : i + 6 ≤ L) (hL : L ≤ 3072) (I : GI h n) (hn : n ≤ 600) : ∃ h2, fL_law_b1160 self xs L 0 181 201 (nI i) h = self (nI (i + 6)) h2 ∧ GI h2 (n + 1) := by
  obtain ⟨a, h1, h2, e1, e2, I'⟩ := aLetter I hn (xs (i + 1)) (xs (i + 2)) (xs (i + 3))
  refine ⟨h2, ?_, I'⟩
  simp (disch := omega) only [lI, gd_1, bd_1, inbN, ixN, nI_add, fL_law_b1160, e1, e2, if_true]
set_option maxRecDepth 100000 in
theorem kTells (self : Int32 → HH → Option (Bool × HH)) {i : Nat} (hi : i + 6 ≤ L) (hL : L ≤ 3072) (I : GI h n) (hn : n ≤ 600) : ∃ h2, fL_law_b1209 self xs L 0 181 201 (nI i) h = self (nI (i + 6)) h2 ∧ GI h2 (n + 1) := by
  obtain ⟨a, h1, h2, e1, e2, I'⟩ := aTells I hn (xs (i + 1)) (xs (i + 2)) (xs (i + 3)) (xs (i + 4))
  refine ⟨h2, ?_, I'⟩
  simp (disch := omega) only [lI, gd_1, bd_1, inbN, ixN, nI_add, fL_law_b1209, e1, e2, if_true]
set_option maxRecDepth 100000 in
theorem kWords (self : Int32 → HH → Option (Bool × HH)) {i : Nat} (hi : i + 6 ≤ L) (hL : L ≤ 3072) (I : GI h n) (hn : n ≤ 600) : ∃ h2, fL_law_b1270 self xs L 0 181 201 (nI i) h = self (nI (i + 6)) h2 ∧ GI h2 (n + 1) := by
  obtain ⟨a, h1, h2, e1, e2, I'⟩ := aWords I hn (xs (i + 1)) (xs (i + 2)) (xs (i + 3)) (xs (i + 4))
  refine ⟨h2, ?_, I'⟩
  simp (disch := omega) only [lI, gd_1, bd_1, inbN, ixN, nI_add, fL_law_b1270, e1, e2, if_true]
set_option maxRecDepth 100000 in
theorem kMeeting (self : Int32 → HH → Option (Bool × HH)) {i : Nat} (hi : i + 6 ≤ L) (hL : L ≤ 3072) (I : GI h n) (hn : n ≤ 600) : ∃ h2, fL_law_b1332 self xs L 0 181 201 (nI i) h = self (nI (i + 6)) h2 ∧ GI h2 (n + 1) := by
  obtain ⟨a, h1, h2, e1, e2, I'⟩ := aMeeting I hn (xs (i + 1)) (xs (i + 2)) (xs (i + 3))
  refine ⟨h2, ?_, I'⟩
  simp (disch := omega) only [lI, gd_1, bd_1, inbN, ixN, nI_add, fL_law_b1332, e1, e2, if_true]
set_option maxRecDepth 100000 in
theorem kMeetingHead (self : Int32 → HH → Option (Bool × HH)) {i : Nat} (hi : i + 6 ≤ L) (hL : L ≤ 3072) (I : GI h n) (hn : n ≤ 600) : ∃ h2, fL_law_b1382 self xs L 0 181 201 (nI i) h = self (nI (i + 6)) h2 ∧ GI h2 (n + 1) := by
  obtain ⟨a, h1, h2, e1, e2, I'⟩ := aMeetingHead I hn (xs (i + 1)) (xs (i + 2)) (xs (i + 3))
  refine ⟨h2, ?_, I'⟩
  simp (disch := omega) only [lI, gd_1, bd_1, inbN, ixN, nI_add, fL_law_b1382, e1, e2, if_true]
set_option maxRecDepth 100000 in
theorem kTakes (self : Int32 → HH → Option (Bool × HH)) {i : Nat} (hi : i + 6 ≤ L) (hL : L ≤ 3072) (I : GI h n) (hn : n ≤ 600) : ∃ h2, fL_law_b1431 self xs L 0 181 201 (nI i) h = self (nI (i + 6)) h2 ∧ GI h2 (n + 1) := by
  obtain ⟨a, h1, h2, e1, e2, I'⟩ := aTakes I hn (xs (i + 1))
  refine ⟨h2, ?_, I'⟩
  simp (disch := omega) only [lI, gd_1, bd_1, inbN, ixN, nI_add, fL_law_b1431, e1, e2, if_true]
set_option maxRecDepth 100000 in
theorem kGains (self : Int32 → HH → Option (Bool × HH)) {i : Nat} (hi : i + 6 ≤ L) (hL : L ≤ 3072) (I : GI h n) (hn : n ≤ 600) : ∃ h2, fL_law_b1456 self xs L 0 181 201 (nI i) h = self (nI (i + 6)) h2 ∧ GI h2 (n + 1) := by
  obtain ⟨a, h1, h2, e1, e2, I'⟩ := aGains I hn (xs (i + 1))
  refine ⟨h2, ?_, I'⟩
  simp (disch := omega) only [lI, gd_1, bd_1, inbN, ixN, nI_add, fL_law_b1456, e1, e2, if_true]
set_option maxRecDepth 100000 in
theorem kPrice (self : Int32 → HH → Option (Bool × HH)) {i : Nat} (hi : i + 6 ≤ L) (hL : L ≤ 3072) (I : GI h n) (hn : n ≤ 600) : ∃ h2, fL_law_b1482 self xs L 0 181 201 (nI i) h = self (nI (i + 6)) h2 ∧ GI h2 (n + 1) := by
  obtain ⟨a, h1, h2, e1, e2, I'⟩ := aPrice I hn (xs (i + 1)) (xs (i + 2))
  refine ⟨h2, ?_, I'⟩
  simp (disch := omega) only [lI, gd_1, bd_1, inbN, ixN, nI_add, fL_law_b1482, e1, e2, if_true]
set_option maxRecDepth 100000 in
theorem kEnough (self : Int32 → HH → Option (Bool × HH)) {i : Nat} (hi : i + 6 ≤ L) (hL : L ≤ 3072) (I : GI h n) (hn : n ≤ 600) : ∃ h2, fL_law_b1519 self xs L 0 181 201 (nI i) h = self (nI (i + 6)) h2 ∧ GI h2 (n + 1) := by
  obtain ⟨a, h1, h2, e1, e2, I'⟩ := aEnough I hn (xs (i + 1)) (xs (i + 2))
  refine ⟨h2, ?_, I'⟩
  simp (disch := omega) only [lI, gd_1, bd_1, inbN, ixN, nI_add, fL_law_b1519, e1, e2, if_true]
set_option maxRecDepth 100000 in
theorem kRates (self : Int32 → HH → Option (Bool × HH)) {i : Nat} (hi : i + 6 ≤ L) (hL : L ≤ 3072) (I : GI h n) (hn : n ≤ 600) : ∃ h2, fL_law_b1556 self xs L 0 181 201 (nI i) h = self (nI (i + 6)) h2 ∧ GI h2 (n + 1) := by
  obtain ⟨a, h1, h2, e1, e2, I'⟩ := aRates I hn
  refine ⟨h2, ?_, I'⟩
  simp (disch := omega) only [lI, gd_1, bd_1, inbN, ixN, nI_add, fL_law_b1556, e1, e2, if_true]
set_option maxRecDepth 100000 in
theorem kRate (self : Int32 → HH → Option (Bool × HH)) {i : Nat} (hi : i + 6 ≤ L) (hL : L ≤ 3072) (I : GI h n) (hn : n ≤ 600) : ∃ h2, fL_law_b1569 self xs L 0 181 201 (nI i) h = self (nI (i + 6)) h2 ∧ GI h2 (n + 1) := by
  obtain ⟨a, h1, h2, e1, e2, I'⟩ := aRate I hn (xs (i + 1))
  refine ⟨h2, ?_, I'⟩
  simp (disch := omega) only [lI, gd_1, bd_1, inbN, ixN, nI_add, fL_law_b1569, e1, e2, if_true]
set_option maxRecDepth 100000 in
theorem kWaking (self : Int32 → HH → Option (Bool × HH)) {i : Nat} (hi : i + 6 ≤ L) (hL : L ≤ 3072) (I : GI h n) (hn : n ≤ 600) : ∃ h2, fL_law_b1594 self xs L 0 181 201 (nI i) h = self (nI (i + 6)) h2 ∧ GI h2 (n + 1) := by
  by_cases c : xs (i + 4) = nI 0
  · obtain ⟨a, h1, h2, e1, e2, I'⟩ := aWaking I hn (xs (i + 1)) (xs (i + 2)) (xs (i + 3)) false
    refine ⟨h2, ?_, I'⟩
    simp (disch := omega) only [lI, gd_1, bd_1, inbN, ixN, nI_add, fL_law_b1594, e1, e2, if_true, c]
  · obtain ⟨a, h1, h2, e1, e2, I'⟩ := aWaking I hn (xs (i + 1)) (xs (i + 2)) (xs (i + 3)) true
    refine ⟨h2, ?_, I'⟩
    simp (disch := omega) only [lI, gd_1, bd_1, inbN, ixN, nI_add, fL_law_b1594, e1, e2, if_true, c, if_false]
set_option maxRecDepth 100000 in
theorem kMean (self : Int32 → HH → Option (Bool × HH)) {i : Nat} (hi : i + 6 ≤ L) (hL : L ≤ 3072) (I : GI h n) (hn : n ≤ 600) : ∃ h2, fL_law_b1672 self xs L 0 181 201 (nI i) h = self (nI (i + 6)) h2 ∧ GI h2 (n + 1) := by
  by_cases c : xs (i + 3) = nI 0
  · obtain ⟨a, h1, h2, e1, e2, I'⟩ := aMean I hn (xs (i + 1)) (xs (i + 2)) false
    refine ⟨h2, ?_, I'⟩
    simp (disch := omega) only [lI, gd_1, bd_1, inbN, ixN, nI_add, fL_law_b1672, e1, e2, if_true, c]
  · obtain ⟨a, h1, h2, e1, e2, I'⟩ := aMean I hn (xs (i + 1)) (xs (i + 2)) true
    refine ⟨h2, ?_, I'⟩
    simp (disch := omega) only [lI, gd_1, bd_1, inbN, ixN, nI_add, fL_law_b1672, e1, e2, if_true, c, if_false]
set_option maxRecDepth 100000 in
theorem kPass (self : Int32 → HH → Option (Bool × HH)) {i : Nat} (hi : i + 6 ≤ L) (hL : L ≤ 3072) (I : GI h n) (hn : n ≤ 600) : ∃ h2, fL_law_b1738 self xs L 0 181 201 (nI i) h = self (nI (i + 6)) h2 ∧ GI h2 (n + 1) := by
  obtain ⟨a, h1, h2, e1, e2, I'⟩ := aPass I hn (xs (i + 1)) (xs (i + 2))
  refine ⟨h2, ?_, I'⟩
  simp (disch := omega) only [lI, gd_1, bd_1, inbN, ixN, nI_add, fL_law_b1738, e1, e2, if_true]
set_option maxRecDepth 100000 in
theorem kLie (self : Int32 → HH → Option (Bool × HH)) {i : Nat} (hi : i + 6 ≤ L) (hL : L ≤ 3072) (I : GI h n) (hn : n ≤ 600) : ∃ h2, fL_law_b1775 self xs L 0 181 201 (nI i) h = self (nI (i + 6)) h2 ∧ GI h2 (n + 1) := by
  obtain ⟨a, h1, h2, e1, e2, I'⟩ := aLie I hn (xs (i + 1)) (xs (i + 2))
  refine ⟨h2, ?_, I'⟩
  simp (disch := omega) only [lI, gd_1, bd_1, inbN, ixN, nI_add, fL_law_b1775, e1, e2, if_true]
set_option maxRecDepth 100000 in
theorem kWake (self : Int32 → HH → Option (Bool × HH)) {i : Nat} (hi : i + 6 ≤ L) (hL : L ≤ 3072) (I : GI h n) (hn : n ≤ 600) : ∃ h2, fL_law_b1812 self xs L 0 181 201 (nI i) h = self (nI (i + 6)) h2 ∧ GI h2 (n + 1) := by
  obtain ⟨a, h1, h2, e1, e2, I'⟩ := aWake I hn (xs (i + 1))
  refine ⟨h2, ?_, I'⟩
  simp (disch := omega) only [lI, gd_1, bd_1, inbN, ixN, nI_add, fL_law_b1812, e1, e2, if_true]
set_option maxRecDepth 100000 in
theorem kKnock (self : Int32 → HH → Option (Bool × HH)) {i : Nat} (hi : i + 6 ≤ L) (hL : L ≤ 3072) (I : GI h n) (hn : n ≤ 600) : ∃ h2, fL_law_b1837 self xs L 0 181 201 (nI i) h = self (nI (i + 6)) h2 ∧ GI h2 (n + 1) := by
  obtain ⟨a, h1, h2, e1, e2, I'⟩ := aKnock I hn (xs (i + 1)) (xs (i + 2)) (xs (i + 3))
  refine ⟨h2, ?_, I'⟩
  simp (disch := omega) only [lI, gd_1, bd_1, inbN, ixN, nI_add, fL_law_b1837, e1, e2, if_true]
set_option maxRecDepth 100000 in
theorem kUndo (self : Int32 → HH → Option (Bool × HH)) {i : Nat} (hi : i + 6 ≤ L) (hL : L ≤ 3072) (I : GI h n) (hn : n ≤ 600) : ∃ h2, fL_law_b1886 self xs L 0 181 201 (nI i) h = self (nI (i + 6)) h2 ∧ GI h2 (n + 1) := by
  obtain ⟨a, h1, h2, e1, e2, I'⟩ := aUndo I hn
  refine ⟨h2, ?_, I'⟩
  simp (disch := omega) only [lI, gd_1, bd_1, inbN, ixN, nI_add, fL_law_b1886, e1, e2, if_true]
set_option maxRecDepth 100000 in
theorem kImage (self : Int32 → HH → Option (Bool × HH)) {i : Nat} (hi : i + 6 ≤ L) (hL : L ≤ 3072) (I : GI h n) (hn : n ≤ 600) : ∃ h2, fL_law_b1899 self xs L 0 181 201 (nI i) h = self (nI (i + 6)) h2 ∧ GI h2 (n + 1) := by
  obtain ⟨a, h1, h2, e1, e2, I'⟩ := aImage I hn
  refine ⟨h2, ?_, I'⟩
  simp (disch := omega) only [lI, gd_1, bd_1, inbN, ixN, nI_add, fL_law_b1899, e1, e2, if_true]
set_option maxRecDepth 100000 in
theorem kBack (self : Int32 → HH → Option (Bool × HH)) {i : Nat} (hi : i + 6 ≤ L) (hL : L ≤ 3072) (I : GI h n) (hn : n ≤ 600) : ∃ h2, fL_law_b1912 self xs L 0 181 201 (nI i) h = self (nI (i + 6)) h2 ∧ GI h2 (n + 1) := by
  obtain ⟨a, h1, h2, e1, e2, I'⟩ := aBack I hn (xs (i + 1))
  refine ⟨h2, ?_, I'⟩
  simp (disch := omega) only [lI, gd_1, bd_1, inbN, ixN, nI_add, fL_law_b1912, e1, e2, if_true]
set_option maxRecDepth 100000 in
theorem kLed (self : Int32 → HH → Option (Bool × HH)) {i : Nat} (hi : i + 6 ≤ L) (hL : L ≤ 3072) (I : GI h n) (hn : n ≤ 600) : ∃ h2, fL_law_b1937 self xs L 0 181 201 (nI i) h = self (nI (i + 6)) h2 ∧ GI h2 (n + 1) := by
  obtain ⟨k, h1, b, h2, e1, e2, e3, e4, I'⟩ := aLed I (xs (i + 1))
  refine ⟨h2, ?_, I'⟩
  have l201 : ln 201 = 1 := by decide +kernel
  by_cases c : k = nI 0
  · have e5 := e4 c
    simp (disch := omega) only [lI, gd_1, bd_1, inbN, ixN, nI_add, fL_law_b1937, e1, e2, fX9_thrown, e3, if_true, c, l201, e5]
  · simp (disch := omega) only [lI, gd_1, bd_1, inbN, ixN, nI_add, fL_law_b1937, e1, e2, fX9_thrown, e3, if_true, c, if_false]
set_option maxRecDepth 100000 in
theorem kSize (self : Int32 → HH → Option (Bool × HH)) {i : Nat} (hi : i + 6 ≤ L) (hL : L ≤ 3072) (I : GI h n) (hn : n ≤ 600) : ∃ h2, fL_law_b1993 self xs L 0 181 201 (nI i) h = self (nI (i + 6)) h2 ∧ GI h2 (n + 1) := by
  obtain ⟨a, h1, h2, e1, e2, I'⟩ := aSize I (xs (i + 1))
  refine ⟨h2, ?_, I'⟩
  simp (disch := omega) only [lI, gd_1, bd_1, inbN, ixN, nI_add, fL_law_b1993, e1, e2, if_true]
set_option maxRecDepth 100000 in
theorem kTrouble (self : Int32 → HH → Option (Bool × HH)) {i : Nat} (hi : i + 6 ≤ L) (hL : L ≤ 3072) (I : GI h n) (hn : n ≤ 600) : ∃ h2, fL_law_b2018 self xs L 0 181 201 (nI i) h = self (nI (i + 6)) h2 ∧ GI h2 (n + 1) := by
  obtain ⟨a, h1, h2, e1, e2, I'⟩ := aTrouble I
  refine ⟨h2, ?_, I'⟩
  simp (disch := omega) only [lI, gd_1, bd_1, inbN, ixN, nI_add, fL_law_b2018, e1, e2, if_true]
set_option maxRecDepth 100000 in
theorem law_go (dr : ∀ (h : HH) (n : Nat) (x : Int32), GI h n → OpG h n (fun h => fX8_dream 0 x h) (fun h => fX9_dream 181 x h)) (hL : L ≤ 3072) : ∀ m i f (h : HH), i + 6 * m ≥ L → i ≤ L → i % 6 = 0 → m < f → GI h (i / 6) → ∃ hv, lq1 (fL_law_L23 xs L 0 181 201) f (nI i) h = some (true, hv) := by
  have stop : ∀ i f (h : HH), ¬ i + 6 ≤ L → i ≤ L → lq1 (fL_law_L23 xs L 0 181 201) (f + 1) (nI i) h = some (true, h) := by
    intro i f h hi hl
    have c : nI L - nI 6 < nI i := by
      rw [Int32.lt_iff_toInt_lt, pk_sub_toInt (by omega) (by omega), nI_toInt (by omega)]
      omega
    show fL_law_L23 xs L 0 181 201 _ (nI i) h = _
    simp only [lI, fL_law_L23, c, if_true]
  intro m
  induction m with
  | zero =>
    intro i f h h1 h2 h3 hf I
    obtain ⟨f, rfl⟩ : ∃ q, f = q + 1 := ⟨f - 1, by omega⟩
    exact ⟨h, stop i f h (by omega) h2⟩
  | succ m ih =>
    intro i f h h1 h2 h3 hf I
    obtain ⟨f, rfl⟩ : ∃ q, f = q + 1 := ⟨f - 1, by omega⟩
    by_cases hi : i + 6 ≤ L
    · have c : ¬ nI L - nI 6 < nI i := by
        rw [Int32.lt_iff_toInt_lt, pk_sub_toInt (by omega) (by omega), nI_toInt (by omega)]
        omega
      have hn : i / 6 ≤ 600 := by omega
      have fin : ∀ h2, GI h2 (i / 6 + 1) → ∃ hv, lq1 (fL_law_L23 xs L 0 181 201) f (nI (i + 6)) h2 = some (true, hv) := fun h2 I2 => ih (i + 6) f h2 (by omega) (by omega) (by omega) (by omega) (by rw [show (i + 6) / 6 = i / 6 + 1 by omega]; exact I2)
      obtain ⟨k, k1, k2⟩ := pk_andE (xs i) (m := nI 63) 6 (by decide)
      have k1' : k < 64 := k1
      show ∃ hv, fL_law_L23 xs L 0 181 201 (lq1 (fL_law_L23 xs L 0 181 201) f) (nI i) h = some (true, hv)
      generalize lq1 (fL_law_L23 xs L 0 181 201) f = sf at fin ⊢
      unfold fL_law_L23
      rw [if_neg (show ¬ nI L - 6 < nI i from c), show inb (nI i) L = true from inbN (by omega) (by omega), gd_1, nm_1, show ix (nI i) = i from ixN (by omega), show xs i &&& 63 = nI k from k2]
      by_cases c0 : nI k = (0 : Int32)
      · obtain ⟨h2, e2, I2⟩ := kFeed (xs := xs) sf hi hL I hn
        rw [if_pos c0, e2]; exact fin h2 I2
      rw [if_neg c0]
      by_cases c1 : nI k = (1 : Int32)
      · obtain ⟨h2, e2, I2⟩ := kDream (xs := xs) sf hi hL dr I hn
        rw [if_pos c1, e2]; exact fin h2 I2
      rw [if_neg c1]
      by_cases c2 : nI k = (2 : Int32)
      · obtain ⟨h2, e2, I2⟩ := kFault (xs := xs) sf hi hL I hn
        rw [if_pos c2, e2]; exact fin h2 I2
      rw [if_neg c2]
      by_cases c3 : nI k = (3 : Int32)
      · obtain ⟨h2, e2, I2⟩ := kWhere (xs := xs) sf hi hL I hn
        rw [if_pos c3, e2]; exact fin h2 I2
      rw [if_neg c3]
      by_cases c4 : nI k = (4 : Int32)
      · obtain ⟨h2, e2, I2⟩ := kQuick (xs := xs) sf hi hL I hn
        rw [if_pos c4, e2]; exact fin h2 I2
      rw [if_neg c4]
      by_cases c5 : nI k = (5 : Int32)
      · obtain ⟨h2, e2, I2⟩ := kClock (xs := xs) sf hi hL I hn
        rw [if_pos c5, e2]; exact fin h2 I2
      rw [if_neg c5]
      by_cases c6 : nI k = (6 : Int32)
      · obtain ⟨h2, e2, I2⟩ := kTicks (xs := xs) sf hi hL I hn
        rw [if_pos c6, e2]; exact fin h2 I2
      rw [if_neg c6]
      by_cases c7 : nI k = (7 : Int32)
      · obtain ⟨h2, e2, I2⟩ := kMinutes (xs := xs) sf hi hL I hn
        rw [if_pos c7, e2]; exact fin h2 I2
      rw [if_neg c7]
      by_cases c8 : nI k = (8 : Int32)
      · obtain ⟨h2, e2, I2⟩ := kSleeper (xs := xs) sf hi hL I hn
        rw [if_pos c8, e2]; exact fin h2 I2
      rw [if_neg c8]
      by_cases c9 : nI k = (9 : Int32)
      · obtain ⟨h2, e2, I2⟩ := kLived (xs := xs) sf hi hL I hn
        rw [if_pos c9, e2]; exact fin h2 I2
      rw [if_neg c9]
      by_cases c10 : nI k = (10 : Int32)
      · obtain ⟨h2, e2, I2⟩ := kMeet (xs := xs) sf hi hL I hn
        rw [if_pos c10, e2]; exact fin h2 I2
      rw [if_neg c10]
      by_cases c11 : nI k = (11 : Int32)
      · obtain ⟨h2, e2, I2⟩ := kOff (xs := xs) sf hi hL I hn
        rw [if_pos c11, e2]; exact fin h2 I2
      rw [if_neg c11]
      by_cases c12 : nI k = (12 : Int32)
      · obtain ⟨h2, e2, I2⟩ := kFloorIn (xs := xs) sf hi hL I hn
        rw [if_pos c12, e2]; exact fin h2 I2
      rw [if_neg c12]
      by_cases c13 : nI k = (13 : Int32)
      · obtain ⟨h2, e2, I2⟩ := kHeadIn (xs := xs) sf hi hL I hn
        rw [if_pos c13, e2]; exact fin h2 I2
      rw [if_neg c13]
      by_cases c14 : nI k = (14 : Int32)
      · obtain ⟨h2, e2, I2⟩ := kMeetsIn (xs := xs) sf hi hL I hn
        rw [if_pos c14, e2]; exact fin h2 I2
      rw [if_neg c14]
      by_cases c15 : nI k = (15 : Int32)
      · obtain ⟨h2, e2, I2⟩ := kAwakeIn (xs := xs) sf hi hL I hn
        rw [if_pos c15, e2]; exact fin h2 I2
      rw [if_neg c15]
      by_cases c16 : nI k = (16 : Int32)
      · obtain ⟨h2, e2, I2⟩ := kLonely (xs := xs) sf hi hL I hn
        rw [if_pos c16, e2]; exact fin h2 I2
      rw [if_neg c16]
      by_cases c17 : nI k = (17 : Int32)
      · obtain ⟨h2, e2, I2⟩ := kCrowd (xs := xs) sf hi hL I hn
        rw [if_pos c17, e2]; exact fin h2 I2
      rw [if_neg c17]
      by_cases c18 : nI k = (18 : Int32)
      · obtain ⟨h2, e2, I2⟩ := kLeft (xs := xs) sf hi hL I hn
        rw [if_pos c18, e2]; exact fin h2 I2
      rw [if_neg c18]
      by_cases c19 : nI k = (19 : Int32)
      · obtain ⟨h2, e2, I2⟩ := kWoken (xs := xs) sf hi hL I hn
        rw [if_pos c19, e2]; exact fin h2 I2
      rw [if_neg c19]
      by_cases c20 : nI k = (20 : Int32)
      · obtain ⟨h2, e2, I2⟩ := kFelt (xs := xs) sf hi hL I hn
        rw [if_pos c20, e2]; exact fin h2 I2
      rw [if_neg c20]
      by_cases c21 : nI k = (21 : Int32)
      · obtain ⟨h2, e2, I2⟩ := kTask (xs := xs) sf hi hL I hn
        rw [if_pos c21, e2]; exact fin h2 I2
      rw [if_neg c21]
      by_cases c22 : nI k = (22 : Int32)
      · obtain ⟨h2, e2, I2⟩ := kBest (xs := xs) sf hi hL I hn
        rw [if_pos c22, e2]; exact fin h2 I2
      rw [if_neg c22]
      by_cases c23 : nI k = (23 : Int32)
      · obtain ⟨h2, e2, I2⟩ := kSoonest (xs := xs) sf hi hL I hn
        rw [if_pos c23, e2]; exact fin h2 I2
      rw [if_neg c23]
      by_cases c24 : nI k = (24 : Int32)
      · obtain ⟨h2, e2, I2⟩ := kTogether (xs := xs) sf hi hL I hn
        rw [if_pos c24, e2]; exact fin h2 I2
      rw [if_neg c24]
      by_cases c25 : nI k = (25 : Int32)
      · obtain ⟨h2, e2, I2⟩ := kTogetherAt (xs := xs) sf hi hL I hn
        rw [if_pos c25, e2]; exact fin h2 I2
      rw [if_neg c25]
      by_cases c26 : nI k = (26 : Int32)
      · obtain ⟨h2, e2, I2⟩ := kDeep (xs := xs) sf hi hL I hn
        rw [if_pos c26, e2]; exact fin h2 I2
      rw [if_neg c26]
      by_cases c27 : nI k = (27 : Int32)
      · obtain ⟨h2, e2, I2⟩ := kAsk (xs := xs) sf hi hL I hn
        rw [if_pos c27, e2]; exact fin h2 I2
      rw [if_neg c27]
      by_cases c28 : nI k = (28 : Int32)
      · obtain ⟨h2, e2, I2⟩ := kAskMost (xs := xs) sf hi hL I hn
        rw [if_pos c28, e2]; exact fin h2 I2
      rw [if_neg c28]
      by_cases c29 : nI k = (29 : Int32)
      · obtain ⟨h2, e2, I2⟩ := kLetter (xs := xs) sf hi hL I hn
        rw [if_pos c29, e2]; exact fin h2 I2
      rw [if_neg c29]
      by_cases c30 : nI k = (30 : Int32)
      · obtain ⟨h2, e2, I2⟩ := kTells (xs := xs) sf hi hL I hn
        rw [if_pos c30, e2]; exact fin h2 I2
      rw [if_neg c30]
      by_cases c31 : nI k = (31 : Int32)
      · obtain ⟨h2, e2, I2⟩ := kWords (xs := xs) sf hi hL I hn
        rw [if_pos c31, e2]; exact fin h2 I2
      rw [if_neg c31]
      by_cases c32 : nI k = (32 : Int32)
      · obtain ⟨h2, e2, I2⟩ := kMeeting (xs := xs) sf hi hL I hn
        rw [if_pos c32, e2]; exact fin h2 I2
      rw [if_neg c32]
      by_cases c33 : nI k = (33 : Int32)
      · obtain ⟨h2, e2, I2⟩ := kMeetingHead (xs := xs) sf hi hL I hn
        rw [if_pos c33, e2]; exact fin h2 I2
      rw [if_neg c33]
      by_cases c34 : nI k = (34 : Int32)
      · obtain ⟨h2, e2, I2⟩ := kTakes (xs := xs) sf hi hL I hn
        rw [if_pos c34, e2]; exact fin h2 I2
      rw [if_neg c34]
      by_cases c35 : nI k = (35 : Int32)
      · obtain ⟨h2, e2, I2⟩ := kGains (xs := xs) sf hi hL I hn
        rw [if_pos c35, e2]; exact fin h2 I2
      rw [if_neg c35]
      by_cases c36 : nI k = (36 : Int32)
      · obtain ⟨h2, e2, I2⟩ := kPrice (xs := xs) sf hi hL I hn
        rw [if_pos c36, e2]; exact fin h2 I2
      rw [if_neg c36]
      by_cases c37 : nI k = (37 : Int32)
      · obtain ⟨h2, e2, I2⟩ := kEnough (xs := xs) sf hi hL I hn
        rw [if_pos c37, e2]; exact fin h2 I2
      rw [if_neg c37]
      by_cases c38 : nI k = (38 : Int32)
      · obtain ⟨h2, e2, I2⟩ := kRates (xs := xs) sf hi hL I hn
        rw [if_pos c38, e2]; exact fin h2 I2
      rw [if_neg c38]
      by_cases c39 : nI k = (39 : Int32)
      · obtain ⟨h2, e2, I2⟩ := kRate (xs := xs) sf hi hL I hn
        rw [if_pos c39, e2]; exact fin h2 I2
      rw [if_neg c39]
      by_cases c40 : nI k = (40 : Int32)
      · obtain ⟨h2, e2, I2⟩ := kWaking (xs := xs) sf hi hL I hn
        rw [if_pos c40, e2]; exact fin h2 I2
      rw [if_neg c40]
      by_cases c41 : nI k = (41 : Int32)
      · obtain ⟨h2, e2, I2⟩ := kMean (xs := xs) sf hi hL I hn
        rw [if_pos c41, e2]; exact fin h2 I2
      rw [if_neg c41]
      by_cases c42 : nI k = (42 : Int32)
      · obtain ⟨h2, e2, I2⟩ := kPass (xs := xs) sf hi hL I hn
        rw [if_pos c42, e2]; exact fin h2 I2
      rw [if_neg c42]
      by_cases c43 : nI k = (43 : Int32)
      · obtain ⟨h2, e2, I2⟩ := kLie (xs := xs) sf hi hL I hn
        rw [if_pos c43, e2]; exact fin h2 I2
      rw [if_neg c43]
      by_cases c44 : nI k = (44 : Int32)
      · obtain ⟨h2, e2, I2⟩ := kWake (xs := xs) sf hi hL I hn
        rw [if_pos c44, e2]; exact fin h2 I2
      rw [if_neg c44]
      by_cases c45 : nI k = (45 : Int32)
      · obtain ⟨h2, e2, I2⟩ := kKnock (xs := xs) sf hi hL I hn
        rw [if_pos c45, e2]; exact fin h2 I2
      rw [if_neg c45]
      by_cases c46 : nI k = (46 : Int32)
      · obtain ⟨h2, e2, I2⟩ := kUndo (xs := xs) sf hi hL I hn
        rw [if_pos c46, e2]; exact fin h2 I2
      rw [if_neg c46]
      by_cases c47 : nI k = (47 : Int32)
      · obtain ⟨h2, e2, I2⟩ := kImage (xs := xs) sf hi hL I hn
        rw [if_pos c47, e2]; exact fin h2 I2
      rw [if_neg c47]
      by_cases c48 : nI k = (48 : Int32)
      · obtain ⟨h2, e2, I2⟩ := kBack (xs := xs) sf hi hL I hn
        rw [if_pos c48, e2]; exact fin h2 I2
      rw [if_neg c48]
      by_cases c49 : nI k = (49 : Int32)
      · obtain ⟨h2, e2, I2⟩ := kLed (xs := xs) sf hi hL I hn
        rw [if_pos c49, e2]; exact fin h2 I2
      rw [if_neg c49]
      by_cases c50 : nI k = (50 : Int32)
      · obtain ⟨h2, e2, I2⟩ := kSize (xs := xs) sf hi hL I hn
        rw [if_pos c50, e2]; exact fin h2 I2
      rw [if_neg c50]
      by_cases c51 : nI k = (51 : Int32)
      · obtain ⟨h2, e2, I2⟩ := kTrouble (xs := xs) sf hi hL I hn
        rw [if_pos c51, e2]; exact fin h2 I2
      rw [if_neg c51]
      have e9 : fL_law_b2031 sf xs L 0 181 201 (nI i) h = sf (nI (i + 6)) h := by
        simp only [lI, nI_add, fL_law_b2031]
      rw [e9]
      exact fin h (I.keep Keep.rfl)
    · exact ⟨h, stop i f h hi h2⟩
end LAWL
