def evOwn : List String := [RX0, RX1, RX2, RX3, RX4, RX5, RX6, RX7, RX8, RL, RJ9]
def evOs (o : Nat) : String := evOwn.getD o ""
/-- a method: its name, bytes, room of its frame, what it answers, its owner, how many frames and words it needs above its own -/
abbrev evMI : Type := MethodName × ByteArray × Nat × Option FieldType × Nat × Nat × Nat
def evMT_1 : List (evMI) := [(yX0_init, cX0_init, 1, none, 0, 1, 20), (yX0_write, cX0_write, 4, none, 0, 0, 0), (yX0_clear, cX0_clear, 1, none, 0, 1, 23), (yX0_copyFrom, cX0_copyFrom, 2, none, 0, 1, 23), (yX0_isAbove, cX0_isAbove, 2, (some .boolean), 0, 0, 0), (yX1_init, cX1_init, 1, none, 1, 2, 40), (yX1_copyFrom, cX1_copyFrom, 2, none, 1, 2, 44), (yX2_init, cX2_init, 2, none, 2, 3, 60), (yX2_copyFrom, cX2_copyFrom, 2, none, 2, 4, 87), (yX2_copyRows, cX2_copyRows, 3, none, 2, 3, 65), (yX2_bidderAt, cX2_bidderAt, 2, (some (.object "EchoBids$Bidder")), 2, 0, 0), (yX2_lotAt, cX2_lotAt, 2, (some (.object "EchoBids$Lot")), 2, 0, 0), (yX2_settingAt, cX2_settingAt, 2, (some .int), 2, 0, 0), (yX2_changeSetting, cX2_changeSetting, 4, (some .int), 2, 0, 0), (yX2_addBidder, cX2_addBidder, 4, (some .int), 2, 1, 21)]
def evMT_2 : List (evMI) := [(yX2_changePlan, cX2_changePlan, 5, (some .int), 2, 1, 21), (yX2_addLot, cX2_addLot, 3, (some .int), 2, 1, 21), (yX2_tellBid, cX2_tellBid, 5, (some .int), 2, 1, 21), (yX2_letPass, cX2_letPass, 4, (some .int), 2, 5, 119), (yX2_playOut, cX2_playOut, 3, none, 2, 5, 119), (yX2_hasLotsLeft, cX2_hasLotsLeft, 1, (some .boolean), 2, 0, 0), (yX2_playRound, cX2_playRound, 3, (some .boolean), 2, 4, 97), (yX2_beginLot, cX2_beginLot, 3, none, 2, 2, 43), (yX2_takeBids, cX2_takeBids, 7, none, 2, 3, 71), (yX2_chooseBid, cX2_chooseBid, 7, (some .int), 2, 1, 21), (yX2_believed, cX2_believed, 3, (some (.object "EchoBids$Bid")), 2, 1, 22), (yX2_noteBid, cX2_noteBid, 5, none, 2, 2, 47), (yX2_echoRound, cX2_echoRound, 4, none, 2, 2, 44), (yX2_endLot, cX2_endLot, 3, none, 2, 2, 45), (yX2_priceOf, cX2_priceOf, 5, (some .int), 2, 1, 21)]
def evMT_3 : List (evMI) := [(yX2_lotsSold, cX2_lotsSold, 4, (some .int), 2, 1, 21), (yX2_coinsPaid, cX2_coinsPaid, 4, (some .int), 2, 1, 21), (yX2_bidsMade, cX2_bidsMade, 4, (some .int), 2, 1, 21), (yX2_shadowsMade, cX2_shadowsMade, 4, (some .int), 2, 1, 21), (yX3_init, cX3_init, 2, none, 3, 4, 81), (yX3_prepare, cX3_prepare, 2, none, 3, 5, 108), (yX3_settle, cX3_settle, 2, (some .int), 3, 1, 21), (yX4_init, cX4_init, 1, none, 4, 2, 40), (yX4_copyFrom, cX4_copyFrom, 2, none, 4, 2, 44), (yX5_init, cX5_init, 1, none, 5, 1, 20), (yX6_init, cX6_init, 1, none, 6, 1, 20), (yX6_copyFrom, cX6_copyFrom, 2, none, 6, 1, 26), (yX6_clear, cX6_clear, 1, none, 6, 0, 0), (yX6_add, cX6_add, 6, none, 6, 1, 22), (yX6_knows, cX6_knows, 2, (some .boolean), 6, 0, 0)]
def evMT_4 : List (evMI) := [(yX6_at, cX6_at, 4, (some .int), 6, 1, 22), (yX7_init, cX7_init, 1, none, 7, 5, 102), (yX7_set, cX7_set, 3, (some .int), 7, 6, 129), (yX7_bidder, cX7_bidder, 3, (some .int), 7, 6, 129), (yX7_plan, cX7_plan, 3, (some .int), 7, 6, 129), (yX7_lot, cX7_lot, 2, (some .int), 7, 6, 129), (yX7_bid, cX7_bid, 3, (some .int), 7, 6, 129), (yX7_pass, cX7_pass, 2, (some .int), 7, 6, 142), (yX7_of, cX7_of, 4, (some .int), 7, 2, 44), (yX7_ofLot, cX7_ofLot, 4, (some .int), 7, 1, 21), (yX7_made, cX7_made, 3, (some .int), 7, 2, 45), (yX7_count, cX7_count, 2, (some .int), 7, 2, 44), (yX7_endsIn, cX7_endsIn, 2, (some .int), 7, 5, 119), (yX7_ifLag, cX7_ifLag, 2, (some .int), 7, 6, 141), (yX7_bestPlan, cX7_bestPlan, 7, (some .int), 7, 7, 165)]
def evMT_5 : List (evMI) := [(yX7_gainWith, cX7_gainWith, 5, (some .int), 7, 6, 141), (yJ9_floorMod_7cf53, cJ9_floorMod_7cf53, 3, (some .int), 10, 0, 0), (yJ9_max_7cf53, cJ9_max_7cf53, 2, (some .int), 10, 0, 0), (yJ9_min_7cf53, cJ9_min_7cf53, 2, (some .int), 10, 0, 0), (yL_cell, cL_cell, 2, (some .int), 9, 0, 0), (yL_low, cL_low, 2, (some .int), 9, 0, 0), (yL_bid, cL_bid, 3, (some .int), 9, 0, 0), (yL_coins, cL_coins, 1, (some .int), 9, 0, 0), (yL_roundOf, cL_roundOf, 1, (some .int), 9, 0, 0), (yL_higher, cL_higher, 2, (some .boolean), 9, 1, 20), (yL_belief, cL_belief, 8, (some .int), 9, 2, 41), (yL_round, cL_round, 13, (some .int), 9, 3, 68), (yL_waits, cL_waits, 4, (some .boolean), 9, 0, 0), (yL_copy, cL_copy, 11, none, 9, 0, 0), (yL_same, cL_same, 15, (some .boolean), 9, 3, 68)]
def evMT_6 : List (evMI) := [(yL_would, cL_would, 22, (some .boolean), 9, 8, 191), (yL_law, cL_law, 20, (some .boolean), 9, 9, 232)]
def evMT : List (evMI) := evMT_1 ++ (evMT_2 ++ (evMT_3 ++ (evMT_4 ++ (evMT_5 ++ (evMT_6)))))
abbrev mX0_init : Nat := 0
abbrev mX0_write : Nat := 1
abbrev mX0_clear : Nat := 2
abbrev mX0_copyFrom : Nat := 3
abbrev mX0_isAbove : Nat := 4
abbrev mX1_init : Nat := 5
abbrev mX1_copyFrom : Nat := 6
abbrev mX2_init : Nat := 7
abbrev mX2_copyFrom : Nat := 8
abbrev mX2_copyRows : Nat := 9
abbrev mX2_bidderAt : Nat := 10
abbrev mX2_lotAt : Nat := 11
abbrev mX2_settingAt : Nat := 12
abbrev mX2_changeSetting : Nat := 13
abbrev mX2_addBidder : Nat := 14
abbrev mX2_changePlan : Nat := 15
abbrev mX2_addLot : Nat := 16
abbrev mX2_tellBid : Nat := 17
abbrev mX2_letPass : Nat := 18
abbrev mX2_playOut : Nat := 19
abbrev mX2_hasLotsLeft : Nat := 20
abbrev mX2_playRound : Nat := 21
abbrev mX2_beginLot : Nat := 22
abbrev mX2_takeBids : Nat := 23
abbrev mX2_chooseBid : Nat := 24
abbrev mX2_believed : Nat := 25
abbrev mX2_noteBid : Nat := 26
abbrev mX2_echoRound : Nat := 27
abbrev mX2_endLot : Nat := 28
abbrev mX2_priceOf : Nat := 29
abbrev mX2_lotsSold : Nat := 30
abbrev mX2_coinsPaid : Nat := 31
abbrev mX2_bidsMade : Nat := 32
abbrev mX2_shadowsMade : Nat := 33
abbrev mX3_init : Nat := 34
abbrev mX3_prepare : Nat := 35
abbrev mX3_settle : Nat := 36
abbrev mX4_init : Nat := 37
abbrev mX4_copyFrom : Nat := 38
abbrev mX5_init : Nat := 39
abbrev mX6_init : Nat := 40
abbrev mX6_copyFrom : Nat := 41
abbrev mX6_clear : Nat := 42
abbrev mX6_add : Nat := 43
abbrev mX6_knows : Nat := 44
abbrev mX6_at : Nat := 45
abbrev mX7_init : Nat := 46
abbrev mX7_set : Nat := 47
abbrev mX7_bidder : Nat := 48
abbrev mX7_plan : Nat := 49
abbrev mX7_lot : Nat := 50
abbrev mX7_bid : Nat := 51
abbrev mX7_pass : Nat := 52
abbrev mX7_of : Nat := 53
abbrev mX7_ofLot : Nat := 54
abbrev mX7_made : Nat := 55
abbrev mX7_count : Nat := 56
abbrev mX7_endsIn : Nat := 57
abbrev mX7_ifLag : Nat := 58
abbrev mX7_bestPlan : Nat := 59
abbrev mX7_gainWith : Nat := 60
abbrev mJ9_floorMod_7cf53 : Nat := 61
abbrev mJ9_max_7cf53 : Nat := 62
abbrev mJ9_min_7cf53 : Nat := 63
abbrev mL_cell : Nat := 64
abbrev mL_low : Nat := 65
abbrev mL_bid : Nat := 66
abbrev mL_coins : Nat := 67
abbrev mL_roundOf : Nat := 68
abbrev mL_higher : Nat := 69
abbrev mL_belief : Nat := 70
abbrev mL_round : Nat := 71
abbrev mL_waits : Nat := 72
abbrev mL_copy : Nat := 73
abbrev mL_same : Nat := 74
abbrev mL_would : Nat := 75
abbrev mL_law : Nat := 76
def evM0 : evMI := (yX0_init, cX0_init, 0, none, 0, 0, 0)
def evName (y : Nat) : MethodName := (evMT.getD y evM0).1
def evCode (y : Nat) : ByteArray := (evMT.getD y evM0).2.1
def evML (y : Nat) : Nat := (evMT.getD y evM0).2.2.1
def evRet (y : Nat) : Option FieldType := (evMT.getD y evM0).2.2.2.1
def evOw (y : Nat) : Nat := (evMT.getD y evM0).2.2.2.2.1
def evFr (y : Nat) : Nat := (evMT.getD y evM0).2.2.2.2.2.1
def evLo (y : Nat) : Nat := (evMT.getD y evM0).2.2.2.2.2.2
def evMok (q : evMI) : Prop := Cond.code q.1 q.2.1 q.2.2.1 q.2.2.2.1 ∈ lw_tbl
set_option maxRecDepth 100000 in
theorem evc_0 : evMok (yX0_init, cX0_init, 1, none, 0, 1, 20) := List.mem_of_getElem? (i := 63) rfl
set_option maxRecDepth 100000 in
theorem evc_1 : evMok (yX0_write, cX0_write, 4, none, 0, 0, 0) := List.mem_of_getElem? (i := 289) rfl
set_option maxRecDepth 100000 in
theorem evc_2 : evMok (yX0_clear, cX0_clear, 1, none, 0, 1, 23) := List.mem_of_getElem? (i := 379) rfl
set_option maxRecDepth 100000 in
theorem evc_3 : evMok (yX0_copyFrom, cX0_copyFrom, 2, none, 0, 1, 23) := List.mem_of_getElem? (i := 285) rfl
set_option maxRecDepth 100000 in
theorem evc_4 : evMok (yX0_isAbove, cX0_isAbove, 2, (some .boolean), 0, 0, 0) := List.mem_of_getElem? (i := 398) rfl
set_option maxRecDepth 100000 in
theorem evc_5 : evMok (yX1_init, cX1_init, 1, none, 1, 2, 40) := List.mem_of_getElem? (i := 57) rfl
set_option maxRecDepth 100000 in
theorem evc_6 : evMok (yX1_copyFrom, cX1_copyFrom, 2, none, 1, 2, 44) := List.mem_of_getElem? (i := 281) rfl
set_option maxRecDepth 100000 in
theorem evc_7 : evMok (yX2_init, cX2_init, 2, none, 2, 3, 60) := List.mem_of_getElem? (i := 32) rfl
set_option maxRecDepth 100000 in
theorem evc_8 : evMok (yX2_copyFrom, cX2_copyFrom, 2, none, 2, 4, 87) := List.mem_of_getElem? (i := 270) rfl
set_option maxRecDepth 100000 in
theorem evc_9 : evMok (yX2_copyRows, cX2_copyRows, 3, none, 2, 3, 65) := List.mem_of_getElem? (i := 277) rfl
set_option maxRecDepth 100000 in
theorem evc_10 : evMok (yX2_bidderAt, cX2_bidderAt, 2, (some (.object "EchoBids$Bidder")), 2, 0, 0) := List.mem_of_getElem? (i := 327) rfl
set_option maxRecDepth 100000 in
theorem evc_11 : evMok (yX2_lotAt, cX2_lotAt, 2, (some (.object "EchoBids$Lot")), 2, 0, 0) := List.mem_of_getElem? (i := 347) rfl
set_option maxRecDepth 100000 in
theorem evc_12 : evMok (yX2_settingAt, cX2_settingAt, 2, (some .int), 2, 0, 0) := List.mem_of_getElem? (i := 391) rfl
set_option maxRecDepth 100000 in
theorem evc_13 : evMok (yX2_changeSetting, cX2_changeSetting, 4, (some .int), 2, 0, 0) := List.mem_of_getElem? (i := 304) rfl
set_option maxRecDepth 100000 in
theorem evc_14 : evMok (yX2_addBidder, cX2_addBidder, 4, (some .int), 2, 1, 21) := List.mem_of_getElem? (i := 323) rfl
set_option maxRecDepth 100000 in
theorem evc_15 : evMok (yX2_changePlan, cX2_changePlan, 5, (some .int), 2, 1, 21) := List.mem_of_getElem? (i := 335) rfl
set_option maxRecDepth 100000 in
theorem evc_16 : evMok (yX2_addLot, cX2_addLot, 3, (some .int), 2, 1, 21) := List.mem_of_getElem? (i := 343) rfl
set_option maxRecDepth 100000 in
theorem evc_17 : evMok (yX2_tellBid, cX2_tellBid, 5, (some .int), 2, 1, 21) := List.mem_of_getElem? (i := 355) rfl
set_option maxRecDepth 100000 in
theorem evc_18 : evMok (yX2_letPass, cX2_letPass, 4, (some .int), 2, 5, 119) := List.mem_of_getElem? (i := 363) rfl
set_option maxRecDepth 100000 in
theorem evc_19 : evMok (yX2_playOut, cX2_playOut, 3, none, 2, 5, 119) := List.mem_of_getElem? (i := 531) rfl
set_option maxRecDepth 100000 in
theorem evc_20 : evMok (yX2_hasLotsLeft, cX2_hasLotsLeft, 1, (some .boolean), 2, 0, 0) := List.mem_of_getElem? (i := 521) rfl
set_option maxRecDepth 100000 in
theorem evc_21 : evMok (yX2_playRound, cX2_playRound, 3, (some .boolean), 2, 4, 97) := List.mem_of_getElem? (i := 367) rfl
set_option maxRecDepth 100000 in
theorem evc_22 : evMok (yX2_beginLot, cX2_beginLot, 3, none, 2, 2, 43) := List.mem_of_getElem? (i := 371) rfl
set_option maxRecDepth 100000 in
theorem evc_23 : evMok (yX2_takeBids, cX2_takeBids, 7, none, 2, 3, 71) := List.mem_of_getElem? (i := 383) rfl
set_option maxRecDepth 100000 in
theorem evc_24 : evMok (yX2_chooseBid, cX2_chooseBid, 7, (some .int), 2, 1, 21) := List.mem_of_getElem? (i := 402) rfl
set_option maxRecDepth 100000 in
theorem evc_25 : evMok (yX2_believed, cX2_believed, 3, (some (.object "EchoBids$Bid")), 2, 1, 22) := List.mem_of_getElem? (i := 387) rfl
set_option maxRecDepth 100000 in
theorem evc_26 : evMok (yX2_noteBid, cX2_noteBid, 5, none, 2, 2, 47) := List.mem_of_getElem? (i := 407) rfl
set_option maxRecDepth 100000 in
theorem evc_27 : evMok (yX2_echoRound, cX2_echoRound, 4, none, 2, 2, 44) := List.mem_of_getElem? (i := 417) rfl
set_option maxRecDepth 100000 in
theorem evc_28 : evMok (yX2_endLot, cX2_endLot, 3, none, 2, 2, 45) := List.mem_of_getElem? (i := 421) rfl
set_option maxRecDepth 100000 in
theorem evc_29 : evMok (yX2_priceOf, cX2_priceOf, 5, (some .int), 2, 1, 21) := List.mem_of_getElem? (i := 425) rfl
set_option maxRecDepth 100000 in
theorem evc_30 : evMok (yX2_lotsSold, cX2_lotsSold, 4, (some .int), 2, 1, 21) := List.mem_of_getElem? (i := 491) rfl
set_option maxRecDepth 100000 in
theorem evc_31 : evMok (yX2_coinsPaid, cX2_coinsPaid, 4, (some .int), 2, 1, 21) := List.mem_of_getElem? (i := 495) rfl
set_option maxRecDepth 100000 in
theorem evc_32 : evMok (yX2_bidsMade, cX2_bidsMade, 4, (some .int), 2, 1, 21) := List.mem_of_getElem? (i := 499) rfl
set_option maxRecDepth 100000 in
theorem evc_33 : evMok (yX2_shadowsMade, cX2_shadowsMade, 4, (some .int), 2, 1, 21) := List.mem_of_getElem? (i := 503) rfl
set_option maxRecDepth 100000 in
theorem evc_34 : evMok (yX3_init, cX3_init, 2, none, 3, 4, 81) := List.mem_of_getElem? (i := 202) rfl
set_option maxRecDepth 100000 in
theorem evc_35 : evMok (yX3_prepare, cX3_prepare, 2, none, 3, 5, 108) := List.mem_of_getElem? (i := 266) rfl
set_option maxRecDepth 100000 in
theorem evc_36 : evMok (yX3_settle, cX3_settle, 2, (some .int), 3, 1, 21) := List.mem_of_getElem? (i := 312) rfl
set_option maxRecDepth 100000 in
theorem evc_37 : evMok (yX4_init, cX4_init, 1, none, 4, 2, 40) := List.mem_of_getElem? (i := 127) rfl
set_option maxRecDepth 100000 in
theorem evc_38 : evMok (yX4_copyFrom, cX4_copyFrom, 2, none, 4, 2, 44) := List.mem_of_getElem? (i := 293) rfl
set_option maxRecDepth 100000 in
theorem evc_39 : evMok (yX5_init, cX5_init, 1, none, 5, 1, 20) := List.mem_of_getElem? (i := 222) rfl
set_option maxRecDepth 100000 in
theorem evc_40 : evMok (yX6_init, cX6_init, 1, none, 6, 1, 20) := List.mem_of_getElem? (i := 44) rfl
set_option maxRecDepth 100000 in
theorem evc_41 : evMok (yX6_copyFrom, cX6_copyFrom, 2, none, 6, 1, 26) := List.mem_of_getElem? (i := 299) rfl
set_option maxRecDepth 100000 in
theorem evc_42 : evMok (yX6_clear, cX6_clear, 1, none, 6, 0, 0) := List.mem_of_getElem? (i := 375) rfl
set_option maxRecDepth 100000 in
theorem evc_43 : evMok (yX6_add, cX6_add, 6, none, 6, 1, 22) := List.mem_of_getElem? (i := 412) rfl
set_option maxRecDepth 100000 in
theorem evc_44 : evMok (yX6_knows, cX6_knows, 2, (some .boolean), 6, 0, 0) := List.mem_of_getElem? (i := 479) rfl
set_option maxRecDepth 100000 in
theorem evc_45 : evMok (yX6_at, cX6_at, 4, (some .int), 6, 1, 22) := List.mem_of_getElem? (i := 483) rfl
set_option maxRecDepth 100000 in
theorem evc_46 : evMok (yX7_init, cX7_init, 1, none, 7, 5, 102) := List.mem_of_getElem? (i := 24) rfl
set_option maxRecDepth 100000 in
theorem evc_47 : evMok (yX7_set, cX7_set, 3, (some .int), 7, 6, 129) := List.mem_of_getElem? (i := 262) rfl
set_option maxRecDepth 100000 in
theorem evc_48 : evMok (yX7_bidder, cX7_bidder, 3, (some .int), 7, 6, 129) := List.mem_of_getElem? (i := 319) rfl
set_option maxRecDepth 100000 in
theorem evc_49 : evMok (yX7_plan, cX7_plan, 3, (some .int), 7, 6, 129) := List.mem_of_getElem? (i := 331) rfl
set_option maxRecDepth 100000 in
theorem evc_50 : evMok (yX7_lot, cX7_lot, 2, (some .int), 7, 6, 129) := List.mem_of_getElem? (i := 339) rfl
set_option maxRecDepth 100000 in
theorem evc_51 : evMok (yX7_bid, cX7_bid, 3, (some .int), 7, 6, 129) := List.mem_of_getElem? (i := 351) rfl
set_option maxRecDepth 100000 in
theorem evc_52 : evMok (yX7_pass, cX7_pass, 2, (some .int), 7, 6, 142) := List.mem_of_getElem? (i := 359) rfl
set_option maxRecDepth 100000 in
theorem evc_53 : evMok (yX7_of, cX7_of, 4, (some .int), 7, 2, 44) := List.mem_of_getElem? (i := 464) rfl
set_option maxRecDepth 100000 in
theorem evc_54 : evMok (yX7_ofLot, cX7_ofLot, 4, (some .int), 7, 1, 21) := List.mem_of_getElem? (i := 470) rfl
set_option maxRecDepth 100000 in
theorem evc_55 : evMok (yX7_made, cX7_made, 3, (some .int), 7, 2, 45) := List.mem_of_getElem? (i := 475) rfl
set_option maxRecDepth 100000 in
theorem evc_56 : evMok (yX7_count, cX7_count, 2, (some .int), 7, 2, 44) := List.mem_of_getElem? (i := 487) rfl
set_option maxRecDepth 100000 in
theorem evc_57 : evMok (yX7_endsIn, cX7_endsIn, 2, (some .int), 7, 5, 119) := List.mem_of_getElem? (i := 517) rfl
set_option maxRecDepth 100000 in
theorem evc_58 : evMok (yX7_ifLag, cX7_ifLag, 2, (some .int), 7, 6, 141) := List.mem_of_getElem? (i := 527) rfl
set_option maxRecDepth 100000 in
theorem evc_59 : evMok (yX7_bestPlan, cX7_bestPlan, 7, (some .int), 7, 7, 165) := List.mem_of_getElem? (i := 537) rfl
set_option maxRecDepth 100000 in
theorem evc_60 : evMok (yX7_gainWith, cX7_gainWith, 5, (some .int), 7, 6, 141) := List.mem_of_getElem? (i := 541) rfl
set_option maxRecDepth 100000 in
theorem evc_61 : evMok (yJ9_floorMod_7cf53, cJ9_floorMod_7cf53, 3, (some .int), 10, 0, 0) := List.mem_of_getElem? (i := 394) rfl
set_option maxRecDepth 100000 in
theorem evc_62 : evMok (yJ9_max_7cf53, cJ9_max_7cf53, 2, (some .int), 10, 0, 0) := List.mem_of_getElem? (i := 428) rfl
set_option maxRecDepth 100000 in
theorem evc_63 : evMok (yJ9_min_7cf53, cJ9_min_7cf53, 2, (some .int), 10, 0, 0) := List.mem_of_getElem? (i := 315) rfl
set_option maxRecDepth 100000 in
theorem evc_64 : evMok (yL_cell, cL_cell, 2, (some .int), 9, 0, 0) := List.mem_of_getElem? (i := 431) rfl
set_option maxRecDepth 100000 in
theorem evc_65 : evMok (yL_low, cL_low, 2, (some .int), 9, 0, 0) := List.mem_of_getElem? (i := 436) rfl
set_option maxRecDepth 100000 in
theorem evc_66 : evMok (yL_bid, cL_bid, 3, (some .int), 9, 0, 0) := List.mem_of_getElem? (i := 446) rfl
set_option maxRecDepth 100000 in
theorem evc_67 : evMok (yL_coins, cL_coins, 1, (some .int), 9, 0, 0) := List.mem_of_getElem? (i := 455) rfl
set_option maxRecDepth 100000 in
theorem evc_68 : evMok (yL_roundOf, cL_roundOf, 1, (some .int), 9, 0, 0) := List.mem_of_getElem? (i := 449) rfl
set_option maxRecDepth 100000 in
theorem evc_69 : evMok (yL_higher, cL_higher, 2, (some .boolean), 9, 1, 20) := List.mem_of_getElem? (i := 452) rfl
set_option maxRecDepth 100000 in
theorem evc_70 : evMok (yL_belief, cL_belief, 8, (some .int), 9, 2, 41) := List.mem_of_getElem? (i := 443) rfl
set_option maxRecDepth 100000 in
theorem evc_71 : evMok (yL_round, cL_round, 13, (some .int), 9, 3, 68) := List.mem_of_getElem? (i := 440) rfl
set_option maxRecDepth 100000 in
theorem evc_72 : evMok (yL_waits, cL_waits, 4, (some .boolean), 9, 0, 0) := List.mem_of_getElem? (i := 510) rfl
set_option maxRecDepth 100000 in
theorem evc_73 : evMok (yL_copy, cL_copy, 11, none, 9, 0, 0) := List.mem_of_getElem? (i := 513) rfl
set_option maxRecDepth 100000 in
theorem evc_74 : evMok (yL_same, cL_same, 15, (some .boolean), 9, 3, 68) := List.mem_of_getElem? (i := 460) rfl
set_option maxRecDepth 100000 in
theorem evc_75 : evMok (yL_would, cL_would, 22, (some .boolean), 9, 8, 191) := List.mem_of_getElem? (i := 507) rfl
theorem evMT_ok_1 : ∀ q ∈ evMT_1, evMok q := List.forall_mem_cons.mpr ⟨evc_0, List.forall_mem_cons.mpr ⟨evc_1, List.forall_mem_cons.mpr ⟨evc_2, List.forall_mem_cons.mpr ⟨evc_3, List.forall_mem_cons.mpr ⟨evc_4, List.forall_mem_cons.mpr ⟨evc_5, List.forall_mem_cons.mpr ⟨evc_6, List.forall_mem_cons.mpr ⟨evc_7, List.forall_mem_cons.mpr ⟨evc_8, List.forall_mem_cons.mpr ⟨evc_9, List.forall_mem_cons.mpr ⟨evc_10, List.forall_mem_cons.mpr ⟨evc_11, List.forall_mem_cons.mpr ⟨evc_12, List.forall_mem_cons.mpr ⟨evc_13, List.forall_mem_cons.mpr ⟨evc_14, fun _ h => absurd h List.not_mem_nil⟩⟩⟩⟩⟩⟩⟩⟩⟩⟩⟩⟩⟩⟩⟩
theorem evMT_ok_2 : ∀ q ∈ evMT_2, evMok q := List.forall_mem_cons.mpr ⟨evc_15, List.forall_mem_cons.mpr ⟨evc_16, List.forall_mem_cons.mpr ⟨evc_17, List.forall_mem_cons.mpr ⟨evc_18, List.forall_mem_cons.mpr ⟨evc_19, List.forall_mem_cons.mpr ⟨evc_20, List.forall_mem_cons.mpr ⟨evc_21, List.forall_mem_cons.mpr ⟨evc_22, List.forall_mem_cons.mpr ⟨evc_23, List.forall_mem_cons.mpr ⟨evc_24, List.forall_mem_cons.mpr ⟨evc_25, List.forall_mem_cons.mpr ⟨evc_26, List.forall_mem_cons.mpr ⟨evc_27, List.forall_mem_cons.mpr ⟨evc_28, List.forall_mem_cons.mpr ⟨evc_29, fun _ h => absurd h List.not_mem_nil⟩⟩⟩⟩⟩⟩⟩⟩⟩⟩⟩⟩⟩⟩⟩
theorem evMT_ok_3 : ∀ q ∈ evMT_3, evMok q := List.forall_mem_cons.mpr ⟨evc_30, List.forall_mem_cons.mpr ⟨evc_31, List.forall_mem_cons.mpr ⟨evc_32, List.forall_mem_cons.mpr ⟨evc_33, List.forall_mem_cons.mpr ⟨evc_34, List.forall_mem_cons.mpr ⟨evc_35, List.forall_mem_cons.mpr ⟨evc_36, List.forall_mem_cons.mpr ⟨evc_37, List.forall_mem_cons.mpr ⟨evc_38, List.forall_mem_cons.mpr ⟨evc_39, List.forall_mem_cons.mpr ⟨evc_40, List.forall_mem_cons.mpr ⟨evc_41, List.forall_mem_cons.mpr ⟨evc_42, List.forall_mem_cons.mpr ⟨evc_43, List.forall_mem_cons.mpr ⟨evc_44, fun _ h => absurd h List.not_mem_nil⟩⟩⟩⟩⟩⟩⟩⟩⟩⟩⟩⟩⟩⟩⟩
theorem evMT_ok_4 : ∀ q ∈ evMT_4, evMok q := List.forall_mem_cons.mpr ⟨evc_45, List.forall_mem_cons.mpr ⟨evc_46, List.forall_mem_cons.mpr ⟨evc_47, List.forall_mem_cons.mpr ⟨evc_48, List.forall_mem_cons.mpr ⟨evc_49, List.forall_mem_cons.mpr ⟨evc_50, List.forall_mem_cons.mpr ⟨evc_51, List.forall_mem_cons.mpr ⟨evc_52, List.forall_mem_cons.mpr ⟨evc_53, List.forall_mem_cons.mpr ⟨evc_54, List.forall_mem_cons.mpr ⟨evc_55, List.forall_mem_cons.mpr ⟨evc_56, List.forall_mem_cons.mpr ⟨evc_57, List.forall_mem_cons.mpr ⟨evc_58, List.forall_mem_cons.mpr ⟨evc_59, fun _ h => absurd h List.not_mem_nil⟩⟩⟩⟩⟩⟩⟩⟩⟩⟩⟩⟩⟩⟩⟩
theorem evMT_ok_5 : ∀ q ∈ evMT_5, evMok q := List.forall_mem_cons.mpr ⟨evc_60, List.forall_mem_cons.mpr ⟨evc_61, List.forall_mem_cons.mpr ⟨evc_62, List.forall_mem_cons.mpr ⟨evc_63, List.forall_mem_cons.mpr ⟨evc_64, List.forall_mem_cons.mpr ⟨evc_65, List.forall_mem_cons.mpr ⟨evc_66, List.forall_mem_cons.mpr ⟨evc_67, List.forall_mem_cons.mpr ⟨evc_68, List.forall_mem_cons.mpr ⟨evc_69, List.forall_mem_cons.mpr ⟨evc_70, List.forall_mem_cons.mpr ⟨evc_71, List.forall_mem_cons.mpr ⟨evc_72, List.forall_mem_cons.mpr ⟨evc_73, List.forall_mem_cons.mpr ⟨evc_74, fun _ h => absurd h List.not_mem_nil⟩⟩⟩⟩⟩⟩⟩⟩⟩⟩⟩⟩⟩⟩⟩
theorem evMT_ok_6 : ∀ q ∈ evMT_6.take 1, evMok q := List.forall_mem_cons.mpr ⟨evc_75, fun _ h => absurd h List.not_mem_nil⟩
abbrev evLawN : Nat := 76
set_option maxRecDepth 100000 in
theorem evMT_ok : ∀ y q, y < evLawN → evMT[y]? = some q → evMok q := by
  intro y q hy hq
  have h : ∀ q ∈ evMT.take evLawN, evMok q := by
    rw [show evMT.take evLawN = evMT_1 ++ (evMT_2 ++ (evMT_3 ++ (evMT_4 ++ (evMT_5 ++ (evMT_6.take 1))))) from rfl]
    exact List.forall_mem_append.mpr ⟨evMT_ok_1, List.forall_mem_append.mpr ⟨evMT_ok_2, List.forall_mem_append.mpr ⟨evMT_ok_3, List.forall_mem_append.mpr ⟨evMT_ok_4, List.forall_mem_append.mpr ⟨evMT_ok_5, evMT_ok_6⟩⟩⟩⟩⟩
  refine h q (List.mem_of_getElem? (i := y) ?_)
  rw [List.getElem?_take]; simp [hy, hq]
def evBT_1 : List (ByteArray × List (Nat × Instr × Nat)) := [(cX0_init, evT_0), (cX0_write, evT_1), (cX0_clear, evT_2), (cX0_copyFrom, evT_3), (cX0_isAbove, evT_4), (cX1_init, evT_5), (cX1_copyFrom, evT_6), (cX2_init, evT_7), (cX2_copyFrom, evT_8), (cX2_copyRows, evT_9), (cX2_bidderAt, evT_10), (cX2_lotAt, evT_11), (cX2_settingAt, evT_12), (cX2_changeSetting, evT_13), (cX2_addBidder, evT_14)]
def evBT_2 : List (ByteArray × List (Nat × Instr × Nat)) := [(cX2_changePlan, evT_15), (cX2_addLot, evT_16), (cX2_tellBid, evT_17), (cX2_letPass, evT_18), (cX2_playOut, evT_19), (cX2_hasLotsLeft, evT_20), (cX2_playRound, evT_21), (cX2_beginLot, evT_22), (cX2_takeBids, evT_23), (cX2_chooseBid, evT_24), (cX2_believed, evT_25), (cX2_noteBid, evT_26), (cX2_echoRound, evT_27), (cX2_endLot, evT_28), (cX2_priceOf, evT_29)]
def evBT_3 : List (ByteArray × List (Nat × Instr × Nat)) := [(cX2_lotsSold, evT_30), (cX2_coinsPaid, evT_31), (cX2_bidsMade, evT_32), (cX2_shadowsMade, evT_33), (cX3_init, evT_34), (cX3_prepare, evT_35), (cX3_settle, evT_36), (cX4_init, evT_37), (cX4_copyFrom, evT_38), (cX5_init, evT_39), (cX6_init, evT_40), (cX6_copyFrom, evT_41), (cX6_clear, evT_42), (cX6_add, evT_43), (cX6_knows, evT_44)]
def evBT_4 : List (ByteArray × List (Nat × Instr × Nat)) := [(cX6_at, evT_45), (cX7_init, evT_46), (cX7_set, evT_47), (cX7_bidder, evT_48), (cX7_plan, evT_49), (cX7_lot, evT_50), (cX7_bid, evT_51), (cX7_pass, evT_52), (cX7_of, evT_53), (cX7_ofLot, evT_54), (cX7_made, evT_55), (cX7_count, evT_56), (cX7_endsIn, evT_57), (cX7_ifLag, evT_58), (cX7_bestPlan, evT_59)]
def evBT_5 : List (ByteArray × List (Nat × Instr × Nat)) := [(cX7_gainWith, evT_60), (cJ9_floorMod_7cf53, evT_61), (cJ9_max_7cf53, evT_62), (cJ9_min_7cf53, evT_63), (cL_cell, evT_64), (cL_low, evT_65), (cL_bid, evT_66), (cL_coins, evT_67), (cL_roundOf, evT_68), (cL_higher, evT_69), (cL_belief, evT_70), (cL_round, evT_71), (cL_waits, evT_72), (cL_copy, evT_73), (cL_same, evT_74)]
def evBT_6 : List (ByteArray × List (Nat × Instr × Nat)) := [(cL_would, evT_75), (cL_law, evT_76)]
def evBT : List (ByteArray × List (Nat × Instr × Nat)) := evBT_1 ++ (evBT_2 ++ (evBT_3 ++ (evBT_4 ++ (evBT_5 ++ (evBT_6)))))
def evBok (q : ByteArray × List (Nat × Instr × Nat)) : Prop := q.2.all (fun z => decide (decode q.1 z.1 = .ok z.2)) = true
theorem evBT_ok_1 : ∀ q ∈ evBT_1, evBok q := List.forall_mem_cons.mpr ⟨evT_ok_0, List.forall_mem_cons.mpr ⟨evT_ok_1, List.forall_mem_cons.mpr ⟨evT_ok_2, List.forall_mem_cons.mpr ⟨evT_ok_3, List.forall_mem_cons.mpr ⟨evT_ok_4, List.forall_mem_cons.mpr ⟨evT_ok_5, List.forall_mem_cons.mpr ⟨evT_ok_6, List.forall_mem_cons.mpr ⟨evT_ok_7, List.forall_mem_cons.mpr ⟨evT_ok_8, List.forall_mem_cons.mpr ⟨evT_ok_9, List.forall_mem_cons.mpr ⟨evT_ok_10, List.forall_mem_cons.mpr ⟨evT_ok_11, List.forall_mem_cons.mpr ⟨evT_ok_12, List.forall_mem_cons.mpr ⟨evT_ok_13, List.forall_mem_cons.mpr ⟨evT_ok_14, fun _ h => absurd h List.not_mem_nil⟩⟩⟩⟩⟩⟩⟩⟩⟩⟩⟩⟩⟩⟩⟩
theorem evBT_ok_2 : ∀ q ∈ evBT_2, evBok q := List.forall_mem_cons.mpr ⟨evT_ok_15, List.forall_mem_cons.mpr ⟨evT_ok_16, List.forall_mem_cons.mpr ⟨evT_ok_17, List.forall_mem_cons.mpr ⟨evT_ok_18, List.forall_mem_cons.mpr ⟨evT_ok_19, List.forall_mem_cons.mpr ⟨evT_ok_20, List.forall_mem_cons.mpr ⟨evT_ok_21, List.forall_mem_cons.mpr ⟨evT_ok_22, List.forall_mem_cons.mpr ⟨evT_ok_23, List.forall_mem_cons.mpr ⟨evT_ok_24, List.forall_mem_cons.mpr ⟨evT_ok_25, List.forall_mem_cons.mpr ⟨evT_ok_26, List.forall_mem_cons.mpr ⟨evT_ok_27, List.forall_mem_cons.mpr ⟨evT_ok_28, List.forall_mem_cons.mpr ⟨evT_ok_29, fun _ h => absurd h List.not_mem_nil⟩⟩⟩⟩⟩⟩⟩⟩⟩⟩⟩⟩⟩⟩⟩
theorem evBT_ok_3 : ∀ q ∈ evBT_3, evBok q := List.forall_mem_cons.mpr ⟨evT_ok_30, List.forall_mem_cons.mpr ⟨evT_ok_31, List.forall_mem_cons.mpr ⟨evT_ok_32, List.forall_mem_cons.mpr ⟨evT_ok_33, List.forall_mem_cons.mpr ⟨evT_ok_34, List.forall_mem_cons.mpr ⟨evT_ok_35, List.forall_mem_cons.mpr ⟨evT_ok_36, List.forall_mem_cons.mpr ⟨evT_ok_37, List.forall_mem_cons.mpr ⟨evT_ok_38, List.forall_mem_cons.mpr ⟨evT_ok_39, List.forall_mem_cons.mpr ⟨evT_ok_40, List.forall_mem_cons.mpr ⟨evT_ok_41, List.forall_mem_cons.mpr ⟨evT_ok_42, List.forall_mem_cons.mpr ⟨evT_ok_43, List.forall_mem_cons.mpr ⟨evT_ok_44, fun _ h => absurd h List.not_mem_nil⟩⟩⟩⟩⟩⟩⟩⟩⟩⟩⟩⟩⟩⟩⟩
theorem evBT_ok_4 : ∀ q ∈ evBT_4, evBok q := List.forall_mem_cons.mpr ⟨evT_ok_45, List.forall_mem_cons.mpr ⟨evT_ok_46, List.forall_mem_cons.mpr ⟨evT_ok_47, List.forall_mem_cons.mpr ⟨evT_ok_48, List.forall_mem_cons.mpr ⟨evT_ok_49, List.forall_mem_cons.mpr ⟨evT_ok_50, List.forall_mem_cons.mpr ⟨evT_ok_51, List.forall_mem_cons.mpr ⟨evT_ok_52, List.forall_mem_cons.mpr ⟨evT_ok_53, List.forall_mem_cons.mpr ⟨evT_ok_54, List.forall_mem_cons.mpr ⟨evT_ok_55, List.forall_mem_cons.mpr ⟨evT_ok_56, List.forall_mem_cons.mpr ⟨evT_ok_57, List.forall_mem_cons.mpr ⟨evT_ok_58, List.forall_mem_cons.mpr ⟨evT_ok_59, fun _ h => absurd h List.not_mem_nil⟩⟩⟩⟩⟩⟩⟩⟩⟩⟩⟩⟩⟩⟩⟩
theorem evBT_ok_5 : ∀ q ∈ evBT_5, evBok q := List.forall_mem_cons.mpr ⟨evT_ok_60, List.forall_mem_cons.mpr ⟨evT_ok_61, List.forall_mem_cons.mpr ⟨evT_ok_62, List.forall_mem_cons.mpr ⟨evT_ok_63, List.forall_mem_cons.mpr ⟨evT_ok_64, List.forall_mem_cons.mpr ⟨evT_ok_65, List.forall_mem_cons.mpr ⟨evT_ok_66, List.forall_mem_cons.mpr ⟨evT_ok_67, List.forall_mem_cons.mpr ⟨evT_ok_68, List.forall_mem_cons.mpr ⟨evT_ok_69, List.forall_mem_cons.mpr ⟨evT_ok_70, List.forall_mem_cons.mpr ⟨evT_ok_71, List.forall_mem_cons.mpr ⟨evT_ok_72, List.forall_mem_cons.mpr ⟨evT_ok_73, List.forall_mem_cons.mpr ⟨evT_ok_74, fun _ h => absurd h List.not_mem_nil⟩⟩⟩⟩⟩⟩⟩⟩⟩⟩⟩⟩⟩⟩⟩
theorem evBT_ok_6 : ∀ q ∈ evBT_6, evBok q := List.forall_mem_cons.mpr ⟨evT_ok_75, List.forall_mem_cons.mpr ⟨evT_ok_76, fun _ h => absurd h List.not_mem_nil⟩⟩
theorem evBT_ok : ∀ q ∈ evBT, evBok q := List.forall_mem_append.mpr ⟨evBT_ok_1, List.forall_mem_append.mpr ⟨evBT_ok_2, List.forall_mem_append.mpr ⟨evBT_ok_3, List.forall_mem_append.mpr ⟨evBT_ok_4, List.forall_mem_append.mpr ⟨evBT_ok_5, evBT_ok_6⟩⟩⟩⟩⟩
set_option maxRecDepth 100000 in
theorem evBT_codes : evBT.map (fun q => q.1) = evMT.map (fun q => q.2.1) := rfl
def evFT_1 : List (Nat × Nat × Nat × Nat × Bool × Nat) := [(0, 9, 0, 0, false, 65), (0, 15, 0, 1, false, 68), (0, 18, 0, 2, false, 71), (1, 10, 1, 8, false, 103), (1, 16, 1, 0, false, 79), (1, 20, 1, 1, false, 82), (1, 23, 1, 2, false, 85), (1, 26, 1, 3, false, 88), (1, 29, 1, 4, false, 91), (1, 32, 1, 5, false, 94), (1, 35, 1, 6, false, 97), (1, 38, 1, 7, false, 100), (2, 9, 2, 0, false, 162), (2, 15, 2, 4, false, 168), (2, 21, 2, 6, false, 172), (2, 27, 2, 7, false, 173), (2, 33, 2, 8, false, 174), (2, 40, 2, 9, false, 175), (2, 53, 2, 1, false, 163), (2, 56, 2, 2, false, 165)]
def evFT_2 : List (Nat × Nat × Nat × Nat × Bool × Nat) := [(2, 59, 2, 3, false, 167), (2, 62, 2, 5, false, 170), (2, 92, 1, 0, true, 80), (2, 95, 1, 1, true, 83), (2, 102, 4, 0, true, 133), (2, 105, 1, 2, true, 87), (2, 124, 4, 4, true, 144), (2, 134, 4, 1, true, 136), (2, 140, 1, 8, true, 104), (2, 145, 4, 5, true, 147), (2, 148, 0, 1, true, 70), (2, 163, 4, 3, true, 142), (2, 166, 0, 0, true, 67), (2, 182, 1, 6, true, 99), (2, 185, 1, 7, true, 102), (2, 200, 4, 2, true, 139), (2, 203, 1, 4, true, 93), (2, 206, 1, 5, true, 96), (2, 207, 1, 3, true, 90), (3, 13, 3, 0, false, 207)]
def evFT_3 : List (Nat × Nat × Nat × Nat × Bool × Nat) := [(3, 18, 3, 1, false, 208), (3, 26, 3, 2, false, 209), (4, 10, 4, 5, false, 145), (4, 16, 4, 0, false, 131), (4, 20, 4, 1, false, 134), (4, 23, 4, 2, false, 137), (4, 26, 4, 3, false, 140), (4, 29, 4, 4, false, 143), (5, 11, 5, 0, false, 224), (6, 9, 6, 0, false, 46), (6, 19, 6, 1, false, 47), (7, 10, 7, 0, false, 243), (7, 16, 7, 1, false, 244), (7, 22, 7, 2, false, 245), (7, 29, 7, 3, false, 246), (7, 33, 7, 4, false, 247), (7, 68, 1, 0, true, 81), (7, 74, 1, 1, true, 84), (7, 77, 1, 3, true, 89), (7, 80, 1, 4, true, 92)]
def evFT_4 : List (Nat × Nat × Nat × Nat × Bool × Nat) := [(7, 83, 1, 5, true, 95), (7, 86, 1, 6, true, 98), (7, 89, 1, 7, true, 101), (7, 92, 2, 4, true, 169), (7, 99, 0, 1, true, 69), (7, 104, 0, 0, true, 66), (7, 107, 1, 2, true, 86), (7, 114, 4, 0, true, 132), (7, 117, 4, 1, true, 135), (7, 120, 4, 5, true, 146), (7, 124, 4, 2, true, 138), (7, 127, 4, 3, true, 141), (7, 130, 2, 9, true, 176), (7, 143, 2, 5, true, 171), (7, 146, 2, 1, true, 164), (7, 149, 2, 2, true, 166), (7, 168, 5, 1, true, 225), (7, 171, 3, 2, true, 210)]
def evFT : List (Nat × Nat × Nat × Nat × Bool × Nat) := evFT_1 ++ (evFT_2 ++ (evFT_3 ++ (evFT_4)))
def evCT_1 : List (Nat × Nat × Nat × Nat × Nat × Bool × Nat × Nat × Nat × Nat) := [(0, 21, 0, 1, 3, false, 286, 287, 288, 14), (1, 9, 2, 0, 0, true, 61, 62, 0, 14), (1, 41, 0, 3, 1, false, 282, 283, 284, 14), (2, 39, 2, 40, 0, true, 42, 43, 0, 12), (2, 44, 2, 5, 0, true, 55, 56, 0, 13), (2, 45, 2, 37, 0, true, 125, 126, 0, 15), (2, 46, 2, 0, 0, true, 161, 62, 0, 14), (2, 65, 0, 9, 1, false, 274, 276, 0, 11), (2, 69, 0, 41, 1, false, 296, 297, 298, 12), (2, 73, 0, 6, 1, false, 278, 279, 280, 13), (2, 76, 0, 38, 1, false, 290, 291, 292, 15), (2, 79, 0, 3, 1, false, 295, 283, 284, 14), (2, 88, 0, 10, 1, false, 324, 325, 326, 11), (2, 98, 0, 11, 1, false, 344, 345, 346, 11), (2, 108, 0, 21, 0, false, 364, 365, 366, 11), (2, 112, 0, 20, 0, false, 532, 519, 520, 11), (2, 115, 0, 22, 0, false, 368, 370, 1, 11), (2, 118, 0, 23, 1, false, 380, 382, 2, 11), (2, 121, 0, 27, 1, false, 414, 416, 5, 11), (2, 127, 0, 12, 1, false, 388, 389, 390, 11)]
def evCT_2 : List (Nat × Nat × Nat × Nat × Nat × Bool × Nat × Nat × Nat × Nat) := [(2, 131, 0, 28, 1, false, 418, 420, 6, 11), (2, 137, 0, 42, 0, false, 372, 373, 374, 12), (2, 144, 0, 2, 0, false, 376, 377, 378, 14), (2, 151, 0, 25, 1, false, 384, 385, 386, 11), (2, 155, 0, 24, 4, false, 399, 401, 3, 11), (2, 159, 0, 26, 4, false, 404, 406, 4, 11), (2, 169, 1, 63, 2, false, 403, 314, 0, 19), (2, 175, 1, 61, 2, false, 392, 393, 0, 19), (2, 178, 0, 4, 1, false, 395, 396, 397, 14), (2, 188, 0, 1, 3, false, 408, 287, 288, 14), (2, 192, 0, 43, 4, false, 409, 410, 411, 12), (2, 196, 0, 29, 1, false, 422, 424, 7, 11), (2, 210, 1, 62, 2, false, 426, 427, 0, 19), (3, 17, 2, 7, 0, false, 206, 31, 0, 11), (3, 22, 0, 8, 1, false, 267, 268, 269, 11), (3, 29, 1, 63, 2, false, 313, 314, 0, 19), (4, 9, 2, 0, 0, true, 130, 62, 0, 14), (4, 32, 0, 3, 1, false, 294, 283, 284, 14), (6, 23, 1, 61, 2, false, 413, 393, 0, 19), (7, 9, 2, 7, 0, false, 30, 31, 0, 11)]
def evCT_3 : List (Nat × Nat × Nat × Nat × Nat × Bool × Nat × Nat × Nat × Nat) := [(7, 21, 2, 34, 0, false, 200, 201, 0, 16), (7, 28, 2, 39, 0, true, 220, 221, 0, 17), (7, 37, 0, 35, 1, false, 263, 264, 265, 16), (7, 41, 0, 13, 2, false, 301, 302, 303, 11), (7, 45, 0, 36, 1, false, 309, 310, 311, 16), (7, 49, 0, 14, 2, false, 320, 321, 322, 11), (7, 52, 0, 15, 2, false, 332, 333, 334, 11), (7, 55, 0, 16, 1, false, 340, 341, 342, 11), (7, 58, 0, 17, 2, false, 352, 353, 354, 11), (7, 61, 0, 18, 1, false, 360, 361, 362, 11), (7, 64, 0, 10, 1, false, 465, 325, 326, 11), (7, 95, 0, 25, 1, false, 466, 385, 386, 11), (7, 110, 0, 11, 1, false, 471, 345, 346, 11), (7, 134, 0, 44, 1, false, 476, 477, 478, 12), (7, 140, 0, 45, 2, false, 480, 481, 482, 12), (7, 152, 0, 30, 0, false, 488, 489, 490, 11), (7, 156, 0, 31, 0, false, 492, 493, 494, 11), (7, 159, 0, 32, 0, false, 496, 497, 498, 11), (7, 162, 0, 33, 0, false, 500, 501, 502, 11), (7, 165, 0, 12, 1, false, 504, 389, 390, 11)]
def evCT_4 : List (Nat × Nat × Nat × Nat × Nat × Bool × Nat × Nat × Nat × Nat) := [(7, 185, 0, 20, 0, false, 518, 519, 520, 11), (7, 189, 0, 8, 1, false, 522, 268, 269, 11), (7, 192, 0, 21, 0, false, 523, 365, 366, 11), (7, 195, 0, 19, 1, false, 528, 529, 530, 11), (7, 199, 0, 60, 2, false, 538, 540, 8, 10), (9, 10, 1, 67, 1, false, 453, 454, 0, 9), (9, 17, 1, 66, 3, false, 444, 445, 0, 9), (9, 21, 1, 68, 1, false, 447, 448, 0, 9), (9, 24, 1, 69, 2, false, 450, 451, 0, 9), (9, 28, 1, 70, 4, false, 441, 442, 0, 9), (9, 33, 0, 53, 2, false, 461, 462, 463, 10), (9, 39, 0, 54, 2, false, 467, 468, 469, 10), (9, 42, 1, 65, 2, false, 434, 435, 0, 9), (9, 45, 0, 55, 2, false, 472, 473, 474, 10), (9, 48, 0, 56, 1, false, 484, 485, 486, 10), (9, 51, 1, 72, 2, false, 508, 509, 0, 9), (9, 55, 1, 73, 10, false, 511, 512, 0, 9), (9, 59, 1, 71, 5, false, 438, 439, 0, 9), (9, 63, 0, 57, 0, false, 514, 515, 516, 10), (9, 67, 0, 58, 1, false, 524, 525, 526, 10)]
def evCT_5 : List (Nat × Nat × Nat × Nat × Nat × Bool × Nat × Nat × Nat × Nat) := [(9, 71, 0, 59, 2, false, 534, 535, 536, 10), (9, 75, 2, 46, 0, false, 22, 23, 0, 10), (9, 76, 1, 64, 2, false, 429, 430, 0, 9), (9, 80, 0, 48, 2, false, 316, 317, 318, 10), (9, 83, 0, 50, 1, false, 336, 337, 338, 10), (9, 86, 0, 49, 2, false, 328, 329, 330, 10), (9, 89, 0, 51, 2, false, 348, 349, 350, 10), (9, 91, 0, 52, 1, false, 356, 357, 358, 10), (9, 94, 0, 47, 2, false, 259, 260, 261, 10), (9, 97, 1, 74, 7, false, 458, 459, 0, 9), (9, 101, 1, 75, 12, false, 505, 506, 0, 9)]
def evCT : List (Nat × Nat × Nat × Nat × Nat × Bool × Nat × Nat × Nat × Nat) := evCT_1 ++ (evCT_2 ++ (evCT_3 ++ (evCT_4 ++ (evCT_5))))
def evNT_1 : List (Nat × Nat × Nat × Nat × Nat × Nat × Nat) := [(0, 3, 3, 64, 26, 27, 0), (1, 1, 3, 58, 26, 27, 0), (2, 3, 3, 33, 26, 27, 0), (2, 47, 0, 271, 273, 272, 18), (3, 3, 3, 203, 26, 27, 0), (4, 1, 3, 128, 26, 27, 0), (5, 3, 3, 223, 26, 27, 0), (6, 1, 3, 45, 26, 27, 0), (6, 13, 0, 300, 273, 272, 18), (7, 1, 3, 25, 26, 27, 0)]
def evNT : List (Nat × Nat × Nat × Nat × Nat × Nat × Nat) := evNT_1
def evWT_1 : List (Nat × Nat × Nat × Nat × Nat × Nat) := [(1, 7, 0, 59, 60, 14), (2, 37, 6, 40, 41, 12), (2, 19, 1, 34, 54, 13), (2, 25, 4, 36, 124, 15), (2, 31, 0, 38, 60, 14), (3, 11, 2, 204, 29, 11), (4, 7, 0, 129, 60, 14), (7, 7, 2, 28, 29, 11), (7, 19, 3, 198, 199, 16), (7, 26, 5, 218, 219, 17), (9, 34, 7, 20, 21, 10)]
def evWT : List (Nat × Nat × Nat × Nat × Nat × Nat) := evWT_1
def evAT_1 : List (Nat × Nat × Nat × Nat × Nat) := [(2, 19, 11, 34, 35), (2, 25, 13, 36, 37), (2, 31, 10, 38, 39), (3, 11, 12, 204, 205), (7, 7, 12, 28, 205)]
def evAT : List (Nat × Nat × Nat × Nat × Nat) := evAT_1
def evLT_1 : List (Nat × Nat × Value × Nat) := [(7, 202, .int (100000), 542), (9, 7, .int (1033861971), 432), (9, 8, .int (650699937), 433), (9, 9, .int (2147483647), 437), (9, 16, .int (131071), 456), (9, 32, .int (99999), 457), (9, 70, .int (-99999), 533), (9, 74, .int (100000), 543)]
def evLT : List (Nat × Nat × Value × Nat) := evLT_1
def evST_1 : List (Nat × Nat × Nat × Nat) := [(2, 82, 0, 305), (2, 85, 1, 307)]
def evST : List (Nat × Nat × Nat × Nat) := evST_1
def evFokB (q : Nat × Nat × Nat × Nat × Bool × Nat) : Bool := match vwCl[q.2.2.1]? with
  | none => false
  | some (C, T, N) => decide (q.2.2.2.1 < N) && (if q.2.2.2.2.1 then decide (lw_tbl[q.2.2.2.2.2]? = some (Cond.fieldLinkNest (evOs q.1) q.2.1 C (T q.2.2.2.1).2.1 (T q.2.2.2.1).2.2.1 "EchoBids")) else decide (lw_tbl[q.2.2.2.2.2]? = some (Cond.fieldLink (evOs q.1) q.2.1 C (T q.2.2.2.1).2.1 (T q.2.2.2.1).2.2.1)))
set_option maxRecDepth 100000 in
theorem evFT_ok : evFT.all evFokB = true := by decide +kernel
def evCokB (q : Nat × Nat × Nat × Nat × Nat × Bool × Nat × Nat × Nat × Nat) : Bool := match q with
  | (o, i, kd, y, n, ne, pl, pb, pc, pd) =>
    (if ne then decide (lw_tbl[pl]? = some (Cond.methodLinkNest (evOs o) i (evName y) "EchoBids")) else decide (lw_tbl[pl]? = some (Cond.methodLink (evOs o) i (evName y)))) &&
    (if kd = 1 then decide (lw_tbl[pb]? = some (Cond.static (evName y))) else decide (lw_tbl[pb]? = some (Cond.instanceMethod (evName y)))) &&
    (if kd = 0 then decide (lw_tbl[pc]? = some (Cond.selects (evName y).cls (evName y) (evName y))) else true) &&
    decide (lw_tbl[pd]? = some (Cond.initialized (evName y).cls)) &&
    decide ((evName y).cls ≠ "java/lang/invoke/MethodHandle" ∧ (evName y).cls ≠ "java/lang/invoke/VarHandle" ∧ (parseMethodDescriptor (evName y).desc).map (fun d => d.parameters.length) = some n) &&
    (if kd = 2 then decide ((evName y).name = "<init>") && decide (evRet y = none) else true) && decide (y < evLawN) && decide (kd < 3) && decide ((evName y).cls = evOs (evOw y))
set_option maxRecDepth 100000 in
theorem evCT_ok : evCT.all evCokB = true := by decide +kernel
def evNokB (q : Nat × Nat × Nat × Nat × Nat × Nat × Nat) : Bool := match q with
  | (o, i, k, p1, p2, p3, p4) =>
    if k = 3 then decide (lw_tbl[p1]? = some (Cond.methodLink (evOs o) i objectInit)) && decide (lw_tbl[p2]? = some (Cond.instanceMethod objectInit)) && decide (p3 = 27)
    else if k = 0 then decide (lw_tbl[p1]? = some (Cond.methodLink (evOs o) i arraycopyName)) && decide (lw_tbl[p2]? = some (Cond.native arraycopyName)) && decide (lw_tbl[p3]? = some (Cond.static arraycopyName)) && decide (lw_tbl[p4]? = some (Cond.initialized "java/lang/System"))
    else if k = 1 then decide (lw_tbl[p1]? = some (Cond.methodLink (evOs o) i ⟨"java/lang/Float", "floatToRawIntBits", "(F)I"⟩)) && decide (lw_tbl[p2]? = some (Cond.native ⟨"java/lang/Float", "floatToRawIntBits", "(F)I"⟩)) && decide (lw_tbl[p3]? = some (Cond.static ⟨"java/lang/Float", "floatToRawIntBits", "(F)I"⟩)) && decide (lw_tbl[p4]? = some (Cond.initialized "java/lang/Float"))
    else if k = 2 then decide (lw_tbl[p1]? = some (Cond.methodLink (evOs o) i ⟨"java/lang/Double", "doubleToRawLongBits", "(D)J"⟩)) && decide (lw_tbl[p2]? = some (Cond.native ⟨"java/lang/Double", "doubleToRawLongBits", "(D)J"⟩)) && decide (lw_tbl[p3]? = some (Cond.static ⟨"java/lang/Double", "doubleToRawLongBits", "(D)J"⟩)) && decide (lw_tbl[p4]? = some (Cond.initialized "java/lang/Double"))
    else false
set_option maxRecDepth 100000 in
theorem evNT_ok : evNT.all evNokB = true := by decide +kernel
theorem evObjCode : Cond.code objectInit ⟨#[0xb1]⟩ 1 none ∈ lw_tbl := List.mem_of_getElem? (i := 27) rfl
def evWokB (q : Nat × Nat × Nat × Nat × Nat × Nat) : Bool := match q with
  | (o, i, ci, p1, p2, p3) => match vwCl[ci]? with
    | none => false
    | some (C, _, N) => decide (lw_tbl[p1]? = some (Cond.classLink (evOs o) i C)) && decide (lw_tbl[p2]? = some (Cond.instantiable C N)) && decide (lw_tbl[p3]? = some (Cond.initialized C))
set_option maxRecDepth 100000 in
theorem evWT_ok : evWT.all evWokB = true := by decide +kernel
/-- the kind of what an array of references holds -/
def evEl (k : Nat) : Nat := match k with
  | 10 => 0
  | 11 => 1
  | 12 => 2
  | _ => 4
def evAokB (q : Nat × Nat × Nat × Nat × Nat) : Bool := match q with
  | (o, i, k, p1, p2) => match vwCl[evEl k]? with
    | none => false
    | some (C, _, _) => decide (10 ≤ k ∧ k ≤ 13) && decide (lw_tbl[p1]? = some (Cond.classLink (evOs o) i C)) && decide (lw_tbl[p2]? = some (Cond.arrayOver (.object C)))
set_option maxRecDepth 100000 in
theorem evAT_ok : evAT.all evAokB = true := by decide +kernel
def evLokB (q : Nat × Nat × Value × Nat) : Bool := match q with
  | (o, i, v, p) => match v with
    | .int x => decide (lw_tbl[p]? = some (Cond.constant (evOs o) i x))
    | .long x => decide (lw_tbl[p]? = some (Cond.constantLong (evOs o) i x))
    | .float x => decide (lw_tbl[p]? = some (Cond.constantFloat (evOs o) i x))
    | .double x => decide (lw_tbl[p]? = some (Cond.constantDouble (evOs o) i x))
    | _ => false
set_option maxRecDepth 100000 in
theorem evLT_ok : evLT.all evLokB = true := by decide +kernel
def evGn (k : Nat) : String := match k with
  | 0 => "LEAST"
  | _ => "GREATEST"
def evSokB (q : Nat × Nat × Nat × Nat) : Bool := match q with
  | (o, i, k, p) => decide (k < 2) && decide (lw_tbl[p]? = some (Cond.fieldLinkNest (evOs o) i "EchoBids" (evGn k) "[I" "EchoBids"))
set_option maxRecDepth 100000 in
theorem evST_ok : evST.all evSokB = true := by decide +kernel
set_option maxRecDepth 100000 in
theorem evOw_ok : ∀ y, y < evLawN → (evName y).cls = evOs (evOw y) := by decide +kernel
def evF (y i : Nat) : Option (Nat × Nat × Bool × Nat) := (evFT.find? (fun q => q.1 == evOw y && q.2.1 == i)).map (fun q => q.2.2)
def evCl (y i : Nat) : Option (Nat × Nat × Nat × Bool × Nat × Nat × Nat × Nat) := (evCT.find? (fun q => q.1 == evOw y && q.2.1 == i)).map (fun q => q.2.2)
def evNa (y i : Nat) : Option (Nat × Nat × Nat × Nat × Nat) := (evNT.find? (fun q => q.1 == evOw y && q.2.1 == i)).map (fun q => q.2.2)
def evWn (y i : Nat) : Option (Nat × Nat × Nat × Nat) := (evWT.find? (fun q => q.1 == evOw y && q.2.1 == i)).map (fun q => q.2.2)
def evAn (y i : Nat) : Option (Nat × Nat × Nat) := (evAT.find? (fun q => q.1 == evOw y && q.2.1 == i)).map (fun q => q.2.2)
def evLd (y i : Nat) : Option (Value × Nat) := (evLT.find? (fun q => q.1 == evOw y && q.2.1 == i)).map (fun q => q.2.2)
def evSt (y i : Nat) : Option (Nat × Nat) := (evST.find? (fun q => q.1 == evOw y && q.2.1 == i)).map (fun q => q.2.2)
/-- the fields of kind k: how many; which hold references; which are final; their types -/
def evFN (k : Nat) : Nat := match k with
  | 0 => 3
  | 1 => 9
  | 2 => 10
  | 3 => 3
  | 4 => 6
  | 5 => 8
  | 6 => 2
  | 7 => 5
  | 8 => 0
  | _ => 0
def evIsR (k j : Nat) : Bool := match k with
  | 0 => false
  | 1 => decide (j = 8)
  | 2 => decide (j = 0) || decide (j = 6) || decide (j = 7) || decide (j = 8) || decide (j = 9)
  | 3 => decide (j = 0)
  | 4 => decide (j = 5)
  | 5 => decide (j = 0)
  | 6 => decide (j = 0)
  | 7 => decide (j = 0) || decide (j = 1) || decide (j = 2) || decide (j = 3) || decide (j = 4)
  | 8 => false
  | _ => false
def evTy (k : Nat) : Nat → FieldType := match k with
  | 0 => tyX0
  | 1 => tyX1
  | 2 => tyX2
  | 3 => tyX3
  | 4 => tyX4
  | 5 => tyX5
  | 6 => tyX6
  | 7 => tyX7
  | 8 => tyX8
  | _ => fun _ => .int
def evFin (k j : Nat) : Bool := match vwCl[k]? with
  | some (_, T, _) => (T j).2.2.2
  | none => false
/-- the words that a call hands on -/
def evTb : List Cond := lw_tbl.filter goodWord
