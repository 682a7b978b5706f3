def evOwn : List String := [RX0, RX1, RX2, RX3, RX4, RX5, RX6, RX7, RX8, RL, RJxe99ae, RJxf58ca, RJ9]
def evOs (o : Nat) : String := evOwn.getD o ""
/-- a method: its name, bytes, room of its frame, what it answers, its owner, how many frames and words it needs above its own -/
abbrev evMI : Type := MethodName × ByteArray × Nat × Option FieldType × Nat × Nat × Nat
def evMT_1 : List (evMI) := [(yX0_init, cX0_init, 1, none, 0, 1, 20), (yX0_write, cX0_write, 4, none, 0, 0, 0), (yX0_clear, cX0_clear, 1, none, 0, 1, 23), (yX0_copyFrom, cX0_copyFrom, 2, none, 0, 1, 23), (yX0_isAbove, cX0_isAbove, 2, (some .boolean), 0, 0, 0), (yX1_init, cX1_init, 1, none, 1, 2, 40), (yX1_copyFrom, cX1_copyFrom, 2, none, 1, 2, 44), (yX2_init, cX2_init, 2, none, 2, 3, 60), (yX2_copyFrom, cX2_copyFrom, 2, none, 2, 4, 87), (yX2_copyRows, cX2_copyRows, 3, none, 2, 3, 65), (yX2_bidderAt, cX2_bidderAt, 2, (some (.object "EchoBids$Bidder")), 2, 0, 0), (yX2_lotAt, cX2_lotAt, 2, (some (.object "EchoBids$Lot")), 2, 0, 0), (yX2_settingAt, cX2_settingAt, 2, (some .int), 2, 0, 0), (yX2_changeSetting, cX2_changeSetting, 4, (some .int), 2, 0, 0), (yX2_addBidder, cX2_addBidder, 4, (some .int), 2, 1, 21)]
def evMT_2 : List (evMI) := [(yX2_changePlan, cX2_changePlan, 5, (some .int), 2, 1, 21), (yX2_addLot, cX2_addLot, 3, (some .int), 2, 1, 21), (yX2_tellBid, cX2_tellBid, 5, (some .int), 2, 1, 21), (yX2_letPass, cX2_letPass, 4, (some .int), 2, 5, 119), (yX2_playOut, cX2_playOut, 3, none, 2, 5, 119), (yX2_hasLotsLeft, cX2_hasLotsLeft, 1, (some .boolean), 2, 0, 0), (yX2_playRound, cX2_playRound, 3, (some .boolean), 2, 4, 97), (yX2_beginLot, cX2_beginLot, 3, none, 2, 2, 43), (yX2_takeBids, cX2_takeBids, 7, none, 2, 3, 71), (yX2_chooseBid, cX2_chooseBid, 7, (some .int), 2, 1, 21), (yX2_believed, cX2_believed, 3, (some (.object "EchoBids$Bid")), 2, 1, 22), (yX2_noteBid, cX2_noteBid, 5, none, 2, 2, 47), (yX2_echoRound, cX2_echoRound, 4, none, 2, 2, 44), (yX2_endLot, cX2_endLot, 3, none, 2, 2, 45), (yX2_priceOf, cX2_priceOf, 5, (some .int), 2, 1, 21)]
def evMT_3 : List (evMI) := [(yX2_lotsSold, cX2_lotsSold, 4, (some .int), 2, 1, 21), (yX2_coinsPaid, cX2_coinsPaid, 4, (some .int), 2, 1, 21), (yX2_worthSold, cX2_worthSold, 4, (some .int), 2, 1, 21), (yX2_bidsMade, cX2_bidsMade, 4, (some .int), 2, 1, 21), (yX2_shadowsMade, cX2_shadowsMade, 4, (some .int), 2, 1, 21), (yX3_init, cX3_init, 2, none, 3, 4, 81), (yX3_prepare, cX3_prepare, 2, none, 3, 5, 108), (yX3_settle, cX3_settle, 2, (some .int), 3, 1, 21), (yX3_takeBack, cX3_takeBack, 2, (some .int), 3, 5, 108), (yX4_init, cX4_init, 1, none, 4, 2, 40), (yX4_copyFrom, cX4_copyFrom, 2, none, 4, 2, 44), (yX5_init, cX5_init, 1, none, 5, 1, 20), (yX5_append, cX5_append, 5, (some .int), 5, 1, 26), (yX5_countSigns, cX5_countSigns, 7, (some .int), 5, 0, 0), (yX5_empty, cX5_empty, 2, (some .int), 5, 0, 0)]
def evMT_4 : List (evMI) := [(yX5_findFault, cX5_findFault, 2, (some .int), 5, 5, 105), (yX5_rewind, cX5_rewind, 1, none, 5, 0, 0), (yX5_readOrder, cX5_readOrder, 1, (some .boolean), 5, 4, 85), (yX5_sign, cX5_sign, 1, (some .int), 5, 0, 0), (yX5_atDigit, cX5_atDigit, 2, (some .boolean), 5, 1, 20), (yX5_expect, cX5_expect, 2, none, 5, 1, 20), (yX5_readDigit, cX5_readDigit, 2, (some .int), 5, 2, 41), (yX5_readNumber, cX5_readNumber, 4, (some .int), 5, 3, 62), (yX6_init, cX6_init, 1, none, 6, 1, 20), (yX6_copyFrom, cX6_copyFrom, 2, none, 6, 1, 26), (yX6_clear, cX6_clear, 1, none, 6, 0, 0), (yX6_add, cX6_add, 6, none, 6, 1, 22), (yX6_knows, cX6_knows, 2, (some .boolean), 6, 0, 0), (yX6_at, cX6_at, 4, (some .int), 6, 1, 22), (yX7_init, cX7_init, 1, none, 7, 5, 102)]
def evMT_5 : List (evMI) := [(yX7_set, cX7_set, 3, (some .int), 7, 6, 129), (yX7_bidder, cX7_bidder, 3, (some .int), 7, 6, 129), (yX7_plan, cX7_plan, 3, (some .int), 7, 6, 129), (yX7_lot, cX7_lot, 2, (some .int), 7, 6, 129), (yX7_bid, cX7_bid, 3, (some .int), 7, 6, 129), (yX7_pass, cX7_pass, 2, (some .int), 7, 6, 142), (yX7_of, cX7_of, 4, (some .int), 7, 2, 44), (yX7_ofLot, cX7_ofLot, 4, (some .int), 7, 1, 21), (yX7_made, cX7_made, 3, (some .int), 7, 2, 45), (yX7_count, cX7_count, 2, (some .int), 7, 2, 44), (yX7_shadows, cX7_shadows, 2, (some .int), 7, 2, 44), (yX7_dear, cX7_dear, 2, (some .long), 7, 2, 44), (yX7_endsIn, cX7_endsIn, 2, (some .int), 7, 5, 119), (yX7_ifLag, cX7_ifLag, 2, (some .int), 7, 6, 141), (yX7_bestPlan, cX7_bestPlan, 7, (some .int), 7, 7, 165)]
def evMT_6 : List (evMI) := [(yX7_put, cX7_put, 3, (some .int), 7, 2, 50), (yX7_wipe, cX7_wipe, 1, (some .int), 7, 1, 21), (yX7_fault, cX7_fault, 1, (some .int), 7, 6, 126), (yX7_carryOut, cX7_carryOut, 2, (some .int), 7, 7, 162), (yX7_undo, cX7_undo, 1, (some .int), 7, 6, 129), (yX7_save, cX7_save, 3, (some .int), 7, 5, 108), (yX7_restore, cX7_restore, 3, (some .int), 7, 6, 129), (yX7_gainWith, cX7_gainWith, 5, (some .int), 7, 6, 141), (yX7_carryOrder, cX7_carryOrder, 1, (some .int), 7, 6, 142), (yX7_floatBits, cX7_floatBits, 4, (some .int), 7, 0, 0), (yX7_doubleBits, cX7_doubleBits, 8, (some .long), 7, 0, 0), (yX8_init, cX8_init, 1, none, 8, 1, 20), (yX8_moves, cX8_moves, 5, none, 8, 0, 0), (yX8_within, cX8_within, 3, (some .boolean), 8, 0, 0), (yX8_record, cX8_record, 2, none, 8, 1, 24)]
def evMT_7 : List (evMI) := [(yX8_isBidder, cX8_isBidder, 2, (some .boolean), 8, 1, 22), (yX8_isLot, cX8_isLot, 2, (some .boolean), 8, 1, 22), (yX8_bidderPart, cX8_bidderPart, 3, (some .int), 8, 0, 0), (yX8_setBidder, cX8_setBidder, 4, none, 8, 0, 0), (yX8_adds, cX8_adds, 4, none, 8, 0, 0), (yX8_lotPart, cX8_lotPart, 3, (some .int), 8, 0, 0), (yX8_setLot, cX8_setLot, 4, none, 8, 0, 0), (yX8_ofAll, cX8_ofAll, 4, (some .int), 8, 1, 22), (yX8_withHow, cX8_withHow, 4, (some .int), 8, 1, 22), (yX8_firstWaiting, cX8_firstWaiting, 3, (some .int), 8, 1, 22), (yX8_hears, cX8_hears, 5, none, 8, 0, 0), (yX8_believes, cX8_believes, 4, none, 8, 1, 24), (yX8_limitOf, cX8_limitOf, 3, (some .int), 8, 1, 22), (yX8_bidOf, cX8_bidOf, 4, (some .int), 8, 2, 47), (yX8_begins, cX8_begins, 3, none, 8, 1, 23)]
def evMT_8 : List (evMI) := [(yX8_keepsBest, cX8_keepsBest, 5, none, 8, 0, 0), (yX8_keepsMade, cX8_keepsMade, 5, none, 8, 0, 0), (yX8_makesBids, cX8_makesBids, 6, (some .boolean), 8, 1, 24), (yX8_grows, cX8_grows, 3, none, 8, 1, 24), (yX8_priceOf, cX8_priceOf, 5, (some .int), 8, 1, 22), (yX8_ends, cX8_ends, 4, none, 8, 2, 46), (yX8_runsOn, cX8_runsOn, 3, (some .boolean), 8, 3, 70), (yX8_round, cX8_round, 3, (some .int), 8, 4, 92), (yX8_passes, cX8_passes, 4, (some .int), 8, 5, 114), (yX8_isValue, cX8_isValue, 2, (some .boolean), 8, 1, 22), (yX8_set, cX8_set, 4, (some .int), 8, 2, 45), (yX8_whyNoBidder, cX8_whyNoBidder, 3, (some .int), 8, 1, 22), (yX8_comes, cX8_comes, 5, (some .int), 8, 1, 23), (yX8_bidder, cX8_bidder, 4, (some .int), 8, 2, 47), (yX8_plan, cX8_plan, 4, (some .int), 8, 2, 45)]
def evMT_9 : List (evMI) := [(yX8_whyNoLot, cX8_whyNoLot, 2, (some .int), 8, 1, 22), (yX8_lotComes, cX8_lotComes, 3, (some .int), 8, 1, 23), (yX8_lot, cX8_lot, 3, (some .int), 8, 2, 45), (yX8_whyNotTold, cX8_whyNotTold, 3, (some .int), 8, 2, 43), (yX8_bid, cX8_bid, 5, (some .int), 8, 3, 65), (yX8_whyNotPassed, cX8_whyNotPassed, 2, (some .int), 8, 1, 22), (yX8_pass, cX8_pass, 3, (some .int), 8, 6, 137), (yX8_belief, cX8_belief, 3, (some .int), 8, 2, 47), (yX8_of, cX8_of, 3, (some .int), 8, 3, 69), (yX8_ofLot, cX8_ofLot, 3, (some .int), 8, 2, 43), (yX8_made, cX8_made, 3, (some .int), 8, 1, 22), (yX8_count, cX8_count, 2, (some .int), 8, 2, 45), (yX8_shadows, cX8_shadows, 2, (some .int), 8, 2, 46), (yX8_dear, cX8_dear, 2, (some .long), 8, 2, 47), (yX8_hasLots, cX8_hasLots, 1, (some .boolean), 8, 2, 44)]
def evMT_10 : List (evMI) := [(yX8_endsIn, cX8_endsIn, 4, (some .int), 8, 5, 114), (yX8_goesFar, cX8_goesFar, 2, none, 8, 5, 114), (yX8_ifLag, cX8_ifLag, 3, (some .int), 8, 6, 135), (yX8_gainOf, cX8_gainOf, 2, (some .int), 8, 1, 22), (yX8_bestPlan, cX8_bestPlan, 9, (some .int), 8, 6, 135), (yX8_put, cX8_put, 8, (some .int), 8, 1, 22), (yX8_wipe, cX8_wipe, 2, (some .int), 8, 0, 0), (yX8_character, cX8_character, 2, (some .int), 8, 0, 0), (yX8_isNext, cX8_isNext, 3, (some .boolean), 8, 1, 21), (yX8_isDigit, cX8_isDigit, 1, (some .boolean), 8, 1, 22), (yX8_takes, cX8_takes, 2, none, 8, 0, 0), (yX8_takesDigit, cX8_takesDigit, 1, (some .boolean), 8, 2, 42), (yX8_takesNumber, cX8_takesNumber, 2, (some .boolean), 8, 2, 42), (yX8_readsOrder, cX8_readsOrder, 1, (some .boolean), 8, 3, 63), (yX8_findFault, cX8_findFault, 1, (some .int), 8, 4, 83)]
def evMT_11 : List (evMI) := [(yX8_fault, cX8_fault, 1, (some .int), 8, 5, 103), (yX8_whyNotDone, cX8_whyNotDone, 1, (some .int), 8, 3, 65), (yX8_does, cX8_does, 1, none, 8, 6, 137), (yX8_carryOut, cX8_carryOut, 3, (some .int), 8, 7, 157), (yX8_undo, cX8_undo, 1, (some .int), 8, 1, 24), (yX8_save, cX8_save, 2, (some .int), 8, 1, 24), (yX8_restore, cX8_restore, 2, (some .int), 8, 2, 45), (yJxe99ae_isNaN_b9ae7, cJxe99ae_isNaN_b9ae7, 2, (some .boolean), 10, 0, 0), (yJxe99ae_doubleToLongBits_ccdee, cJxe99ae_doubleToLongBits_ccdee, 2, (some .long), 10, 1, 26), (yJxf58ca_isNaN_12338, cJxf58ca_isNaN_12338, 1, (some .boolean), 11, 0, 0), (yJxf58ca_floatToIntBits_5c35a, cJxf58ca_floatToIntBits_5c35a, 1, (some .int), 11, 1, 26), (yJ9_floorMod_7cf53, cJ9_floorMod_7cf53, 3, (some .int), 12, 0, 0), (yJ9_max_7cf53, cJ9_max_7cf53, 2, (some .int), 12, 0, 0), (yJ9_min_7cf53, cJ9_min_7cf53, 2, (some .int), 12, 0, 0), (yL_law, cL_law, 4, (some .boolean), 9, 8, 191)]
def evMT : List (evMI) := evMT_1 ++ (evMT_2 ++ (evMT_3 ++ (evMT_4 ++ (evMT_5 ++ (evMT_6 ++ (evMT_7 ++ (evMT_8 ++ (evMT_9 ++ (evMT_10 ++ (evMT_11))))))))))
abbrev mX0_init : Nat := 0
abbrev mX0_write : Nat := 1
abbrev mX0_clear : Nat := 2
abbrev mX0_copyFrom : Nat := 3
abbrev mX0_isAbove : Nat := 4
abbrev mX1_init : Nat := 5
abbrev mX1_copyFrom : Nat := 6
abbrev mX2_init : Nat := 7
abbrev mX2_copyFrom : Nat := 8
abbrev mX2_copyRows : Nat := 9
abbrev mX2_bidderAt : Nat := 10
abbrev mX2_lotAt : Nat := 11
abbrev mX2_settingAt : Nat := 12
abbrev mX2_changeSetting : Nat := 13
abbrev mX2_addBidder : Nat := 14
abbrev mX2_changePlan : Nat := 15
abbrev mX2_addLot : Nat := 16
abbrev mX2_tellBid : Nat := 17
abbrev mX2_letPass : Nat := 18
abbrev mX2_playOut : Nat := 19
abbrev mX2_hasLotsLeft : Nat := 20
abbrev mX2_playRound : Nat := 21
abbrev mX2_beginLot : Nat := 22
abbrev mX2_takeBids : Nat := 23
abbrev mX2_chooseBid : Nat := 24
abbrev mX2_believed : Nat := 25
abbrev mX2_noteBid : Nat := 26
abbrev mX2_echoRound : Nat := 27
abbrev mX2_endLot : Nat := 28
abbrev mX2_priceOf : Nat := 29
abbrev mX2_lotsSold : Nat := 30
abbrev mX2_coinsPaid : Nat := 31
abbrev mX2_worthSold : Nat := 32
abbrev mX2_bidsMade : Nat := 33
abbrev mX2_shadowsMade : Nat := 34
abbrev mX3_init : Nat := 35
abbrev mX3_prepare : Nat := 36
abbrev mX3_settle : Nat := 37
abbrev mX3_takeBack : Nat := 38
abbrev mX4_init : Nat := 39
abbrev mX4_copyFrom : Nat := 40
abbrev mX5_init : Nat := 41
abbrev mX5_append : Nat := 42
abbrev mX5_countSigns : Nat := 43
abbrev mX5_empty : Nat := 44
abbrev mX5_findFault : Nat := 45
abbrev mX5_rewind : Nat := 46
abbrev mX5_readOrder : Nat := 47
abbrev mX5_sign : Nat := 48
abbrev mX5_atDigit : Nat := 49
abbrev mX5_expect : Nat := 50
abbrev mX5_readDigit : Nat := 51
abbrev mX5_readNumber : Nat := 52
abbrev mX6_init : Nat := 53
abbrev mX6_copyFrom : Nat := 54
abbrev mX6_clear : Nat := 55
abbrev mX6_add : Nat := 56
abbrev mX6_knows : Nat := 57
abbrev mX6_at : Nat := 58
abbrev mX7_init : Nat := 59
abbrev mX7_set : Nat := 60
abbrev mX7_bidder : Nat := 61
abbrev mX7_plan : Nat := 62
abbrev mX7_lot : Nat := 63
abbrev mX7_bid : Nat := 64
abbrev mX7_pass : Nat := 65
abbrev mX7_of : Nat := 66
abbrev mX7_ofLot : Nat := 67
abbrev mX7_made : Nat := 68
abbrev mX7_count : Nat := 69
abbrev mX7_shadows : Nat := 70
abbrev mX7_dear : Nat := 71
abbrev mX7_endsIn : Nat := 72
abbrev mX7_ifLag : Nat := 73
abbrev mX7_bestPlan : Nat := 74
abbrev mX7_put : Nat := 75
abbrev mX7_wipe : Nat := 76
abbrev mX7_fault : Nat := 77
abbrev mX7_carryOut : Nat := 78
abbrev mX7_undo : Nat := 79
abbrev mX7_save : Nat := 80
abbrev mX7_restore : Nat := 81
abbrev mX7_gainWith : Nat := 82
abbrev mX7_carryOrder : Nat := 83
abbrev mX7_floatBits : Nat := 84
abbrev mX7_doubleBits : Nat := 85
abbrev mX8_init : Nat := 86
abbrev mX8_moves : Nat := 87
abbrev mX8_within : Nat := 88
abbrev mX8_record : Nat := 89
abbrev mX8_isBidder : Nat := 90
abbrev mX8_isLot : Nat := 91
abbrev mX8_bidderPart : Nat := 92
abbrev mX8_setBidder : Nat := 93
abbrev mX8_adds : Nat := 94
abbrev mX8_lotPart : Nat := 95
abbrev mX8_setLot : Nat := 96
abbrev mX8_ofAll : Nat := 97
abbrev mX8_withHow : Nat := 98
abbrev mX8_firstWaiting : Nat := 99
abbrev mX8_hears : Nat := 100
abbrev mX8_believes : Nat := 101
abbrev mX8_limitOf : Nat := 102
abbrev mX8_bidOf : Nat := 103
abbrev mX8_begins : Nat := 104
abbrev mX8_keepsBest : Nat := 105
abbrev mX8_keepsMade : Nat := 106
abbrev mX8_makesBids : Nat := 107
abbrev mX8_grows : Nat := 108
abbrev mX8_priceOf : Nat := 109
abbrev mX8_ends : Nat := 110
abbrev mX8_runsOn : Nat := 111
abbrev mX8_round : Nat := 112
abbrev mX8_passes : Nat := 113
abbrev mX8_isValue : Nat := 114
abbrev mX8_set : Nat := 115
abbrev mX8_whyNoBidder : Nat := 116
abbrev mX8_comes : Nat := 117
abbrev mX8_bidder : Nat := 118
abbrev mX8_plan : Nat := 119
abbrev mX8_whyNoLot : Nat := 120
abbrev mX8_lotComes : Nat := 121
abbrev mX8_lot : Nat := 122
abbrev mX8_whyNotTold : Nat := 123
abbrev mX8_bid : Nat := 124
abbrev mX8_whyNotPassed : Nat := 125
abbrev mX8_pass : Nat := 126
abbrev mX8_belief : Nat := 127
abbrev mX8_of : Nat := 128
abbrev mX8_ofLot : Nat := 129
abbrev mX8_made : Nat := 130
abbrev mX8_count : Nat := 131
abbrev mX8_shadows : Nat := 132
abbrev mX8_dear : Nat := 133
abbrev mX8_hasLots : Nat := 134
abbrev mX8_endsIn : Nat := 135
abbrev mX8_goesFar : Nat := 136
abbrev mX8_ifLag : Nat := 137
abbrev mX8_gainOf : Nat := 138
abbrev mX8_bestPlan : Nat := 139
abbrev mX8_put : Nat := 140
abbrev mX8_wipe : Nat := 141
abbrev mX8_character : Nat := 142
abbrev mX8_isNext : Nat := 143
abbrev mX8_isDigit : Nat := 144
abbrev mX8_takes : Nat := 145
abbrev mX8_takesDigit : Nat := 146
abbrev mX8_takesNumber : Nat := 147
abbrev mX8_readsOrder : Nat := 148
abbrev mX8_findFault : Nat := 149
abbrev mX8_fault : Nat := 150
abbrev mX8_whyNotDone : Nat := 151
abbrev mX8_does : Nat := 152
abbrev mX8_carryOut : Nat := 153
abbrev mX8_undo : Nat := 154
abbrev mX8_save : Nat := 155
abbrev mX8_restore : Nat := 156
abbrev mJxe99ae_isNaN_b9ae7 : Nat := 157
abbrev mJxe99ae_doubleToLongBits_ccdee : Nat := 158
abbrev mJxf58ca_isNaN_12338 : Nat := 159
abbrev mJxf58ca_floatToIntBits_5c35a : Nat := 160
abbrev mJ9_floorMod_7cf53 : Nat := 161
abbrev mJ9_max_7cf53 : Nat := 162
abbrev mJ9_min_7cf53 : Nat := 163
abbrev mL_law : Nat := 164
def evM0 : evMI := (yX0_init, cX0_init, 0, none, 0, 0, 0)
def evName (y : Nat) : MethodName := (evMT.getD y evM0).1
def evCode (y : Nat) : ByteArray := (evMT.getD y evM0).2.1
def evML (y : Nat) : Nat := (evMT.getD y evM0).2.2.1
def evRet (y : Nat) : Option FieldType := (evMT.getD y evM0).2.2.2.1
def evOw (y : Nat) : Nat := (evMT.getD y evM0).2.2.2.2.1
def evFr (y : Nat) : Nat := (evMT.getD y evM0).2.2.2.2.2.1
def evLo (y : Nat) : Nat := (evMT.getD y evM0).2.2.2.2.2.2
def evMok (q : evMI) : Prop := Cond.code q.1 q.2.1 q.2.2.1 q.2.2.2.1 ∈ lw_tbl
set_option maxRecDepth 100000 in
theorem evc_0 : evMok (yX0_init, cX0_init, 1, none, 0, 1, 20) := List.mem_of_getElem? (i := 117) rfl
set_option maxRecDepth 100000 in
theorem evc_1 : evMok (yX0_write, cX0_write, 4, none, 0, 0, 0) := List.mem_of_getElem? (i := 353) rfl
set_option maxRecDepth 100000 in
theorem evc_2 : evMok (yX0_clear, cX0_clear, 1, none, 0, 1, 23) := List.mem_of_getElem? (i := 443) rfl
set_option maxRecDepth 100000 in
theorem evc_3 : evMok (yX0_copyFrom, cX0_copyFrom, 2, none, 0, 1, 23) := List.mem_of_getElem? (i := 349) rfl
set_option maxRecDepth 100000 in
theorem evc_4 : evMok (yX0_isAbove, cX0_isAbove, 2, (some .boolean), 0, 0, 0) := List.mem_of_getElem? (i := 462) rfl
set_option maxRecDepth 100000 in
theorem evc_5 : evMok (yX1_init, cX1_init, 1, none, 1, 2, 40) := List.mem_of_getElem? (i := 111) rfl
set_option maxRecDepth 100000 in
theorem evc_6 : evMok (yX1_copyFrom, cX1_copyFrom, 2, none, 1, 2, 44) := List.mem_of_getElem? (i := 345) rfl
set_option maxRecDepth 100000 in
theorem evc_7 : evMok (yX2_init, cX2_init, 2, none, 2, 3, 60) := List.mem_of_getElem? (i := 86) rfl
set_option maxRecDepth 100000 in
theorem evc_8 : evMok (yX2_copyFrom, cX2_copyFrom, 2, none, 2, 4, 87) := List.mem_of_getElem? (i := 334) rfl
set_option maxRecDepth 100000 in
theorem evc_9 : evMok (yX2_copyRows, cX2_copyRows, 3, none, 2, 3, 65) := List.mem_of_getElem? (i := 341) rfl
set_option maxRecDepth 100000 in
theorem evc_10 : evMok (yX2_bidderAt, cX2_bidderAt, 2, (some (.object "EchoBids$Bidder")), 2, 0, 0) := List.mem_of_getElem? (i := 391) rfl
set_option maxRecDepth 100000 in
theorem evc_11 : evMok (yX2_lotAt, cX2_lotAt, 2, (some (.object "EchoBids$Lot")), 2, 0, 0) := List.mem_of_getElem? (i := 411) rfl
set_option maxRecDepth 100000 in
theorem evc_12 : evMok (yX2_settingAt, cX2_settingAt, 2, (some .int), 2, 0, 0) := List.mem_of_getElem? (i := 455) rfl
set_option maxRecDepth 100000 in
theorem evc_13 : evMok (yX2_changeSetting, cX2_changeSetting, 4, (some .int), 2, 0, 0) := List.mem_of_getElem? (i := 368) rfl
set_option maxRecDepth 100000 in
theorem evc_14 : evMok (yX2_addBidder, cX2_addBidder, 4, (some .int), 2, 1, 21) := List.mem_of_getElem? (i := 387) rfl
set_option maxRecDepth 100000 in
theorem evc_15 : evMok (yX2_changePlan, cX2_changePlan, 5, (some .int), 2, 1, 21) := List.mem_of_getElem? (i := 399) rfl
set_option maxRecDepth 100000 in
theorem evc_16 : evMok (yX2_addLot, cX2_addLot, 3, (some .int), 2, 1, 21) := List.mem_of_getElem? (i := 407) rfl
set_option maxRecDepth 100000 in
theorem evc_17 : evMok (yX2_tellBid, cX2_tellBid, 5, (some .int), 2, 1, 21) := List.mem_of_getElem? (i := 419) rfl
set_option maxRecDepth 100000 in
theorem evc_18 : evMok (yX2_letPass, cX2_letPass, 4, (some .int), 2, 5, 119) := List.mem_of_getElem? (i := 427) rfl
set_option maxRecDepth 100000 in
theorem evc_19 : evMok (yX2_playOut, cX2_playOut, 3, none, 2, 5, 119) := List.mem_of_getElem? (i := 579) rfl
set_option maxRecDepth 100000 in
theorem evc_20 : evMok (yX2_hasLotsLeft, cX2_hasLotsLeft, 1, (some .boolean), 2, 0, 0) := List.mem_of_getElem? (i := 569) rfl
set_option maxRecDepth 100000 in
theorem evc_21 : evMok (yX2_playRound, cX2_playRound, 3, (some .boolean), 2, 4, 97) := List.mem_of_getElem? (i := 431) rfl
set_option maxRecDepth 100000 in
theorem evc_22 : evMok (yX2_beginLot, cX2_beginLot, 3, none, 2, 2, 43) := List.mem_of_getElem? (i := 435) rfl
set_option maxRecDepth 100000 in
theorem evc_23 : evMok (yX2_takeBids, cX2_takeBids, 7, none, 2, 3, 71) := List.mem_of_getElem? (i := 447) rfl
set_option maxRecDepth 100000 in
theorem evc_24 : evMok (yX2_chooseBid, cX2_chooseBid, 7, (some .int), 2, 1, 21) := List.mem_of_getElem? (i := 466) rfl
set_option maxRecDepth 100000 in
theorem evc_25 : evMok (yX2_believed, cX2_believed, 3, (some (.object "EchoBids$Bid")), 2, 1, 22) := List.mem_of_getElem? (i := 451) rfl
set_option maxRecDepth 100000 in
theorem evc_26 : evMok (yX2_noteBid, cX2_noteBid, 5, none, 2, 2, 47) := List.mem_of_getElem? (i := 471) rfl
set_option maxRecDepth 100000 in
theorem evc_27 : evMok (yX2_echoRound, cX2_echoRound, 4, none, 2, 2, 44) := List.mem_of_getElem? (i := 481) rfl
set_option maxRecDepth 100000 in
theorem evc_28 : evMok (yX2_endLot, cX2_endLot, 3, none, 2, 2, 45) := List.mem_of_getElem? (i := 485) rfl
set_option maxRecDepth 100000 in
theorem evc_29 : evMok (yX2_priceOf, cX2_priceOf, 5, (some .int), 2, 1, 21) := List.mem_of_getElem? (i := 489) rfl
set_option maxRecDepth 100000 in
theorem evc_30 : evMok (yX2_lotsSold, cX2_lotsSold, 4, (some .int), 2, 1, 21) := List.mem_of_getElem? (i := 523) rfl
set_option maxRecDepth 100000 in
theorem evc_31 : evMok (yX2_coinsPaid, cX2_coinsPaid, 4, (some .int), 2, 1, 21) := List.mem_of_getElem? (i := 527) rfl
set_option maxRecDepth 100000 in
theorem evc_32 : evMok (yX2_worthSold, cX2_worthSold, 4, (some .int), 2, 1, 21) := List.mem_of_getElem? (i := 553) rfl
set_option maxRecDepth 100000 in
theorem evc_33 : evMok (yX2_bidsMade, cX2_bidsMade, 4, (some .int), 2, 1, 21) := List.mem_of_getElem? (i := 531) rfl
set_option maxRecDepth 100000 in
theorem evc_34 : evMok (yX2_shadowsMade, cX2_shadowsMade, 4, (some .int), 2, 1, 21) := List.mem_of_getElem? (i := 535) rfl
set_option maxRecDepth 100000 in
theorem evc_35 : evMok (yX3_init, cX3_init, 2, none, 3, 4, 81) := List.mem_of_getElem? (i := 256) rfl
set_option maxRecDepth 100000 in
theorem evc_36 : evMok (yX3_prepare, cX3_prepare, 2, none, 3, 5, 108) := List.mem_of_getElem? (i := 330) rfl
set_option maxRecDepth 100000 in
theorem evc_37 : evMok (yX3_settle, cX3_settle, 2, (some .int), 3, 1, 21) := List.mem_of_getElem? (i := 376) rfl
set_option maxRecDepth 100000 in
theorem evc_38 : evMok (yX3_takeBack, cX3_takeBack, 2, (some .int), 3, 5, 108) := List.mem_of_getElem? (i := 665) rfl
set_option maxRecDepth 100000 in
theorem evc_39 : evMok (yX4_init, cX4_init, 1, none, 4, 2, 40) := List.mem_of_getElem? (i := 181) rfl
set_option maxRecDepth 100000 in
theorem evc_40 : evMok (yX4_copyFrom, cX4_copyFrom, 2, none, 4, 2, 44) := List.mem_of_getElem? (i := 357) rfl
set_option maxRecDepth 100000 in
theorem evc_41 : evMok (yX5_init, cX5_init, 1, none, 5, 1, 20) := List.mem_of_getElem? (i := 276) rfl
set_option maxRecDepth 100000 in
theorem evc_42 : evMok (yX5_append, cX5_append, 5, (some .int), 5, 1, 26) := List.mem_of_getElem? (i := 597) rfl
set_option maxRecDepth 100000 in
theorem evc_43 : evMok (yX5_countSigns, cX5_countSigns, 7, (some .int), 5, 0, 0) := List.mem_of_getElem? (i := 600) rfl
set_option maxRecDepth 100000 in
theorem evc_44 : evMok (yX5_empty, cX5_empty, 2, (some .int), 5, 0, 0) := List.mem_of_getElem? (i := 611) rfl
set_option maxRecDepth 100000 in
theorem evc_45 : evMok (yX5_findFault, cX5_findFault, 2, (some .int), 5, 5, 105) := List.mem_of_getElem? (i := 619) rfl
set_option maxRecDepth 100000 in
theorem evc_46 : evMok (yX5_rewind, cX5_rewind, 1, none, 5, 0, 0) := List.mem_of_getElem? (i := 623) rfl
set_option maxRecDepth 100000 in
theorem evc_47 : evMok (yX5_readOrder, cX5_readOrder, 1, (some .boolean), 5, 4, 85) := List.mem_of_getElem? (i := 627) rfl
set_option maxRecDepth 100000 in
theorem evc_48 : evMok (yX5_sign, cX5_sign, 1, (some .int), 5, 0, 0) := List.mem_of_getElem? (i := 631) rfl
set_option maxRecDepth 100000 in
theorem evc_49 : evMok (yX5_atDigit, cX5_atDigit, 2, (some .boolean), 5, 1, 20) := List.mem_of_getElem? (i := 643) rfl
set_option maxRecDepth 100000 in
theorem evc_50 : evMok (yX5_expect, cX5_expect, 2, none, 5, 1, 20) := List.mem_of_getElem? (i := 647) rfl
set_option maxRecDepth 100000 in
theorem evc_51 : evMok (yX5_readDigit, cX5_readDigit, 2, (some .int), 5, 2, 41) := List.mem_of_getElem? (i := 639) rfl
set_option maxRecDepth 100000 in
theorem evc_52 : evMok (yX5_readNumber, cX5_readNumber, 4, (some .int), 5, 3, 62) := List.mem_of_getElem? (i := 635) rfl
set_option maxRecDepth 100000 in
theorem evc_53 : evMok (yX6_init, cX6_init, 1, none, 6, 1, 20) := List.mem_of_getElem? (i := 98) rfl
set_option maxRecDepth 100000 in
theorem evc_54 : evMok (yX6_copyFrom, cX6_copyFrom, 2, none, 6, 1, 26) := List.mem_of_getElem? (i := 363) rfl
set_option maxRecDepth 100000 in
theorem evc_55 : evMok (yX6_clear, cX6_clear, 1, none, 6, 0, 0) := List.mem_of_getElem? (i := 439) rfl
set_option maxRecDepth 100000 in
theorem evc_56 : evMok (yX6_add, cX6_add, 6, none, 6, 1, 22) := List.mem_of_getElem? (i := 476) rfl
set_option maxRecDepth 100000 in
theorem evc_57 : evMok (yX6_knows, cX6_knows, 2, (some .boolean), 6, 0, 0) := List.mem_of_getElem? (i := 511) rfl
set_option maxRecDepth 100000 in
theorem evc_58 : evMok (yX6_at, cX6_at, 4, (some .int), 6, 1, 22) := List.mem_of_getElem? (i := 515) rfl
set_option maxRecDepth 100000 in
theorem evc_59 : evMok (yX7_init, cX7_init, 1, none, 7, 5, 102) := List.mem_of_getElem? (i := 78) rfl
set_option maxRecDepth 100000 in
theorem evc_60 : evMok (yX7_set, cX7_set, 3, (some .int), 7, 6, 129) := List.mem_of_getElem? (i := 326) rfl
set_option maxRecDepth 100000 in
theorem evc_61 : evMok (yX7_bidder, cX7_bidder, 3, (some .int), 7, 6, 129) := List.mem_of_getElem? (i := 383) rfl
set_option maxRecDepth 100000 in
theorem evc_62 : evMok (yX7_plan, cX7_plan, 3, (some .int), 7, 6, 129) := List.mem_of_getElem? (i := 395) rfl
set_option maxRecDepth 100000 in
theorem evc_63 : evMok (yX7_lot, cX7_lot, 2, (some .int), 7, 6, 129) := List.mem_of_getElem? (i := 403) rfl
set_option maxRecDepth 100000 in
theorem evc_64 : evMok (yX7_bid, cX7_bid, 3, (some .int), 7, 6, 129) := List.mem_of_getElem? (i := 415) rfl
set_option maxRecDepth 100000 in
theorem evc_65 : evMok (yX7_pass, cX7_pass, 2, (some .int), 7, 6, 142) := List.mem_of_getElem? (i := 423) rfl
set_option maxRecDepth 100000 in
theorem evc_66 : evMok (yX7_of, cX7_of, 4, (some .int), 7, 2, 44) := List.mem_of_getElem? (i := 496) rfl
set_option maxRecDepth 100000 in
theorem evc_67 : evMok (yX7_ofLot, cX7_ofLot, 4, (some .int), 7, 1, 21) := List.mem_of_getElem? (i := 502) rfl
set_option maxRecDepth 100000 in
theorem evc_68 : evMok (yX7_made, cX7_made, 3, (some .int), 7, 2, 45) := List.mem_of_getElem? (i := 507) rfl
set_option maxRecDepth 100000 in
theorem evc_69 : evMok (yX7_count, cX7_count, 2, (some .int), 7, 2, 44) := List.mem_of_getElem? (i := 519) rfl
set_option maxRecDepth 100000 in
theorem evc_70 : evMok (yX7_shadows, cX7_shadows, 2, (some .int), 7, 2, 44) := List.mem_of_getElem? (i := 540) rfl
set_option maxRecDepth 100000 in
theorem evc_71 : evMok (yX7_dear, cX7_dear, 2, (some .long), 7, 2, 44) := List.mem_of_getElem? (i := 549) rfl
set_option maxRecDepth 100000 in
theorem evc_72 : evMok (yX7_endsIn, cX7_endsIn, 2, (some .int), 7, 5, 119) := List.mem_of_getElem? (i := 565) rfl
set_option maxRecDepth 100000 in
theorem evc_73 : evMok (yX7_ifLag, cX7_ifLag, 2, (some .int), 7, 6, 141) := List.mem_of_getElem? (i := 575) rfl
set_option maxRecDepth 100000 in
theorem evc_74 : evMok (yX7_bestPlan, cX7_bestPlan, 7, (some .int), 7, 7, 165) := List.mem_of_getElem? (i := 584) rfl
set_option maxRecDepth 100000 in
theorem evc_75 : evMok (yX7_put, cX7_put, 3, (some .int), 7, 2, 50) := List.mem_of_getElem? (i := 593) rfl
set_option maxRecDepth 100000 in
theorem evc_76 : evMok (yX7_wipe, cX7_wipe, 1, (some .int), 7, 1, 21) := List.mem_of_getElem? (i := 607) rfl
set_option maxRecDepth 100000 in
theorem evc_77 : evMok (yX7_fault, cX7_fault, 1, (some .int), 7, 6, 126) := List.mem_of_getElem? (i := 615) rfl
set_option maxRecDepth 100000 in
theorem evc_78 : evMok (yX7_carryOut, cX7_carryOut, 2, (some .int), 7, 7, 162) := List.mem_of_getElem? (i := 651) rfl
set_option maxRecDepth 100000 in
theorem evc_79 : evMok (yX7_undo, cX7_undo, 1, (some .int), 7, 6, 129) := List.mem_of_getElem? (i := 661) rfl
set_option maxRecDepth 100000 in
theorem evc_80 : evMok (yX7_save, cX7_save, 3, (some .int), 7, 5, 108) := List.mem_of_getElem? (i := 669) rfl
set_option maxRecDepth 100000 in
theorem evc_81 : evMok (yX7_restore, cX7_restore, 3, (some .int), 7, 6, 129) := List.mem_of_getElem? (i := 673) rfl
set_option maxRecDepth 100000 in
theorem evc_82 : evMok (yX7_gainWith, cX7_gainWith, 5, (some .int), 7, 6, 141) := List.mem_of_getElem? (i := 588) rfl
set_option maxRecDepth 100000 in
theorem evc_83 : evMok (yX7_carryOrder, cX7_carryOrder, 1, (some .int), 7, 6, 142) := List.mem_of_getElem? (i := 657) rfl
set_option maxRecDepth 100000 in
theorem evc_84 : evMok (yX7_floatBits, cX7_floatBits, 4, (some .int), 7, 0, 0) := List.mem_of_getElem? (i := 543) rfl
set_option maxRecDepth 100000 in
theorem evc_85 : evMok (yX7_doubleBits, cX7_doubleBits, 8, (some .long), 7, 0, 0) := List.mem_of_getElem? (i := 556) rfl
set_option maxRecDepth 100000 in
theorem evc_86 : evMok (yX8_init, cX8_init, 1, none, 8, 1, 20) := List.mem_of_getElem? (i := 678) rfl
set_option maxRecDepth 100000 in
theorem evc_87 : evMok (yX8_moves, cX8_moves, 5, none, 8, 0, 0) := List.mem_of_getElem? (i := 745) rfl
set_option maxRecDepth 100000 in
theorem evc_88 : evMok (yX8_within, cX8_within, 3, (some .boolean), 8, 0, 0) := List.mem_of_getElem? (i := 738) rfl
set_option maxRecDepth 100000 in
theorem evc_89 : evMok (yX8_record, cX8_record, 2, none, 8, 1, 24) := List.mem_of_getElem? (i := 742) rfl
set_option maxRecDepth 100000 in
theorem evc_90 : evMok (yX8_isBidder, cX8_isBidder, 2, (some .boolean), 8, 1, 22) := List.mem_of_getElem? (i := 769) rfl
set_option maxRecDepth 100000 in
theorem evc_91 : evMok (yX8_isLot, cX8_isLot, 2, (some .boolean), 8, 1, 22) := List.mem_of_getElem? (i := 889) rfl
set_option maxRecDepth 100000 in
theorem evc_92 : evMok (yX8_bidderPart, cX8_bidderPart, 3, (some .int), 8, 0, 0) := List.mem_of_getElem? (i := 773) rfl
set_option maxRecDepth 100000 in
theorem evc_93 : evMok (yX8_setBidder, cX8_setBidder, 4, none, 8, 0, 0) := List.mem_of_getElem? (i := 761) rfl
set_option maxRecDepth 100000 in
theorem evc_94 : evMok (yX8_adds, cX8_adds, 4, none, 8, 0, 0) := List.mem_of_getElem? (i := 853) rfl
set_option maxRecDepth 100000 in
theorem evc_95 : evMok (yX8_lotPart, cX8_lotPart, 3, (some .int), 8, 0, 0) := List.mem_of_getElem? (i := 821) rfl
set_option maxRecDepth 100000 in
theorem evc_96 : evMok (yX8_setLot, cX8_setLot, 4, none, 8, 0, 0) := List.mem_of_getElem? (i := 789) rfl
set_option maxRecDepth 100000 in
theorem evc_97 : evMok (yX8_ofAll, cX8_ofAll, 4, (some .int), 8, 1, 22) := List.mem_of_getElem? (i := 905) rfl
set_option maxRecDepth 100000 in
theorem evc_98 : evMok (yX8_withHow, cX8_withHow, 4, (some .int), 8, 1, 22) := List.mem_of_getElem? (i := 901) rfl
set_option maxRecDepth 100000 in
theorem evc_99 : evMok (yX8_firstWaiting, cX8_firstWaiting, 3, (some .int), 8, 1, 22) := List.mem_of_getElem? (i := 817) rfl
set_option maxRecDepth 100000 in
theorem evc_100 : evMok (yX8_hears, cX8_hears, 5, none, 8, 0, 0) := List.mem_of_getElem? (i := 841) rfl
set_option maxRecDepth 100000 in
theorem evc_101 : evMok (yX8_believes, cX8_believes, 4, none, 8, 1, 24) := List.mem_of_getElem? (i := 837) rfl
set_option maxRecDepth 100000 in
theorem evc_102 : evMok (yX8_limitOf, cX8_limitOf, 3, (some .int), 8, 1, 22) := List.mem_of_getElem? (i := 845) rfl
set_option maxRecDepth 100000 in
theorem evc_103 : evMok (yX8_bidOf, cX8_bidOf, 4, (some .int), 8, 2, 47) := List.mem_of_getElem? (i := 833) rfl
set_option maxRecDepth 100000 in
theorem evc_104 : evMok (yX8_begins, cX8_begins, 3, none, 8, 1, 23) := List.mem_of_getElem? (i := 825) rfl
set_option maxRecDepth 100000 in
theorem evc_105 : evMok (yX8_keepsBest, cX8_keepsBest, 5, none, 8, 0, 0) := List.mem_of_getElem? (i := 857) rfl
set_option maxRecDepth 100000 in
theorem evc_106 : evMok (yX8_keepsMade, cX8_keepsMade, 5, none, 8, 0, 0) := List.mem_of_getElem? (i := 861) rfl
set_option maxRecDepth 100000 in
theorem evc_107 : evMok (yX8_makesBids, cX8_makesBids, 6, (some .boolean), 8, 1, 24) := List.mem_of_getElem? (i := 849) rfl
set_option maxRecDepth 100000 in
theorem evc_108 : evMok (yX8_grows, cX8_grows, 3, none, 8, 1, 24) := List.mem_of_getElem? (i := 865) rfl
set_option maxRecDepth 100000 in
theorem evc_109 : evMok (yX8_priceOf, cX8_priceOf, 5, (some .int), 8, 1, 22) := List.mem_of_getElem? (i := 873) rfl
set_option maxRecDepth 100000 in
theorem evc_110 : evMok (yX8_ends, cX8_ends, 4, none, 8, 2, 46) := List.mem_of_getElem? (i := 869) rfl
set_option maxRecDepth 100000 in
theorem evc_111 : evMok (yX8_runsOn, cX8_runsOn, 3, (some .boolean), 8, 3, 70) := List.mem_of_getElem? (i := 829) rfl
set_option maxRecDepth 100000 in
theorem evc_112 : evMok (yX8_round, cX8_round, 3, (some .int), 8, 4, 92) := List.mem_of_getElem? (i := 813) rfl
set_option maxRecDepth 100000 in
theorem evc_113 : evMok (yX8_passes, cX8_passes, 4, (some .int), 8, 5, 114) := List.mem_of_getElem? (i := 809) rfl
set_option maxRecDepth 100000 in
theorem evc_114 : evMok (yX8_isValue, cX8_isValue, 2, (some .boolean), 8, 1, 22) := List.mem_of_getElem? (i := 735) rfl
set_option maxRecDepth 100000 in
theorem evc_115 : evMok (yX8_set, cX8_set, 4, (some .int), 8, 2, 45) := List.mem_of_getElem? (i := 732) rfl
set_option maxRecDepth 100000 in
theorem evc_116 : evMok (yX8_whyNoBidder, cX8_whyNoBidder, 3, (some .int), 8, 1, 22) := List.mem_of_getElem? (i := 753) rfl
set_option maxRecDepth 100000 in
theorem evc_117 : evMok (yX8_comes, cX8_comes, 5, (some .int), 8, 1, 23) := List.mem_of_getElem? (i := 757) rfl
set_option maxRecDepth 100000 in
theorem evc_118 : evMok (yX8_bidder, cX8_bidder, 4, (some .int), 8, 2, 47) := List.mem_of_getElem? (i := 749) rfl
set_option maxRecDepth 100000 in
theorem evc_119 : evMok (yX8_plan, cX8_plan, 4, (some .int), 8, 2, 45) := List.mem_of_getElem? (i := 765) rfl
set_option maxRecDepth 100000 in
theorem evc_120 : evMok (yX8_whyNoLot, cX8_whyNoLot, 2, (some .int), 8, 1, 22) := List.mem_of_getElem? (i := 781) rfl
set_option maxRecDepth 100000 in
theorem evc_121 : evMok (yX8_lotComes, cX8_lotComes, 3, (some .int), 8, 1, 23) := List.mem_of_getElem? (i := 785) rfl
set_option maxRecDepth 100000 in
theorem evc_122 : evMok (yX8_lot, cX8_lot, 3, (some .int), 8, 2, 45) := List.mem_of_getElem? (i := 777) rfl
set_option maxRecDepth 100000 in
theorem evc_123 : evMok (yX8_whyNotTold, cX8_whyNotTold, 3, (some .int), 8, 2, 43) := List.mem_of_getElem? (i := 797) rfl
set_option maxRecDepth 100000 in
theorem evc_124 : evMok (yX8_bid, cX8_bid, 5, (some .int), 8, 3, 65) := List.mem_of_getElem? (i := 793) rfl
set_option maxRecDepth 100000 in
theorem evc_125 : evMok (yX8_whyNotPassed, cX8_whyNotPassed, 2, (some .int), 8, 1, 22) := List.mem_of_getElem? (i := 805) rfl
set_option maxRecDepth 100000 in
theorem evc_126 : evMok (yX8_pass, cX8_pass, 3, (some .int), 8, 6, 137) := List.mem_of_getElem? (i := 801) rfl
set_option maxRecDepth 100000 in
theorem evc_127 : evMok (yX8_belief, cX8_belief, 3, (some .int), 8, 2, 47) := List.mem_of_getElem? (i := 881) rfl
set_option maxRecDepth 100000 in
theorem evc_128 : evMok (yX8_of, cX8_of, 3, (some .int), 8, 3, 69) := List.mem_of_getElem? (i := 877) rfl
set_option maxRecDepth 100000 in
theorem evc_129 : evMok (yX8_ofLot, cX8_ofLot, 3, (some .int), 8, 2, 43) := List.mem_of_getElem? (i := 885) rfl
set_option maxRecDepth 100000 in
theorem evc_130 : evMok (yX8_made, cX8_made, 3, (some .int), 8, 1, 22) := List.mem_of_getElem? (i := 893) rfl
set_option maxRecDepth 100000 in
theorem evc_131 : evMok (yX8_count, cX8_count, 2, (some .int), 8, 2, 45) := List.mem_of_getElem? (i := 897) rfl
set_option maxRecDepth 100000 in
theorem evc_132 : evMok (yX8_shadows, cX8_shadows, 2, (some .int), 8, 2, 46) := List.mem_of_getElem? (i := 909) rfl
set_option maxRecDepth 100000 in
theorem evc_133 : evMok (yX8_dear, cX8_dear, 2, (some .long), 8, 2, 47) := List.mem_of_getElem? (i := 923) rfl
set_option maxRecDepth 100000 in
theorem evc_134 : evMok (yX8_hasLots, cX8_hasLots, 1, (some .boolean), 8, 2, 44) := List.mem_of_getElem? (i := 941) rfl
set_option maxRecDepth 100000 in
theorem evc_135 : evMok (yX8_endsIn, cX8_endsIn, 4, (some .int), 8, 5, 114) := List.mem_of_getElem? (i := 937) rfl
set_option maxRecDepth 100000 in
theorem evc_136 : evMok (yX8_goesFar, cX8_goesFar, 2, none, 8, 5, 114) := List.mem_of_getElem? (i := 949) rfl
set_option maxRecDepth 100000 in
theorem evc_137 : evMok (yX8_ifLag, cX8_ifLag, 3, (some .int), 8, 6, 135) := List.mem_of_getElem? (i := 945) rfl
set_option maxRecDepth 100000 in
theorem evc_138 : evMok (yX8_gainOf, cX8_gainOf, 2, (some .int), 8, 1, 22) := List.mem_of_getElem? (i := 957) rfl
set_option maxRecDepth 100000 in
theorem evc_139 : evMok (yX8_bestPlan, cX8_bestPlan, 9, (some .int), 8, 6, 135) := List.mem_of_getElem? (i := 953) rfl
set_option maxRecDepth 100000 in
theorem evc_140 : evMok (yX8_put, cX8_put, 8, (some .int), 8, 1, 22) := List.mem_of_getElem? (i := 962) rfl
set_option maxRecDepth 100000 in
theorem evc_141 : evMok (yX8_wipe, cX8_wipe, 2, (some .int), 8, 0, 0) := List.mem_of_getElem? (i := 967) rfl
set_option maxRecDepth 100000 in
theorem evc_142 : evMok (yX8_character, cX8_character, 2, (some .int), 8, 0, 0) := List.mem_of_getElem? (i := 983) rfl
set_option maxRecDepth 100000 in
theorem evc_143 : evMok (yX8_isNext, cX8_isNext, 3, (some .boolean), 8, 1, 21) := List.mem_of_getElem? (i := 999) rfl
set_option maxRecDepth 100000 in
theorem evc_144 : evMok (yX8_isDigit, cX8_isDigit, 1, (some .boolean), 8, 1, 22) := List.mem_of_getElem? (i := 991) rfl
set_option maxRecDepth 100000 in
theorem evc_145 : evMok (yX8_takes, cX8_takes, 2, none, 8, 0, 0) := List.mem_of_getElem? (i := 995) rfl
set_option maxRecDepth 100000 in
theorem evc_146 : evMok (yX8_takesDigit, cX8_takesDigit, 1, (some .boolean), 8, 2, 42) := List.mem_of_getElem? (i := 1003) rfl
set_option maxRecDepth 100000 in
theorem evc_147 : evMok (yX8_takesNumber, cX8_takesNumber, 2, (some .boolean), 8, 2, 42) := List.mem_of_getElem? (i := 987) rfl
set_option maxRecDepth 100000 in
theorem evc_148 : evMok (yX8_readsOrder, cX8_readsOrder, 1, (some .boolean), 8, 3, 63) := List.mem_of_getElem? (i := 979) rfl
set_option maxRecDepth 100000 in
theorem evc_149 : evMok (yX8_findFault, cX8_findFault, 1, (some .int), 8, 4, 83) := List.mem_of_getElem? (i := 975) rfl
set_option maxRecDepth 100000 in
theorem evc_150 : evMok (yX8_fault, cX8_fault, 1, (some .int), 8, 5, 103) := List.mem_of_getElem? (i := 971) rfl
set_option maxRecDepth 100000 in
theorem evc_151 : evMok (yX8_whyNotDone, cX8_whyNotDone, 1, (some .int), 8, 3, 65) := List.mem_of_getElem? (i := 1011) rfl
set_option maxRecDepth 100000 in
theorem evc_152 : evMok (yX8_does, cX8_does, 1, none, 8, 6, 137) := List.mem_of_getElem? (i := 1015) rfl
set_option maxRecDepth 100000 in
theorem evc_153 : evMok (yX8_carryOut, cX8_carryOut, 3, (some .int), 8, 7, 157) := List.mem_of_getElem? (i := 1007) rfl
set_option maxRecDepth 100000 in
theorem evc_154 : evMok (yX8_undo, cX8_undo, 1, (some .int), 8, 1, 24) := List.mem_of_getElem? (i := 1019) rfl
set_option maxRecDepth 100000 in
theorem evc_155 : evMok (yX8_save, cX8_save, 2, (some .int), 8, 1, 24) := List.mem_of_getElem? (i := 1023) rfl
set_option maxRecDepth 100000 in
theorem evc_156 : evMok (yX8_restore, cX8_restore, 2, (some .int), 8, 2, 45) := List.mem_of_getElem? (i := 1027) rfl
set_option maxRecDepth 100000 in
theorem evc_157 : evMok (yJxe99ae_isNaN_b9ae7, cJxe99ae_isNaN_b9ae7, 2, (some .boolean), 10, 0, 0) := List.mem_of_getElem? (i := 929) rfl
set_option maxRecDepth 100000 in
theorem evc_158 : evMok (yJxe99ae_doubleToLongBits_ccdee, cJxe99ae_doubleToLongBits_ccdee, 2, (some .long), 10, 1, 26) := List.mem_of_getElem? (i := 926) rfl
set_option maxRecDepth 100000 in
theorem evc_159 : evMok (yJxf58ca_isNaN_12338, cJxf58ca_isNaN_12338, 1, (some .boolean), 11, 0, 0) := List.mem_of_getElem? (i := 915) rfl
set_option maxRecDepth 100000 in
theorem evc_160 : evMok (yJxf58ca_floatToIntBits_5c35a, cJxf58ca_floatToIntBits_5c35a, 1, (some .int), 11, 1, 26) := List.mem_of_getElem? (i := 912) rfl
set_option maxRecDepth 100000 in
theorem evc_161 : evMok (yJ9_floorMod_7cf53, cJ9_floorMod_7cf53, 3, (some .int), 12, 0, 0) := List.mem_of_getElem? (i := 458) rfl
set_option maxRecDepth 100000 in
theorem evc_162 : evMok (yJ9_max_7cf53, cJ9_max_7cf53, 2, (some .int), 12, 0, 0) := List.mem_of_getElem? (i := 492) rfl
set_option maxRecDepth 100000 in
theorem evc_163 : evMok (yJ9_min_7cf53, cJ9_min_7cf53, 2, (some .int), 12, 0, 0) := List.mem_of_getElem? (i := 379) rfl
theorem evMT_ok_1 : ∀ q ∈ evMT_1, evMok q := List.forall_mem_cons.mpr ⟨evc_0, List.forall_mem_cons.mpr ⟨evc_1, List.forall_mem_cons.mpr ⟨evc_2, List.forall_mem_cons.mpr ⟨evc_3, List.forall_mem_cons.mpr ⟨evc_4, List.forall_mem_cons.mpr ⟨evc_5, List.forall_mem_cons.mpr ⟨evc_6, List.forall_mem_cons.mpr ⟨evc_7, List.forall_mem_cons.mpr ⟨evc_8, List.forall_mem_cons.mpr ⟨evc_9, List.forall_mem_cons.mpr ⟨evc_10, List.forall_mem_cons.mpr ⟨evc_11, List.forall_mem_cons.mpr ⟨evc_12, List.forall_mem_cons.mpr ⟨evc_13, List.forall_mem_cons.mpr ⟨evc_14, fun _ h => absurd h List.not_mem_nil⟩⟩⟩⟩⟩⟩⟩⟩⟩⟩⟩⟩⟩⟩⟩
theorem evMT_ok_2 : ∀ q ∈ evMT_2, evMok q := List.forall_mem_cons.mpr ⟨evc_15, List.forall_mem_cons.mpr ⟨evc_16, List.forall_mem_cons.mpr ⟨evc_17, List.forall_mem_cons.mpr ⟨evc_18, List.forall_mem_cons.mpr ⟨evc_19, List.forall_mem_cons.mpr ⟨evc_20, List.forall_mem_cons.mpr ⟨evc_21, List.forall_mem_cons.mpr ⟨evc_22, List.forall_mem_cons.mpr ⟨evc_23, List.forall_mem_cons.mpr ⟨evc_24, List.forall_mem_cons.mpr ⟨evc_25, List.forall_mem_cons.mpr ⟨evc_26, List.forall_mem_cons.mpr ⟨evc_27, List.forall_mem_cons.mpr ⟨evc_28, List.forall_mem_cons.mpr ⟨evc_29, fun _ h => absurd h List.not_mem_nil⟩⟩⟩⟩⟩⟩⟩⟩⟩⟩⟩⟩⟩⟩⟩
theorem evMT_ok_3 : ∀ q ∈ evMT_3, evMok q := List.forall_mem_cons.mpr ⟨evc_30, List.forall_mem_cons.mpr ⟨evc_31, List.forall_mem_cons.mpr ⟨evc_32, List.forall_mem_cons.mpr ⟨evc_33, List.forall_mem_cons.mpr ⟨evc_34, List.forall_mem_cons.mpr ⟨evc_35, List.forall_mem_cons.mpr ⟨evc_36, List.forall_mem_cons.mpr ⟨evc_37, List.forall_mem_cons.mpr ⟨evc_38, List.forall_mem_cons.mpr ⟨evc_39, List.forall_mem_cons.mpr ⟨evc_40, List.forall_mem_cons.mpr ⟨evc_41, List.forall_mem_cons.mpr ⟨evc_42, List.forall_mem_cons.mpr ⟨evc_43, List.forall_mem_cons.mpr ⟨evc_44, fun _ h => absurd h List.not_mem_nil⟩⟩⟩⟩⟩⟩⟩⟩⟩⟩⟩⟩⟩⟩⟩
theorem evMT_ok_4 : ∀ q ∈ evMT_4, evMok q := List.forall_mem_cons.mpr ⟨evc_45, List.forall_mem_cons.mpr ⟨evc_46, List.forall_mem_cons.mpr ⟨evc_47, List.forall_mem_cons.mpr ⟨evc_48, List.forall_mem_cons.mpr ⟨evc_49, List.forall_mem_cons.mpr ⟨evc_50, List.forall_mem_cons.mpr ⟨evc_51, List.forall_mem_cons.mpr ⟨evc_52, List.forall_mem_cons.mpr ⟨evc_53, List.forall_mem_cons.mpr ⟨evc_54, List.forall_mem_cons.mpr ⟨evc_55, List.forall_mem_cons.mpr ⟨evc_56, List.forall_mem_cons.mpr ⟨evc_57, List.forall_mem_cons.mpr ⟨evc_58, List.forall_mem_cons.mpr ⟨evc_59, fun _ h => absurd h List.not_mem_nil⟩⟩⟩⟩⟩⟩⟩⟩⟩⟩⟩⟩⟩⟩⟩
theorem evMT_ok_5 : ∀ q ∈ evMT_5, evMok q := List.forall_mem_cons.mpr ⟨evc_60, List.forall_mem_cons.mpr ⟨evc_61, List.forall_mem_cons.mpr ⟨evc_62, List.forall_mem_cons.mpr ⟨evc_63, List.forall_mem_cons.mpr ⟨evc_64, List.forall_mem_cons.mpr ⟨evc_65, List.forall_mem_cons.mpr ⟨evc_66, List.forall_mem_cons.mpr ⟨evc_67, List.forall_mem_cons.mpr ⟨evc_68, List.forall_mem_cons.mpr ⟨evc_69, List.forall_mem_cons.mpr ⟨evc_70, List.forall_mem_cons.mpr ⟨evc_71, List.forall_mem_cons.mpr ⟨evc_72, List.forall_mem_cons.mpr ⟨evc_73, List.forall_mem_cons.mpr ⟨evc_74, fun _ h => absurd h List.not_mem_nil⟩⟩⟩⟩⟩⟩⟩⟩⟩⟩⟩⟩⟩⟩⟩
theorem evMT_ok_6 : ∀ q ∈ evMT_6, evMok q := List.forall_mem_cons.mpr ⟨evc_75, List.forall_mem_cons.mpr ⟨evc_76, List.forall_mem_cons.mpr ⟨evc_77, List.forall_mem_cons.mpr ⟨evc_78, List.forall_mem_cons.mpr ⟨evc_79, List.forall_mem_cons.mpr ⟨evc_80, List.forall_mem_cons.mpr ⟨evc_81, List.forall_mem_cons.mpr ⟨evc_82, List.forall_mem_cons.mpr ⟨evc_83, List.forall_mem_cons.mpr ⟨evc_84, List.forall_mem_cons.mpr ⟨evc_85, List.forall_mem_cons.mpr ⟨evc_86, List.forall_mem_cons.mpr ⟨evc_87, List.forall_mem_cons.mpr ⟨evc_88, List.forall_mem_cons.mpr ⟨evc_89, fun _ h => absurd h List.not_mem_nil⟩⟩⟩⟩⟩⟩⟩⟩⟩⟩⟩⟩⟩⟩⟩
theorem evMT_ok_7 : ∀ q ∈ evMT_7, evMok q := List.forall_mem_cons.mpr ⟨evc_90, List.forall_mem_cons.mpr ⟨evc_91, List.forall_mem_cons.mpr ⟨evc_92, List.forall_mem_cons.mpr ⟨evc_93, List.forall_mem_cons.mpr ⟨evc_94, List.forall_mem_cons.mpr ⟨evc_95, List.forall_mem_cons.mpr ⟨evc_96, List.forall_mem_cons.mpr ⟨evc_97, List.forall_mem_cons.mpr ⟨evc_98, List.forall_mem_cons.mpr ⟨evc_99, List.forall_mem_cons.mpr ⟨evc_100, List.forall_mem_cons.mpr ⟨evc_101, List.forall_mem_cons.mpr ⟨evc_102, List.forall_mem_cons.mpr ⟨evc_103, List.forall_mem_cons.mpr ⟨evc_104, fun _ h => absurd h List.not_mem_nil⟩⟩⟩⟩⟩⟩⟩⟩⟩⟩⟩⟩⟩⟩⟩
theorem evMT_ok_8 : ∀ q ∈ evMT_8, evMok q := List.forall_mem_cons.mpr ⟨evc_105, List.forall_mem_cons.mpr ⟨evc_106, List.forall_mem_cons.mpr ⟨evc_107, List.forall_mem_cons.mpr ⟨evc_108, List.forall_mem_cons.mpr ⟨evc_109, List.forall_mem_cons.mpr ⟨evc_110, List.forall_mem_cons.mpr ⟨evc_111, List.forall_mem_cons.mpr ⟨evc_112, List.forall_mem_cons.mpr ⟨evc_113, List.forall_mem_cons.mpr ⟨evc_114, List.forall_mem_cons.mpr ⟨evc_115, List.forall_mem_cons.mpr ⟨evc_116, List.forall_mem_cons.mpr ⟨evc_117, List.forall_mem_cons.mpr ⟨evc_118, List.forall_mem_cons.mpr ⟨evc_119, fun _ h => absurd h List.not_mem_nil⟩⟩⟩⟩⟩⟩⟩⟩⟩⟩⟩⟩⟩⟩⟩
theorem evMT_ok_9 : ∀ q ∈ evMT_9, evMok q := List.forall_mem_cons.mpr ⟨evc_120, List.forall_mem_cons.mpr ⟨evc_121, List.forall_mem_cons.mpr ⟨evc_122, List.forall_mem_cons.mpr ⟨evc_123, List.forall_mem_cons.mpr ⟨evc_124, List.forall_mem_cons.mpr ⟨evc_125, List.forall_mem_cons.mpr ⟨evc_126, List.forall_mem_cons.mpr ⟨evc_127, List.forall_mem_cons.mpr ⟨evc_128, List.forall_mem_cons.mpr ⟨evc_129, List.forall_mem_cons.mpr ⟨evc_130, List.forall_mem_cons.mpr ⟨evc_131, List.forall_mem_cons.mpr ⟨evc_132, List.forall_mem_cons.mpr ⟨evc_133, List.forall_mem_cons.mpr ⟨evc_134, fun _ h => absurd h List.not_mem_nil⟩⟩⟩⟩⟩⟩⟩⟩⟩⟩⟩⟩⟩⟩⟩
theorem evMT_ok_10 : ∀ q ∈ evMT_10, evMok q := List.forall_mem_cons.mpr ⟨evc_135, List.forall_mem_cons.mpr ⟨evc_136, List.forall_mem_cons.mpr ⟨evc_137, List.forall_mem_cons.mpr ⟨evc_138, List.forall_mem_cons.mpr ⟨evc_139, List.forall_mem_cons.mpr ⟨evc_140, List.forall_mem_cons.mpr ⟨evc_141, List.forall_mem_cons.mpr ⟨evc_142, List.forall_mem_cons.mpr ⟨evc_143, List.forall_mem_cons.mpr ⟨evc_144, List.forall_mem_cons.mpr ⟨evc_145, List.forall_mem_cons.mpr ⟨evc_146, List.forall_mem_cons.mpr ⟨evc_147, List.forall_mem_cons.mpr ⟨evc_148, List.forall_mem_cons.mpr ⟨evc_149, fun _ h => absurd h List.not_mem_nil⟩⟩⟩⟩⟩⟩⟩⟩⟩⟩⟩⟩⟩⟩⟩
theorem evMT_ok_11 : ∀ q ∈ evMT_11.take 14, evMok q := List.forall_mem_cons.mpr ⟨evc_150, List.forall_mem_cons.mpr ⟨evc_151, List.forall_mem_cons.mpr ⟨evc_152, List.forall_mem_cons.mpr ⟨evc_153, List.forall_mem_cons.mpr ⟨evc_154, List.forall_mem_cons.mpr ⟨evc_155, List.forall_mem_cons.mpr ⟨evc_156, List.forall_mem_cons.mpr ⟨evc_157, List.forall_mem_cons.mpr ⟨evc_158, List.forall_mem_cons.mpr ⟨evc_159, List.forall_mem_cons.mpr ⟨evc_160, List.forall_mem_cons.mpr ⟨evc_161, List.forall_mem_cons.mpr ⟨evc_162, List.forall_mem_cons.mpr ⟨evc_163, fun _ h => absurd h List.not_mem_nil⟩⟩⟩⟩⟩⟩⟩⟩⟩⟩⟩⟩⟩⟩
abbrev evLawN : Nat := 164
set_option maxRecDepth 100000 in
theorem evMT_ok : ∀ y q, y < evLawN → evMT[y]? = some q → evMok q := by
  intro y q hy hq
  have h : ∀ q ∈ evMT.take evLawN, evMok q := by
    rw [show evMT.take evLawN = evMT_1 ++ (evMT_2 ++ (evMT_3 ++ (evMT_4 ++ (evMT_5 ++ (evMT_6 ++ (evMT_7 ++ (evMT_8 ++ (evMT_9 ++ (evMT_10 ++ (evMT_11.take 14)))))))))) from rfl]
    exact List.forall_mem_append.mpr ⟨evMT_ok_1, List.forall_mem_append.mpr ⟨evMT_ok_2, List.forall_mem_append.mpr ⟨evMT_ok_3, List.forall_mem_append.mpr ⟨evMT_ok_4, List.forall_mem_append.mpr ⟨evMT_ok_5, List.forall_mem_append.mpr ⟨evMT_ok_6, List.forall_mem_append.mpr ⟨evMT_ok_7, List.forall_mem_append.mpr ⟨evMT_ok_8, List.forall_mem_append.mpr ⟨evMT_ok_9, List.forall_mem_append.mpr ⟨evMT_ok_10, evMT_ok_11⟩⟩⟩⟩⟩⟩⟩⟩⟩⟩
  refine h q (List.mem_of_getElem? (i := y) ?_)
  rw [List.getElem?_take]; simp [hy, hq]
def evBT_1 : List (ByteArray × List (Nat × Instr × Nat)) := [(cX0_init, evT_0), (cX0_write, evT_1), (cX0_clear, evT_2), (cX0_copyFrom, evT_3), (cX0_isAbove, evT_4), (cX1_init, evT_5), (cX1_copyFrom, evT_6), (cX2_init, evT_7), (cX2_copyFrom, evT_8), (cX2_copyRows, evT_9), (cX2_bidderAt, evT_10), (cX2_lotAt, evT_11), (cX2_settingAt, evT_12), (cX2_changeSetting, evT_13), (cX2_addBidder, evT_14)]
def evBT_2 : List (ByteArray × List (Nat × Instr × Nat)) := [(cX2_changePlan, evT_15), (cX2_addLot, evT_16), (cX2_tellBid, evT_17), (cX2_letPass, evT_18), (cX2_playOut, evT_19), (cX2_hasLotsLeft, evT_20), (cX2_playRound, evT_21), (cX2_beginLot, evT_22), (cX2_takeBids, evT_23), (cX2_chooseBid, evT_24), (cX2_believed, evT_25), (cX2_noteBid, evT_26), (cX2_echoRound, evT_27), (cX2_endLot, evT_28), (cX2_priceOf, evT_29)]
def evBT_3 : List (ByteArray × List (Nat × Instr × Nat)) := [(cX2_lotsSold, evT_30), (cX2_coinsPaid, evT_31), (cX2_worthSold, evT_32), (cX2_bidsMade, evT_33), (cX2_shadowsMade, evT_34), (cX3_init, evT_35), (cX3_prepare, evT_36), (cX3_settle, evT_37), (cX3_takeBack, evT_38), (cX4_init, evT_39), (cX4_copyFrom, evT_40), (cX5_init, evT_41), (cX5_append, evT_42), (cX5_countSigns, evT_43), (cX5_empty, evT_44)]
def evBT_4 : List (ByteArray × List (Nat × Instr × Nat)) := [(cX5_findFault, evT_45), (cX5_rewind, evT_46), (cX5_readOrder, evT_47), (cX5_sign, evT_48), (cX5_atDigit, evT_49), (cX5_expect, evT_50), (cX5_readDigit, evT_51), (cX5_readNumber, evT_52), (cX6_init, evT_53), (cX6_copyFrom, evT_54), (cX6_clear, evT_55), (cX6_add, evT_56), (cX6_knows, evT_57), (cX6_at, evT_58), (cX7_init, evT_59)]
def evBT_5 : List (ByteArray × List (Nat × Instr × Nat)) := [(cX7_set, evT_60), (cX7_bidder, evT_61), (cX7_plan, evT_62), (cX7_lot, evT_63), (cX7_bid, evT_64), (cX7_pass, evT_65), (cX7_of, evT_66), (cX7_ofLot, evT_67), (cX7_made, evT_68), (cX7_count, evT_69), (cX7_shadows, evT_70), (cX7_dear, evT_71), (cX7_endsIn, evT_72), (cX7_ifLag, evT_73), (cX7_bestPlan, evT_74)]
def evBT_6 : List (ByteArray × List (Nat × Instr × Nat)) := [(cX7_put, evT_75), (cX7_wipe, evT_76), (cX7_fault, evT_77), (cX7_carryOut, evT_78), (cX7_undo, evT_79), (cX7_save, evT_80), (cX7_restore, evT_81), (cX7_gainWith, evT_82), (cX7_carryOrder, evT_83), (cX7_floatBits, evT_84), (cX7_doubleBits, evT_85), (cX8_init, evT_86), (cX8_moves, evT_87), (cX8_within, evT_88), (cX8_record, evT_89)]
def evBT_7 : List (ByteArray × List (Nat × Instr × Nat)) := [(cX8_isBidder, evT_90), (cX8_isLot, evT_91), (cX8_bidderPart, evT_92), (cX8_setBidder, evT_93), (cX8_adds, evT_94), (cX8_lotPart, evT_95), (cX8_setLot, evT_96), (cX8_ofAll, evT_97), (cX8_withHow, evT_98), (cX8_firstWaiting, evT_99), (cX8_hears, evT_100), (cX8_believes, evT_101), (cX8_limitOf, evT_102), (cX8_bidOf, evT_103), (cX8_begins, evT_104)]
def evBT_8 : List (ByteArray × List (Nat × Instr × Nat)) := [(cX8_keepsBest, evT_105), (cX8_keepsMade, evT_106), (cX8_makesBids, evT_107), (cX8_grows, evT_108), (cX8_priceOf, evT_109), (cX8_ends, evT_110), (cX8_runsOn, evT_111), (cX8_round, evT_112), (cX8_passes, evT_113), (cX8_isValue, evT_114), (cX8_set, evT_115), (cX8_whyNoBidder, evT_116), (cX8_comes, evT_117), (cX8_bidder, evT_118), (cX8_plan, evT_119)]
def evBT_9 : List (ByteArray × List (Nat × Instr × Nat)) := [(cX8_whyNoLot, evT_120), (cX8_lotComes, evT_121), (cX8_lot, evT_122), (cX8_whyNotTold, evT_123), (cX8_bid, evT_124), (cX8_whyNotPassed, evT_125), (cX8_pass, evT_126), (cX8_belief, evT_127), (cX8_of, evT_128), (cX8_ofLot, evT_129), (cX8_made, evT_130), (cX8_count, evT_131), (cX8_shadows, evT_132), (cX8_dear, evT_133), (cX8_hasLots, evT_134)]
def evBT_10 : List (ByteArray × List (Nat × Instr × Nat)) := [(cX8_endsIn, evT_135), (cX8_goesFar, evT_136), (cX8_ifLag, evT_137), (cX8_gainOf, evT_138), (cX8_bestPlan, evT_139), (cX8_put, evT_140), (cX8_wipe, evT_141), (cX8_character, evT_142), (cX8_isNext, evT_143), (cX8_isDigit, evT_144), (cX8_takes, evT_145), (cX8_takesDigit, evT_146), (cX8_takesNumber, evT_147), (cX8_readsOrder, evT_148), (cX8_findFault, evT_149)]
def evBT_11 : List (ByteArray × List (Nat × Instr × Nat)) := [(cX8_fault, evT_150), (cX8_whyNotDone, evT_151), (cX8_does, evT_152), (cX8_carryOut, evT_153), (cX8_undo, evT_154), (cX8_save, evT_155), (cX8_restore, evT_156), (cJxe99ae_isNaN_b9ae7, evT_157), (cJxe99ae_doubleToLongBits_ccdee, evT_158), (cJxf58ca_isNaN_12338, evT_159), (cJxf58ca_floatToIntBits_5c35a, evT_160), (cJ9_floorMod_7cf53, evT_161), (cJ9_max_7cf53, evT_162), (cJ9_min_7cf53, evT_163), (cL_law, evT_164)]
def evBT : List (ByteArray × List (Nat × Instr × Nat)) := evBT_1 ++ (evBT_2 ++ (evBT_3 ++ (evBT_4 ++ (evBT_5 ++ (evBT_6 ++ (evBT_7 ++ (evBT_8 ++ (evBT_9 ++ (evBT_10 ++ (evBT_11))))))))))
def evBok (q : ByteArray × List (Nat × Instr × Nat)) : Prop := q.2.all (fun z => decide (decode q.1 z.1 = .ok z.2)) = true
theorem evBT_ok_1 : ∀ q ∈ evBT_1, evBok q := List.forall_mem_cons.mpr ⟨evT_ok_0, List.forall_mem_cons.mpr ⟨evT_ok_1, List.forall_mem_cons.mpr ⟨evT_ok_2, List.forall_mem_cons.mpr ⟨evT_ok_3, List.forall_mem_cons.mpr ⟨evT_ok_4, List.forall_mem_cons.mpr ⟨evT_ok_5, List.forall_mem_cons.mpr ⟨evT_ok_6, List.forall_mem_cons.mpr ⟨evT_ok_7, List.forall_mem_cons.mpr ⟨evT_ok_8, List.forall_mem_cons.mpr ⟨evT_ok_9, List.forall_mem_cons.mpr ⟨evT_ok_10, List.forall_mem_cons.mpr ⟨evT_ok_11, List.forall_mem_cons.mpr ⟨evT_ok_12, List.forall_mem_cons.mpr ⟨evT_ok_13, List.forall_mem_cons.mpr ⟨evT_ok_14, fun _ h => absurd h List.not_mem_nil⟩⟩⟩⟩⟩⟩⟩⟩⟩⟩⟩⟩⟩⟩⟩
theorem evBT_ok_2 : ∀ q ∈ evBT_2, evBok q := List.forall_mem_cons.mpr ⟨evT_ok_15, List.forall_mem_cons.mpr ⟨evT_ok_16, List.forall_mem_cons.mpr ⟨evT_ok_17, List.forall_mem_cons.mpr ⟨evT_ok_18, List.forall_mem_cons.mpr ⟨evT_ok_19, List.forall_mem_cons.mpr ⟨evT_ok_20, List.forall_mem_cons.mpr ⟨evT_ok_21, List.forall_mem_cons.mpr ⟨evT_ok_22, List.forall_mem_cons.mpr ⟨evT_ok_23, List.forall_mem_cons.mpr ⟨evT_ok_24, List.forall_mem_cons.mpr ⟨evT_ok_25, List.forall_mem_cons.mpr ⟨evT_ok_26, List.forall_mem_cons.mpr ⟨evT_ok_27, List.forall_mem_cons.mpr ⟨evT_ok_28, List.forall_mem_cons.mpr ⟨evT_ok_29, fun _ h => absurd h List.not_mem_nil⟩⟩⟩⟩⟩⟩⟩⟩⟩⟩⟩⟩⟩⟩⟩
theorem evBT_ok_3 : ∀ q ∈ evBT_3, evBok q := List.forall_mem_cons.mpr ⟨evT_ok_30, List.forall_mem_cons.mpr ⟨evT_ok_31, List.forall_mem_cons.mpr ⟨evT_ok_32, List.forall_mem_cons.mpr ⟨evT_ok_33, List.forall_mem_cons.mpr ⟨evT_ok_34, List.forall_mem_cons.mpr ⟨evT_ok_35, List.forall_mem_cons.mpr ⟨evT_ok_36, List.forall_mem_cons.mpr ⟨evT_ok_37, List.forall_mem_cons.mpr ⟨evT_ok_38, List.forall_mem_cons.mpr ⟨evT_ok_39, List.forall_mem_cons.mpr ⟨evT_ok_40, List.forall_mem_cons.mpr ⟨evT_ok_41, List.forall_mem_cons.mpr ⟨evT_ok_42, List.forall_mem_cons.mpr ⟨evT_ok_43, List.forall_mem_cons.mpr ⟨evT_ok_44, fun _ h => absurd h List.not_mem_nil⟩⟩⟩⟩⟩⟩⟩⟩⟩⟩⟩⟩⟩⟩⟩
theorem evBT_ok_4 : ∀ q ∈ evBT_4, evBok q := List.forall_mem_cons.mpr ⟨evT_ok_45, List.forall_mem_cons.mpr ⟨evT_ok_46, List.forall_mem_cons.mpr ⟨evT_ok_47, List.forall_mem_cons.mpr ⟨evT_ok_48, List.forall_mem_cons.mpr ⟨evT_ok_49, List.forall_mem_cons.mpr ⟨evT_ok_50, List.forall_mem_cons.mpr ⟨evT_ok_51, List.forall_mem_cons.mpr ⟨evT_ok_52, List.forall_mem_cons.mpr ⟨evT_ok_53, List.forall_mem_cons.mpr ⟨evT_ok_54, List.forall_mem_cons.mpr ⟨evT_ok_55, List.forall_mem_cons.mpr ⟨evT_ok_56, List.forall_mem_cons.mpr ⟨evT_ok_57, List.forall_mem_cons.mpr ⟨evT_ok_58, List.forall_mem_cons.mpr ⟨evT_ok_59, fun _ h => absurd h List.not_mem_nil⟩⟩⟩⟩⟩⟩⟩⟩⟩⟩⟩⟩⟩⟩⟩
theorem evBT_ok_5 : ∀ q ∈ evBT_5, evBok q := List.forall_mem_cons.mpr ⟨evT_ok_60, List.forall_mem_cons.mpr ⟨evT_ok_61, List.forall_mem_cons.mpr ⟨evT_ok_62, List.forall_mem_cons.mpr ⟨evT_ok_63, List.forall_mem_cons.mpr ⟨evT_ok_64, List.forall_mem_cons.mpr ⟨evT_ok_65, List.forall_mem_cons.mpr ⟨evT_ok_66, List.forall_mem_cons.mpr ⟨evT_ok_67, List.forall_mem_cons.mpr ⟨evT_ok_68, List.forall_mem_cons.mpr ⟨evT_ok_69, List.forall_mem_cons.mpr ⟨evT_ok_70, List.forall_mem_cons.mpr ⟨evT_ok_71, List.forall_mem_cons.mpr ⟨evT_ok_72, List.forall_mem_cons.mpr ⟨evT_ok_73, List.forall_mem_cons.mpr ⟨evT_ok_74, fun _ h => absurd h List.not_mem_nil⟩⟩⟩⟩⟩⟩⟩⟩⟩⟩⟩⟩⟩⟩⟩
theorem evBT_ok_6 : ∀ q ∈ evBT_6, evBok q := List.forall_mem_cons.mpr ⟨evT_ok_75, List.forall_mem_cons.mpr ⟨evT_ok_76, List.forall_mem_cons.mpr ⟨evT_ok_77, List.forall_mem_cons.mpr ⟨evT_ok_78, List.forall_mem_cons.mpr ⟨evT_ok_79, List.forall_mem_cons.mpr ⟨evT_ok_80, List.forall_mem_cons.mpr ⟨evT_ok_81, List.forall_mem_cons.mpr ⟨evT_ok_82, List.forall_mem_cons.mpr ⟨evT_ok_83, List.forall_mem_cons.mpr ⟨evT_ok_84, List.forall_mem_cons.mpr ⟨evT_ok_85, List.forall_mem_cons.mpr ⟨evT_ok_86, List.forall_mem_cons.mpr ⟨evT_ok_87, List.forall_mem_cons.mpr ⟨evT_ok_88, List.forall_mem_cons.mpr ⟨evT_ok_89, fun _ h => absurd h List.not_mem_nil⟩⟩⟩⟩⟩⟩⟩⟩⟩⟩⟩⟩⟩⟩⟩
theorem evBT_ok_7 : ∀ q ∈ evBT_7, evBok q := List.forall_mem_cons.mpr ⟨evT_ok_90, List.forall_mem_cons.mpr ⟨evT_ok_91, List.forall_mem_cons.mpr ⟨evT_ok_92, List.forall_mem_cons.mpr ⟨evT_ok_93, List.forall_mem_cons.mpr ⟨evT_ok_94, List.forall_mem_cons.mpr ⟨evT_ok_95, List.forall_mem_cons.mpr ⟨evT_ok_96, List.forall_mem_cons.mpr ⟨evT_ok_97, List.forall_mem_cons.mpr ⟨evT_ok_98, List.forall_mem_cons.mpr ⟨evT_ok_99, List.forall_mem_cons.mpr ⟨evT_ok_100, List.forall_mem_cons.mpr ⟨evT_ok_101, List.forall_mem_cons.mpr ⟨evT_ok_102, List.forall_mem_cons.mpr ⟨evT_ok_103, List.forall_mem_cons.mpr ⟨evT_ok_104, fun _ h => absurd h List.not_mem_nil⟩⟩⟩⟩⟩⟩⟩⟩⟩⟩⟩⟩⟩⟩⟩
theorem evBT_ok_8 : ∀ q ∈ evBT_8, evBok q := List.forall_mem_cons.mpr ⟨evT_ok_105, List.forall_mem_cons.mpr ⟨evT_ok_106, List.forall_mem_cons.mpr ⟨evT_ok_107, List.forall_mem_cons.mpr ⟨evT_ok_108, List.forall_mem_cons.mpr ⟨evT_ok_109, List.forall_mem_cons.mpr ⟨evT_ok_110, List.forall_mem_cons.mpr ⟨evT_ok_111, List.forall_mem_cons.mpr ⟨evT_ok_112, List.forall_mem_cons.mpr ⟨evT_ok_113, List.forall_mem_cons.mpr ⟨evT_ok_114, List.forall_mem_cons.mpr ⟨evT_ok_115, List.forall_mem_cons.mpr ⟨evT_ok_116, List.forall_mem_cons.mpr ⟨evT_ok_117, List.forall_mem_cons.mpr ⟨evT_ok_118, List.forall_mem_cons.mpr ⟨evT_ok_119, fun _ h => absurd h List.not_mem_nil⟩⟩⟩⟩⟩⟩⟩⟩⟩⟩⟩⟩⟩⟩⟩
theorem evBT_ok_9 : ∀ q ∈ evBT_9, evBok q := List.forall_mem_cons.mpr ⟨evT_ok_120, List.forall_mem_cons.mpr ⟨evT_ok_121, List.forall_mem_cons.mpr ⟨evT_ok_122, List.forall_mem_cons.mpr ⟨evT_ok_123, List.forall_mem_cons.mpr ⟨evT_ok_124, List.forall_mem_cons.mpr ⟨evT_ok_125, List.forall_mem_cons.mpr ⟨evT_ok_126, List.forall_mem_cons.mpr ⟨evT_ok_127, List.forall_mem_cons.mpr ⟨evT_ok_128, List.forall_mem_cons.mpr ⟨evT_ok_129, List.forall_mem_cons.mpr ⟨evT_ok_130, List.forall_mem_cons.mpr ⟨evT_ok_131, List.forall_mem_cons.mpr ⟨evT_ok_132, List.forall_mem_cons.mpr ⟨evT_ok_133, List.forall_mem_cons.mpr ⟨evT_ok_134, fun _ h => absurd h List.not_mem_nil⟩⟩⟩⟩⟩⟩⟩⟩⟩⟩⟩⟩⟩⟩⟩
theorem evBT_ok_10 : ∀ q ∈ evBT_10, evBok q := List.forall_mem_cons.mpr ⟨evT_ok_135, List.forall_mem_cons.mpr ⟨evT_ok_136, List.forall_mem_cons.mpr ⟨evT_ok_137, List.forall_mem_cons.mpr ⟨evT_ok_138, List.forall_mem_cons.mpr ⟨evT_ok_139, List.forall_mem_cons.mpr ⟨evT_ok_140, List.forall_mem_cons.mpr ⟨evT_ok_141, List.forall_mem_cons.mpr ⟨evT_ok_142, List.forall_mem_cons.mpr ⟨evT_ok_143, List.forall_mem_cons.mpr ⟨evT_ok_144, List.forall_mem_cons.mpr ⟨evT_ok_145, List.forall_mem_cons.mpr ⟨evT_ok_146, List.forall_mem_cons.mpr ⟨evT_ok_147, List.forall_mem_cons.mpr ⟨evT_ok_148, List.forall_mem_cons.mpr ⟨evT_ok_149, fun _ h => absurd h List.not_mem_nil⟩⟩⟩⟩⟩⟩⟩⟩⟩⟩⟩⟩⟩⟩⟩
theorem evBT_ok_11 : ∀ q ∈ evBT_11, evBok q := List.forall_mem_cons.mpr ⟨evT_ok_150, List.forall_mem_cons.mpr ⟨evT_ok_151, List.forall_mem_cons.mpr ⟨evT_ok_152, List.forall_mem_cons.mpr ⟨evT_ok_153, List.forall_mem_cons.mpr ⟨evT_ok_154, List.forall_mem_cons.mpr ⟨evT_ok_155, List.forall_mem_cons.mpr ⟨evT_ok_156, List.forall_mem_cons.mpr ⟨evT_ok_157, List.forall_mem_cons.mpr ⟨evT_ok_158, List.forall_mem_cons.mpr ⟨evT_ok_159, List.forall_mem_cons.mpr ⟨evT_ok_160, List.forall_mem_cons.mpr ⟨evT_ok_161, List.forall_mem_cons.mpr ⟨evT_ok_162, List.forall_mem_cons.mpr ⟨evT_ok_163, List.forall_mem_cons.mpr ⟨evT_ok_164, fun _ h => absurd h List.not_mem_nil⟩⟩⟩⟩⟩⟩⟩⟩⟩⟩⟩⟩⟩⟩⟩
theorem evBT_ok : ∀ q ∈ evBT, evBok q := List.forall_mem_append.mpr ⟨evBT_ok_1, List.forall_mem_append.mpr ⟨evBT_ok_2, List.forall_mem_append.mpr ⟨evBT_ok_3, List.forall_mem_append.mpr ⟨evBT_ok_4, List.forall_mem_append.mpr ⟨evBT_ok_5, List.forall_mem_append.mpr ⟨evBT_ok_6, List.forall_mem_append.mpr ⟨evBT_ok_7, List.forall_mem_append.mpr ⟨evBT_ok_8, List.forall_mem_append.mpr ⟨evBT_ok_9, List.forall_mem_append.mpr ⟨evBT_ok_10, evBT_ok_11⟩⟩⟩⟩⟩⟩⟩⟩⟩⟩
set_option maxRecDepth 100000 in
theorem evBT_codes : evBT.map (fun q => q.1) = evMT.map (fun q => q.2.1) := rfl
def evFT_1 : List (Nat × Nat × Nat × Nat × Bool × Nat) := [(0, 9, 0, 0, false, 119), (0, 15, 0, 1, false, 122), (0, 18, 0, 2, false, 125), (1, 10, 1, 8, false, 157), (1, 16, 1, 0, false, 133), (1, 20, 1, 1, false, 136), (1, 23, 1, 2, false, 139), (1, 26, 1, 3, false, 142), (1, 29, 1, 4, false, 145), (1, 32, 1, 5, false, 148), (1, 35, 1, 6, false, 151), (1, 38, 1, 7, false, 154), (2, 9, 2, 0, false, 216), (2, 15, 2, 4, false, 222), (2, 21, 2, 6, false, 226), (2, 27, 2, 7, false, 227), (2, 33, 2, 8, false, 228), (2, 40, 2, 9, false, 229), (2, 53, 2, 1, false, 217), (2, 56, 2, 2, false, 219)]
def evFT_2 : List (Nat × Nat × Nat × Nat × Bool × Nat) := [(2, 59, 2, 3, false, 221), (2, 62, 2, 5, false, 224), (2, 92, 1, 0, true, 134), (2, 95, 1, 1, true, 137), (2, 102, 4, 0, true, 187), (2, 105, 1, 2, true, 141), (2, 124, 4, 4, true, 198), (2, 134, 4, 1, true, 190), (2, 140, 1, 8, true, 158), (2, 145, 4, 5, true, 201), (2, 148, 0, 1, true, 124), (2, 163, 4, 3, true, 196), (2, 166, 0, 0, true, 121), (2, 182, 1, 6, true, 153), (2, 185, 1, 7, true, 156), (2, 200, 4, 2, true, 193), (2, 203, 1, 4, true, 147), (2, 206, 1, 5, true, 150), (2, 207, 1, 3, true, 144), (3, 13, 3, 0, false, 261)]
def evFT_3 : List (Nat × Nat × Nat × Nat × Bool × Nat) := [(3, 18, 3, 1, false, 262), (3, 26, 3, 2, false, 263), (4, 10, 4, 5, false, 199), (4, 16, 4, 0, false, 185), (4, 20, 4, 1, false, 188), (4, 23, 4, 2, false, 191), (4, 26, 4, 3, false, 194), (4, 29, 4, 4, false, 197), (5, 11, 5, 0, false, 278), (5, 19, 5, 1, false, 279), (5, 36, 5, 3, false, 282), (5, 40, 5, 2, false, 281), (5, 43, 5, 4, false, 283), (5, 50, 5, 5, false, 284), (5, 56, 5, 6, false, 286), (5, 63, 5, 7, false, 288), (6, 9, 6, 0, false, 100), (6, 19, 6, 1, false, 101), (7, 10, 7, 0, false, 307), (7, 16, 7, 1, false, 308)]
def evFT_4 : List (Nat × Nat × Nat × Nat × Bool × Nat) := [(7, 22, 7, 2, false, 309), (7, 29, 7, 3, false, 310), (7, 33, 7, 4, false, 311), (7, 68, 1, 0, true, 135), (7, 74, 1, 1, true, 138), (7, 77, 1, 3, true, 143), (7, 80, 1, 4, true, 146), (7, 83, 1, 5, true, 149), (7, 86, 1, 6, true, 152), (7, 89, 1, 7, true, 155), (7, 92, 2, 4, true, 223), (7, 99, 0, 1, true, 123), (7, 104, 0, 0, true, 120), (7, 107, 1, 2, true, 140), (7, 114, 4, 0, true, 186), (7, 117, 4, 1, true, 189), (7, 120, 4, 5, true, 200), (7, 124, 4, 2, true, 192), (7, 127, 4, 3, true, 195), (7, 130, 2, 9, true, 230)]
def evFT_5 : List (Nat × Nat × Nat × Nat × Bool × Nat) := [(7, 143, 2, 5, true, 225), (7, 146, 2, 1, true, 218), (7, 149, 2, 2, true, 220), (7, 168, 5, 1, true, 280), (7, 171, 3, 2, true, 264), (7, 226, 5, 5, true, 285), (7, 229, 5, 6, true, 287), (7, 232, 5, 7, true, 289), (8, 7, 8, 0, false, 680), (8, 13, 8, 1, false, 681), (8, 16, 8, 2, false, 682), (8, 19, 8, 4, false, 684), (8, 22, 8, 5, false, 685), (8, 25, 8, 6, false, 686), (8, 28, 8, 11, false, 691), (8, 31, 8, 14, false, 694), (8, 34, 8, 3, false, 683), (8, 53, 8, 8, false, 688), (8, 56, 8, 9, false, 689), (8, 59, 8, 10, false, 690)]
def evFT_6 : List (Nat × Nat × Nat × Nat × Bool × Nat) := [(8, 164, 8, 7, false, 687), (8, 191, 8, 12, false, 692), (8, 197, 8, 15, false, 695), (8, 206, 8, 13, false, 693)]
def evFT : List (Nat × Nat × Nat × Nat × Bool × Nat) := evFT_1 ++ (evFT_2 ++ (evFT_3 ++ (evFT_4 ++ (evFT_5 ++ (evFT_6)))))
def evCT_1 : List (Nat × Nat × Nat × Nat × Nat × Bool × Nat × Nat × Nat × Nat) := [(0, 21, 0, 1, 3, false, 350, 351, 352, 65), (1, 9, 2, 0, 0, true, 115, 116, 0, 65), (1, 41, 0, 3, 1, false, 346, 347, 348, 65), (2, 39, 2, 53, 0, true, 96, 97, 0, 63), (2, 44, 2, 5, 0, true, 109, 110, 0, 64), (2, 45, 2, 39, 0, true, 179, 180, 0, 66), (2, 46, 2, 0, 0, true, 215, 116, 0, 65), (2, 65, 0, 9, 1, false, 338, 340, 0, 62), (2, 69, 0, 54, 1, false, 360, 361, 362, 63), (2, 73, 0, 6, 1, false, 342, 343, 344, 64), (2, 76, 0, 40, 1, false, 354, 355, 356, 66), (2, 79, 0, 3, 1, false, 359, 347, 348, 65), (2, 88, 0, 10, 1, false, 388, 389, 390, 62), (2, 98, 0, 11, 1, false, 408, 409, 410, 62), (2, 108, 0, 21, 0, false, 428, 429, 430, 62), (2, 112, 0, 20, 0, false, 580, 567, 568, 62), (2, 115, 0, 22, 0, false, 432, 434, 1, 62), (2, 118, 0, 23, 1, false, 444, 446, 2, 62), (2, 121, 0, 27, 1, false, 478, 480, 5, 62), (2, 127, 0, 12, 1, false, 452, 453, 454, 62)]
def evCT_2 : List (Nat × Nat × Nat × Nat × Nat × Bool × Nat × Nat × Nat × Nat) := [(2, 131, 0, 28, 1, false, 482, 484, 6, 62), (2, 137, 0, 55, 0, false, 436, 437, 438, 63), (2, 144, 0, 2, 0, false, 440, 441, 442, 65), (2, 151, 0, 25, 1, false, 448, 449, 450, 62), (2, 155, 0, 24, 4, false, 463, 465, 3, 62), (2, 159, 0, 26, 4, false, 468, 470, 4, 62), (2, 169, 1, 163, 2, false, 467, 378, 0, 71), (2, 175, 1, 161, 2, false, 456, 457, 0, 71), (2, 178, 0, 4, 1, false, 459, 460, 461, 65), (2, 188, 0, 1, 3, false, 472, 351, 352, 65), (2, 192, 0, 56, 4, false, 473, 474, 475, 63), (2, 196, 0, 29, 1, false, 486, 488, 7, 62), (2, 210, 1, 162, 2, false, 490, 491, 0, 71), (3, 17, 2, 7, 0, false, 260, 85, 0, 62), (3, 22, 0, 8, 1, false, 331, 332, 333, 62), (3, 29, 1, 163, 2, false, 377, 378, 0, 71), (4, 9, 2, 0, 0, true, 184, 116, 0, 65), (4, 32, 0, 3, 1, false, 358, 347, 348, 65), (5, 15, 1, 43, 1, false, 598, 599, 0, 68), (5, 29, 0, 46, 0, false, 620, 621, 622, 68)]
def evCT_3 : List (Nat × Nat × Nat × Nat × Nat × Bool × Nat × Nat × Nat × Nat) := [(5, 32, 0, 47, 0, false, 624, 625, 626, 68), (5, 46, 0, 48, 0, false, 628, 630, 9, 68), (5, 53, 0, 52, 0, false, 632, 634, 10, 68), (5, 59, 0, 50, 1, false, 644, 646, 13, 68), (5, 66, 0, 51, 0, false, 636, 638, 11, 68), (5, 69, 0, 49, 0, false, 640, 642, 12, 68), (6, 23, 1, 161, 2, false, 477, 457, 0, 71), (7, 9, 2, 7, 0, false, 84, 85, 0, 62), (7, 21, 2, 35, 0, false, 254, 255, 0, 67), (7, 28, 2, 41, 0, true, 274, 275, 0, 68), (7, 37, 0, 36, 1, false, 327, 328, 329, 67), (7, 41, 0, 13, 2, false, 365, 366, 367, 62), (7, 45, 0, 37, 1, false, 373, 374, 375, 67), (7, 49, 0, 14, 2, false, 384, 385, 386, 62), (7, 52, 0, 15, 2, false, 396, 397, 398, 62), (7, 55, 0, 16, 1, false, 404, 405, 406, 62), (7, 58, 0, 17, 2, false, 416, 417, 418, 62), (7, 61, 0, 18, 1, false, 424, 425, 426, 62), (7, 64, 0, 10, 1, false, 497, 389, 390, 62), (7, 95, 0, 25, 1, false, 498, 449, 450, 62)]
def evCT_4 : List (Nat × Nat × Nat × Nat × Nat × Bool × Nat × Nat × Nat × Nat) := [(7, 110, 0, 11, 1, false, 503, 409, 410, 62), (7, 134, 0, 57, 1, false, 508, 509, 510, 63), (7, 140, 0, 58, 2, false, 512, 513, 514, 63), (7, 152, 0, 30, 0, false, 520, 521, 522, 62), (7, 156, 0, 31, 0, false, 524, 525, 526, 62), (7, 159, 0, 33, 0, false, 528, 529, 530, 62), (7, 162, 0, 34, 0, false, 532, 533, 534, 62), (7, 165, 0, 12, 1, false, 536, 453, 454, 62), (7, 174, 1, 84, 1, false, 541, 542, 0, 61), (7, 178, 0, 32, 0, false, 550, 551, 552, 62), (7, 181, 1, 85, 1, false, 554, 555, 0, 61), (7, 185, 0, 20, 0, false, 566, 567, 568, 62), (7, 189, 0, 8, 1, false, 570, 332, 333, 62), (7, 192, 0, 21, 0, false, 571, 429, 430, 62), (7, 195, 0, 19, 1, false, 576, 577, 578, 62), (7, 199, 0, 82, 2, false, 585, 587, 8, 61), (7, 203, 0, 42, 1, false, 594, 595, 596, 68), (7, 207, 0, 44, 0, false, 608, 609, 610, 68), (7, 210, 0, 45, 0, false, 616, 617, 618, 68), (7, 213, 0, 46, 0, false, 652, 621, 622, 68)]
def evCT_5 : List (Nat × Nat × Nat × Nat × Nat × Bool × Nat × Nat × Nat × Nat) := [(7, 216, 0, 47, 0, false, 653, 625, 626, 68), (7, 219, 0, 83, 0, false, 654, 656, 14, 61), (7, 222, 0, 38, 1, false, 662, 663, 664, 67), (8, 38, 1, 87, 4, false, 743, 744, 0, 69), (8, 42, 1, 88, 3, false, 736, 737, 0, 69), (8, 46, 0, 92, 2, false, 770, 772, 20, 69), (8, 50, 0, 95, 2, false, 818, 820, 29, 69), (8, 62, 0, 100, 3, false, 838, 840, 34, 69), (8, 66, 0, 101, 1, false, 834, 836, 33, 69), (8, 70, 0, 102, 1, false, 842, 844, 35, 69), (8, 74, 0, 96, 3, false, 786, 788, 23, 69), (8, 77, 0, 94, 3, false, 850, 852, 37, 69), (8, 80, 0, 105, 4, false, 854, 856, 38, 69), (8, 84, 0, 106, 3, false, 858, 860, 39, 69), (8, 88, 0, 109, 1, false, 870, 872, 42, 69), (8, 91, 0, 93, 3, false, 758, 760, 18, 69), (8, 94, 0, 103, 1, false, 830, 832, 32, 69), (8, 97, 0, 107, 1, false, 846, 848, 36, 69), (8, 101, 0, 108, 0, false, 862, 864, 40, 69), (8, 104, 0, 110, 1, false, 866, 868, 41, 69)]
def evCT_6 : List (Nat × Nat × Nat × Nat × Nat × Bool × Nat × Nat × Nat × Nat) := [(8, 107, 0, 99, 0, false, 814, 816, 28, 69), (8, 111, 0, 104, 1, false, 822, 824, 30, 69), (8, 114, 0, 111, 0, false, 826, 828, 31, 69), (8, 118, 0, 112, 0, false, 810, 812, 27, 69), (8, 121, 1, 114, 2, false, 733, 734, 0, 69), (8, 125, 0, 89, 0, false, 739, 741, 15, 69), (8, 128, 0, 116, 2, false, 750, 752, 16, 69), (8, 131, 0, 117, 2, false, 754, 756, 17, 69), (8, 134, 0, 90, 1, false, 766, 768, 19, 69), (8, 137, 0, 120, 1, false, 778, 780, 21, 69), (8, 140, 0, 121, 1, false, 782, 784, 22, 69), (8, 143, 0, 123, 2, false, 794, 796, 24, 69), (8, 146, 0, 125, 1, false, 802, 804, 25, 69), (8, 149, 0, 113, 1, false, 806, 808, 26, 69), (8, 152, 0, 127, 2, false, 878, 880, 43, 69), (8, 155, 0, 91, 1, false, 886, 888, 44, 69), (8, 158, 0, 98, 1, false, 898, 900, 45, 69), (8, 161, 0, 97, 1, false, 902, 904, 46, 69), (8, 167, 1, 160, 1, false, 910, 911, 0, 72), (8, 173, 1, 158, 1, false, 924, 925, 0, 73)]
def evCT_7 : List (Nat × Nat × Nat × Nat × Nat × Bool × Nat × Nat × Nat × Nat) := [(8, 179, 0, 134, 0, false, 938, 940, 47, 69), (8, 182, 0, 136, 0, false, 946, 948, 48, 69), (8, 185, 0, 138, 1, false, 954, 956, 49, 69), (8, 194, 0, 142, 1, false, 980, 982, 52, 69), (8, 200, 0, 144, 0, false, 988, 990, 54, 69), (8, 203, 0, 145, 1, false, 992, 994, 55, 69), (8, 209, 0, 147, 0, false, 984, 986, 53, 69), (8, 212, 0, 143, 1, false, 996, 998, 56, 69), (8, 215, 0, 146, 0, false, 1000, 1002, 57, 69), (8, 218, 0, 148, 0, false, 976, 978, 51, 69), (8, 221, 0, 149, 0, false, 972, 974, 50, 69), (8, 224, 0, 151, 0, false, 1008, 1010, 58, 69), (8, 227, 0, 152, 0, false, 1012, 1014, 59, 69), (10, 122, 1, 157, 1, false, 927, 928, 0, 73), (11, 59, 1, 159, 1, false, 913, 914, 0, 72), (9, 9, 2, 59, 0, false, 76, 77, 0, 61), (9, 12, 2, 86, 0, false, 676, 677, 0, 69), (9, 13, 0, 60, 2, false, 323, 324, 325, 61), (9, 17, 0, 115, 2, false, 729, 730, 731, 69), (9, 18, 0, 61, 2, false, 380, 381, 382, 61)]
def evCT_8 : List (Nat × Nat × Nat × Nat × Nat × Bool × Nat × Nat × Nat × Nat) := [(9, 21, 0, 118, 2, false, 746, 747, 748, 69), (9, 22, 0, 62, 2, false, 392, 393, 394, 61), (9, 25, 0, 119, 2, false, 762, 763, 764, 69), (9, 26, 0, 63, 1, false, 400, 401, 402, 61), (9, 30, 0, 122, 1, false, 774, 775, 776, 69), (9, 31, 0, 64, 2, false, 412, 413, 414, 61), (9, 34, 0, 124, 2, false, 790, 791, 792, 69), (9, 35, 0, 65, 1, false, 420, 421, 422, 61), (9, 38, 0, 126, 1, false, 798, 799, 800, 69), (9, 39, 0, 66, 2, false, 493, 494, 495, 61), (9, 42, 0, 128, 2, false, 874, 875, 876, 69), (9, 43, 0, 67, 2, false, 499, 500, 501, 61), (9, 46, 0, 129, 2, false, 882, 883, 884, 69), (9, 47, 0, 68, 2, false, 504, 505, 506, 61), (9, 50, 0, 130, 2, false, 890, 891, 892, 69), (9, 51, 0, 69, 1, false, 516, 517, 518, 61), (9, 54, 0, 131, 1, false, 894, 895, 896, 69), (9, 55, 0, 70, 0, false, 537, 538, 539, 61), (9, 59, 0, 132, 0, false, 906, 907, 908, 69), (9, 60, 0, 71, 0, false, 546, 547, 548, 61)]
def evCT_9 : List (Nat × Nat × Nat × Nat × Nat × Bool × Nat × Nat × Nat × Nat) := [(9, 64, 0, 133, 0, false, 920, 921, 922, 69), (9, 65, 0, 72, 0, false, 562, 563, 564, 61), (9, 68, 0, 135, 0, false, 934, 935, 936, 69), (9, 69, 0, 73, 1, false, 572, 573, 574, 61), (9, 72, 0, 137, 1, false, 942, 943, 944, 69), (9, 73, 0, 74, 2, false, 581, 582, 583, 61), (9, 76, 0, 139, 2, false, 950, 951, 952, 69), (9, 79, 0, 75, 1, false, 590, 591, 592, 61), (9, 83, 0, 140, 1, false, 959, 960, 961, 69), (9, 84, 0, 76, 0, false, 604, 605, 606, 61), (9, 87, 0, 141, 0, false, 964, 965, 966, 69), (9, 88, 0, 77, 0, false, 612, 613, 614, 61), (9, 91, 0, 150, 0, false, 968, 969, 970, 69), (9, 92, 0, 78, 0, false, 648, 649, 650, 61), (9, 95, 0, 153, 0, false, 1004, 1005, 1006, 69), (9, 96, 0, 79, 0, false, 658, 659, 660, 61), (9, 99, 0, 154, 0, false, 1016, 1017, 1018, 69), (9, 100, 0, 80, 1, false, 666, 667, 668, 61), (9, 103, 0, 155, 1, false, 1020, 1021, 1022, 69), (9, 104, 0, 81, 1, false, 670, 671, 672, 61)]
def evCT_10 : List (Nat × Nat × Nat × Nat × Nat × Bool × Nat × Nat × Nat × Nat) := [(9, 107, 0, 156, 1, false, 1024, 1025, 1026, 69)]
def evCT : List (Nat × Nat × Nat × Nat × Nat × Bool × Nat × Nat × Nat × Nat) := evCT_1 ++ (evCT_2 ++ (evCT_3 ++ (evCT_4 ++ (evCT_5 ++ (evCT_6 ++ (evCT_7 ++ (evCT_8 ++ (evCT_9 ++ (evCT_10)))))))))
def evNT_1 : List (Nat × Nat × Nat × Nat × Nat × Nat × Nat) := [(0, 3, 3, 118, 80, 81, 0), (1, 1, 3, 112, 80, 81, 0), (2, 3, 3, 87, 80, 81, 0), (2, 47, 0, 335, 337, 336, 70), (3, 3, 3, 257, 80, 81, 0), (4, 1, 3, 182, 80, 81, 0), (5, 3, 3, 277, 80, 81, 0), (6, 1, 3, 99, 80, 81, 0), (6, 13, 0, 364, 337, 336, 70), (7, 1, 3, 79, 80, 81, 0), (8, 1, 3, 679, 80, 81, 0), (10, 134, 2, 930, 932, 931, 73), (11, 74, 1, 916, 918, 917, 72)]
def evNT : List (Nat × Nat × Nat × Nat × Nat × Nat × Nat) := evNT_1
def evWT_1 : List (Nat × Nat × Nat × Nat × Nat × Nat) := [(1, 7, 0, 113, 114, 65), (2, 37, 6, 94, 95, 63), (2, 19, 1, 88, 108, 64), (2, 25, 4, 90, 178, 66), (2, 31, 0, 92, 114, 65), (3, 11, 2, 258, 83, 62), (4, 7, 0, 183, 114, 65), (7, 7, 2, 82, 83, 62), (7, 19, 3, 252, 253, 67), (7, 26, 5, 272, 273, 68), (9, 7, 7, 74, 75, 61), (9, 10, 8, 674, 675, 69)]
def evWT : List (Nat × Nat × Nat × Nat × Nat × Nat) := evWT_1
def evAT_1 : List (Nat × Nat × Nat × Nat × Nat) := [(2, 19, 11, 88, 89), (2, 25, 13, 90, 91), (2, 31, 10, 92, 93), (3, 11, 12, 258, 259), (7, 7, 12, 82, 259)]
def evAT : List (Nat × Nat × Nat × Nat × Nat) := evAT_1
def evLT_1 : List (Nat × Nat × Value × Nat) := [(5, 23, .long (255), 601), (5, 25, .long (33), 602), (5, 27, .long (126), 603), (7, 202, .int (100000), 589), (7, 235, .float (1258291200), 544), (7, 236, .int (8388607), 545), (7, 237, .long (1023), 557), (7, 239, .double (4611686018427387904), 558), (7, 241, .long (2046), 559), (7, 243, .double (4841369599423283200), 560), (7, 245, .long (4503599627370495), 561), (8, 188, .int (100000), 958), (8, 189, .long (255), 963), (10, 137, .long (9221120237041090560), 933), (11, 77, .int (2143289344), 919), (9, 77, .long (4294967295), 1028)]
def evLT : List (Nat × Nat × Value × Nat) := evLT_1
def evST_1 : List (Nat × Nat × Nat × Nat) := [(2, 82, 0, 369), (2, 85, 1, 371)]
def evST : List (Nat × Nat × Nat × Nat) := evST_1
def evFokB (q : Nat × Nat × Nat × Nat × Bool × Nat) : Bool := match vwCl[q.2.2.1]? with
  | none => false
  | some (C, T, N) => decide (q.2.2.2.1 < N) && (if q.2.2.2.2.1 then decide (lw_tbl[q.2.2.2.2.2]? = some (Cond.fieldLinkNest (evOs q.1) q.2.1 C (T q.2.2.2.1).2.1 (T q.2.2.2.1).2.2.1 "EchoBids")) else decide (lw_tbl[q.2.2.2.2.2]? = some (Cond.fieldLink (evOs q.1) q.2.1 C (T q.2.2.2.1).2.1 (T q.2.2.2.1).2.2.1)))
set_option maxRecDepth 100000 in
theorem evFT_ok : evFT.all evFokB = true := by decide +kernel
def evCokB (q : Nat × Nat × Nat × Nat × Nat × Bool × Nat × Nat × Nat × Nat) : Bool := match q with
  | (o, i, kd, y, n, ne, pl, pb, pc, pd) =>
    (if ne then decide (lw_tbl[pl]? = some (Cond.methodLinkNest (evOs o) i (evName y) "EchoBids")) else decide (lw_tbl[pl]? = some (Cond.methodLink (evOs o) i (evName y)))) &&
    (if kd = 1 then decide (lw_tbl[pb]? = some (Cond.static (evName y))) else decide (lw_tbl[pb]? = some (Cond.instanceMethod (evName y)))) &&
    (if kd = 0 then decide (lw_tbl[pc]? = some (Cond.selects (evName y).cls (evName y) (evName y))) else true) &&
    decide (lw_tbl[pd]? = some (Cond.initialized (evName y).cls)) &&
    decide ((evName y).cls ≠ "java/lang/invoke/MethodHandle" ∧ (evName y).cls ≠ "java/lang/invoke/VarHandle" ∧ (parseMethodDescriptor (evName y).desc).map (fun d => d.parameters.length) = some n) &&
    (if kd = 2 then decide ((evName y).name = "<init>") && decide (evRet y = none) else true) && decide (y < evLawN) && decide (kd < 3) && decide ((evName y).cls = evOs (evOw y))
set_option maxRecDepth 100000 in
theorem evCT_ok : evCT.all evCokB = true := by decide +kernel
def evNokB (q : Nat × Nat × Nat × Nat × Nat × Nat × Nat) : Bool := match q with
  | (o, i, k, p1, p2, p3, p4) =>
    if k = 3 then decide (lw_tbl[p1]? = some (Cond.methodLink (evOs o) i objectInit)) && decide (lw_tbl[p2]? = some (Cond.instanceMethod objectInit)) && decide (p3 = 81)
    else if k = 0 then decide (lw_tbl[p1]? = some (Cond.methodLink (evOs o) i arraycopyName)) && decide (lw_tbl[p2]? = some (Cond.native arraycopyName)) && decide (lw_tbl[p3]? = some (Cond.static arraycopyName)) && decide (lw_tbl[p4]? = some (Cond.initialized "java/lang/System"))
    else if k = 1 then decide (lw_tbl[p1]? = some (Cond.methodLink (evOs o) i ⟨"java/lang/Float", "floatToRawIntBits", "(F)I"⟩)) && decide (lw_tbl[p2]? = some (Cond.native ⟨"java/lang/Float", "floatToRawIntBits", "(F)I"⟩)) && decide (lw_tbl[p3]? = some (Cond.static ⟨"java/lang/Float", "floatToRawIntBits", "(F)I"⟩)) && decide (lw_tbl[p4]? = some (Cond.initialized "java/lang/Float"))
    else if k = 2 then decide (lw_tbl[p1]? = some (Cond.methodLink (evOs o) i ⟨"java/lang/Double", "doubleToRawLongBits", "(D)J"⟩)) && decide (lw_tbl[p2]? = some (Cond.native ⟨"java/lang/Double", "doubleToRawLongBits", "(D)J"⟩)) && decide (lw_tbl[p3]? = some (Cond.static ⟨"java/lang/Double", "doubleToRawLongBits", "(D)J"⟩)) && decide (lw_tbl[p4]? = some (Cond.initialized "java/lang/Double"))
    else false
set_option maxRecDepth 100000 in
theorem evNT_ok : evNT.all evNokB = true := by decide +kernel
theorem evObjCode : Cond.code objectInit ⟨#[0xb1]⟩ 1 none ∈ lw_tbl := List.mem_of_getElem? (i := 81) rfl
def evWokB (q : Nat × Nat × Nat × Nat × Nat × Nat) : Bool := match q with
  | (o, i, ci, p1, p2, p3) => match vwCl[ci]? with
    | none => false
    | some (C, _, N) => decide (lw_tbl[p1]? = some (Cond.classLink (evOs o) i C)) && decide (lw_tbl[p2]? = some (Cond.instantiable C N)) && decide (lw_tbl[p3]? = some (Cond.initialized C))
set_option maxRecDepth 100000 in
theorem evWT_ok : evWT.all evWokB = true := by decide +kernel
/-- the kind of what an array of references holds -/
def evEl (k : Nat) : Nat := match k with
  | 10 => 0
  | 11 => 1
  | 12 => 2
  | _ => 4
def evAokB (q : Nat × Nat × Nat × Nat × Nat) : Bool := match q with
  | (o, i, k, p1, p2) => match vwCl[evEl k]? with
    | none => false
    | some (C, _, _) => decide (10 ≤ k ∧ k ≤ 13) && decide (lw_tbl[p1]? = some (Cond.classLink (evOs o) i C)) && decide (lw_tbl[p2]? = some (Cond.arrayOver (.object C)))
set_option maxRecDepth 100000 in
theorem evAT_ok : evAT.all evAokB = true := by decide +kernel
def evLokB (q : Nat × Nat × Value × Nat) : Bool := match q with
  | (o, i, v, p) => match v with
    | .int x => decide (lw_tbl[p]? = some (Cond.constant (evOs o) i x))
    | .long x => decide (lw_tbl[p]? = some (Cond.constantLong (evOs o) i x))
    | .float x => decide (lw_tbl[p]? = some (Cond.constantFloat (evOs o) i x))
    | .double x => decide (lw_tbl[p]? = some (Cond.constantDouble (evOs o) i x))
    | _ => false
set_option maxRecDepth 100000 in
theorem evLT_ok : evLT.all evLokB = true := by decide +kernel
def evGn (k : Nat) : String := match k with
  | 0 => "LEAST"
  | _ => "GREATEST"
def evSokB (q : Nat × Nat × Nat × Nat) : Bool := match q with
  | (o, i, k, p) => decide (k < 2) && decide (lw_tbl[p]? = some (Cond.fieldLinkNest (evOs o) i "EchoBids" (evGn k) "[I" "EchoBids"))
set_option maxRecDepth 100000 in
theorem evST_ok : evST.all evSokB = true := by decide +kernel
set_option maxRecDepth 100000 in
theorem evOw_ok : ∀ y, y < evLawN → (evName y).cls = evOs (evOw y) := by decide +kernel
def evF (y i : Nat) : Option (Nat × Nat × Bool × Nat) := (evFT.find? (fun q => q.1 == evOw y && q.2.1 == i)).map (fun q => q.2.2)
def evCl (y i : Nat) : Option (Nat × Nat × Nat × Bool × Nat × Nat × Nat × Nat) := (evCT.find? (fun q => q.1 == evOw y && q.2.1 == i)).map (fun q => q.2.2)
def evNa (y i : Nat) : Option (Nat × Nat × Nat × Nat × Nat) := (evNT.find? (fun q => q.1 == evOw y && q.2.1 == i)).map (fun q => q.2.2)
def evWn (y i : Nat) : Option (Nat × Nat × Nat × Nat) := (evWT.find? (fun q => q.1 == evOw y && q.2.1 == i)).map (fun q => q.2.2)
def evAn (y i : Nat) : Option (Nat × Nat × Nat) := (evAT.find? (fun q => q.1 == evOw y && q.2.1 == i)).map (fun q => q.2.2)
def evLd (y i : Nat) : Option (Value × Nat) := (evLT.find? (fun q => q.1 == evOw y && q.2.1 == i)).map (fun q => q.2.2)
def evSt (y i : Nat) : Option (Nat × Nat) := (evST.find? (fun q => q.1 == evOw y && q.2.1 == i)).map (fun q => q.2.2)
/-- the fields of kind k: how many; which hold references; which are final; their types -/
def evFN (k : Nat) : Nat := match k with
  | 0 => 3
  | 1 => 9
  | 2 => 10
  | 3 => 3
  | 4 => 6
  | 5 => 8
  | 6 => 2
  | 7 => 5
  | 8 => 16
  | _ => 0
def evIsR (k j : Nat) : Bool := match k with
  | 0 => false
  | 1 => decide (j = 8)
  | 2 => decide (j = 0) || decide (j = 6) || decide (j = 7) || decide (j = 8) || decide (j = 9)
  | 3 => decide (j = 0)
  | 4 => decide (j = 5)
  | 5 => decide (j = 0)
  | 6 => decide (j = 0)
  | 7 => decide (j = 0) || decide (j = 1) || decide (j = 2) || decide (j = 3) || decide (j = 4)
  | 8 => decide (j = 0) || decide (j = 1) || decide (j = 2) || decide (j = 4) || decide (j = 5) || decide (j = 6) || decide (j = 11) || decide (j = 14)
  | _ => false
def evTy (k : Nat) : Nat → FieldType := match k with
  | 0 => tyX0
  | 1 => tyX1
  | 2 => tyX2
  | 3 => tyX3
  | 4 => tyX4
  | 5 => tyX5
  | 6 => tyX6
  | 7 => tyX7
  | 8 => tyX8
  | _ => fun _ => .int
def evFin (k j : Nat) : Bool := match vwCl[k]? with
  | some (_, T, _) => (T j).2.2.2
  | none => false
/-- the words that a call hands on -/
def evTb : List Cond := lw_tbl.filter goodWord
