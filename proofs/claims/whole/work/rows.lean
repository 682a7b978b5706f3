section
-- ===== PART A: goes FIRST, ahead of the names: the tables' words, and 'selects' of the private methods out of them =====
/-- a private method of a class that the tables say can be made, by its rows of tables_1 -/
def lw_okq (q : MethodName × Nat) : Prop := (q.1.cls ≠ "java/lang/invoke/MethodHandle" ∧ q.1.cls ≠ "java/lang/invoke/VarHandle") ∧ Cond.instantiable q.1.cls q.2 ∈ tables_1 ∧ Cond.privateMethod q.1 ∈ tables_1 ∧ Cond.instanceMethod q.1 ∈ tables_1
theorem lw_p0 : lw_okq (⟨"EchoBids$Hall", "copyRows", "(LEchoBids$Hall;)V"⟩, 10) := ⟨⟨by decide +kernel, by decide +kernel⟩, List.mem_of_getElem? (i := 23) (by decide +kernel), List.mem_of_getElem? (i := 279) (by decide +kernel), List.mem_of_getElem? (i := 280) (by decide +kernel)⟩
theorem lw_p1 : lw_okq (⟨"EchoBids$Hall", "beginLot", "()V"⟩, 10) := ⟨⟨by decide +kernel, by decide +kernel⟩, List.mem_of_getElem? (i := 23) (by decide +kernel), List.mem_of_getElem? (i := 373) (by decide +kernel), List.mem_of_getElem? (i := 374) (by decide +kernel)⟩
theorem lw_p2 : lw_okq (⟨"EchoBids$Hall", "takeBids", "(LEchoBids$Lot;)V"⟩, 10) := ⟨⟨by decide +kernel, by decide +kernel⟩, List.mem_of_getElem? (i := 23) (by decide +kernel), List.mem_of_getElem? (i := 385) (by decide +kernel), List.mem_of_getElem? (i := 386) (by decide +kernel)⟩
theorem lw_p3 : lw_okq (⟨"EchoBids$Hall", "chooseBid", "(LEchoBids$Bidder;IILEchoBids$Bid;)I"⟩, 10) := ⟨⟨by decide +kernel, by decide +kernel⟩, List.mem_of_getElem? (i := 23) (by decide +kernel), List.mem_of_getElem? (i := 404) (by decide +kernel), List.mem_of_getElem? (i := 405) (by decide +kernel)⟩
theorem lw_p4 : lw_okq (⟨"EchoBids$Hall", "noteBid", "(LEchoBids$Bidder;III)V"⟩, 10) := ⟨⟨by decide +kernel, by decide +kernel⟩, List.mem_of_getElem? (i := 23) (by decide +kernel), List.mem_of_getElem? (i := 409) (by decide +kernel), List.mem_of_getElem? (i := 410) (by decide +kernel)⟩
theorem lw_p5 : lw_okq (⟨"EchoBids$Hall", "echoRound", "(LEchoBids$Lot;)V"⟩, 10) := ⟨⟨by decide +kernel, by decide +kernel⟩, List.mem_of_getElem? (i := 23) (by decide +kernel), List.mem_of_getElem? (i := 419) (by decide +kernel), List.mem_of_getElem? (i := 420) (by decide +kernel)⟩
theorem lw_p6 : lw_okq (⟨"EchoBids$Hall", "endLot", "(LEchoBids$Lot;)V"⟩, 10) := ⟨⟨by decide +kernel, by decide +kernel⟩, List.mem_of_getElem? (i := 23) (by decide +kernel), List.mem_of_getElem? (i := 423) (by decide +kernel), List.mem_of_getElem? (i := 424) (by decide +kernel)⟩
theorem lw_p7 : lw_okq (⟨"EchoBids$Hall", "priceOf", "(LEchoBids$Lot;)I"⟩, 10) := ⟨⟨by decide +kernel, by decide +kernel⟩, List.mem_of_getElem? (i := 23) (by decide +kernel), List.mem_of_getElem? (i := 427) (by decide +kernel), List.mem_of_getElem? (i := 428) (by decide +kernel)⟩
theorem lw_p8 : lw_okq (⟨"EchoBids", "gainWith", "(II)I"⟩, 5) := ⟨⟨by decide +kernel, by decide +kernel⟩, List.mem_of_getElem? (i := 15) (by decide +kernel), List.mem_of_getElem? (i := 526) (by decide +kernel), List.mem_of_getElem? (i := 527) (by decide +kernel)⟩
theorem lw_p9 : lw_okq (⟨"EchoBids$Pad", "sign", "()I"⟩, 8) := ⟨⟨by decide +kernel, by decide +kernel⟩, List.mem_of_getElem? (i := 213) (by decide +kernel), List.mem_of_getElem? (i := 569) (by decide +kernel), List.mem_of_getElem? (i := 570) (by decide +kernel)⟩
theorem lw_p10 : lw_okq (⟨"EchoBids$Pad", "readNumber", "()I"⟩, 8) := ⟨⟨by decide +kernel, by decide +kernel⟩, List.mem_of_getElem? (i := 213) (by decide +kernel), List.mem_of_getElem? (i := 573) (by decide +kernel), List.mem_of_getElem? (i := 574) (by decide +kernel)⟩
theorem lw_p11 : lw_okq (⟨"EchoBids$Pad", "readDigit", "()I"⟩, 8) := ⟨⟨by decide +kernel, by decide +kernel⟩, List.mem_of_getElem? (i := 213) (by decide +kernel), List.mem_of_getElem? (i := 577) (by decide +kernel), List.mem_of_getElem? (i := 578) (by decide +kernel)⟩
theorem lw_p12 : lw_okq (⟨"EchoBids$Pad", "atDigit", "()Z"⟩, 8) := ⟨⟨by decide +kernel, by decide +kernel⟩, List.mem_of_getElem? (i := 213) (by decide +kernel), List.mem_of_getElem? (i := 581) (by decide +kernel), List.mem_of_getElem? (i := 582) (by decide +kernel)⟩
theorem lw_p13 : lw_okq (⟨"EchoBids$Pad", "expect", "(I)V"⟩, 8) := ⟨⟨by decide +kernel, by decide +kernel⟩, List.mem_of_getElem? (i := 213) (by decide +kernel), List.mem_of_getElem? (i := 585) (by decide +kernel), List.mem_of_getElem? (i := 586) (by decide +kernel)⟩
theorem lw_p14 : lw_okq (⟨"EchoBids", "carryOrder", "()I"⟩, 5) := ⟨⟨by decide +kernel, by decide +kernel⟩, List.mem_of_getElem? (i := 15) (by decide +kernel), List.mem_of_getElem? (i := 595) (by decide +kernel), List.mem_of_getElem? (i := 596) (by decide +kernel)⟩
theorem lw_p15 : lw_okq (⟨"EchoBidsModel", "record", "()V"⟩, 16) := ⟨⟨by decide +kernel, by decide +kernel⟩, List.mem_of_getElem? (i := 615) (by decide +kernel), List.mem_of_getElem? (i := 680) (by decide +kernel), List.mem_of_getElem? (i := 681) (by decide +kernel)⟩
def lw_privs_1 : List (MethodName × Nat) := [(⟨"EchoBids$Hall", "copyRows", "(LEchoBids$Hall;)V"⟩, 10), (⟨"EchoBids$Hall", "beginLot", "()V"⟩, 10), (⟨"EchoBids$Hall", "takeBids", "(LEchoBids$Lot;)V"⟩, 10), (⟨"EchoBids$Hall", "chooseBid", "(LEchoBids$Bidder;IILEchoBids$Bid;)I"⟩, 10), (⟨"EchoBids$Hall", "noteBid", "(LEchoBids$Bidder;III)V"⟩, 10), (⟨"EchoBids$Hall", "echoRound", "(LEchoBids$Lot;)V"⟩, 10), (⟨"EchoBids$Hall", "endLot", "(LEchoBids$Lot;)V"⟩, 10), (⟨"EchoBids$Hall", "priceOf", "(LEchoBids$Lot;)I"⟩, 10), (⟨"EchoBids", "gainWith", "(II)I"⟩, 5), (⟨"EchoBids$Pad", "sign", "()I"⟩, 8), (⟨"EchoBids$Pad", "readNumber", "()I"⟩, 8), (⟨"EchoBids$Pad", "readDigit", "()I"⟩, 8), (⟨"EchoBids$Pad", "atDigit", "()Z"⟩, 8), (⟨"EchoBids$Pad", "expect", "(I)V"⟩, 8), (⟨"EchoBids", "carryOrder", "()I"⟩, 5), (⟨"EchoBidsModel", "record", "()V"⟩, 16)]
theorem lw_r1 : ∀ q ∈ lw_privs_1, lw_okq q := List.forall_mem_cons.mpr ⟨lw_p0, List.forall_mem_cons.mpr ⟨lw_p1, List.forall_mem_cons.mpr ⟨lw_p2, List.forall_mem_cons.mpr ⟨lw_p3, List.forall_mem_cons.mpr ⟨lw_p4, List.forall_mem_cons.mpr ⟨lw_p5, List.forall_mem_cons.mpr ⟨lw_p6, List.forall_mem_cons.mpr ⟨lw_p7, List.forall_mem_cons.mpr ⟨lw_p8, List.forall_mem_cons.mpr ⟨lw_p9, List.forall_mem_cons.mpr ⟨lw_p10, List.forall_mem_cons.mpr ⟨lw_p11, List.forall_mem_cons.mpr ⟨lw_p12, List.forall_mem_cons.mpr ⟨lw_p13, List.forall_mem_cons.mpr ⟨lw_p14, List.forall_mem_cons.mpr ⟨lw_p15, fun _ h => absurd h List.not_mem_nil⟩⟩⟩⟩⟩⟩⟩⟩⟩⟩⟩⟩⟩⟩⟩⟩
theorem lw_p16 : lw_okq (⟨"EchoBidsModel", "whyNoBidder", "(II)I"⟩, 16) := ⟨⟨by decide +kernel, by decide +kernel⟩, List.mem_of_getElem? (i := 615) (by decide +kernel), List.mem_of_getElem? (i := 691) (by decide +kernel), List.mem_of_getElem? (i := 692) (by decide +kernel)⟩
theorem lw_p17 : lw_okq (⟨"EchoBidsModel", "comes", "(II)I"⟩, 16) := ⟨⟨by decide +kernel, by decide +kernel⟩, List.mem_of_getElem? (i := 615) (by decide +kernel), List.mem_of_getElem? (i := 695) (by decide +kernel), List.mem_of_getElem? (i := 696) (by decide +kernel)⟩
theorem lw_p18 : lw_okq (⟨"EchoBidsModel", "setBidder", "(III)V"⟩, 16) := ⟨⟨by decide +kernel, by decide +kernel⟩, List.mem_of_getElem? (i := 615) (by decide +kernel), List.mem_of_getElem? (i := 699) (by decide +kernel), List.mem_of_getElem? (i := 700) (by decide +kernel)⟩
theorem lw_p19 : lw_okq (⟨"EchoBidsModel", "isBidder", "(I)Z"⟩, 16) := ⟨⟨by decide +kernel, by decide +kernel⟩, List.mem_of_getElem? (i := 615) (by decide +kernel), List.mem_of_getElem? (i := 707) (by decide +kernel), List.mem_of_getElem? (i := 708) (by decide +kernel)⟩
theorem lw_p20 : lw_okq (⟨"EchoBidsModel", "bidderPart", "(II)I"⟩, 16) := ⟨⟨by decide +kernel, by decide +kernel⟩, List.mem_of_getElem? (i := 615) (by decide +kernel), List.mem_of_getElem? (i := 711) (by decide +kernel), List.mem_of_getElem? (i := 712) (by decide +kernel)⟩
theorem lw_p21 : lw_okq (⟨"EchoBidsModel", "whyNoLot", "(I)I"⟩, 16) := ⟨⟨by decide +kernel, by decide +kernel⟩, List.mem_of_getElem? (i := 615) (by decide +kernel), List.mem_of_getElem? (i := 719) (by decide +kernel), List.mem_of_getElem? (i := 720) (by decide +kernel)⟩
theorem lw_p22 : lw_okq (⟨"EchoBidsModel", "lotComes", "(I)I"⟩, 16) := ⟨⟨by decide +kernel, by decide +kernel⟩, List.mem_of_getElem? (i := 615) (by decide +kernel), List.mem_of_getElem? (i := 723) (by decide +kernel), List.mem_of_getElem? (i := 724) (by decide +kernel)⟩
theorem lw_p23 : lw_okq (⟨"EchoBidsModel", "setLot", "(III)V"⟩, 16) := ⟨⟨by decide +kernel, by decide +kernel⟩, List.mem_of_getElem? (i := 615) (by decide +kernel), List.mem_of_getElem? (i := 727) (by decide +kernel), List.mem_of_getElem? (i := 728) (by decide +kernel)⟩
theorem lw_p24 : lw_okq (⟨"EchoBidsModel", "whyNotTold", "(II)I"⟩, 16) := ⟨⟨by decide +kernel, by decide +kernel⟩, List.mem_of_getElem? (i := 615) (by decide +kernel), List.mem_of_getElem? (i := 735) (by decide +kernel), List.mem_of_getElem? (i := 736) (by decide +kernel)⟩
theorem lw_p25 : lw_okq (⟨"EchoBidsModel", "whyNotPassed", "(I)I"⟩, 16) := ⟨⟨by decide +kernel, by decide +kernel⟩, List.mem_of_getElem? (i := 615) (by decide +kernel), List.mem_of_getElem? (i := 743) (by decide +kernel), List.mem_of_getElem? (i := 744) (by decide +kernel)⟩
theorem lw_p26 : lw_okq (⟨"EchoBidsModel", "passes", "(I)I"⟩, 16) := ⟨⟨by decide +kernel, by decide +kernel⟩, List.mem_of_getElem? (i := 615) (by decide +kernel), List.mem_of_getElem? (i := 747) (by decide +kernel), List.mem_of_getElem? (i := 748) (by decide +kernel)⟩
theorem lw_p27 : lw_okq (⟨"EchoBidsModel", "round", "()I"⟩, 16) := ⟨⟨by decide +kernel, by decide +kernel⟩, List.mem_of_getElem? (i := 615) (by decide +kernel), List.mem_of_getElem? (i := 751) (by decide +kernel), List.mem_of_getElem? (i := 752) (by decide +kernel)⟩
theorem lw_p28 : lw_okq (⟨"EchoBidsModel", "firstWaiting", "()I"⟩, 16) := ⟨⟨by decide +kernel, by decide +kernel⟩, List.mem_of_getElem? (i := 615) (by decide +kernel), List.mem_of_getElem? (i := 755) (by decide +kernel), List.mem_of_getElem? (i := 756) (by decide +kernel)⟩
theorem lw_p29 : lw_okq (⟨"EchoBidsModel", "lotPart", "(II)I"⟩, 16) := ⟨⟨by decide +kernel, by decide +kernel⟩, List.mem_of_getElem? (i := 615) (by decide +kernel), List.mem_of_getElem? (i := 759) (by decide +kernel), List.mem_of_getElem? (i := 760) (by decide +kernel)⟩
theorem lw_p30 : lw_okq (⟨"EchoBidsModel", "begins", "(I)V"⟩, 16) := ⟨⟨by decide +kernel, by decide +kernel⟩, List.mem_of_getElem? (i := 615) (by decide +kernel), List.mem_of_getElem? (i := 763) (by decide +kernel), List.mem_of_getElem? (i := 764) (by decide +kernel)⟩
theorem lw_p31 : lw_okq (⟨"EchoBidsModel", "runsOn", "()Z"⟩, 16) := ⟨⟨by decide +kernel, by decide +kernel⟩, List.mem_of_getElem? (i := 615) (by decide +kernel), List.mem_of_getElem? (i := 767) (by decide +kernel), List.mem_of_getElem? (i := 768) (by decide +kernel)⟩
def lw_privs_2 : List (MethodName × Nat) := [(⟨"EchoBidsModel", "whyNoBidder", "(II)I"⟩, 16), (⟨"EchoBidsModel", "comes", "(II)I"⟩, 16), (⟨"EchoBidsModel", "setBidder", "(III)V"⟩, 16), (⟨"EchoBidsModel", "isBidder", "(I)Z"⟩, 16), (⟨"EchoBidsModel", "bidderPart", "(II)I"⟩, 16), (⟨"EchoBidsModel", "whyNoLot", "(I)I"⟩, 16), (⟨"EchoBidsModel", "lotComes", "(I)I"⟩, 16), (⟨"EchoBidsModel", "setLot", "(III)V"⟩, 16), (⟨"EchoBidsModel", "whyNotTold", "(II)I"⟩, 16), (⟨"EchoBidsModel", "whyNotPassed", "(I)I"⟩, 16), (⟨"EchoBidsModel", "passes", "(I)I"⟩, 16), (⟨"EchoBidsModel", "round", "()I"⟩, 16), (⟨"EchoBidsModel", "firstWaiting", "()I"⟩, 16), (⟨"EchoBidsModel", "lotPart", "(II)I"⟩, 16), (⟨"EchoBidsModel", "begins", "(I)V"⟩, 16), (⟨"EchoBidsModel", "runsOn", "()Z"⟩, 16)]
theorem lw_r2 : ∀ q ∈ lw_privs_2, lw_okq q := List.forall_mem_cons.mpr ⟨lw_p16, List.forall_mem_cons.mpr ⟨lw_p17, List.forall_mem_cons.mpr ⟨lw_p18, List.forall_mem_cons.mpr ⟨lw_p19, List.forall_mem_cons.mpr ⟨lw_p20, List.forall_mem_cons.mpr ⟨lw_p21, List.forall_mem_cons.mpr ⟨lw_p22, List.forall_mem_cons.mpr ⟨lw_p23, List.forall_mem_cons.mpr ⟨lw_p24, List.forall_mem_cons.mpr ⟨lw_p25, List.forall_mem_cons.mpr ⟨lw_p26, List.forall_mem_cons.mpr ⟨lw_p27, List.forall_mem_cons.mpr ⟨lw_p28, List.forall_mem_cons.mpr ⟨lw_p29, List.forall_mem_cons.mpr ⟨lw_p30, List.forall_mem_cons.mpr ⟨lw_p31, fun _ h => absurd h List.not_mem_nil⟩⟩⟩⟩⟩⟩⟩⟩⟩⟩⟩⟩⟩⟩⟩⟩
theorem lw_p32 : lw_okq (⟨"EchoBidsModel", "bidOf", "(I)I"⟩, 16) := ⟨⟨by decide +kernel, by decide +kernel⟩, List.mem_of_getElem? (i := 615) (by decide +kernel), List.mem_of_getElem? (i := 771) (by decide +kernel), List.mem_of_getElem? (i := 772) (by decide +kernel)⟩
theorem lw_p33 : lw_okq (⟨"EchoBidsModel", "believes", "(I)V"⟩, 16) := ⟨⟨by decide +kernel, by decide +kernel⟩, List.mem_of_getElem? (i := 615) (by decide +kernel), List.mem_of_getElem? (i := 775) (by decide +kernel), List.mem_of_getElem? (i := 776) (by decide +kernel)⟩
theorem lw_p34 : lw_okq (⟨"EchoBidsModel", "hears", "(III)V"⟩, 16) := ⟨⟨by decide +kernel, by decide +kernel⟩, List.mem_of_getElem? (i := 615) (by decide +kernel), List.mem_of_getElem? (i := 779) (by decide +kernel), List.mem_of_getElem? (i := 780) (by decide +kernel)⟩
theorem lw_p35 : lw_okq (⟨"EchoBidsModel", "limitOf", "(I)I"⟩, 16) := ⟨⟨by decide +kernel, by decide +kernel⟩, List.mem_of_getElem? (i := 615) (by decide +kernel), List.mem_of_getElem? (i := 783) (by decide +kernel), List.mem_of_getElem? (i := 784) (by decide +kernel)⟩
theorem lw_p36 : lw_okq (⟨"EchoBidsModel", "makesBids", "(I)Z"⟩, 16) := ⟨⟨by decide +kernel, by decide +kernel⟩, List.mem_of_getElem? (i := 615) (by decide +kernel), List.mem_of_getElem? (i := 787) (by decide +kernel), List.mem_of_getElem? (i := 788) (by decide +kernel)⟩
theorem lw_p37 : lw_okq (⟨"EchoBidsModel", "adds", "(III)V"⟩, 16) := ⟨⟨by decide +kernel, by decide +kernel⟩, List.mem_of_getElem? (i := 615) (by decide +kernel), List.mem_of_getElem? (i := 791) (by decide +kernel), List.mem_of_getElem? (i := 792) (by decide +kernel)⟩
theorem lw_p38 : lw_okq (⟨"EchoBidsModel", "keepsBest", "(IIII)V"⟩, 16) := ⟨⟨by decide +kernel, by decide +kernel⟩, List.mem_of_getElem? (i := 615) (by decide +kernel), List.mem_of_getElem? (i := 795) (by decide +kernel), List.mem_of_getElem? (i := 796) (by decide +kernel)⟩
theorem lw_p39 : lw_okq (⟨"EchoBidsModel", "keepsMade", "(IIZ)V"⟩, 16) := ⟨⟨by decide +kernel, by decide +kernel⟩, List.mem_of_getElem? (i := 615) (by decide +kernel), List.mem_of_getElem? (i := 799) (by decide +kernel), List.mem_of_getElem? (i := 800) (by decide +kernel)⟩
theorem lw_p40 : lw_okq (⟨"EchoBidsModel", "grows", "()V"⟩, 16) := ⟨⟨by decide +kernel, by decide +kernel⟩, List.mem_of_getElem? (i := 615) (by decide +kernel), List.mem_of_getElem? (i := 803) (by decide +kernel), List.mem_of_getElem? (i := 804) (by decide +kernel)⟩
theorem lw_p41 : lw_okq (⟨"EchoBidsModel", "ends", "(I)V"⟩, 16) := ⟨⟨by decide +kernel, by decide +kernel⟩, List.mem_of_getElem? (i := 615) (by decide +kernel), List.mem_of_getElem? (i := 807) (by decide +kernel), List.mem_of_getElem? (i := 808) (by decide +kernel)⟩
theorem lw_p42 : lw_okq (⟨"EchoBidsModel", "priceOf", "(I)I"⟩, 16) := ⟨⟨by decide +kernel, by decide +kernel⟩, List.mem_of_getElem? (i := 615) (by decide +kernel), List.mem_of_getElem? (i := 811) (by decide +kernel), List.mem_of_getElem? (i := 812) (by decide +kernel)⟩
theorem lw_p43 : lw_okq (⟨"EchoBidsModel", "belief", "(II)I"⟩, 16) := ⟨⟨by decide +kernel, by decide +kernel⟩, List.mem_of_getElem? (i := 615) (by decide +kernel), List.mem_of_getElem? (i := 819) (by decide +kernel), List.mem_of_getElem? (i := 820) (by decide +kernel)⟩
theorem lw_p44 : lw_okq (⟨"EchoBidsModel", "isLot", "(I)Z"⟩, 16) := ⟨⟨by decide +kernel, by decide +kernel⟩, List.mem_of_getElem? (i := 615) (by decide +kernel), List.mem_of_getElem? (i := 827) (by decide +kernel), List.mem_of_getElem? (i := 828) (by decide +kernel)⟩
theorem lw_p45 : lw_okq (⟨"EchoBidsModel", "withHow", "(I)I"⟩, 16) := ⟨⟨by decide +kernel, by decide +kernel⟩, List.mem_of_getElem? (i := 615) (by decide +kernel), List.mem_of_getElem? (i := 839) (by decide +kernel), List.mem_of_getElem? (i := 840) (by decide +kernel)⟩
theorem lw_p46 : lw_okq (⟨"EchoBidsModel", "ofAll", "(I)I"⟩, 16) := ⟨⟨by decide +kernel, by decide +kernel⟩, List.mem_of_getElem? (i := 615) (by decide +kernel), List.mem_of_getElem? (i := 843) (by decide +kernel), List.mem_of_getElem? (i := 844) (by decide +kernel)⟩
theorem lw_p47 : lw_okq (⟨"EchoBidsModel", "hasLots", "()Z"⟩, 16) := ⟨⟨by decide +kernel, by decide +kernel⟩, List.mem_of_getElem? (i := 615) (by decide +kernel), List.mem_of_getElem? (i := 879) (by decide +kernel), List.mem_of_getElem? (i := 880) (by decide +kernel)⟩
def lw_privs_3 : List (MethodName × Nat) := [(⟨"EchoBidsModel", "bidOf", "(I)I"⟩, 16), (⟨"EchoBidsModel", "believes", "(I)V"⟩, 16), (⟨"EchoBidsModel", "hears", "(III)V"⟩, 16), (⟨"EchoBidsModel", "limitOf", "(I)I"⟩, 16), (⟨"EchoBidsModel", "makesBids", "(I)Z"⟩, 16), (⟨"EchoBidsModel", "adds", "(III)V"⟩, 16), (⟨"EchoBidsModel", "keepsBest", "(IIII)V"⟩, 16), (⟨"EchoBidsModel", "keepsMade", "(IIZ)V"⟩, 16), (⟨"EchoBidsModel", "grows", "()V"⟩, 16), (⟨"EchoBidsModel", "ends", "(I)V"⟩, 16), (⟨"EchoBidsModel", "priceOf", "(I)I"⟩, 16), (⟨"EchoBidsModel", "belief", "(II)I"⟩, 16), (⟨"EchoBidsModel", "isLot", "(I)Z"⟩, 16), (⟨"EchoBidsModel", "withHow", "(I)I"⟩, 16), (⟨"EchoBidsModel", "ofAll", "(I)I"⟩, 16), (⟨"EchoBidsModel", "hasLots", "()Z"⟩, 16)]
theorem lw_r3 : ∀ q ∈ lw_privs_3, lw_okq q := List.forall_mem_cons.mpr ⟨lw_p32, List.forall_mem_cons.mpr ⟨lw_p33, List.forall_mem_cons.mpr ⟨lw_p34, List.forall_mem_cons.mpr ⟨lw_p35, List.forall_mem_cons.mpr ⟨lw_p36, List.forall_mem_cons.mpr ⟨lw_p37, List.forall_mem_cons.mpr ⟨lw_p38, List.forall_mem_cons.mpr ⟨lw_p39, List.forall_mem_cons.mpr ⟨lw_p40, List.forall_mem_cons.mpr ⟨lw_p41, List.forall_mem_cons.mpr ⟨lw_p42, List.forall_mem_cons.mpr ⟨lw_p43, List.forall_mem_cons.mpr ⟨lw_p44, List.forall_mem_cons.mpr ⟨lw_p45, List.forall_mem_cons.mpr ⟨lw_p46, List.forall_mem_cons.mpr ⟨lw_p47, fun _ h => absurd h List.not_mem_nil⟩⟩⟩⟩⟩⟩⟩⟩⟩⟩⟩⟩⟩⟩⟩⟩
theorem lw_p48 : lw_okq (⟨"EchoBidsModel", "goesFar", "()V"⟩, 16) := ⟨⟨by decide +kernel, by decide +kernel⟩, List.mem_of_getElem? (i := 615) (by decide +kernel), List.mem_of_getElem? (i := 887) (by decide +kernel), List.mem_of_getElem? (i := 888) (by decide +kernel)⟩
theorem lw_p49 : lw_okq (⟨"EchoBidsModel", "gainOf", "(I)I"⟩, 16) := ⟨⟨by decide +kernel, by decide +kernel⟩, List.mem_of_getElem? (i := 615) (by decide +kernel), List.mem_of_getElem? (i := 895) (by decide +kernel), List.mem_of_getElem? (i := 896) (by decide +kernel)⟩
theorem lw_p50 : lw_okq (⟨"EchoBidsModel", "findFault", "()I"⟩, 16) := ⟨⟨by decide +kernel, by decide +kernel⟩, List.mem_of_getElem? (i := 615) (by decide +kernel), List.mem_of_getElem? (i := 913) (by decide +kernel), List.mem_of_getElem? (i := 914) (by decide +kernel)⟩
theorem lw_p51 : lw_okq (⟨"EchoBidsModel", "readsOrder", "()Z"⟩, 16) := ⟨⟨by decide +kernel, by decide +kernel⟩, List.mem_of_getElem? (i := 615) (by decide +kernel), List.mem_of_getElem? (i := 917) (by decide +kernel), List.mem_of_getElem? (i := 918) (by decide +kernel)⟩
theorem lw_p52 : lw_okq (⟨"EchoBidsModel", "character", "(I)I"⟩, 16) := ⟨⟨by decide +kernel, by decide +kernel⟩, List.mem_of_getElem? (i := 615) (by decide +kernel), List.mem_of_getElem? (i := 921) (by decide +kernel), List.mem_of_getElem? (i := 922) (by decide +kernel)⟩
theorem lw_p53 : lw_okq (⟨"EchoBidsModel", "takesNumber", "()Z"⟩, 16) := ⟨⟨by decide +kernel, by decide +kernel⟩, List.mem_of_getElem? (i := 615) (by decide +kernel), List.mem_of_getElem? (i := 925) (by decide +kernel), List.mem_of_getElem? (i := 926) (by decide +kernel)⟩
theorem lw_p54 : lw_okq (⟨"EchoBidsModel", "isDigit", "()Z"⟩, 16) := ⟨⟨by decide +kernel, by decide +kernel⟩, List.mem_of_getElem? (i := 615) (by decide +kernel), List.mem_of_getElem? (i := 929) (by decide +kernel), List.mem_of_getElem? (i := 930) (by decide +kernel)⟩
theorem lw_p55 : lw_okq (⟨"EchoBidsModel", "takes", "(I)V"⟩, 16) := ⟨⟨by decide +kernel, by decide +kernel⟩, List.mem_of_getElem? (i := 615) (by decide +kernel), List.mem_of_getElem? (i := 933) (by decide +kernel), List.mem_of_getElem? (i := 934) (by decide +kernel)⟩
theorem lw_p56 : lw_okq (⟨"EchoBidsModel", "isNext", "(I)Z"⟩, 16) := ⟨⟨by decide +kernel, by decide +kernel⟩, List.mem_of_getElem? (i := 615) (by decide +kernel), List.mem_of_getElem? (i := 937) (by decide +kernel), List.mem_of_getElem? (i := 938) (by decide +kernel)⟩
theorem lw_p57 : lw_okq (⟨"EchoBidsModel", "takesDigit", "()Z"⟩, 16) := ⟨⟨by decide +kernel, by decide +kernel⟩, List.mem_of_getElem? (i := 615) (by decide +kernel), List.mem_of_getElem? (i := 941) (by decide +kernel), List.mem_of_getElem? (i := 942) (by decide +kernel)⟩
theorem lw_p58 : lw_okq (⟨"EchoBidsModel", "whyNotDone", "()I"⟩, 16) := ⟨⟨by decide +kernel, by decide +kernel⟩, List.mem_of_getElem? (i := 615) (by decide +kernel), List.mem_of_getElem? (i := 949) (by decide +kernel), List.mem_of_getElem? (i := 950) (by decide +kernel)⟩
theorem lw_p59 : lw_okq (⟨"EchoBidsModel", "does", "()V"⟩, 16) := ⟨⟨by decide +kernel, by decide +kernel⟩, List.mem_of_getElem? (i := 615) (by decide +kernel), List.mem_of_getElem? (i := 953) (by decide +kernel), List.mem_of_getElem? (i := 954) (by decide +kernel)⟩
def lw_privs_4 : List (MethodName × Nat) := [(⟨"EchoBidsModel", "goesFar", "()V"⟩, 16), (⟨"EchoBidsModel", "gainOf", "(I)I"⟩, 16), (⟨"EchoBidsModel", "findFault", "()I"⟩, 16), (⟨"EchoBidsModel", "readsOrder", "()Z"⟩, 16), (⟨"EchoBidsModel", "character", "(I)I"⟩, 16), (⟨"EchoBidsModel", "takesNumber", "()Z"⟩, 16), (⟨"EchoBidsModel", "isDigit", "()Z"⟩, 16), (⟨"EchoBidsModel", "takes", "(I)V"⟩, 16), (⟨"EchoBidsModel", "isNext", "(I)Z"⟩, 16), (⟨"EchoBidsModel", "takesDigit", "()Z"⟩, 16), (⟨"EchoBidsModel", "whyNotDone", "()I"⟩, 16), (⟨"EchoBidsModel", "does", "()V"⟩, 16)]
theorem lw_r4 : ∀ q ∈ lw_privs_4, lw_okq q := List.forall_mem_cons.mpr ⟨lw_p48, List.forall_mem_cons.mpr ⟨lw_p49, List.forall_mem_cons.mpr ⟨lw_p50, List.forall_mem_cons.mpr ⟨lw_p51, List.forall_mem_cons.mpr ⟨lw_p52, List.forall_mem_cons.mpr ⟨lw_p53, List.forall_mem_cons.mpr ⟨lw_p54, List.forall_mem_cons.mpr ⟨lw_p55, List.forall_mem_cons.mpr ⟨lw_p56, List.forall_mem_cons.mpr ⟨lw_p57, List.forall_mem_cons.mpr ⟨lw_p58, List.forall_mem_cons.mpr ⟨lw_p59, fun _ h => absurd h List.not_mem_nil⟩⟩⟩⟩⟩⟩⟩⟩⟩⟩⟩⟩
def lw_privs : List (MethodName × Nat) := lw_privs_1 ++ (lw_privs_2 ++ (lw_privs_3 ++ (lw_privs_4)))
def lw_tbl : List Cond := k2_sels lw_privs ++ tables_1
theorem lw_privs_ok : ∀ q ∈ lw_privs, lw_okq q := by
  show ∀ q ∈ lw_privs_1 ++ (lw_privs_2 ++ (lw_privs_3 ++ (lw_privs_4))), lw_okq q
  exact List.forall_mem_append.mpr ⟨lw_r1, List.forall_mem_append.mpr ⟨lw_r2, List.forall_mem_append.mpr ⟨lw_r3, lw_r4⟩⟩⟩
/-- the streams that the claim lets the run draw from -/
abbrev lw_cs : List Choice := [Jvm.Choice.named "NaN.bits"]
theorem lw_bits : nanBits ∈ lw_cs := by first | decide | exact List.mem_cons_self | simp [lw_cs, nanBits]
end
section
def RX0 : String := "EchoBids$Bid"
def TX0 : u_T := fun k => match k with
  | 0 => ("EchoBids$Bid", "bidder", "I", false)
  | 1 => ("EchoBids$Bid", "coins", "I", false)
  | _ => ("EchoBids$Bid", "round", "I", false)
def tyX0 : Nat → FieldType := fun k => match k with
  | 0 => .int
  | 1 => .int
  | _ => .int
abbrev wsX00 : List Cond := u_ws RX0 TX0 3
theorem nmX0 : ∀ a, a < 3 → ∀ b, b < 3 → a ≠ b → (TX0 a).2.1 ≠ (TX0 b).2.1 := by decide +kernel
theorem tyX0_ok : ∀ k, k < 3 → parseFieldDescriptor (TX0 k).2.2.1 = some (tyX0 k) := by decide +kernel
def RX1 : String := "EchoBids$Bidder"
def TX1 : u_T := fun k => match k with
  | 0 => ("EchoBids$Bidder", "purse", "I", false)
  | 1 => ("EchoBids$Bidder", "plan", "I", false)
  | 2 => ("EchoBids$Bidder", "told", "I", false)
  | 3 => ("EchoBids$Bidder", "bought", "I", false)
  | 4 => ("EchoBids$Bidder", "paid", "I", false)
  | 5 => ("EchoBids$Bidder", "worth", "I", false)
  | 6 => ("EchoBids$Bidder", "bids", "I", false)
  | 7 => ("EchoBids$Bidder", "shadows", "I", false)
  | _ => ("EchoBids$Bidder", "best", "LEchoBids$Bid;", true)
def tyX1 : Nat → FieldType := fun k => match k with
  | 0 => .int
  | 1 => .int
  | 2 => .int
  | 3 => .int
  | 4 => .int
  | 5 => .int
  | 6 => .int
  | 7 => .int
  | _ => .object "EchoBids$Bid"
abbrev wsX10 : List Cond := u_ws RX1 TX1 9
theorem nmX1 : ∀ a, a < 9 → ∀ b, b < 9 → a ≠ b → (TX1 a).2.1 ≠ (TX1 b).2.1 := by decide +kernel
theorem tyX1_ok : ∀ k, k < 9 → parseFieldDescriptor (TX1 k).2.2.1 = some (tyX1 k) := by decide +kernel
def RX2 : String := "EchoBids$Hall"
def TX2 : u_T := fun k => match k with
  | 0 => ("EchoBids$Hall", "settings", "[I", true)
  | 1 => ("EchoBids$Hall", "bidderCount", "I", false)
  | 2 => ("EchoBids$Hall", "lotCount", "I", false)
  | 3 => ("EchoBids$Hall", "begun", "I", false)
  | 4 => ("EchoBids$Hall", "running", "I", false)
  | 5 => ("EchoBids$Hall", "rounds", "I", false)
  | 6 => ("EchoBids$Hall", "bidders", "[LEchoBids$Bidder;", true)
  | 7 => ("EchoBids$Hall", "lots", "[LEchoBids$Lot;", true)
  | 8 => ("EchoBids$Hall", "echoes", "[LEchoBids$Bid;", true)
  | _ => ("EchoBids$Hall", "recent", "LEchoBids$Recent;", true)
def tyX2 : Nat → FieldType := fun k => match k with
  | 0 => .array .int
  | 1 => .int
  | 2 => .int
  | 3 => .int
  | 4 => .int
  | 5 => .int
  | 6 => .array (.object "EchoBids$Bidder")
  | 7 => .array (.object "EchoBids$Lot")
  | 8 => .array (.object "EchoBids$Bid")
  | _ => .object "EchoBids$Recent"
abbrev wsX20 : List Cond := u_ws RX2 TX2 10
theorem nmX2 : ∀ a, a < 10 → ∀ b, b < 10 → a ≠ b → (TX2 a).2.1 ≠ (TX2 b).2.1 := by decide +kernel
theorem tyX2_ok : ∀ k, k < 10 → parseFieldDescriptor (TX2 k).2.2.1 = some (tyX2 k) := by decide +kernel
def RX3 : String := "EchoBids$History"
def TX3 : u_T := fun k => match k with
  | 0 => ("EchoBids$History", "halls", "[LEchoBids$Hall;", true)
  | 1 => ("EchoBids$History", "next", "I", false)
  | _ => ("EchoBids$History", "kept", "I", false)
def tyX3 : Nat → FieldType := fun k => match k with
  | 0 => .array (.object "EchoBids$Hall")
  | 1 => .int
  | _ => .int
abbrev wsX30 : List Cond := u_ws RX3 TX3 3
theorem nmX3 : ∀ a, a < 3 → ∀ b, b < 3 → a ≠ b → (TX3 a).2.1 ≠ (TX3 b).2.1 := by decide +kernel
theorem tyX3_ok : ∀ k, k < 3 → parseFieldDescriptor (TX3 k).2.2.1 = some (tyX3 k) := by decide +kernel
def RX4 : String := "EchoBids$Lot"
def TX4 : u_T := fun k => match k with
  | 0 => ("EchoBids$Lot", "worth", "I", false)
  | 1 => ("EchoBids$Lot", "state", "I", false)
  | 2 => ("EchoBids$Lot", "price", "I", false)
  | 3 => ("EchoBids$Lot", "ran", "I", false)
  | 4 => ("EchoBids$Lot", "still", "I", false)
  | _ => ("EchoBids$Lot", "highest", "LEchoBids$Bid;", true)
def tyX4 : Nat → FieldType := fun k => match k with
  | 0 => .int
  | 1 => .int
  | 2 => .int
  | 3 => .int
  | 4 => .int
  | _ => .object "EchoBids$Bid"
abbrev wsX40 : List Cond := u_ws RX4 TX4 6
theorem nmX4 : ∀ a, a < 6 → ∀ b, b < 6 → a ≠ b → (TX4 a).2.1 ≠ (TX4 b).2.1 := by decide +kernel
theorem tyX4_ok : ∀ k, k < 6 → parseFieldDescriptor (TX4 k).2.2.1 = some (tyX4 k) := by decide +kernel
def RX5 : String := "EchoBids$Pad"
def TX5 : u_T := fun k => match k with
  | 0 => ("EchoBids$Pad", "signs", "[I", true)
  | 1 => ("EchoBids$Pad", "length", "I", false)
  | 2 => ("EchoBids$Pad", "at", "I", false)
  | 3 => ("EchoBids$Pad", "stuck", "Z", false)
  | 4 => ("EchoBids$Pad", "more", "Z", false)
  | 5 => ("EchoBids$Pad", "kind", "I", false)
  | 6 => ("EchoBids$Pad", "first", "I", false)
  | _ => ("EchoBids$Pad", "second", "I", false)
def tyX5 : Nat → FieldType := fun k => match k with
  | 0 => .array .int
  | 1 => .int
  | 2 => .int
  | 3 => .boolean
  | 4 => .boolean
  | 5 => .int
  | 6 => .int
  | _ => .int
abbrev wsX50 : List Cond := u_ws RX5 TX5 8
theorem nmX5 : ∀ a, a < 8 → ∀ b, b < 8 → a ≠ b → (TX5 a).2.1 ≠ (TX5 b).2.1 := by decide +kernel
theorem tyX5_ok : ∀ k, k < 8 → parseFieldDescriptor (TX5 k).2.2.1 = some (tyX5 k) := by decide +kernel
def RX6 : String := "EchoBids$Recent"
def TX6 : u_T := fun k => match k with
  | 0 => ("EchoBids$Recent", "cells", "[I", true)
  | _ => ("EchoBids$Recent", "total", "I", false)
def tyX6 : Nat → FieldType := fun k => match k with
  | 0 => .array .int
  | _ => .int
abbrev wsX60 : List Cond := u_ws RX6 TX6 2
theorem nmX6 : ∀ a, a < 2 → ∀ b, b < 2 → a ≠ b → (TX6 a).2.1 ≠ (TX6 b).2.1 := by decide +kernel
theorem tyX6_ok : ∀ k, k < 2 → parseFieldDescriptor (TX6 k).2.2.1 = some (tyX6 k) := by decide +kernel
def RX7 : String := "EchoBids"
def TX7 : u_T := fun k => match k with
  | 0 => ("EchoBids", "now", "LEchoBids$Hall;", true)
  | 1 => ("EchoBids", "trial", "LEchoBids$Hall;", true)
  | 2 => ("EchoBids", "history", "LEchoBids$History;", true)
  | 3 => ("EchoBids", "pad", "LEchoBids$Pad;", true)
  | _ => ("EchoBids", "slots", "[LEchoBids$Hall;", true)
def tyX7 : Nat → FieldType := fun k => match k with
  | 0 => .object "EchoBids$Hall"
  | 1 => .object "EchoBids$Hall"
  | 2 => .object "EchoBids$History"
  | 3 => .object "EchoBids$Pad"
  | _ => .array (.object "EchoBids$Hall")
abbrev wsX70 : List Cond := u_ws RX7 TX7 5
theorem nmX7 : ∀ a, a < 5 → ∀ b, b < 5 → a ≠ b → (TX7 a).2.1 ≠ (TX7 b).2.1 := by decide +kernel
theorem tyX7_ok : ∀ k, k < 5 → parseFieldDescriptor (TX7 k).2.2.1 = some (tyX7 k) := by decide +kernel
def RX8 : String := "EchoBidsModel"
def TX8 : u_T := fun k => match k with
  | 0 => ("EchoBidsModel", "state", "[I", true)
  | 1 => ("EchoBidsModel", "kept", "[I", true)
  | 2 => ("EchoBidsModel", "history", "[I", true)
  | 3 => ("EchoBidsModel", "recorded", "I", false)
  | 4 => ("EchoBidsModel", "slots", "[I", true)
  | 5 => ("EchoBidsModel", "isSaved", "[I", true)
  | 6 => ("EchoBidsModel", "pad", "[I", true)
  | 7 => ("EchoBidsModel", "padLength", "I", false)
  | 8 => ("EchoBidsModel", "believed", "I", false)
  | 9 => ("EchoBidsModel", "believedRound", "I", false)
  | 10 => ("EchoBidsModel", "believedOf", "I", false)
  | 11 => ("EchoBidsModel", "bids", "[I", true)
  | 12 => ("EchoBidsModel", "at", "I", false)
  | 13 => ("EchoBidsModel", "letter", "I", false)
  | 14 => ("EchoBidsModel", "numbers", "[I", true)
  | _ => ("EchoBidsModel", "numbersMany", "I", false)
def tyX8 : Nat → FieldType := fun k => match k with
  | 0 => .array .int
  | 1 => .array .int
  | 2 => .array .int
  | 3 => .int
  | 4 => .array .int
  | 5 => .array .int
  | 6 => .array .int
  | 7 => .int
  | 8 => .int
  | 9 => .int
  | 10 => .int
  | 11 => .array .int
  | 12 => .int
  | 13 => .int
  | 14 => .array .int
  | _ => .int
abbrev wsX80 : List Cond := u_ws RX8 TX8 16
theorem nmX8 : ∀ a, a < 16 → ∀ b, b < 16 → a ≠ b → (TX8 a).2.1 ≠ (TX8 b).2.1 := by decide +kernel
theorem tyX8_ok : ∀ k, k < 16 → parseFieldDescriptor (TX8 k).2.2.1 = some (tyX8 k) := by decide +kernel
def RL : String := "EchoBidsLaw"
def RJxe99ae : String := "java/lang/Double"
def RJxf58ca : String := "java/lang/Float"
def RJ9 : String := "java/lang/Math"
abbrev cX0_init : ByteArray := prog_2_method_1_code
def yX0_init : MethodName := ⟨RX0, "<init>", "()V"⟩
abbrev cX0_write : ByteArray := prog_2_method_2_code
def yX0_write : MethodName := ⟨RX0, "write", "(III)V"⟩
abbrev cX0_clear : ByteArray := prog_2_method_3_code
def yX0_clear : MethodName := ⟨RX0, "clear", "()V"⟩
abbrev cX0_copyFrom : ByteArray := prog_2_method_4_code
def yX0_copyFrom : MethodName := ⟨RX0, "copyFrom", "(LEchoBids$Bid;)V"⟩
abbrev cX0_isAbove : ByteArray := prog_2_method_5_code
def yX0_isAbove : MethodName := ⟨RX0, "isAbove", "(LEchoBids$Bid;)Z"⟩
abbrev cX1_init : ByteArray := prog_3_method_1_code
def yX1_init : MethodName := ⟨RX1, "<init>", "()V"⟩
abbrev cX1_copyFrom : ByteArray := prog_3_method_2_code
def yX1_copyFrom : MethodName := ⟨RX1, "copyFrom", "(LEchoBids$Bidder;)V"⟩
abbrev cX2_init : ByteArray := prog_4_method_1_code
def yX2_init : MethodName := ⟨RX2, "<init>", "()V"⟩
abbrev cX2_copyFrom : ByteArray := prog_4_method_2_code
def yX2_copyFrom : MethodName := ⟨RX2, "copyFrom", "(LEchoBids$Hall;)V"⟩
abbrev cX2_copyRows : ByteArray := prog_4_method_3_code
def yX2_copyRows : MethodName := ⟨RX2, "copyRows", "(LEchoBids$Hall;)V"⟩
abbrev cX2_bidderAt : ByteArray := prog_4_method_4_code
def yX2_bidderAt : MethodName := ⟨RX2, "bidderAt", "(I)LEchoBids$Bidder;"⟩
abbrev cX2_lotAt : ByteArray := prog_4_method_5_code
def yX2_lotAt : MethodName := ⟨RX2, "lotAt", "(I)LEchoBids$Lot;"⟩
abbrev cX2_settingAt : ByteArray := prog_4_method_6_code
def yX2_settingAt : MethodName := ⟨RX2, "settingAt", "(I)I"⟩
abbrev cX2_changeSetting : ByteArray := prog_4_method_7_code
def yX2_changeSetting : MethodName := ⟨RX2, "changeSetting", "(II)I"⟩
abbrev cX2_addBidder : ByteArray := prog_4_method_8_code
def yX2_addBidder : MethodName := ⟨RX2, "addBidder", "(II)I"⟩
abbrev cX2_changePlan : ByteArray := prog_4_method_9_code
def yX2_changePlan : MethodName := ⟨RX2, "changePlan", "(II)I"⟩
abbrev cX2_addLot : ByteArray := prog_4_method_10_code
def yX2_addLot : MethodName := ⟨RX2, "addLot", "(I)I"⟩
abbrev cX2_tellBid : ByteArray := prog_4_method_11_code
def yX2_tellBid : MethodName := ⟨RX2, "tellBid", "(II)I"⟩
abbrev cX2_letPass : ByteArray := prog_4_method_12_code
def yX2_letPass : MethodName := ⟨RX2, "letPass", "(I)I"⟩
abbrev cX2_playOut : ByteArray := prog_4_method_13_code
def yX2_playOut : MethodName := ⟨RX2, "playOut", "(I)V"⟩
abbrev cX2_hasLotsLeft : ByteArray := prog_4_method_14_code
def yX2_hasLotsLeft : MethodName := ⟨RX2, "hasLotsLeft", "()Z"⟩
abbrev cX2_playRound : ByteArray := prog_4_method_15_code
def yX2_playRound : MethodName := ⟨RX2, "playRound", "()Z"⟩
abbrev cX2_beginLot : ByteArray := prog_4_method_16_code
def yX2_beginLot : MethodName := ⟨RX2, "beginLot", "()V"⟩
abbrev cX2_takeBids : ByteArray := prog_4_method_17_code
def yX2_takeBids : MethodName := ⟨RX2, "takeBids", "(LEchoBids$Lot;)V"⟩
abbrev cX2_chooseBid : ByteArray := prog_4_method_18_code
def yX2_chooseBid : MethodName := ⟨RX2, "chooseBid", "(LEchoBids$Bidder;IILEchoBids$Bid;)I"⟩
abbrev cX2_believed : ByteArray := prog_4_method_19_code
def yX2_believed : MethodName := ⟨RX2, "believed", "(LEchoBids$Bidder;)LEchoBids$Bid;"⟩
abbrev cX2_noteBid : ByteArray := prog_4_method_20_code
def yX2_noteBid : MethodName := ⟨RX2, "noteBid", "(LEchoBids$Bidder;III)V"⟩
abbrev cX2_echoRound : ByteArray := prog_4_method_21_code
def yX2_echoRound : MethodName := ⟨RX2, "echoRound", "(LEchoBids$Lot;)V"⟩
abbrev cX2_endLot : ByteArray := prog_4_method_22_code
def yX2_endLot : MethodName := ⟨RX2, "endLot", "(LEchoBids$Lot;)V"⟩
abbrev cX2_priceOf : ByteArray := prog_4_method_23_code
def yX2_priceOf : MethodName := ⟨RX2, "priceOf", "(LEchoBids$Lot;)I"⟩
abbrev cX2_lotsSold : ByteArray := prog_4_method_24_code
def yX2_lotsSold : MethodName := ⟨RX2, "lotsSold", "()I"⟩
abbrev cX2_coinsPaid : ByteArray := prog_4_method_25_code
def yX2_coinsPaid : MethodName := ⟨RX2, "coinsPaid", "()I"⟩
abbrev cX2_worthSold : ByteArray := prog_4_method_26_code
def yX2_worthSold : MethodName := ⟨RX2, "worthSold", "()I"⟩
abbrev cX2_bidsMade : ByteArray := prog_4_method_27_code
def yX2_bidsMade : MethodName := ⟨RX2, "bidsMade", "()I"⟩
abbrev cX2_shadowsMade : ByteArray := prog_4_method_28_code
def yX2_shadowsMade : MethodName := ⟨RX2, "shadowsMade", "()I"⟩
abbrev cX3_init : ByteArray := prog_5_method_1_code
def yX3_init : MethodName := ⟨RX3, "<init>", "()V"⟩
abbrev cX3_prepare : ByteArray := prog_5_method_2_code
def yX3_prepare : MethodName := ⟨RX3, "prepare", "(LEchoBids$Hall;)V"⟩
abbrev cX3_settle : ByteArray := prog_5_method_3_code
def yX3_settle : MethodName := ⟨RX3, "settle", "(I)I"⟩
abbrev cX3_takeBack : ByteArray := prog_5_method_4_code
def yX3_takeBack : MethodName := ⟨RX3, "takeBack", "(LEchoBids$Hall;)I"⟩
abbrev cX4_init : ByteArray := prog_6_method_1_code
def yX4_init : MethodName := ⟨RX4, "<init>", "()V"⟩
abbrev cX4_copyFrom : ByteArray := prog_6_method_2_code
def yX4_copyFrom : MethodName := ⟨RX4, "copyFrom", "(LEchoBids$Lot;)V"⟩
abbrev cX5_init : ByteArray := prog_7_method_1_code
def yX5_init : MethodName := ⟨RX5, "<init>", "()V"⟩
abbrev cX5_append : ByteArray := prog_7_method_2_code
def yX5_append : MethodName := ⟨RX5, "append", "(J)I"⟩
abbrev cX5_countSigns : ByteArray := prog_7_method_3_code
def yX5_countSigns : MethodName := ⟨RX5, "countSigns", "(J)I"⟩
abbrev cX5_empty : ByteArray := prog_7_method_4_code
def yX5_empty : MethodName := ⟨RX5, "empty", "()I"⟩
abbrev cX5_findFault : ByteArray := prog_7_method_5_code
def yX5_findFault : MethodName := ⟨RX5, "findFault", "()I"⟩
abbrev cX5_rewind : ByteArray := prog_7_method_6_code
def yX5_rewind : MethodName := ⟨RX5, "rewind", "()V"⟩
abbrev cX5_readOrder : ByteArray := prog_7_method_7_code
def yX5_readOrder : MethodName := ⟨RX5, "readOrder", "()Z"⟩
abbrev cX5_sign : ByteArray := prog_7_method_8_code
def yX5_sign : MethodName := ⟨RX5, "sign", "()I"⟩
abbrev cX5_atDigit : ByteArray := prog_7_method_9_code
def yX5_atDigit : MethodName := ⟨RX5, "atDigit", "()Z"⟩
abbrev cX5_expect : ByteArray := prog_7_method_10_code
def yX5_expect : MethodName := ⟨RX5, "expect", "(I)V"⟩
abbrev cX5_readDigit : ByteArray := prog_7_method_11_code
def yX5_readDigit : MethodName := ⟨RX5, "readDigit", "()I"⟩
abbrev cX5_readNumber : ByteArray := prog_7_method_12_code
def yX5_readNumber : MethodName := ⟨RX5, "readNumber", "()I"⟩
abbrev cX6_init : ByteArray := prog_8_method_1_code
def yX6_init : MethodName := ⟨RX6, "<init>", "()V"⟩
abbrev cX6_copyFrom : ByteArray := prog_8_method_2_code
def yX6_copyFrom : MethodName := ⟨RX6, "copyFrom", "(LEchoBids$Recent;)V"⟩
abbrev cX6_clear : ByteArray := prog_8_method_3_code
def yX6_clear : MethodName := ⟨RX6, "clear", "()V"⟩
abbrev cX6_add : ByteArray := prog_8_method_4_code
def yX6_add : MethodName := ⟨RX6, "add", "(IIII)V"⟩
abbrev cX6_knows : ByteArray := prog_8_method_5_code
def yX6_knows : MethodName := ⟨RX6, "knows", "(I)Z"⟩
abbrev cX6_at : ByteArray := prog_8_method_6_code
def yX6_at : MethodName := ⟨RX6, "at", "(II)I"⟩
abbrev cX7_init : ByteArray := prog_1_method_1_code
def yX7_init : MethodName := ⟨RX7, "<init>", "()V"⟩
abbrev cX7_set : ByteArray := prog_1_method_2_code
def yX7_set : MethodName := ⟨RX7, "set", "(II)I"⟩
abbrev cX7_bidder : ByteArray := prog_1_method_3_code
def yX7_bidder : MethodName := ⟨RX7, "bidder", "(II)I"⟩
abbrev cX7_plan : ByteArray := prog_1_method_4_code
def yX7_plan : MethodName := ⟨RX7, "plan", "(II)I"⟩
abbrev cX7_lot : ByteArray := prog_1_method_5_code
def yX7_lot : MethodName := ⟨RX7, "lot", "(I)I"⟩
abbrev cX7_bid : ByteArray := prog_1_method_6_code
def yX7_bid : MethodName := ⟨RX7, "bid", "(II)I"⟩
abbrev cX7_pass : ByteArray := prog_1_method_7_code
def yX7_pass : MethodName := ⟨RX7, "pass", "(I)I"⟩
abbrev cX7_of : ByteArray := prog_1_method_8_code
def yX7_of : MethodName := ⟨RX7, "of", "(II)I"⟩
abbrev cX7_ofLot : ByteArray := prog_1_method_9_code
def yX7_ofLot : MethodName := ⟨RX7, "ofLot", "(II)I"⟩
abbrev cX7_made : ByteArray := prog_1_method_10_code
def yX7_made : MethodName := ⟨RX7, "made", "(II)I"⟩
abbrev cX7_count : ByteArray := prog_1_method_11_code
def yX7_count : MethodName := ⟨RX7, "count", "(I)I"⟩
abbrev cX7_shadows : ByteArray := prog_1_method_12_code
def yX7_shadows : MethodName := ⟨RX7, "shadows", "()I"⟩
abbrev cX7_dear : ByteArray := prog_1_method_13_code
def yX7_dear : MethodName := ⟨RX7, "dear", "()J"⟩
abbrev cX7_endsIn : ByteArray := prog_1_method_14_code
def yX7_endsIn : MethodName := ⟨RX7, "endsIn", "()I"⟩
abbrev cX7_ifLag : ByteArray := prog_1_method_15_code
def yX7_ifLag : MethodName := ⟨RX7, "ifLag", "(I)I"⟩
abbrev cX7_bestPlan : ByteArray := prog_1_method_16_code
def yX7_bestPlan : MethodName := ⟨RX7, "bestPlan", "(II)I"⟩
abbrev cX7_put : ByteArray := prog_1_method_17_code
def yX7_put : MethodName := ⟨RX7, "put", "(J)I"⟩
abbrev cX7_wipe : ByteArray := prog_1_method_18_code
def yX7_wipe : MethodName := ⟨RX7, "wipe", "()I"⟩
abbrev cX7_fault : ByteArray := prog_1_method_19_code
def yX7_fault : MethodName := ⟨RX7, "fault", "()I"⟩
abbrev cX7_carryOut : ByteArray := prog_1_method_20_code
def yX7_carryOut : MethodName := ⟨RX7, "carryOut", "()I"⟩
abbrev cX7_undo : ByteArray := prog_1_method_21_code
def yX7_undo : MethodName := ⟨RX7, "undo", "()I"⟩
abbrev cX7_save : ByteArray := prog_1_method_22_code
def yX7_save : MethodName := ⟨RX7, "save", "(I)I"⟩
abbrev cX7_restore : ByteArray := prog_1_method_23_code
def yX7_restore : MethodName := ⟨RX7, "restore", "(I)I"⟩
abbrev cX7_gainWith : ByteArray := prog_1_method_24_code
def yX7_gainWith : MethodName := ⟨RX7, "gainWith", "(II)I"⟩
abbrev cX7_carryOrder : ByteArray := prog_1_method_25_code
def yX7_carryOrder : MethodName := ⟨RX7, "carryOrder", "()I"⟩
abbrev cX7_floatBits : ByteArray := prog_1_method_26_code
def yX7_floatBits : MethodName := ⟨RX7, "floatBits", "(F)I"⟩
abbrev cX7_doubleBits : ByteArray := prog_1_method_27_code
def yX7_doubleBits : MethodName := ⟨RX7, "doubleBits", "(D)J"⟩
abbrev cX8_init : ByteArray := prog_10_method_1_code
def yX8_init : MethodName := ⟨RX8, "<init>", "()V"⟩
abbrev cX8_moves : ByteArray := prog_10_method_3_code
def yX8_moves : MethodName := ⟨RX8, "moves", "([II[II)V"⟩
abbrev cX8_within : ByteArray := prog_10_method_4_code
def yX8_within : MethodName := ⟨RX8, "within", "(III)Z"⟩
abbrev cX8_record : ByteArray := prog_10_method_5_code
def yX8_record : MethodName := ⟨RX8, "record", "()V"⟩
abbrev cX8_isBidder : ByteArray := prog_10_method_6_code
def yX8_isBidder : MethodName := ⟨RX8, "isBidder", "(I)Z"⟩
abbrev cX8_isLot : ByteArray := prog_10_method_7_code
def yX8_isLot : MethodName := ⟨RX8, "isLot", "(I)Z"⟩
abbrev cX8_bidderPart : ByteArray := prog_10_method_8_code
def yX8_bidderPart : MethodName := ⟨RX8, "bidderPart", "(II)I"⟩
abbrev cX8_setBidder : ByteArray := prog_10_method_9_code
def yX8_setBidder : MethodName := ⟨RX8, "setBidder", "(III)V"⟩
abbrev cX8_adds : ByteArray := prog_10_method_10_code
def yX8_adds : MethodName := ⟨RX8, "adds", "(III)V"⟩
abbrev cX8_lotPart : ByteArray := prog_10_method_11_code
def yX8_lotPart : MethodName := ⟨RX8, "lotPart", "(II)I"⟩
abbrev cX8_setLot : ByteArray := prog_10_method_12_code
def yX8_setLot : MethodName := ⟨RX8, "setLot", "(III)V"⟩
abbrev cX8_ofAll : ByteArray := prog_10_method_13_code
def yX8_ofAll : MethodName := ⟨RX8, "ofAll", "(I)I"⟩
abbrev cX8_withHow : ByteArray := prog_10_method_14_code
def yX8_withHow : MethodName := ⟨RX8, "withHow", "(I)I"⟩
abbrev cX8_firstWaiting : ByteArray := prog_10_method_15_code
def yX8_firstWaiting : MethodName := ⟨RX8, "firstWaiting", "()I"⟩
abbrev cX8_hears : ByteArray := prog_10_method_16_code
def yX8_hears : MethodName := ⟨RX8, "hears", "(III)V"⟩
abbrev cX8_believes : ByteArray := prog_10_method_17_code
def yX8_believes : MethodName := ⟨RX8, "believes", "(I)V"⟩
abbrev cX8_limitOf : ByteArray := prog_10_method_18_code
def yX8_limitOf : MethodName := ⟨RX8, "limitOf", "(I)I"⟩
abbrev cX8_bidOf : ByteArray := prog_10_method_19_code
def yX8_bidOf : MethodName := ⟨RX8, "bidOf", "(I)I"⟩
abbrev cX8_begins : ByteArray := prog_10_method_20_code
def yX8_begins : MethodName := ⟨RX8, "begins", "(I)V"⟩
abbrev cX8_keepsBest : ByteArray := prog_10_method_21_code
def yX8_keepsBest : MethodName := ⟨RX8, "keepsBest", "(IIII)V"⟩
abbrev cX8_keepsMade : ByteArray := prog_10_method_22_code
def yX8_keepsMade : MethodName := ⟨RX8, "keepsMade", "(IIZ)V"⟩
abbrev cX8_makesBids : ByteArray := prog_10_method_23_code
def yX8_makesBids : MethodName := ⟨RX8, "makesBids", "(I)Z"⟩
abbrev cX8_grows : ByteArray := prog_10_method_24_code
def yX8_grows : MethodName := ⟨RX8, "grows", "()V"⟩
abbrev cX8_priceOf : ByteArray := prog_10_method_25_code
def yX8_priceOf : MethodName := ⟨RX8, "priceOf", "(I)I"⟩
abbrev cX8_ends : ByteArray := prog_10_method_26_code
def yX8_ends : MethodName := ⟨RX8, "ends", "(I)V"⟩
abbrev cX8_runsOn : ByteArray := prog_10_method_27_code
def yX8_runsOn : MethodName := ⟨RX8, "runsOn", "()Z"⟩
abbrev cX8_round : ByteArray := prog_10_method_28_code
def yX8_round : MethodName := ⟨RX8, "round", "()I"⟩
abbrev cX8_passes : ByteArray := prog_10_method_29_code
def yX8_passes : MethodName := ⟨RX8, "passes", "(I)I"⟩
abbrev cX8_isValue : ByteArray := prog_10_method_30_code
def yX8_isValue : MethodName := ⟨RX8, "isValue", "(II)Z"⟩
abbrev cX8_set : ByteArray := prog_10_method_31_code
def yX8_set : MethodName := ⟨RX8, "set", "(II)I"⟩
abbrev cX8_whyNoBidder : ByteArray := prog_10_method_32_code
def yX8_whyNoBidder : MethodName := ⟨RX8, "whyNoBidder", "(II)I"⟩
abbrev cX8_comes : ByteArray := prog_10_method_33_code
def yX8_comes : MethodName := ⟨RX8, "comes", "(II)I"⟩
abbrev cX8_bidder : ByteArray := prog_10_method_34_code
def yX8_bidder : MethodName := ⟨RX8, "bidder", "(II)I"⟩
abbrev cX8_plan : ByteArray := prog_10_method_35_code
def yX8_plan : MethodName := ⟨RX8, "plan", "(II)I"⟩
abbrev cX8_whyNoLot : ByteArray := prog_10_method_36_code
def yX8_whyNoLot : MethodName := ⟨RX8, "whyNoLot", "(I)I"⟩
abbrev cX8_lotComes : ByteArray := prog_10_method_37_code
def yX8_lotComes : MethodName := ⟨RX8, "lotComes", "(I)I"⟩
abbrev cX8_lot : ByteArray := prog_10_method_38_code
def yX8_lot : MethodName := ⟨RX8, "lot", "(I)I"⟩
abbrev cX8_whyNotTold : ByteArray := prog_10_method_39_code
def yX8_whyNotTold : MethodName := ⟨RX8, "whyNotTold", "(II)I"⟩
abbrev cX8_bid : ByteArray := prog_10_method_40_code
def yX8_bid : MethodName := ⟨RX8, "bid", "(II)I"⟩
abbrev cX8_whyNotPassed : ByteArray := prog_10_method_41_code
def yX8_whyNotPassed : MethodName := ⟨RX8, "whyNotPassed", "(I)I"⟩
abbrev cX8_pass : ByteArray := prog_10_method_42_code
def yX8_pass : MethodName := ⟨RX8, "pass", "(I)I"⟩
abbrev cX8_belief : ByteArray := prog_10_method_43_code
def yX8_belief : MethodName := ⟨RX8, "belief", "(II)I"⟩
abbrev cX8_of : ByteArray := prog_10_method_44_code
def yX8_of : MethodName := ⟨RX8, "of", "(II)I"⟩
abbrev cX8_ofLot : ByteArray := prog_10_method_45_code
def yX8_ofLot : MethodName := ⟨RX8, "ofLot", "(II)I"⟩
abbrev cX8_made : ByteArray := prog_10_method_46_code
def yX8_made : MethodName := ⟨RX8, "made", "(II)I"⟩
abbrev cX8_count : ByteArray := prog_10_method_47_code
def yX8_count : MethodName := ⟨RX8, "count", "(I)I"⟩
abbrev cX8_shadows : ByteArray := prog_10_method_48_code
def yX8_shadows : MethodName := ⟨RX8, "shadows", "()I"⟩
abbrev cX8_dear : ByteArray := prog_10_method_49_code
def yX8_dear : MethodName := ⟨RX8, "dear", "()J"⟩
abbrev cX8_hasLots : ByteArray := prog_10_method_50_code
def yX8_hasLots : MethodName := ⟨RX8, "hasLots", "()Z"⟩
abbrev cX8_endsIn : ByteArray := prog_10_method_51_code
def yX8_endsIn : MethodName := ⟨RX8, "endsIn", "()I"⟩
abbrev cX8_goesFar : ByteArray := prog_10_method_52_code
def yX8_goesFar : MethodName := ⟨RX8, "goesFar", "()V"⟩
abbrev cX8_ifLag : ByteArray := prog_10_method_53_code
def yX8_ifLag : MethodName := ⟨RX8, "ifLag", "(I)I"⟩
abbrev cX8_gainOf : ByteArray := prog_10_method_54_code
def yX8_gainOf : MethodName := ⟨RX8, "gainOf", "(I)I"⟩
abbrev cX8_bestPlan : ByteArray := prog_10_method_55_code
def yX8_bestPlan : MethodName := ⟨RX8, "bestPlan", "(II)I"⟩
abbrev cX8_put : ByteArray := prog_10_method_56_code
def yX8_put : MethodName := ⟨RX8, "put", "(J)I"⟩
abbrev cX8_wipe : ByteArray := prog_10_method_57_code
def yX8_wipe : MethodName := ⟨RX8, "wipe", "()I"⟩
abbrev cX8_character : ByteArray := prog_10_method_58_code
def yX8_character : MethodName := ⟨RX8, "character", "(I)I"⟩
abbrev cX8_isNext : ByteArray := prog_10_method_59_code
def yX8_isNext : MethodName := ⟨RX8, "isNext", "(I)Z"⟩
abbrev cX8_isDigit : ByteArray := prog_10_method_60_code
def yX8_isDigit : MethodName := ⟨RX8, "isDigit", "()Z"⟩
abbrev cX8_takes : ByteArray := prog_10_method_61_code
def yX8_takes : MethodName := ⟨RX8, "takes", "(I)V"⟩
abbrev cX8_takesDigit : ByteArray := prog_10_method_62_code
def yX8_takesDigit : MethodName := ⟨RX8, "takesDigit", "()Z"⟩
abbrev cX8_takesNumber : ByteArray := prog_10_method_63_code
def yX8_takesNumber : MethodName := ⟨RX8, "takesNumber", "()Z"⟩
abbrev cX8_readsOrder : ByteArray := prog_10_method_64_code
def yX8_readsOrder : MethodName := ⟨RX8, "readsOrder", "()Z"⟩
abbrev cX8_findFault : ByteArray := prog_10_method_65_code
def yX8_findFault : MethodName := ⟨RX8, "findFault", "()I"⟩
abbrev cX8_fault : ByteArray := prog_10_method_66_code
def yX8_fault : MethodName := ⟨RX8, "fault", "()I"⟩
abbrev cX8_whyNotDone : ByteArray := prog_10_method_67_code
def yX8_whyNotDone : MethodName := ⟨RX8, "whyNotDone", "()I"⟩
abbrev cX8_does : ByteArray := prog_10_method_68_code
def yX8_does : MethodName := ⟨RX8, "does", "()V"⟩
abbrev cX8_carryOut : ByteArray := prog_10_method_69_code
def yX8_carryOut : MethodName := ⟨RX8, "carryOut", "()I"⟩
abbrev cX8_undo : ByteArray := prog_10_method_70_code
def yX8_undo : MethodName := ⟨RX8, "undo", "()I"⟩
abbrev cX8_save : ByteArray := prog_10_method_71_code
def yX8_save : MethodName := ⟨RX8, "save", "(I)I"⟩
abbrev cX8_restore : ByteArray := prog_10_method_72_code
def yX8_restore : MethodName := ⟨RX8, "restore", "(I)I"⟩
abbrev cJxe99ae_isNaN_b9ae7 : ByteArray := prog_11_method_6_code
def yJxe99ae_isNaN_b9ae7 : MethodName := ⟨RJxe99ae, "isNaN", "(D)Z"⟩
abbrev cJxe99ae_doubleToLongBits_ccdee : ByteArray := prog_11_method_23_code
def yJxe99ae_doubleToLongBits_ccdee : MethodName := ⟨RJxe99ae, "doubleToLongBits", "(D)J"⟩
abbrev cJxf58ca_isNaN_12338 : ByteArray := prog_12_method_6_code
def yJxf58ca_isNaN_12338 : MethodName := ⟨RJxf58ca, "isNaN", "(F)Z"⟩
abbrev cJxf58ca_floatToIntBits_5c35a : ByteArray := prog_12_method_24_code
def yJxf58ca_floatToIntBits_5c35a : MethodName := ⟨RJxf58ca, "floatToIntBits", "(F)I"⟩
abbrev cJ9_floorMod_7cf53 : ByteArray := prog_13_method_50_code
def yJ9_floorMod_7cf53 : MethodName := ⟨RJ9, "floorMod", "(II)I"⟩
abbrev cJ9_max_7cf53 : ByteArray := prog_13_method_65_code
def yJ9_max_7cf53 : MethodName := ⟨RJ9, "max", "(II)I"⟩
abbrev cJ9_min_7cf53 : ByteArray := prog_13_method_69_code
def yJ9_min_7cf53 : MethodName := ⟨RJ9, "min", "(II)I"⟩
abbrev cL_law : ByteArray := code
def yL_law : MethodName := ⟨RL, "law", "([I)Z"⟩
abbrev vwCl : List vw_C := [(RX0, TX0, 3), (RX1, TX1, 9), (RX2, TX2, 10), (RX3, TX3, 3), (RX4, TX4, 6), (RX5, TX5, 8), (RX6, TX6, 2), (RX7, TX7, 5), (RX8, TX8, 16)]
theorem inX0 : ∀ w ∈ wsX00, w ∈ lw_tbl := by decide +kernel
theorem inX1 : ∀ w ∈ wsX10, w ∈ lw_tbl := by decide +kernel
theorem inX2 : ∀ w ∈ wsX20, w ∈ lw_tbl := by decide +kernel
theorem inX3 : ∀ w ∈ wsX30, w ∈ lw_tbl := by decide +kernel
theorem inX4 : ∀ w ∈ wsX40, w ∈ lw_tbl := by decide +kernel
theorem inX5 : ∀ w ∈ wsX50, w ∈ lw_tbl := by decide +kernel
theorem inX6 : ∀ w ∈ wsX60, w ∈ lw_tbl := by decide +kernel
theorem inX7 : ∀ w ∈ wsX70, w ∈ lw_tbl := by decide +kernel
theorem inX8 : ∀ w ∈ wsX80, w ∈ lw_tbl := by decide +kernel
end
section
def evT_0 : List (Nat × Instr × Nat) := [(0, .aload_n 0, 1), (1, .invokespecial 3, 3), (4, .aload_n 0, 1), (5, .bipush (-6), 2), (7, .putfield 9, 3), (10, .return_, 1)]
set_option maxRecDepth 100000 in
theorem evT_ok_0 : evT_0.all (fun q => decide (decode cX0_init q.1 = .ok q.2)) = true := by decide +kernel
def evT_1 : List (Nat × Instr × Nat) := [(0, .aload_n 0, 1), (1, .iload_n 1, 1), (2, .putfield 9, 3), (5, .aload_n 0, 1), (6, .iload_n 2, 1), (7, .putfield 15, 3), (10, .aload_n 0, 1), (11, .iload_n 3, 1), (12, .putfield 18, 3), (15, .return_, 1)]
set_option maxRecDepth 100000 in
theorem evT_ok_1 : evT_1.all (fun q => decide (decode cX0_write q.1 = .ok q.2)) = true := by decide +kernel
def evT_2 : List (Nat × Instr × Nat) := [(0, .aload_n 0, 1), (1, .bipush (-6), 2), (3, .iconst 0, 1), (4, .iconst 0, 1), (5, .invokevirtual 21, 3), (8, .return_, 1)]
set_option maxRecDepth 100000 in
theorem evT_ok_2 : evT_2.all (fun q => decide (decode cX0_clear q.1 = .ok q.2)) = true := by decide +kernel
def evT_3 : List (Nat × Instr × Nat) := [(0, .aload_n 0, 1), (1, .aload_n 1, 1), (2, .getfield 9, 3), (5, .aload_n 1, 1), (6, .getfield 15, 3), (9, .aload_n 1, 1), (10, .getfield 18, 3), (13, .invokevirtual 21, 3), (16, .return_, 1)]
set_option maxRecDepth 100000 in
theorem evT_ok_3 : evT_3.all (fun q => decide (decode cX0_copyFrom q.1 = .ok q.2)) = true := by decide +kernel
def evT_4 : List (Nat × Instr × Nat) := [(0, .aload_n 0, 1), (1, .getfield 15, 3), (4, .aload_n 1, 1), (5, .getfield 15, 3), (8, .if_icmp .eq 20, 3), (11, .aload_n 0, 1), (12, .getfield 15, 3), (15, .aload_n 1, 1), (16, .getfield 15, 3), (19, .if_icmp .le 7, 3), (22, .iconst 1, 1), (23, .goto 4, 3), (26, .iconst 0, 1), (27, .ireturn, 1), (28, .aload_n 0, 1), (29, .getfield 18, 3), (32, .aload_n 1, 1), (33, .getfield 18, 3), (36, .if_icmp .eq 20, 3), (39, .aload_n 0, 1), (40, .getfield 18, 3), (43, .aload_n 1, 1), (44, .getfield 18, 3), (47, .if_icmp .ge 7, 3), (50, .iconst 1, 1), (51, .goto 4, 3), (54, .iconst 0, 1), (55, .ireturn, 1), (56, .aload_n 0, 1), (57, .getfield 9, 3), (60, .aload_n 1, 1), (61, .getfield 9, 3), (64, .if_icmp .ge 7, 3), (67, .iconst 1, 1), (68, .goto 4, 3), (71, .iconst 0, 1), (72, .ireturn, 1)]
set_option maxRecDepth 100000 in
theorem evT_ok_4 : evT_4.all (fun q => decide (decode cX0_isAbove q.1 = .ok q.2)) = true := by decide +kernel
def evT_5 : List (Nat × Instr × Nat) := [(0, .aload_n 0, 1), (1, .invokespecial 1, 3), (4, .aload_n 0, 1), (5, .new 7, 3), (8, .dup, 1), (9, .invokespecial 9, 3), (12, .putfield 10, 3), (15, .return_, 1)]
set_option maxRecDepth 100000 in
theorem evT_ok_5 : evT_5.all (fun q => decide (decode cX1_init q.1 = .ok q.2)) = true := by decide +kernel
def evT_6 : List (Nat × Instr × Nat) := [(0, .aload_n 0, 1), (1, .aload_n 1, 1), (2, .getfield 16, 3), (5, .putfield 16, 3), (8, .aload_n 0, 1), (9, .aload_n 1, 1), (10, .getfield 20, 3), (13, .putfield 20, 3), (16, .aload_n 0, 1), (17, .aload_n 1, 1), (18, .getfield 23, 3), (21, .putfield 23, 3), (24, .aload_n 0, 1), (25, .aload_n 1, 1), (26, .getfield 26, 3), (29, .putfield 26, 3), (32, .aload_n 0, 1), (33, .aload_n 1, 1), (34, .getfield 29, 3), (37, .putfield 29, 3), (40, .aload_n 0, 1), (41, .aload_n 1, 1), (42, .getfield 32, 3), (45, .putfield 32, 3), (48, .aload_n 0, 1), (49, .aload_n 1, 1), (50, .getfield 35, 3), (53, .putfield 35, 3), (56, .aload_n 0, 1), (57, .aload_n 1, 1), (58, .getfield 38, 3), (61, .putfield 38, 3), (64, .aload_n 0, 1), (65, .getfield 10, 3), (68, .aload_n 1, 1), (69, .getfield 10, 3), (72, .invokevirtual 41, 3), (75, .return_, 1)]
set_option maxRecDepth 100000 in
theorem evT_ok_6 : evT_6.all (fun q => decide (decode cX1_copyFrom q.1 = .ok q.2)) = true := by decide +kernel
def evT_7 : List (Nat × Instr × Nat) := [(0, .aload_n 0, 1), (1, .invokespecial 3, 3), (4, .aload_n 0, 1), (5, .iconst 4, 1), (6, .newarray .int, 2), (8, .dup, 1), (9, .iconst 0, 1), (10, .iconst 1, 1), (11, .iastore, 1), (12, .dup, 1), (13, .iconst 1, 1), (14, .iconst 5, 1), (15, .iastore, 1), (16, .dup, 1), (17, .iconst 2, 1), (18, .iconst 2, 1), (19, .iastore, 1), (20, .dup, 1), (21, .iconst 3, 1), (22, .iconst 0, 1), (23, .iastore, 1), (24, .putfield 9, 3), (27, .aload_n 0, 1), (28, .bipush (-6), 2), (30, .putfield 15, 3), (33, .aload_n 0, 1), (34, .bipush 6, 2), (36, .anewarray 19, 3), (39, .putfield 21, 3), (42, .aload_n 0, 1), (43, .bipush 8, 2), (45, .anewarray 25, 3), (48, .putfield 27, 3), (51, .aload_n 0, 1), (52, .bipush 6, 2), (54, .anewarray 31, 3), (57, .putfield 33, 3), (60, .aload_n 0, 1), (61, .new 37, 3), (64, .dup, 1), (65, .invokespecial 39, 3), (68, .putfield 40, 3), (71, .iconst 0, 1), (72, .istore_n 1, 1), (73, .iload_n 1, 1), (74, .aload_n 0, 1), (75, .getfield 21, 3), (78, .arraylength, 1), (79, .if_icmp .ge 22, 3), (82, .aload_n 0, 1), (83, .getfield 21, 3), (86, .iload_n 1, 1), (87, .new 19, 3), (90, .dup, 1), (91, .invokespecial 44, 3), (94, .aastore, 1), (95, .iinc 1 1, 3), (98, .goto (-25), 3), (101, .iconst 0, 1), (102, .istore_n 1, 1), (103, .iload_n 1, 1), (104, .aload_n 0, 1), (105, .getfield 27, 3), (108, .arraylength, 1), (109, .if_icmp .ge 22, 3), (112, .aload_n 0, 1), (113, .getfield 27, 3), (116, .iload_n 1, 1), (117, .new 25, 3), (120, .dup, 1), (121, .invokespecial 45, 3), (124, .aastore, 1), (125, .iinc 1 1, 3), (128, .goto (-25), 3), (131, .iconst 0, 1), (132, .istore_n 1, 1), (133, .iload_n 1, 1), (134, .aload_n 0, 1), (135, .getfield 33, 3), (138, .arraylength, 1), (139, .if_icmp .ge 22, 3), (142, .aload_n 0, 1), (143, .getfield 33, 3), (146, .iload_n 1, 1), (147, .new 31, 3), (150, .dup, 1), (151, .invokespecial 46, 3), (154, .aastore, 1), (155, .iinc 1 1, 3), (158, .goto (-25), 3), (161, .return_, 1)]
set_option maxRecDepth 100000 in
theorem evT_ok_7 : evT_7.all (fun q => decide (decode cX2_init q.1 = .ok q.2)) = true := by decide +kernel
def evT_8 : List (Nat × Instr × Nat) := [(0, .aload_n 1, 1), (1, .getfield 9, 3), (4, .iconst 0, 1), (5, .aload_n 0, 1), (6, .getfield 9, 3), (9, .iconst 0, 1), (10, .iconst 4, 1), (11, .invokestatic 47, 3), (14, .aload_n 0, 1), (15, .aload_n 1, 1), (16, .getfield 53, 3), (19, .putfield 53, 3), (22, .aload_n 0, 1), (23, .aload_n 1, 1), (24, .getfield 56, 3), (27, .putfield 56, 3), (30, .aload_n 0, 1), (31, .aload_n 1, 1), (32, .getfield 59, 3), (35, .putfield 59, 3), (38, .aload_n 0, 1), (39, .aload_n 1, 1), (40, .getfield 15, 3), (43, .putfield 15, 3), (46, .aload_n 0, 1), (47, .aload_n 1, 1), (48, .getfield 62, 3), (51, .putfield 62, 3), (54, .aload_n 0, 1), (55, .aload_n 1, 1), (56, .invokevirtual 65, 3), (59, .aload_n 0, 1), (60, .getfield 40, 3), (63, .aload_n 1, 1), (64, .getfield 40, 3), (67, .invokevirtual 69, 3), (70, .return_, 1)]
set_option maxRecDepth 100000 in
theorem evT_ok_8 : evT_8.all (fun q => decide (decode cX2_copyFrom q.1 = .ok q.2)) = true := by decide +kernel
def evT_9 : List (Nat × Instr × Nat) := [(0, .iconst 0, 1), (1, .istore_n 2, 1), (2, .iload_n 2, 1), (3, .aload_n 0, 1), (4, .getfield 21, 3), (7, .arraylength, 1), (8, .if_icmp .ge 51, 3), (11, .iload_n 2, 1), (12, .aload_n 1, 1), (13, .getfield 21, 3), (16, .arraylength, 1), (17, .if_icmp .ge 42, 3), (20, .aload_n 0, 1), (21, .getfield 21, 3), (24, .iload_n 2, 1), (25, .aaload, 1), (26, .ifnull 27, 3), (29, .aload_n 1, 1), (30, .getfield 21, 3), (33, .iload_n 2, 1), (34, .aaload, 1), (35, .ifnull 18, 3), (38, .aload_n 0, 1), (39, .getfield 21, 3), (42, .iload_n 2, 1), (43, .aaload, 1), (44, .aload_n 1, 1), (45, .getfield 21, 3), (48, .iload_n 2, 1), (49, .aaload, 1), (50, .invokevirtual 73, 3), (53, .iinc 2 1, 3), (56, .goto (-54), 3), (59, .iconst 0, 1), (60, .istore_n 2, 1), (61, .iload_n 2, 1), (62, .aload_n 0, 1), (63, .getfield 27, 3), (66, .arraylength, 1), (67, .if_icmp .ge 51, 3), (70, .iload_n 2, 1), (71, .aload_n 1, 1), (72, .getfield 27, 3), (75, .arraylength, 1), (76, .if_icmp .ge 42, 3), (79, .aload_n 0, 1), (80, .getfield 27, 3), (83, .iload_n 2, 1), (84, .aaload, 1), (85, .ifnull 27, 3), (88, .aload_n 1, 1), (89, .getfield 27, 3), (92, .iload_n 2, 1), (93, .aaload, 1), (94, .ifnull 18, 3), (97, .aload_n 0, 1), (98, .getfield 27, 3), (101, .iload_n 2, 1), (102, .aaload, 1), (103, .aload_n 1, 1), (104, .getfield 27, 3), (107, .iload_n 2, 1), (108, .aaload, 1), (109, .invokevirtual 76, 3), (112, .iinc 2 1, 3), (115, .goto (-54), 3), (118, .iconst 0, 1), (119, .istore_n 2, 1), (120, .iload_n 2, 1), (121, .aload_n 0, 1), (122, .getfield 33, 3), (125, .arraylength, 1), (126, .if_icmp .ge 51, 3), (129, .iload_n 2, 1), (130, .aload_n 1, 1), (131, .getfield 33, 3), (134, .arraylength, 1), (135, .if_icmp .ge 42, 3), (138, .aload_n 0, 1), (139, .getfield 33, 3), (142, .iload_n 2, 1), (143, .aaload, 1), (144, .ifnull 27, 3), (147, .aload_n 1, 1), (148, .getfield 33, 3), (151, .iload_n 2, 1), (152, .aaload, 1), (153, .ifnull 18, 3), (156, .aload_n 0, 1), (157, .getfield 33, 3), (160, .iload_n 2, 1), (161, .aaload, 1), (162, .aload_n 1, 1), (163, .getfield 33, 3), (166, .iload_n 2, 1), (167, .aaload, 1), (168, .invokevirtual 79, 3), (171, .iinc 2 1, 3), (174, .goto (-54), 3), (177, .return_, 1)]
set_option maxRecDepth 100000 in
theorem evT_ok_9 : evT_9.all (fun q => decide (decode cX2_copyRows q.1 = .ok q.2)) = true := by decide +kernel
def evT_10 : List (Nat × Instr × Nat) := [(0, .iload_n 1, 1), (1, .ifCond .lt 29, 3), (4, .iload_n 1, 1), (5, .aload_n 0, 1), (6, .getfield 53, 3), (9, .if_icmp .ge 21, 3), (12, .iload_n 1, 1), (13, .aload_n 0, 1), (14, .getfield 21, 3), (17, .arraylength, 1), (18, .if_icmp .ge 12, 3), (21, .aload_n 0, 1), (22, .getfield 21, 3), (25, .iload_n 1, 1), (26, .aaload, 1), (27, .goto 4, 3), (30, .aconst_null, 1), (31, .areturn, 1)]
set_option maxRecDepth 100000 in
theorem evT_ok_10 : evT_10.all (fun q => decide (decode cX2_bidderAt q.1 = .ok q.2)) = true := by decide +kernel
def evT_11 : List (Nat × Instr × Nat) := [(0, .iload_n 1, 1), (1, .ifCond .lt 29, 3), (4, .iload_n 1, 1), (5, .aload_n 0, 1), (6, .getfield 56, 3), (9, .if_icmp .ge 21, 3), (12, .iload_n 1, 1), (13, .aload_n 0, 1), (14, .getfield 27, 3), (17, .arraylength, 1), (18, .if_icmp .ge 12, 3), (21, .aload_n 0, 1), (22, .getfield 27, 3), (25, .iload_n 1, 1), (26, .aaload, 1), (27, .goto 4, 3), (30, .aconst_null, 1), (31, .areturn, 1)]
set_option maxRecDepth 100000 in
theorem evT_ok_11 : evT_11.all (fun q => decide (decode cX2_lotAt q.1 = .ok q.2)) = true := by decide +kernel
def evT_12 : List (Nat × Instr × Nat) := [(0, .iload_n 1, 1), (1, .ifCond .lt 21, 3), (4, .iload_n 1, 1), (5, .aload_n 0, 1), (6, .getfield 9, 3), (9, .arraylength, 1), (10, .if_icmp .ge 12, 3), (13, .aload_n 0, 1), (14, .getfield 9, 3), (17, .iload_n 1, 1), (18, .iaload, 1), (19, .goto 5, 3), (22, .bipush (-2), 2), (24, .ireturn, 1)]
set_option maxRecDepth 100000 in
theorem evT_ok_12 : evT_12.all (fun q => decide (decode cX2_settingAt q.1 = .ok q.2)) = true := by decide +kernel
def evT_13 : List (Nat × Instr × Nat) := [(0, .iload_n 1, 1), (1, .ifCond .lt 28, 3), (4, .iload_n 1, 1), (5, .aload_n 0, 1), (6, .getfield 9, 3), (9, .arraylength, 1), (10, .if_icmp .ge 19, 3), (13, .iload_n 1, 1), (14, .getstatic 82, 3), (17, .arraylength, 1), (18, .if_icmp .ge 11, 3), (21, .iload_n 1, 1), (22, .getstatic 85, 3), (25, .arraylength, 1), (26, .if_icmp .lt 6, 3), (29, .bipush (-2), 2), (31, .ireturn, 1), (32, .iload_n 2, 1), (33, .getstatic 82, 3), (36, .iload_n 1, 1), (37, .iaload, 1), (38, .if_icmp .lt 12, 3), (41, .iload_n 2, 1), (42, .getstatic 85, 3), (45, .iload_n 1, 1), (46, .iaload, 1), (47, .if_icmp .le 6, 3), (50, .bipush (-2), 2), (52, .ireturn, 1), (53, .aload_n 0, 1), (54, .getfield 9, 3), (57, .iload_n 1, 1), (58, .iaload, 1), (59, .istore_n 3, 1), (60, .aload_n 0, 1), (61, .getfield 9, 3), (64, .iload_n 1, 1), (65, .iload_n 2, 1), (66, .iastore, 1), (67, .iload_n 3, 1), (68, .ireturn, 1)]
set_option maxRecDepth 100000 in
theorem evT_ok_13 : evT_13.all (fun q => decide (decode cX2_changeSetting q.1 = .ok q.2)) = true := by decide +kernel
def evT_14 : List (Nat × Instr × Nat) := [(0, .iload_n 1, 1), (1, .ifCond .lt 21, 3), (4, .iload_n 1, 1), (5, .sipush 9999, 3), (8, .if_icmp .gt 14, 3), (11, .iload_n 2, 1), (12, .ifCond .lt 10, 3), (15, .iload_n 2, 1), (16, .sipush 200, 3), (19, .if_icmp .le 6, 3), (22, .bipush (-2), 2), (24, .ireturn, 1), (25, .aload_n 0, 1), (26, .getfield 53, 3), (29, .bipush 6, 2), (31, .if_icmp .lt 6, 3), (34, .bipush (-4), 2), (36, .ireturn, 1), (37, .aload_n 0, 1), (38, .dup, 1), (39, .getfield 53, 3), (42, .iconst 1, 1), (43, .iadd, 1), (44, .putfield 53, 3), (47, .aload_n 0, 1), (48, .aload_n 0, 1), (49, .getfield 53, 3), (52, .iconst 1, 1), (53, .isub, 1), (54, .invokevirtual 88, 3), (57, .astore_n 3, 1), (58, .aload_n 3, 1), (59, .ifnull 13, 3), (62, .aload_n 3, 1), (63, .iload_n 1, 1), (64, .putfield 92, 3), (67, .aload_n 3, 1), (68, .iload_n 2, 1), (69, .putfield 95, 3), (72, .aload_n 0, 1), (73, .getfield 53, 3), (76, .iconst 1, 1), (77, .isub, 1), (78, .ireturn, 1)]
set_option maxRecDepth 100000 in
theorem evT_ok_14 : evT_14.all (fun q => decide (decode cX2_addBidder q.1 = .ok q.2)) = true := by decide +kernel
def evT_15 : List (Nat × Instr × Nat) := [(0, .aload_n 0, 1), (1, .iload_n 1, 1), (2, .invokevirtual 88, 3), (5, .astore_n 3, 1), (6, .aload_n 3, 1), (7, .ifnonnull 5, 3), (10, .iconst (-1), 1), (11, .ireturn, 1), (12, .iload_n 2, 1), (13, .ifCond .lt 10, 3), (16, .iload_n 2, 1), (17, .sipush 200, 3), (20, .if_icmp .le 6, 3), (23, .bipush (-2), 2), (25, .ireturn, 1), (26, .aload_n 3, 1), (27, .getfield 95, 3), (30, .istore 4, 2), (32, .aload_n 3, 1), (33, .iload_n 2, 1), (34, .putfield 95, 3), (37, .iload 4, 2), (39, .ireturn, 1)]
set_option maxRecDepth 100000 in
theorem evT_ok_15 : evT_15.all (fun q => decide (decode cX2_changePlan q.1 = .ok q.2)) = true := by decide +kernel
def evT_16 : List (Nat × Instr × Nat) := [(0, .iload_n 1, 1), (1, .ifCond .lt 10, 3), (4, .iload_n 1, 1), (5, .sipush 999, 3), (8, .if_icmp .le 6, 3), (11, .bipush (-2), 2), (13, .ireturn, 1), (14, .aload_n 0, 1), (15, .getfield 56, 3), (18, .bipush 8, 2), (20, .if_icmp .lt 6, 3), (23, .bipush (-4), 2), (25, .ireturn, 1), (26, .aload_n 0, 1), (27, .dup, 1), (28, .getfield 56, 3), (31, .iconst 1, 1), (32, .iadd, 1), (33, .putfield 56, 3), (36, .aload_n 0, 1), (37, .aload_n 0, 1), (38, .getfield 56, 3), (41, .iconst 1, 1), (42, .isub, 1), (43, .invokevirtual 98, 3), (46, .astore_n 2, 1), (47, .aload_n 2, 1), (48, .ifnull 8, 3), (51, .aload_n 2, 1), (52, .iload_n 1, 1), (53, .putfield 102, 3), (56, .aload_n 0, 1), (57, .getfield 56, 3), (60, .iconst 1, 1), (61, .isub, 1), (62, .ireturn, 1)]
set_option maxRecDepth 100000 in
theorem evT_ok_16 : evT_16.all (fun q => decide (decode cX2_addLot q.1 = .ok q.2)) = true := by decide +kernel
def evT_17 : List (Nat × Instr × Nat) := [(0, .aload_n 0, 1), (1, .iload_n 1, 1), (2, .invokevirtual 88, 3), (5, .astore_n 3, 1), (6, .aload_n 3, 1), (7, .ifnonnull 5, 3), (10, .iconst (-1), 1), (11, .ireturn, 1), (12, .iload_n 2, 1), (13, .iconst 1, 1), (14, .if_icmp .lt 10, 3), (17, .iload_n 2, 1), (18, .sipush 9999, 3), (21, .if_icmp .le 6, 3), (24, .bipush (-2), 2), (26, .ireturn, 1), (27, .aload_n 3, 1), (28, .getfield 105, 3), (31, .istore 4, 2), (33, .aload_n 3, 1), (34, .iload_n 2, 1), (35, .putfield 105, 3), (38, .iload 4, 2), (40, .ireturn, 1)]
set_option maxRecDepth 100000 in
theorem evT_ok_17 : evT_17.all (fun q => decide (decode cX2_tellBid q.1 = .ok q.2)) = true := by decide +kernel
def evT_18 : List (Nat × Instr × Nat) := [(0, .iload_n 1, 1), (1, .iconst 1, 1), (2, .if_icmp .lt 9, 3), (5, .iload_n 1, 1), (6, .bipush 99, 2), (8, .if_icmp .le 6, 3), (11, .bipush (-2), 2), (13, .ireturn, 1), (14, .aload_n 0, 1), (15, .getfield 62, 3), (18, .iload_n 1, 1), (19, .iadd, 1), (20, .sipush 9999, 3), (23, .if_icmp .le 6, 3), (26, .bipush (-5), 2), (28, .ireturn, 1), (29, .iconst 0, 1), (30, .istore_n 2, 1), (31, .iconst 0, 1), (32, .istore_n 3, 1), (33, .iload_n 3, 1), (34, .iload_n 1, 1), (35, .if_icmp .ge 19, 3), (38, .aload_n 0, 1), (39, .invokevirtual 108, 3), (42, .ifCond .eq 6, 3), (45, .iinc 2 1, 3), (48, .iinc 3 1, 3), (51, .goto (-18), 3), (54, .iload_n 2, 1), (55, .ireturn, 1)]
set_option maxRecDepth 100000 in
theorem evT_ok_18 : evT_18.all (fun q => decide (decode cX2_letPass q.1 = .ok q.2)) = true := by decide +kernel
def evT_19 : List (Nat × Instr × Nat) := [(0, .iconst 0, 1), (1, .istore_n 2, 1), (2, .iload_n 2, 1), (3, .iload_n 1, 1), (4, .if_icmp .ge 21, 3), (7, .aload_n 0, 1), (8, .invokevirtual 112, 3), (11, .ifCond .eq 14, 3), (14, .aload_n 0, 1), (15, .invokevirtual 108, 3), (18, .pop, 1), (19, .iinc 2 1, 3), (22, .goto (-20), 3), (25, .return_, 1)]
set_option maxRecDepth 100000 in
theorem evT_ok_19 : evT_19.all (fun q => decide (decode cX2_playOut q.1 = .ok q.2)) = true := by decide +kernel
def evT_20 : List (Nat × Instr × Nat) := [(0, .aload_n 0, 1), (1, .getfield 15, 3), (4, .bipush (-6), 2), (6, .if_icmp .ne 14, 3), (9, .aload_n 0, 1), (10, .getfield 59, 3), (13, .aload_n 0, 1), (14, .getfield 56, 3), (17, .if_icmp .ge 7, 3), (20, .iconst 1, 1), (21, .goto 4, 3), (24, .iconst 0, 1), (25, .ireturn, 1)]
set_option maxRecDepth 100000 in
theorem evT_ok_20 : evT_20.all (fun q => decide (decode cX2_hasLotsLeft q.1 = .ok q.2)) = true := by decide +kernel
def evT_21 : List (Nat × Instr × Nat) := [(0, .aload_n 0, 1), (1, .getfield 15, 3), (4, .bipush (-6), 2), (6, .if_icmp .ne 7, 3), (9, .aload_n 0, 1), (10, .invokevirtual 115, 3), (13, .aload_n 0, 1), (14, .aload_n 0, 1), (15, .getfield 15, 3), (18, .invokevirtual 98, 3), (21, .astore_n 1, 1), (22, .iconst 0, 1), (23, .istore_n 2, 1), (24, .aload_n 1, 1), (25, .ifnull 41, 3), (28, .aload_n 0, 1), (29, .aload_n 1, 1), (30, .invokevirtual 118, 3), (33, .aload_n 1, 1), (34, .getfield 121, 3), (37, .aload_n 0, 1), (38, .iconst 2, 1), (39, .invokevirtual 124, 3), (42, .aload_n 0, 1), (43, .iconst 0, 1), (44, .invokevirtual 124, 3), (47, .iadd, 1), (48, .if_icmp .lt 7, 3), (51, .iconst 1, 1), (52, .goto 4, 3), (55, .iconst 0, 1), (56, .istore_n 2, 1), (57, .iload_n 2, 1), (58, .ifCond .eq 8, 3), (61, .aload_n 0, 1), (62, .aload_n 1, 1), (63, .invokevirtual 128, 3), (66, .aload_n 0, 1), (67, .dup, 1), (68, .getfield 62, 3), (71, .iconst 1, 1), (72, .iadd, 1), (73, .putfield 62, 3), (76, .iload_n 2, 1), (77, .ireturn, 1)]
set_option maxRecDepth 100000 in
theorem evT_ok_21 : evT_21.all (fun q => decide (decode cX2_playRound q.1 = .ok q.2)) = true := by decide +kernel
def evT_22 : List (Nat × Instr × Nat) := [(0, .aload_n 0, 1), (1, .aload_n 0, 1), (2, .getfield 59, 3), (5, .invokevirtual 98, 3), (8, .astore_n 1, 1), (9, .aload_n 1, 1), (10, .ifnonnull 4, 3), (13, .return_, 1), (14, .aload_n 1, 1), (15, .iconst 1, 1), (16, .putfield 131, 3), (19, .aload_n 0, 1), (20, .aload_n 0, 1), (21, .getfield 59, 3), (24, .putfield 15, 3), (27, .aload_n 0, 1), (28, .dup, 1), (29, .getfield 59, 3), (32, .iconst 1, 1), (33, .iadd, 1), (34, .putfield 59, 3), (37, .aload_n 0, 1), (38, .getfield 40, 3), (41, .invokevirtual 134, 3), (44, .iconst 0, 1), (45, .istore_n 2, 1), (46, .iload_n 2, 1), (47, .aload_n 0, 1), (48, .getfield 21, 3), (51, .arraylength, 1), (52, .if_icmp .ge 30, 3), (55, .aload_n 0, 1), (56, .getfield 21, 3), (59, .iload_n 2, 1), (60, .aaload, 1), (61, .ifnull 15, 3), (64, .aload_n 0, 1), (65, .getfield 21, 3), (68, .iload_n 2, 1), (69, .aaload, 1), (70, .getfield 137, 3), (73, .invokevirtual 141, 3), (76, .iinc 2 1, 3), (79, .goto (-33), 3), (82, .iconst 0, 1), (83, .istore_n 2, 1), (84, .iload_n 2, 1), (85, .aload_n 0, 1), (86, .getfield 33, 3), (89, .arraylength, 1), (90, .if_icmp .ge 27, 3), (93, .aload_n 0, 1), (94, .getfield 33, 3), (97, .iload_n 2, 1), (98, .aaload, 1), (99, .ifnull 12, 3), (102, .aload_n 0, 1), (103, .getfield 33, 3), (106, .iload_n 2, 1), (107, .aaload, 1), (108, .invokevirtual 141, 3), (111, .iinc 2 1, 3), (114, .goto (-30), 3), (117, .return_, 1)]
set_option maxRecDepth 100000 in
theorem evT_ok_22 : evT_22.all (fun q => decide (decode cX2_beginLot q.1 = .ok q.2)) = true := by decide +kernel
def evT_23 : List (Nat × Instr × Nat) := [(0, .aload_n 1, 1), (1, .getfield 142, 3), (4, .getfield 145, 3), (7, .istore_n 2, 1), (8, .iconst 1, 1), (9, .istore_n 3, 1), (10, .iconst 0, 1), (11, .istore 4, 2), (13, .iload 4, 2), (15, .aload_n 0, 1), (16, .getfield 53, 3), (19, .if_icmp .ge 76, 3), (22, .aload_n 0, 1), (23, .iload 4, 2), (25, .invokevirtual 88, 3), (28, .astore 5, 2), (30, .aload 5, 2), (32, .ifnull 57, 3), (35, .aload_n 0, 1), (36, .aload 5, 2), (38, .iload 4, 2), (40, .aload_n 1, 1), (41, .getfield 102, 3), (44, .aload_n 0, 1), (45, .aload 5, 2), (47, .invokevirtual 148, 3), (50, .invokevirtual 152, 3), (53, .istore 6, 2), (55, .aload 5, 2), (57, .iconst 0, 1), (58, .putfield 105, 3), (61, .iload 6, 2), (63, .ifCond .le 26, 3), (66, .aload_n 0, 1), (67, .aload 5, 2), (69, .iload 4, 2), (71, .iload 6, 2), (73, .iload 6, 2), (75, .iload_n 2, 1), (76, .if_icmp .gt 7, 3), (79, .iconst 1, 1), (80, .goto 4, 3), (83, .iconst 0, 1), (84, .invokevirtual 156, 3), (87, .iconst 0, 1), (88, .istore_n 3, 1), (89, .iinc 4 1, 3), (92, .goto (-79), 3), (95, .aload_n 1, 1), (96, .dup, 1), (97, .getfield 160, 3), (100, .iconst 1, 1), (101, .iadd, 1), (102, .putfield 160, 3), (105, .aload_n 1, 1), (106, .iload_n 3, 1), (107, .ifCond .eq 12, 3), (110, .aload_n 1, 1), (111, .getfield 121, 3), (114, .iconst 1, 1), (115, .iadd, 1), (116, .goto 4, 3), (119, .iconst 0, 1), (120, .putfield 121, 3), (123, .aload_n 0, 1), (124, .aload_n 1, 1), (125, .invokevirtual 163, 3), (128, .return_, 1)]
set_option maxRecDepth 100000 in
theorem evT_ok_23 : evT_23.all (fun q => decide (decode cX2_takeBids q.1 = .ok q.2)) = true := by decide +kernel
def evT_24 : List (Nat × Instr × Nat) := [(0, .aload_n 1, 1), (1, .getfield 105, 3), (4, .ifCond .le 19, 3), (7, .aload_n 1, 1), (8, .getfield 105, 3), (11, .aload_n 1, 1), (12, .getfield 92, 3), (15, .if_icmp .gt 8, 3), (18, .aload_n 1, 1), (19, .getfield 105, 3), (22, .ireturn, 1), (23, .aload 4, 2), (25, .getfield 166, 3), (28, .iload_n 2, 1), (29, .if_icmp .ne 5, 3), (32, .iconst 0, 1), (33, .ireturn, 1), (34, .iload_n 3, 1), (35, .aload_n 1, 1), (36, .getfield 95, 3), (39, .imul, 1), (40, .bipush 100, 2), (42, .idiv, 1), (43, .aload_n 1, 1), (44, .getfield 92, 3), (47, .invokestatic 169, 3), (50, .istore 5, 2), (52, .aload 4, 2), (54, .getfield 145, 3), (57, .aload_n 0, 1), (58, .iconst 1, 1), (59, .invokevirtual 124, 3), (62, .iadd, 1), (63, .istore 6, 2), (65, .iload 6, 2), (67, .iload 5, 2), (69, .if_icmp .gt 8, 3), (72, .iload 6, 2), (74, .goto 4, 3), (77, .iconst 0, 1), (78, .ireturn, 1)]
set_option maxRecDepth 100000 in
theorem evT_ok_24 : evT_24.all (fun q => decide (decode cX2_chooseBid q.1 = .ok q.2)) = true := by decide +kernel
def evT_25 : List (Nat × Instr × Nat) := [(0, .aload_n 0, 1), (1, .getfield 62, 3), (4, .iconst 1, 1), (5, .isub, 1), (6, .aload_n 0, 1), (7, .iconst 0, 1), (8, .invokevirtual 124, 3), (11, .isub, 1), (12, .bipush 6, 2), (14, .invokestatic 175, 3), (17, .istore_n 2, 1), (18, .iload_n 2, 1), (19, .ifCond .lt 44, 3), (22, .iload_n 2, 1), (23, .aload_n 0, 1), (24, .getfield 33, 3), (27, .arraylength, 1), (28, .if_icmp .ge 35, 3), (31, .aload_n 0, 1), (32, .getfield 33, 3), (35, .iload_n 2, 1), (36, .aaload, 1), (37, .ifnull 26, 3), (40, .aload_n 0, 1), (41, .getfield 33, 3), (44, .iload_n 2, 1), (45, .aaload, 1), (46, .aload_n 1, 1), (47, .getfield 137, 3), (50, .invokevirtual 178, 3), (53, .ifCond .eq 10, 3), (56, .aload_n 0, 1), (57, .getfield 33, 3), (60, .iload_n 2, 1), (61, .aaload, 1), (62, .areturn, 1), (63, .aload_n 1, 1), (64, .getfield 137, 3), (67, .areturn, 1)]
set_option maxRecDepth 100000 in
theorem evT_ok_25 : evT_25.all (fun q => decide (decode cX2_believed q.1 = .ok q.2)) = true := by decide +kernel
def evT_26 : List (Nat × Instr × Nat) := [(0, .aload_n 1, 1), (1, .dup, 1), (2, .getfield 182, 3), (5, .iconst 1, 1), (6, .iadd, 1), (7, .putfield 182, 3), (10, .aload_n 1, 1), (11, .dup, 1), (12, .getfield 185, 3), (15, .iload 4, 2), (17, .iadd, 1), (18, .putfield 185, 3), (21, .iload_n 3, 1), (22, .aload_n 1, 1), (23, .getfield 137, 3), (26, .getfield 145, 3), (29, .if_icmp .le 16, 3), (32, .aload_n 1, 1), (33, .getfield 137, 3), (36, .iload_n 2, 1), (37, .iload_n 3, 1), (38, .aload_n 0, 1), (39, .getfield 62, 3), (42, .invokevirtual 188, 3), (45, .aload_n 0, 1), (46, .getfield 40, 3), (49, .iload_n 2, 1), (50, .iload_n 3, 1), (51, .aload_n 0, 1), (52, .getfield 62, 3), (55, .iload 4, 2), (57, .invokevirtual 192, 3), (60, .return_, 1)]
set_option maxRecDepth 100000 in
theorem evT_ok_26 : evT_26.all (fun q => decide (decode cX2_noteBid q.1 = .ok q.2)) = true := by decide +kernel
def evT_27 : List (Nat × Instr × Nat) := [(0, .iconst 0, 1), (1, .istore_n 2, 1), (2, .iload_n 2, 1), (3, .aload_n 0, 1), (4, .getfield 53, 3), (7, .if_icmp .ge 44, 3), (10, .aload_n 0, 1), (11, .iload_n 2, 1), (12, .invokevirtual 88, 3), (15, .astore_n 3, 1), (16, .aload_n 3, 1), (17, .ifnull 28, 3), (20, .aload_n 3, 1), (21, .getfield 137, 3), (24, .aload_n 1, 1), (25, .getfield 142, 3), (28, .invokevirtual 178, 3), (31, .ifCond .eq 14, 3), (34, .aload_n 1, 1), (35, .getfield 142, 3), (38, .aload_n 3, 1), (39, .getfield 137, 3), (42, .invokevirtual 79, 3), (45, .iinc 2 1, 3), (48, .goto (-46), 3), (51, .aload_n 0, 1), (52, .getfield 62, 3), (55, .bipush 6, 2), (57, .invokestatic 175, 3), (60, .istore_n 2, 1), (61, .iload_n 2, 1), (62, .ifCond .lt 34, 3), (65, .iload_n 2, 1), (66, .aload_n 0, 1), (67, .getfield 33, 3), (70, .arraylength, 1), (71, .if_icmp .ge 25, 3), (74, .aload_n 0, 1), (75, .getfield 33, 3), (78, .iload_n 2, 1), (79, .aaload, 1), (80, .ifnull 16, 3), (83, .aload_n 0, 1), (84, .getfield 33, 3), (87, .iload_n 2, 1), (88, .aaload, 1), (89, .aload_n 1, 1), (90, .getfield 142, 3), (93, .invokevirtual 79, 3), (96, .return_, 1)]
set_option maxRecDepth 100000 in
theorem evT_ok_27 : evT_27.all (fun q => decide (decode cX2_echoRound q.1 = .ok q.2)) = true := by decide +kernel
def evT_28 : List (Nat × Instr × Nat) := [(0, .aload_n 0, 1), (1, .bipush (-6), 2), (3, .putfield 15, 3), (6, .aload_n 0, 1), (7, .aload_n 1, 1), (8, .getfield 142, 3), (11, .getfield 166, 3), (14, .invokevirtual 88, 3), (17, .astore_n 2, 1), (18, .aload_n 2, 1), (19, .ifnonnull 9, 3), (22, .aload_n 1, 1), (23, .iconst 3, 1), (24, .putfield 131, 3), (27, .return_, 1), (28, .aload_n 1, 1), (29, .iconst 2, 1), (30, .putfield 131, 3), (33, .aload_n 1, 1), (34, .aload_n 0, 1), (35, .aload_n 1, 1), (36, .invokevirtual 196, 3), (39, .putfield 200, 3), (42, .aload_n 2, 1), (43, .dup, 1), (44, .getfield 92, 3), (47, .aload_n 1, 1), (48, .getfield 200, 3), (51, .isub, 1), (52, .putfield 92, 3), (55, .aload_n 2, 1), (56, .dup, 1), (57, .getfield 203, 3), (60, .aload_n 1, 1), (61, .getfield 200, 3), (64, .iadd, 1), (65, .putfield 203, 3), (68, .aload_n 2, 1), (69, .dup, 1), (70, .getfield 206, 3), (73, .aload_n 1, 1), (74, .getfield 102, 3), (77, .iadd, 1), (78, .putfield 206, 3), (81, .aload_n 2, 1), (82, .dup, 1), (83, .getfield 207, 3), (86, .iconst 1, 1), (87, .aload_n 0, 1), (88, .getfield 59, 3), (91, .iconst 1, 1), (92, .isub, 1), (93, .ishl, 1), (94, .ior, 1), (95, .putfield 207, 3), (98, .return_, 1)]
set_option maxRecDepth 100000 in
theorem evT_ok_28 : evT_28.all (fun q => decide (decode cX2_endLot q.1 = .ok q.2)) = true := by decide +kernel
def evT_29 : List (Nat × Instr × Nat) := [(0, .aload_n 0, 1), (1, .iconst 3, 1), (2, .invokevirtual 124, 3), (5, .ifCond .ne 11, 3), (8, .aload_n 1, 1), (9, .getfield 142, 3), (12, .getfield 145, 3), (15, .ireturn, 1), (16, .iconst 0, 1), (17, .istore_n 2, 1), (18, .iconst 0, 1), (19, .istore_n 3, 1), (20, .iload_n 3, 1), (21, .aload_n 0, 1), (22, .getfield 53, 3), (25, .if_icmp .ge 45, 3), (28, .aload_n 0, 1), (29, .iload_n 3, 1), (30, .invokevirtual 88, 3), (33, .astore 4, 2), (35, .aload 4, 2), (37, .ifnull 27, 3), (40, .iload_n 3, 1), (41, .aload_n 1, 1), (42, .getfield 142, 3), (45, .getfield 166, 3), (48, .if_icmp .eq 16, 3), (51, .iload_n 2, 1), (52, .aload 4, 2), (54, .getfield 137, 3), (57, .getfield 145, 3), (60, .invokestatic 210, 3), (63, .istore_n 2, 1), (64, .iinc 3 1, 3), (67, .goto (-47), 3), (70, .iload_n 2, 1), (71, .aload_n 0, 1), (72, .iconst 1, 1), (73, .invokevirtual 124, 3), (76, .iadd, 1), (77, .aload_n 1, 1), (78, .getfield 142, 3), (81, .getfield 145, 3), (84, .invokestatic 169, 3), (87, .ireturn, 1)]
set_option maxRecDepth 100000 in
theorem evT_ok_29 : evT_29.all (fun q => decide (decode cX2_priceOf q.1 = .ok q.2)) = true := by decide +kernel
def evT_30 : List (Nat × Instr × Nat) := [(0, .iconst 0, 1), (1, .istore_n 1, 1), (2, .iconst 0, 1), (3, .istore_n 2, 1), (4, .iload_n 2, 1), (5, .aload_n 0, 1), (6, .getfield 56, 3), (9, .if_icmp .ge 30, 3), (12, .aload_n 0, 1), (13, .iload_n 2, 1), (14, .invokevirtual 98, 3), (17, .astore_n 3, 1), (18, .aload_n 3, 1), (19, .ifnull 14, 3), (22, .aload_n 3, 1), (23, .getfield 131, 3), (26, .iconst 2, 1), (27, .if_icmp .ne 6, 3), (30, .iinc 1 1, 3), (33, .iinc 2 1, 3), (36, .goto (-32), 3), (39, .iload_n 1, 1), (40, .ireturn, 1)]
set_option maxRecDepth 100000 in
theorem evT_ok_30 : evT_30.all (fun q => decide (decode cX2_lotsSold q.1 = .ok q.2)) = true := by decide +kernel
def evT_31 : List (Nat × Instr × Nat) := [(0, .iconst 0, 1), (1, .istore_n 1, 1), (2, .iconst 0, 1), (3, .istore_n 2, 1), (4, .iload_n 2, 1), (5, .aload_n 0, 1), (6, .getfield 53, 3), (9, .if_icmp .ge 30, 3), (12, .aload_n 0, 1), (13, .iload_n 2, 1), (14, .invokevirtual 88, 3), (17, .astore_n 3, 1), (18, .iload_n 1, 1), (19, .aload_n 3, 1), (20, .ifnonnull 7, 3), (23, .iconst 0, 1), (24, .goto 7, 3), (27, .aload_n 3, 1), (28, .getfield 203, 3), (31, .iadd, 1), (32, .istore_n 1, 1), (33, .iinc 2 1, 3), (36, .goto (-32), 3), (39, .iload_n 1, 1), (40, .ireturn, 1)]
set_option maxRecDepth 100000 in
theorem evT_ok_31 : evT_31.all (fun q => decide (decode cX2_coinsPaid q.1 = .ok q.2)) = true := by decide +kernel
def evT_32 : List (Nat × Instr × Nat) := [(0, .iconst 0, 1), (1, .istore_n 1, 1), (2, .iconst 0, 1), (3, .istore_n 2, 1), (4, .iload_n 2, 1), (5, .aload_n 0, 1), (6, .getfield 53, 3), (9, .if_icmp .ge 30, 3), (12, .aload_n 0, 1), (13, .iload_n 2, 1), (14, .invokevirtual 88, 3), (17, .astore_n 3, 1), (18, .iload_n 1, 1), (19, .aload_n 3, 1), (20, .ifnonnull 7, 3), (23, .iconst 0, 1), (24, .goto 7, 3), (27, .aload_n 3, 1), (28, .getfield 206, 3), (31, .iadd, 1), (32, .istore_n 1, 1), (33, .iinc 2 1, 3), (36, .goto (-32), 3), (39, .iload_n 1, 1), (40, .ireturn, 1)]
set_option maxRecDepth 100000 in
theorem evT_ok_32 : evT_32.all (fun q => decide (decode cX2_worthSold q.1 = .ok q.2)) = true := by decide +kernel
def evT_33 : List (Nat × Instr × Nat) := [(0, .iconst 0, 1), (1, .istore_n 1, 1), (2, .iconst 0, 1), (3, .istore_n 2, 1), (4, .iload_n 2, 1), (5, .aload_n 0, 1), (6, .getfield 53, 3), (9, .if_icmp .ge 30, 3), (12, .aload_n 0, 1), (13, .iload_n 2, 1), (14, .invokevirtual 88, 3), (17, .astore_n 3, 1), (18, .iload_n 1, 1), (19, .aload_n 3, 1), (20, .ifnonnull 7, 3), (23, .iconst 0, 1), (24, .goto 7, 3), (27, .aload_n 3, 1), (28, .getfield 182, 3), (31, .iadd, 1), (32, .istore_n 1, 1), (33, .iinc 2 1, 3), (36, .goto (-32), 3), (39, .iload_n 1, 1), (40, .ireturn, 1)]
set_option maxRecDepth 100000 in
theorem evT_ok_33 : evT_33.all (fun q => decide (decode cX2_bidsMade q.1 = .ok q.2)) = true := by decide +kernel
def evT_34 : List (Nat × Instr × Nat) := [(0, .iconst 0, 1), (1, .istore_n 1, 1), (2, .iconst 0, 1), (3, .istore_n 2, 1), (4, .iload_n 2, 1), (5, .aload_n 0, 1), (6, .getfield 53, 3), (9, .if_icmp .ge 30, 3), (12, .aload_n 0, 1), (13, .iload_n 2, 1), (14, .invokevirtual 88, 3), (17, .astore_n 3, 1), (18, .iload_n 1, 1), (19, .aload_n 3, 1), (20, .ifnonnull 7, 3), (23, .iconst 0, 1), (24, .goto 7, 3), (27, .aload_n 3, 1), (28, .getfield 185, 3), (31, .iadd, 1), (32, .istore_n 1, 1), (33, .iinc 2 1, 3), (36, .goto (-32), 3), (39, .iload_n 1, 1), (40, .ireturn, 1)]
set_option maxRecDepth 100000 in
theorem evT_ok_34 : evT_34.all (fun q => decide (decode cX2_shadowsMade q.1 = .ok q.2)) = true := by decide +kernel
def evT_35 : List (Nat × Instr × Nat) := [(0, .aload_n 0, 1), (1, .invokespecial 3, 3), (4, .aload_n 0, 1), (5, .bipush 7, 2), (7, .anewarray 11, 3), (10, .putfield 13, 3), (13, .iconst 0, 1), (14, .istore_n 1, 1), (15, .iload_n 1, 1), (16, .aload_n 0, 1), (17, .getfield 13, 3), (20, .arraylength, 1), (21, .if_icmp .ge 22, 3), (24, .aload_n 0, 1), (25, .getfield 13, 3), (28, .iload_n 1, 1), (29, .new 11, 3), (32, .dup, 1), (33, .invokespecial 17, 3), (36, .aastore, 1), (37, .iinc 1 1, 3), (40, .goto (-25), 3), (43, .return_, 1)]
set_option maxRecDepth 100000 in
theorem evT_ok_35 : evT_35.all (fun q => decide (decode cX3_init q.1 = .ok q.2)) = true := by decide +kernel
def evT_36 : List (Nat × Instr × Nat) := [(0, .aload_n 0, 1), (1, .getfield 18, 3), (4, .ifCond .lt 40, 3), (7, .aload_n 0, 1), (8, .getfield 18, 3), (11, .aload_n 0, 1), (12, .getfield 13, 3), (15, .arraylength, 1), (16, .if_icmp .ge 28, 3), (19, .aload_n 0, 1), (20, .getfield 13, 3), (23, .aload_n 0, 1), (24, .getfield 18, 3), (27, .aaload, 1), (28, .ifnull 16, 3), (31, .aload_n 0, 1), (32, .getfield 13, 3), (35, .aload_n 0, 1), (36, .getfield 18, 3), (39, .aaload, 1), (40, .aload_n 1, 1), (41, .invokevirtual 22, 3), (44, .return_, 1)]
set_option maxRecDepth 100000 in
theorem evT_ok_36 : evT_36.all (fun q => decide (decode cX3_prepare q.1 = .ok q.2)) = true := by decide +kernel
def evT_37 : List (Nat × Instr × Nat) := [(0, .iload_n 1, 1), (1, .ifCond .lt 46, 3), (4, .aload_n 0, 1), (5, .aload_n 0, 1), (6, .getfield 18, 3), (9, .iconst 1, 1), (10, .iadd, 1), (11, .aload_n 0, 1), (12, .getfield 13, 3), (15, .arraylength, 1), (16, .if_icmp .ge 12, 3), (19, .aload_n 0, 1), (20, .getfield 18, 3), (23, .iconst 1, 1), (24, .iadd, 1), (25, .goto 4, 3), (28, .iconst 0, 1), (29, .putfield 18, 3), (32, .aload_n 0, 1), (33, .aload_n 0, 1), (34, .getfield 26, 3), (37, .iconst 1, 1), (38, .iadd, 1), (39, .bipush 6, 2), (41, .invokestatic 29, 3), (44, .putfield 26, 3), (47, .iload_n 1, 1), (48, .ireturn, 1)]
set_option maxRecDepth 100000 in
theorem evT_ok_37 : evT_37.all (fun q => decide (decode cX3_settle q.1 = .ok q.2)) = true := by decide +kernel
def evT_38 : List (Nat × Instr × Nat) := [(0, .aload_n 0, 1), (1, .getfield 26, 3), (4, .ifCond .ne 6, 3), (7, .bipush (-5), 2), (9, .ireturn, 1), (10, .aload_n 0, 1), (11, .aload_n 0, 1), (12, .getfield 18, 3), (15, .ifCond .le 12, 3), (18, .aload_n 0, 1), (19, .getfield 18, 3), (22, .iconst 1, 1), (23, .isub, 1), (24, .goto 10, 3), (27, .aload_n 0, 1), (28, .getfield 13, 3), (31, .arraylength, 1), (32, .iconst 1, 1), (33, .isub, 1), (34, .putfield 18, 3), (37, .aload_n 0, 1), (38, .getfield 18, 3), (41, .ifCond .lt 40, 3), (44, .aload_n 0, 1), (45, .getfield 18, 3), (48, .aload_n 0, 1), (49, .getfield 13, 3), (52, .arraylength, 1), (53, .if_icmp .ge 28, 3), (56, .aload_n 0, 1), (57, .getfield 13, 3), (60, .aload_n 0, 1), (61, .getfield 18, 3), (64, .aaload, 1), (65, .ifnull 16, 3), (68, .aload_n 1, 1), (69, .aload_n 0, 1), (70, .getfield 13, 3), (73, .aload_n 0, 1), (74, .getfield 18, 3), (77, .aaload, 1), (78, .invokevirtual 22, 3), (81, .aload_n 0, 1), (82, .dup, 1), (83, .getfield 26, 3), (86, .iconst 1, 1), (87, .isub, 1), (88, .putfield 26, 3), (91, .aload_n 0, 1), (92, .getfield 26, 3), (95, .ireturn, 1)]
set_option maxRecDepth 100000 in
theorem evT_ok_38 : evT_38.all (fun q => decide (decode cX3_takeBack q.1 = .ok q.2)) = true := by decide +kernel
def evT_39 : List (Nat × Instr × Nat) := [(0, .aload_n 0, 1), (1, .invokespecial 1, 3), (4, .aload_n 0, 1), (5, .new 7, 3), (8, .dup, 1), (9, .invokespecial 9, 3), (12, .putfield 10, 3), (15, .return_, 1)]
set_option maxRecDepth 100000 in
theorem evT_ok_39 : evT_39.all (fun q => decide (decode cX4_init q.1 = .ok q.2)) = true := by decide +kernel
def evT_40 : List (Nat × Instr × Nat) := [(0, .aload_n 0, 1), (1, .aload_n 1, 1), (2, .getfield 16, 3), (5, .putfield 16, 3), (8, .aload_n 0, 1), (9, .aload_n 1, 1), (10, .getfield 20, 3), (13, .putfield 20, 3), (16, .aload_n 0, 1), (17, .aload_n 1, 1), (18, .getfield 23, 3), (21, .putfield 23, 3), (24, .aload_n 0, 1), (25, .aload_n 1, 1), (26, .getfield 26, 3), (29, .putfield 26, 3), (32, .aload_n 0, 1), (33, .aload_n 1, 1), (34, .getfield 29, 3), (37, .putfield 29, 3), (40, .aload_n 0, 1), (41, .getfield 10, 3), (44, .aload_n 1, 1), (45, .getfield 10, 3), (48, .invokevirtual 32, 3), (51, .return_, 1)]
set_option maxRecDepth 100000 in
theorem evT_ok_40 : evT_40.all (fun q => decide (decode cX4_copyFrom q.1 = .ok q.2)) = true := by decide +kernel
def evT_41 : List (Nat × Instr × Nat) := [(0, .aload_n 0, 1), (1, .invokespecial 3, 3), (4, .aload_n 0, 1), (5, .bipush 80, 2), (7, .newarray .int, 2), (9, .putfield 11, 3), (12, .return_, 1)]
set_option maxRecDepth 100000 in
theorem evT_ok_41 : evT_41.all (fun q => decide (decode cX5_init q.1 = .ok q.2)) = true := by decide +kernel
def evT_42 : List (Nat × Instr × Nat) := [(0, .lload_n 1, 1), (1, .invokestatic 15, 3), (4, .istore_n 3, 1), (5, .iload_n 3, 1), (6, .ifCond .ne 6, 3), (9, .bipush (-2), 2), (11, .ireturn, 1), (12, .aload_n 0, 1), (13, .getfield 19, 3), (16, .iload_n 3, 1), (17, .iadd, 1), (18, .bipush 80, 2), (20, .if_icmp .le 6, 3), (23, .bipush (-4), 2), (25, .ireturn, 1), (26, .iload_n 3, 1), (27, .iconst 1, 1), (28, .isub, 1), (29, .istore 4, 2), (31, .iload 4, 2), (33, .ifCond .lt 59, 3), (36, .aload_n 0, 1), (37, .getfield 19, 3), (40, .ifCond .lt 46, 3), (43, .aload_n 0, 1), (44, .getfield 19, 3), (47, .aload_n 0, 1), (48, .getfield 11, 3), (51, .arraylength, 1), (52, .if_icmp .ge 34, 3), (55, .aload_n 0, 1), (56, .getfield 11, 3), (59, .aload_n 0, 1), (60, .getfield 19, 3), (63, .lload_n 1, 1), (64, .bipush 8, 2), (66, .iload 4, 2), (68, .imul, 1), (69, .lushr, 1), (70, .ldc2_w 23, 3), (73, .land, 1), (74, .l2i, 1), (75, .iastore, 1), (76, .aload_n 0, 1), (77, .dup, 1), (78, .getfield 19, 3), (81, .iconst 1, 1), (82, .iadd, 1), (83, .putfield 19, 3), (86, .iinc 4 (-1), 3), (89, .goto (-58), 3), (92, .aload_n 0, 1), (93, .getfield 19, 3), (96, .ireturn, 1)]
set_option maxRecDepth 100000 in
theorem evT_ok_42 : evT_42.all (fun q => decide (decode cX5_append q.1 = .ok q.2)) = true := by decide +kernel
def evT_43 : List (Nat × Instr × Nat) := [(0, .iconst 0, 1), (1, .istore_n 2, 1), (2, .lload_n 0, 1), (3, .lstore_n 3, 1), (4, .iload_n 2, 1), (5, .bipush 8, 2), (7, .if_icmp .ge 47, 3), (10, .lload_n 3, 1), (11, .lconst 0, 1), (12, .lcmp, 1), (13, .ifCond .eq 41, 3), (16, .lload_n 3, 1), (17, .ldc2_w 23, 3), (20, .land, 1), (21, .lstore 5, 2), (23, .lload 5, 2), (25, .ldc2_w 25, 3), (28, .lcmp, 1), (29, .ifCond .lt 12, 3), (32, .lload 5, 2), (34, .ldc2_w 27, 3), (37, .lcmp, 1), (38, .ifCond .le 5, 3), (41, .iconst 0, 1), (42, .ireturn, 1), (43, .iinc 2 1, 3), (46, .lload_n 3, 1), (47, .bipush 8, 2), (49, .lushr, 1), (50, .lstore_n 3, 1), (51, .goto (-47), 3), (54, .iload_n 2, 1), (55, .ireturn, 1)]
set_option maxRecDepth 100000 in
theorem evT_ok_43 : evT_43.all (fun q => decide (decode cX5_countSigns q.1 = .ok q.2)) = true := by decide +kernel
def evT_44 : List (Nat × Instr × Nat) := [(0, .aload_n 0, 1), (1, .getfield 19, 3), (4, .istore_n 1, 1), (5, .aload_n 0, 1), (6, .iconst 0, 1), (7, .putfield 19, 3), (10, .iload_n 1, 1), (11, .ireturn, 1)]
set_option maxRecDepth 100000 in
theorem evT_ok_44 : evT_44.all (fun q => decide (decode cX5_empty q.1 = .ok q.2)) = true := by decide +kernel
def evT_45 : List (Nat × Instr × Nat) := [(0, .aload_n 0, 1), (1, .invokevirtual 29, 3), (4, .iconst 0, 1), (5, .istore_n 1, 1), (6, .iload_n 1, 1), (7, .bipush 80, 2), (9, .if_icmp .ge 16, 3), (12, .aload_n 0, 1), (13, .invokevirtual 32, 3), (16, .ifCond .eq 9, 3), (19, .iinc 1 1, 3), (22, .goto (-16), 3), (25, .aload_n 0, 1), (26, .getfield 36, 3), (29, .ifCond .eq 10, 3), (32, .aload_n 0, 1), (33, .getfield 40, 3), (36, .goto 5, 3), (39, .bipush (-6), 2), (41, .ireturn, 1)]
set_option maxRecDepth 100000 in
theorem evT_ok_45 : evT_45.all (fun q => decide (decode cX5_findFault q.1 = .ok q.2)) = true := by decide +kernel
def evT_46 : List (Nat × Instr × Nat) := [(0, .aload_n 0, 1), (1, .iconst 0, 1), (2, .putfield 40, 3), (5, .aload_n 0, 1), (6, .iconst 0, 1), (7, .putfield 36, 3), (10, .aload_n 0, 1), (11, .iconst 1, 1), (12, .putfield 43, 3), (15, .return_, 1)]
set_option maxRecDepth 100000 in
theorem evT_ok_46 : evT_46.all (fun q => decide (decode cX5_rewind q.1 = .ok q.2)) = true := by decide +kernel
def evT_47 : List (Nat × Instr × Nat) := [(0, .aload_n 0, 1), (1, .getfield 36, 3), (4, .ifCond .ne 10, 3), (7, .aload_n 0, 1), (8, .getfield 43, 3), (11, .ifCond .ne 5, 3), (14, .iconst 0, 1), (15, .ireturn, 1), (16, .aload_n 0, 1), (17, .aload_n 0, 1), (18, .invokevirtual 46, 3), (21, .putfield 50, 3), (24, .aload_n 0, 1), (25, .iconst 0, 1), (26, .putfield 53, 3), (29, .aload_n 0, 1), (30, .getfield 50, 3), (33, .lookupswitch 134 #[(43, 43), (98, 78), (108, 113), (116, 113)], 43), (76, .aload_n 0, 1), (77, .dup, 1), (78, .getfield 40, 3), (81, .iconst 1, 1), (82, .iadd, 1), (83, .putfield 40, 3), (86, .aload_n 0, 1), (87, .aload_n 0, 1), (88, .invokevirtual 56, 3), (91, .putfield 59, 3), (94, .aload_n 0, 1), (95, .bipush 42, 2), (97, .invokevirtual 62, 3), (100, .aload_n 0, 1), (101, .aload_n 0, 1), (102, .invokevirtual 56, 3), (105, .putfield 53, 3), (108, .goto 64, 3), (111, .aload_n 0, 1), (112, .dup, 1), (113, .getfield 40, 3), (116, .iconst 1, 1), (117, .iadd, 1), (118, .putfield 40, 3), (121, .aload_n 0, 1), (122, .aload_n 0, 1), (123, .invokevirtual 66, 3), (126, .putfield 59, 3), (129, .aload_n 0, 1), (130, .bipush 61, 2), (132, .invokevirtual 62, 3), (135, .aload_n 0, 1), (136, .aload_n 0, 1), (137, .invokevirtual 56, 3), (140, .putfield 53, 3), (143, .goto 29, 3), (146, .aload_n 0, 1), (147, .dup, 1), (148, .getfield 40, 3), (151, .iconst 1, 1), (152, .iadd, 1), (153, .putfield 40, 3), (156, .aload_n 0, 1), (157, .aload_n 0, 1), (158, .invokevirtual 56, 3), (161, .putfield 59, 3), (164, .goto 8, 3), (167, .aload_n 0, 1), (168, .iconst 1, 1), (169, .putfield 36, 3), (172, .aload_n 0, 1), (173, .aload_n 0, 1), (174, .getfield 40, 3), (177, .aload_n 0, 1), (178, .getfield 19, 3), (181, .if_icmp .ge 7, 3), (184, .iconst 1, 1), (185, .goto 4, 3), (188, .iconst 0, 1), (189, .putfield 43, 3), (192, .aload_n 0, 1), (193, .getfield 43, 3), (196, .ifCond .eq 9, 3), (199, .aload_n 0, 1), (200, .bipush 59, 2), (202, .invokevirtual 62, 3), (205, .aload_n 0, 1), (206, .getfield 36, 3), (209, .ifCond .ne 7, 3), (212, .iconst 1, 1), (213, .goto 4, 3), (216, .iconst 0, 1), (217, .ireturn, 1)]
set_option maxRecDepth 100000 in
theorem evT_ok_47 : evT_47.all (fun q => decide (decode cX5_readOrder q.1 = .ok q.2)) = true := by decide +kernel
def evT_48 : List (Nat × Instr × Nat) := [(0, .aload_n 0, 1), (1, .getfield 40, 3), (4, .ifCond .lt 38, 3), (7, .aload_n 0, 1), (8, .getfield 40, 3), (11, .aload_n 0, 1), (12, .getfield 19, 3), (15, .if_icmp .ge 27, 3), (18, .aload_n 0, 1), (19, .getfield 40, 3), (22, .aload_n 0, 1), (23, .getfield 11, 3), (26, .arraylength, 1), (27, .if_icmp .ge 15, 3), (30, .aload_n 0, 1), (31, .getfield 11, 3), (34, .aload_n 0, 1), (35, .getfield 40, 3), (38, .iaload, 1), (39, .goto 4, 3), (42, .iconst 0, 1), (43, .ireturn, 1)]
set_option maxRecDepth 100000 in
theorem evT_ok_48 : evT_48.all (fun q => decide (decode cX5_sign q.1 = .ok q.2)) = true := by decide +kernel
def evT_49 : List (Nat × Instr × Nat) := [(0, .aload_n 0, 1), (1, .invokevirtual 46, 3), (4, .istore_n 1, 1), (5, .iload_n 1, 1), (6, .bipush 48, 2), (8, .if_icmp .lt 13, 3), (11, .iload_n 1, 1), (12, .bipush 57, 2), (14, .if_icmp .gt 7, 3), (17, .iconst 1, 1), (18, .goto 4, 3), (21, .iconst 0, 1), (22, .ireturn, 1)]
set_option maxRecDepth 100000 in
theorem evT_ok_49 : evT_49.all (fun q => decide (decode cX5_atDigit q.1 = .ok q.2)) = true := by decide +kernel
def evT_50 : List (Nat × Instr × Nat) := [(0, .aload_n 0, 1), (1, .getfield 36, 3), (4, .ifCond .ne 24, 3), (7, .aload_n 0, 1), (8, .invokevirtual 46, 3), (11, .iload_n 1, 1), (12, .if_icmp .ne 16, 3), (15, .aload_n 0, 1), (16, .dup, 1), (17, .getfield 40, 3), (20, .iconst 1, 1), (21, .iadd, 1), (22, .putfield 40, 3), (25, .goto 8, 3), (28, .aload_n 0, 1), (29, .iconst 1, 1), (30, .putfield 36, 3), (33, .return_, 1)]
set_option maxRecDepth 100000 in
theorem evT_ok_50 : evT_50.all (fun q => decide (decode cX5_expect q.1 = .ok q.2)) = true := by decide +kernel
def evT_51 : List (Nat × Instr × Nat) := [(0, .aload_n 0, 1), (1, .getfield 36, 3), (4, .ifCond .ne 10, 3), (7, .aload_n 0, 1), (8, .invokevirtual 69, 3), (11, .ifCond .ne 10, 3), (14, .aload_n 0, 1), (15, .iconst 1, 1), (16, .putfield 36, 3), (19, .iconst 0, 1), (20, .ireturn, 1), (21, .aload_n 0, 1), (22, .invokevirtual 46, 3), (25, .bipush 48, 2), (27, .isub, 1), (28, .istore_n 1, 1), (29, .aload_n 0, 1), (30, .dup, 1), (31, .getfield 40, 3), (34, .iconst 1, 1), (35, .iadd, 1), (36, .putfield 40, 3), (39, .iload_n 1, 1), (40, .ireturn, 1)]
set_option maxRecDepth 100000 in
theorem evT_ok_51 : evT_51.all (fun q => decide (decode cX5_readDigit q.1 = .ok q.2)) = true := by decide +kernel
def evT_52 : List (Nat × Instr × Nat) := [(0, .aload_n 0, 1), (1, .invokevirtual 66, 3), (4, .istore_n 1, 1), (5, .iconst 1, 1), (6, .istore_n 2, 1), (7, .iload_n 2, 1), (8, .bipush 80, 2), (10, .if_icmp .ge 67, 3), (13, .aload_n 0, 1), (14, .getfield 36, 3), (17, .ifCond .ne 60, 3), (20, .aload_n 0, 1), (21, .invokevirtual 69, 3), (24, .ifCond .eq 53, 3), (27, .iload_n 1, 1), (28, .bipush 10, 2), (30, .imul, 1), (31, .aload_n 0, 1), (32, .invokevirtual 46, 3), (35, .iadd, 1), (36, .bipush 48, 2), (38, .isub, 1), (39, .istore_n 3, 1), (40, .iload_n 1, 1), (41, .ifCond .eq 10, 3), (44, .iload_n 3, 1), (45, .sipush 9999, 3), (48, .if_icmp .le 11, 3), (51, .aload_n 0, 1), (52, .iconst 1, 1), (53, .putfield 36, 3), (56, .goto 15, 3), (59, .iload_n 3, 1), (60, .istore_n 1, 1), (61, .aload_n 0, 1), (62, .dup, 1), (63, .getfield 40, 3), (66, .iconst 1, 1), (67, .iadd, 1), (68, .putfield 40, 3), (71, .iinc 2 1, 3), (74, .goto (-67), 3), (77, .iload_n 1, 1), (78, .ireturn, 1)]
set_option maxRecDepth 100000 in
theorem evT_ok_52 : evT_52.all (fun q => decide (decode cX5_readNumber q.1 = .ok q.2)) = true := by decide +kernel
def evT_53 : List (Nat × Instr × Nat) := [(0, .aload_n 0, 1), (1, .invokespecial 1, 3), (4, .aload_n 0, 1), (5, .sipush 160, 3), (8, .newarray .int, 2), (10, .putfield 9, 3), (13, .return_, 1)]
set_option maxRecDepth 100000 in
theorem evT_ok_53 : evT_53.all (fun q => decide (decode cX6_init q.1 = .ok q.2)) = true := by decide +kernel
def evT_54 : List (Nat × Instr × Nat) := [(0, .aload_n 1, 1), (1, .getfield 9, 3), (4, .iconst 0, 1), (5, .aload_n 0, 1), (6, .getfield 9, 3), (9, .iconst 0, 1), (10, .sipush 160, 3), (13, .invokestatic 13, 3), (16, .aload_n 0, 1), (17, .aload_n 1, 1), (18, .getfield 19, 3), (21, .putfield 19, 3), (24, .return_, 1)]
set_option maxRecDepth 100000 in
theorem evT_ok_54 : evT_54.all (fun q => decide (decode cX6_copyFrom q.1 = .ok q.2)) = true := by decide +kernel
def evT_55 : List (Nat × Instr × Nat) := [(0, .aload_n 0, 1), (1, .iconst 0, 1), (2, .putfield 19, 3), (5, .return_, 1)]
set_option maxRecDepth 100000 in
theorem evT_ok_55 : evT_55.all (fun q => decide (decode cX6_clear q.1 = .ok q.2)) = true := by decide +kernel
def evT_56 : List (Nat × Instr × Nat) := [(0, .aload_n 0, 1), (1, .getfield 19, 3), (4, .bipush 40, 2), (6, .invokestatic 23, 3), (9, .iconst 4, 1), (10, .imul, 1), (11, .istore 5, 2), (13, .iload 5, 2), (15, .ifCond .lt 64, 3), (18, .iload 5, 2), (20, .iconst 4, 1), (21, .iadd, 1), (22, .aload_n 0, 1), (23, .getfield 9, 3), (26, .arraylength, 1), (27, .if_icmp .gt 52, 3), (30, .aload_n 0, 1), (31, .getfield 9, 3), (34, .iload 5, 2), (36, .iload_n 1, 1), (37, .iastore, 1), (38, .aload_n 0, 1), (39, .getfield 9, 3), (42, .iload 5, 2), (44, .iconst 1, 1), (45, .iadd, 1), (46, .iload_n 2, 1), (47, .iastore, 1), (48, .aload_n 0, 1), (49, .getfield 9, 3), (52, .iload 5, 2), (54, .iconst 2, 1), (55, .iadd, 1), (56, .iload_n 3, 1), (57, .iastore, 1), (58, .aload_n 0, 1), (59, .getfield 9, 3), (62, .iload 5, 2), (64, .iconst 3, 1), (65, .iadd, 1), (66, .iload 4, 2), (68, .iastore, 1), (69, .aload_n 0, 1), (70, .dup, 1), (71, .getfield 19, 3), (74, .iconst 1, 1), (75, .iadd, 1), (76, .putfield 19, 3), (79, .return_, 1)]
set_option maxRecDepth 100000 in
theorem evT_ok_56 : evT_56.all (fun q => decide (decode cX6_add q.1 = .ok q.2)) = true := by decide +kernel
def evT_57 : List (Nat × Instr × Nat) := [(0, .iload_n 1, 1), (1, .ifCond .lt 21, 3), (4, .iload_n 1, 1), (5, .bipush 40, 2), (7, .if_icmp .ge 15, 3), (10, .iload_n 1, 1), (11, .aload_n 0, 1), (12, .getfield 19, 3), (15, .if_icmp .ge 7, 3), (18, .iconst 1, 1), (19, .goto 4, 3), (22, .iconst 0, 1), (23, .ireturn, 1)]
set_option maxRecDepth 100000 in
theorem evT_ok_57 : evT_57.all (fun q => decide (decode cX6_knows q.1 = .ok q.2)) = true := by decide +kernel
def evT_58 : List (Nat × Instr × Nat) := [(0, .aload_n 0, 1), (1, .getfield 19, 3), (4, .iconst 1, 1), (5, .isub, 1), (6, .iload_n 1, 1), (7, .isub, 1), (8, .bipush 40, 2), (10, .invokestatic 23, 3), (13, .iconst 4, 1), (14, .imul, 1), (15, .iload_n 2, 1), (16, .iadd, 1), (17, .istore_n 3, 1), (18, .iload_n 3, 1), (19, .ifCond .lt 21, 3), (22, .iload_n 3, 1), (23, .aload_n 0, 1), (24, .getfield 9, 3), (27, .arraylength, 1), (28, .if_icmp .ge 12, 3), (31, .aload_n 0, 1), (32, .getfield 9, 3), (35, .iload_n 3, 1), (36, .iaload, 1), (37, .goto 4, 3), (40, .iconst 0, 1), (41, .ireturn, 1)]
set_option maxRecDepth 100000 in
theorem evT_ok_58 : evT_58.all (fun q => decide (decode cX6_at q.1 = .ok q.2)) = true := by decide +kernel
def evT_59 : List (Nat × Instr × Nat) := [(0, .aload_n 0, 1), (1, .invokespecial 1, 3), (4, .aload_n 0, 1), (5, .new 7, 3), (8, .dup, 1), (9, .invokespecial 9, 3), (12, .putfield 10, 3), (15, .aload_n 0, 1), (16, .new 7, 3), (19, .dup, 1), (20, .invokespecial 9, 3), (23, .putfield 16, 3), (26, .aload_n 0, 1), (27, .new 19, 3), (30, .dup, 1), (31, .invokespecial 21, 3), (34, .putfield 22, 3), (37, .aload_n 0, 1), (38, .new 26, 3), (41, .dup, 1), (42, .invokespecial 28, 3), (45, .putfield 29, 3), (48, .aload_n 0, 1), (49, .iconst 2, 1), (50, .anewarray 7, 3), (53, .putfield 33, 3), (56, .return_, 1)]
set_option maxRecDepth 100000 in
theorem evT_ok_59 : evT_59.all (fun q => decide (decode cX7_init q.1 = .ok q.2)) = true := by decide +kernel
def evT_60 : List (Nat × Instr × Nat) := [(0, .aload_n 0, 1), (1, .getfield 22, 3), (4, .aload_n 0, 1), (5, .getfield 10, 3), (8, .invokevirtual 37, 3), (11, .aload_n 0, 1), (12, .getfield 22, 3), (15, .aload_n 0, 1), (16, .getfield 10, 3), (19, .iload_n 1, 1), (20, .iload_n 2, 1), (21, .invokevirtual 41, 3), (24, .invokevirtual 45, 3), (27, .ireturn, 1)]
set_option maxRecDepth 100000 in
theorem evT_ok_60 : evT_60.all (fun q => decide (decode cX7_set q.1 = .ok q.2)) = true := by decide +kernel
def evT_61 : List (Nat × Instr × Nat) := [(0, .aload_n 0, 1), (1, .getfield 22, 3), (4, .aload_n 0, 1), (5, .getfield 10, 3), (8, .invokevirtual 37, 3), (11, .aload_n 0, 1), (12, .getfield 22, 3), (15, .aload_n 0, 1), (16, .getfield 10, 3), (19, .iload_n 1, 1), (20, .iload_n 2, 1), (21, .invokevirtual 49, 3), (24, .invokevirtual 45, 3), (27, .ireturn, 1)]
set_option maxRecDepth 100000 in
theorem evT_ok_61 : evT_61.all (fun q => decide (decode cX7_bidder q.1 = .ok q.2)) = true := by decide +kernel
def evT_62 : List (Nat × Instr × Nat) := [(0, .aload_n 0, 1), (1, .getfield 22, 3), (4, .aload_n 0, 1), (5, .getfield 10, 3), (8, .invokevirtual 37, 3), (11, .aload_n 0, 1), (12, .getfield 22, 3), (15, .aload_n 0, 1), (16, .getfield 10, 3), (19, .iload_n 1, 1), (20, .iload_n 2, 1), (21, .invokevirtual 52, 3), (24, .invokevirtual 45, 3), (27, .ireturn, 1)]
set_option maxRecDepth 100000 in
theorem evT_ok_62 : evT_62.all (fun q => decide (decode cX7_plan q.1 = .ok q.2)) = true := by decide +kernel
def evT_63 : List (Nat × Instr × Nat) := [(0, .aload_n 0, 1), (1, .getfield 22, 3), (4, .aload_n 0, 1), (5, .getfield 10, 3), (8, .invokevirtual 37, 3), (11, .aload_n 0, 1), (12, .getfield 22, 3), (15, .aload_n 0, 1), (16, .getfield 10, 3), (19, .iload_n 1, 1), (20, .invokevirtual 55, 3), (23, .invokevirtual 45, 3), (26, .ireturn, 1)]
set_option maxRecDepth 100000 in
theorem evT_ok_63 : evT_63.all (fun q => decide (decode cX7_lot q.1 = .ok q.2)) = true := by decide +kernel
def evT_64 : List (Nat × Instr × Nat) := [(0, .aload_n 0, 1), (1, .getfield 22, 3), (4, .aload_n 0, 1), (5, .getfield 10, 3), (8, .invokevirtual 37, 3), (11, .aload_n 0, 1), (12, .getfield 22, 3), (15, .aload_n 0, 1), (16, .getfield 10, 3), (19, .iload_n 1, 1), (20, .iload_n 2, 1), (21, .invokevirtual 58, 3), (24, .invokevirtual 45, 3), (27, .ireturn, 1)]
set_option maxRecDepth 100000 in
theorem evT_ok_64 : evT_64.all (fun q => decide (decode cX7_bid q.1 = .ok q.2)) = true := by decide +kernel
def evT_65 : List (Nat × Instr × Nat) := [(0, .aload_n 0, 1), (1, .getfield 22, 3), (4, .aload_n 0, 1), (5, .getfield 10, 3), (8, .invokevirtual 37, 3), (11, .aload_n 0, 1), (12, .getfield 22, 3), (15, .aload_n 0, 1), (16, .getfield 10, 3), (19, .iload_n 1, 1), (20, .invokevirtual 61, 3), (23, .invokevirtual 45, 3), (26, .ireturn, 1)]
set_option maxRecDepth 100000 in
theorem evT_ok_65 : evT_65.all (fun q => decide (decode cX7_pass q.1 = .ok q.2)) = true := by decide +kernel
def evT_66 : List (Nat × Instr × Nat) := [(0, .aload_n 0, 1), (1, .getfield 10, 3), (4, .iload_n 1, 1), (5, .invokevirtual 64, 3), (8, .astore_n 3, 1), (9, .aload_n 3, 1), (10, .ifnonnull 5, 3), (13, .iconst (-1), 1), (14, .ireturn, 1), (15, .iload_n 2, 1), (16, .tableswitch 153 0 9 #[56, 61, 66, 71, 76, 81, 86, 91, 119, 148], 56), (72, .aload_n 3, 1), (73, .getfield 68, 3), (76, .ireturn, 1), (77, .aload_n 3, 1), (78, .getfield 74, 3), (81, .ireturn, 1), (82, .aload_n 3, 1), (83, .getfield 77, 3), (86, .ireturn, 1), (87, .aload_n 3, 1), (88, .getfield 80, 3), (91, .ireturn, 1), (92, .aload_n 3, 1), (93, .getfield 83, 3), (96, .ireturn, 1), (97, .aload_n 3, 1), (98, .getfield 86, 3), (101, .ireturn, 1), (102, .aload_n 3, 1), (103, .getfield 89, 3), (106, .ireturn, 1), (107, .aload_n 0, 1), (108, .getfield 10, 3), (111, .getfield 92, 3), (114, .bipush (-6), 2), (116, .if_icmp .ne 7, 3), (119, .iconst 0, 1), (120, .goto 14, 3), (123, .aload_n 0, 1), (124, .getfield 10, 3), (127, .aload_n 3, 1), (128, .invokevirtual 95, 3), (131, .getfield 99, 3), (134, .ireturn, 1), (135, .aload_n 0, 1), (136, .getfield 10, 3), (139, .getfield 92, 3), (142, .bipush (-6), 2), (144, .if_icmp .ne 8, 3), (147, .bipush (-6), 2), (149, .goto 14, 3), (152, .aload_n 0, 1), (153, .getfield 10, 3), (156, .aload_n 3, 1), (157, .invokevirtual 95, 3), (160, .getfield 104, 3), (163, .ireturn, 1), (164, .aload_n 3, 1), (165, .getfield 107, 3), (168, .ireturn, 1), (169, .bipush (-2), 2), (171, .ireturn, 1)]
set_option maxRecDepth 100000 in
theorem evT_ok_66 : evT_66.all (fun q => decide (decode cX7_of q.1 = .ok q.2)) = true := by decide +kernel
def evT_67 : List (Nat × Instr × Nat) := [(0, .aload_n 0, 1), (1, .getfield 10, 3), (4, .iload_n 1, 1), (5, .invokevirtual 110, 3), (8, .astore_n 3, 1), (9, .aload_n 3, 1), (10, .ifnonnull 5, 3), (13, .iconst (-1), 1), (14, .ireturn, 1), (15, .iload_n 2, 1), (16, .tableswitch 114 0 6 #[44, 49, 54, 75, 93, 98, 106], 44), (60, .aload_n 3, 1), (61, .getfield 114, 3), (64, .ireturn, 1), (65, .aload_n 3, 1), (66, .getfield 117, 3), (69, .ireturn, 1), (70, .aload_n 3, 1), (71, .getfield 117, 3), (74, .iconst 2, 1), (75, .if_icmp .ne 13, 3), (78, .aload_n 3, 1), (79, .getfield 120, 3), (82, .getfield 104, 3), (85, .goto 5, 3), (88, .bipush (-6), 2), (90, .ireturn, 1), (91, .aload_n 3, 1), (92, .getfield 117, 3), (95, .iconst 2, 1), (96, .if_icmp .ne 10, 3), (99, .aload_n 3, 1), (100, .getfield 124, 3), (103, .goto 5, 3), (106, .bipush (-6), 2), (108, .ireturn, 1), (109, .aload_n 3, 1), (110, .getfield 127, 3), (113, .ireturn, 1), (114, .aload_n 3, 1), (115, .getfield 120, 3), (118, .getfield 99, 3), (121, .ireturn, 1), (122, .aload_n 3, 1), (123, .getfield 120, 3), (126, .getfield 104, 3), (129, .ireturn, 1), (130, .bipush (-2), 2), (132, .ireturn, 1)]
set_option maxRecDepth 100000 in
theorem evT_ok_67 : evT_67.all (fun q => decide (decode cX7_ofLot q.1 = .ok q.2)) = true := by decide +kernel
def evT_68 : List (Nat × Instr × Nat) := [(0, .aload_n 0, 1), (1, .getfield 10, 3), (4, .getfield 130, 3), (7, .iload_n 1, 1), (8, .invokevirtual 134, 3), (11, .ifCond .ne 5, 3), (14, .iconst (-1), 1), (15, .ireturn, 1), (16, .iload_n 2, 1), (17, .ifCond .lt 8, 3), (20, .iload_n 2, 1), (21, .iconst 4, 1), (22, .if_icmp .lt 6, 3), (25, .bipush (-2), 2), (27, .ireturn, 1), (28, .aload_n 0, 1), (29, .getfield 10, 3), (32, .getfield 130, 3), (35, .iload_n 1, 1), (36, .iload_n 2, 1), (37, .invokevirtual 140, 3), (40, .ireturn, 1)]
set_option maxRecDepth 100000 in
theorem evT_ok_68 : evT_68.all (fun q => decide (decode cX7_made q.1 = .ok q.2)) = true := by decide +kernel
def evT_69 : List (Nat × Instr × Nat) := [(0, .iload_n 1, 1), (1, .tableswitch 187 0 13 #[71, 79, 87, 95, 103, 111, 119, 127, 135, 144, 153, 162, 171, 179], 71), (72, .aload_n 0, 1), (73, .getfield 10, 3), (76, .getfield 143, 3), (79, .ireturn, 1), (80, .aload_n 0, 1), (81, .getfield 10, 3), (84, .getfield 146, 3), (87, .ireturn, 1), (88, .aload_n 0, 1), (89, .getfield 10, 3), (92, .getfield 149, 3), (95, .ireturn, 1), (96, .aload_n 0, 1), (97, .getfield 10, 3), (100, .getfield 92, 3), (103, .ireturn, 1), (104, .aload_n 0, 1), (105, .getfield 10, 3), (108, .invokevirtual 152, 3), (111, .ireturn, 1), (112, .aload_n 0, 1), (113, .getfield 10, 3), (116, .invokevirtual 156, 3), (119, .ireturn, 1), (120, .aload_n 0, 1), (121, .getfield 10, 3), (124, .invokevirtual 159, 3), (127, .ireturn, 1), (128, .aload_n 0, 1), (129, .getfield 10, 3), (132, .invokevirtual 162, 3), (135, .ireturn, 1), (136, .aload_n 0, 1), (137, .getfield 10, 3), (140, .iconst 0, 1), (141, .invokevirtual 165, 3), (144, .ireturn, 1), (145, .aload_n 0, 1), (146, .getfield 10, 3), (149, .iconst 1, 1), (150, .invokevirtual 165, 3), (153, .ireturn, 1), (154, .aload_n 0, 1), (155, .getfield 10, 3), (158, .iconst 2, 1), (159, .invokevirtual 165, 3), (162, .ireturn, 1), (163, .aload_n 0, 1), (164, .getfield 10, 3), (167, .iconst 3, 1), (168, .invokevirtual 165, 3), (171, .ireturn, 1), (172, .aload_n 0, 1), (173, .getfield 29, 3), (176, .getfield 168, 3), (179, .ireturn, 1), (180, .aload_n 0, 1), (181, .getfield 22, 3), (184, .getfield 171, 3), (187, .ireturn, 1), (188, .bipush (-2), 2), (190, .ireturn, 1)]
set_option maxRecDepth 100000 in
theorem evT_ok_69 : evT_69.all (fun q => decide (decode cX7_count q.1 = .ok q.2)) = true := by decide +kernel
def evT_70 : List (Nat × Instr × Nat) := [(0, .aload_n 0, 1), (1, .getfield 10, 3), (4, .invokevirtual 159, 3), (7, .istore_n 1, 1), (8, .iload_n 1, 1), (9, .ifCond .ne 5, 3), (12, .iconst 0, 1), (13, .ireturn, 1), (14, .aload_n 0, 1), (15, .getfield 10, 3), (18, .invokevirtual 162, 3), (21, .i2f, 1), (22, .iload_n 1, 1), (23, .i2f, 1), (24, .fdiv, 1), (25, .invokestatic 174, 3), (28, .ireturn, 1)]
set_option maxRecDepth 100000 in
theorem evT_ok_70 : evT_70.all (fun q => decide (decode cX7_shadows q.1 = .ok q.2)) = true := by decide +kernel
def evT_71 : List (Nat × Instr × Nat) := [(0, .aload_n 0, 1), (1, .getfield 10, 3), (4, .invokevirtual 178, 3), (7, .istore_n 1, 1), (8, .iload_n 1, 1), (9, .ifCond .ne 5, 3), (12, .lconst 0, 1), (13, .lreturn, 1), (14, .aload_n 0, 1), (15, .getfield 10, 3), (18, .invokevirtual 156, 3), (21, .i2d, 1), (22, .iload_n 1, 1), (23, .i2d, 1), (24, .ddiv, 1), (25, .invokestatic 181, 3), (28, .lreturn, 1)]
set_option maxRecDepth 100000 in
theorem evT_ok_71 : evT_71.all (fun q => decide (decode cX7_dear q.1 = .ok q.2)) = true := by decide +kernel
def evT_72 : List (Nat × Instr × Nat) := [(0, .aload_n 0, 1), (1, .getfield 10, 3), (4, .invokevirtual 185, 3), (7, .ifCond .ne 6, 3), (10, .bipush (-6), 2), (12, .ireturn, 1), (13, .aload_n 0, 1), (14, .getfield 16, 3), (17, .aload_n 0, 1), (18, .getfield 10, 3), (21, .invokevirtual 189, 3), (24, .iconst 1, 1), (25, .istore_n 1, 1), (26, .iload_n 1, 1), (27, .sipush 500, 3), (30, .if_icmp .gt 21, 3), (33, .aload_n 0, 1), (34, .getfield 16, 3), (37, .invokevirtual 192, 3), (40, .ifCond .eq 5, 3), (43, .iload_n 1, 1), (44, .ireturn, 1), (45, .iinc 1 1, 3), (48, .goto (-22), 3), (51, .bipush (-6), 2), (53, .ireturn, 1)]
set_option maxRecDepth 100000 in
theorem evT_ok_72 : evT_72.all (fun q => decide (decode cX7_endsIn q.1 = .ok q.2)) = true := by decide +kernel
def evT_73 : List (Nat × Instr × Nat) := [(0, .aload_n 0, 1), (1, .getfield 16, 3), (4, .aload_n 0, 1), (5, .getfield 10, 3), (8, .invokevirtual 189, 3), (11, .aload_n 0, 1), (12, .getfield 16, 3), (15, .iconst 0, 1), (16, .iload_n 1, 1), (17, .invokevirtual 41, 3), (20, .bipush (-2), 2), (22, .if_icmp .ne 6, 3), (25, .bipush (-2), 2), (27, .ireturn, 1), (28, .aload_n 0, 1), (29, .getfield 16, 3), (32, .sipush 1000, 3), (35, .invokevirtual 195, 3), (38, .aload_n 0, 1), (39, .getfield 16, 3), (42, .invokevirtual 156, 3), (45, .aload_n 0, 1), (46, .getfield 10, 3), (49, .invokevirtual 156, 3), (52, .isub, 1), (53, .ireturn, 1)]
set_option maxRecDepth 100000 in
theorem evT_ok_73 : evT_73.all (fun q => decide (decode cX7_ifLag q.1 = .ok q.2)) = true := by decide +kernel
def evT_74 : List (Nat × Instr × Nat) := [(0, .aload_n 0, 1), (1, .getfield 10, 3), (4, .iload_n 1, 1), (5, .invokevirtual 64, 3), (8, .ifnonnull 5, 3), (11, .iconst (-1), 1), (12, .ireturn, 1), (13, .iload_n 2, 1), (14, .ifCond .eq 11, 3), (17, .iload_n 2, 1), (18, .iconst 1, 1), (19, .if_icmp .eq 6, 3), (22, .bipush (-2), 2), (24, .ireturn, 1), (25, .iconst 0, 1), (26, .istore_n 3, 1), (27, .aload_n 0, 1), (28, .iload_n 1, 1), (29, .iconst 0, 1), (30, .invokevirtual 199, 3), (33, .istore 4, 2), (35, .bipush 10, 2), (37, .istore 5, 2), (39, .iload 5, 2), (41, .sipush 200, 3), (44, .if_icmp .gt 32, 3), (47, .aload_n 0, 1), (48, .iload_n 1, 1), (49, .iload 5, 2), (51, .invokevirtual 199, 3), (54, .istore 6, 2), (56, .iload 6, 2), (58, .iload 4, 2), (60, .if_icmp .le 10, 3), (63, .iload 5, 2), (65, .istore_n 3, 1), (66, .iload 6, 2), (68, .istore 4, 2), (70, .iinc 5 10, 3), (73, .goto (-34), 3), (76, .iload_n 2, 1), (77, .ifCond .ne 7, 3), (80, .iload_n 3, 1), (81, .goto 8, 3), (84, .iload 4, 2), (86, .ldc 202, 2), (88, .iadd, 1), (89, .ireturn, 1)]
set_option maxRecDepth 100000 in
theorem evT_ok_74 : evT_74.all (fun q => decide (decode cX7_bestPlan q.1 = .ok q.2)) = true := by decide +kernel
def evT_75 : List (Nat × Instr × Nat) := [(0, .aload_n 0, 1), (1, .getfield 29, 3), (4, .lload_n 1, 1), (5, .invokevirtual 203, 3), (8, .ireturn, 1)]
set_option maxRecDepth 100000 in
theorem evT_ok_75 : evT_75.all (fun q => decide (decode cX7_put q.1 = .ok q.2)) = true := by decide +kernel
def evT_76 : List (Nat × Instr × Nat) := [(0, .aload_n 0, 1), (1, .getfield 29, 3), (4, .invokevirtual 207, 3), (7, .ireturn, 1)]
set_option maxRecDepth 100000 in
theorem evT_ok_76 : evT_76.all (fun q => decide (decode cX7_wipe q.1 = .ok q.2)) = true := by decide +kernel
def evT_77 : List (Nat × Instr × Nat) := [(0, .aload_n 0, 1), (1, .getfield 29, 3), (4, .invokevirtual 210, 3), (7, .ireturn, 1)]
set_option maxRecDepth 100000 in
theorem evT_ok_77 : evT_77.all (fun q => decide (decode cX7_fault q.1 = .ok q.2)) = true := by decide +kernel
def evT_78 : List (Nat × Instr × Nat) := [(0, .aload_n 0, 1), (1, .getfield 29, 3), (4, .invokevirtual 210, 3), (7, .bipush (-6), 2), (9, .if_icmp .eq 6, 3), (12, .bipush (-3), 2), (14, .ireturn, 1), (15, .aload_n 0, 1), (16, .getfield 22, 3), (19, .aload_n 0, 1), (20, .getfield 10, 3), (23, .invokevirtual 37, 3), (26, .aload_n 0, 1), (27, .getfield 29, 3), (30, .invokevirtual 213, 3), (33, .iconst 0, 1), (34, .istore_n 1, 1), (35, .iload_n 1, 1), (36, .bipush 80, 2), (38, .if_icmp .ge 26, 3), (41, .aload_n 0, 1), (42, .getfield 29, 3), (45, .invokevirtual 216, 3), (48, .ifCond .eq 16, 3), (51, .aload_n 0, 1), (52, .invokevirtual 219, 3), (55, .ifCond .lt 9, 3), (58, .iinc 1 1, 3), (61, .goto (-26), 3), (64, .aload_n 0, 1), (65, .getfield 29, 3), (68, .invokevirtual 207, 3), (71, .pop, 1), (72, .aload_n 0, 1), (73, .getfield 22, 3), (76, .iload_n 1, 1), (77, .invokevirtual 45, 3), (80, .ireturn, 1)]
set_option maxRecDepth 100000 in
theorem evT_ok_78 : evT_78.all (fun q => decide (decode cX7_carryOut q.1 = .ok q.2)) = true := by decide +kernel
def evT_79 : List (Nat × Instr × Nat) := [(0, .aload_n 0, 1), (1, .getfield 22, 3), (4, .aload_n 0, 1), (5, .getfield 10, 3), (8, .invokevirtual 222, 3), (11, .ireturn, 1)]
set_option maxRecDepth 100000 in
theorem evT_ok_79 : evT_79.all (fun q => decide (decode cX7_undo q.1 = .ok q.2)) = true := by decide +kernel
def evT_80 : List (Nat × Instr × Nat) := [(0, .iload_n 1, 1), (1, .ifCond .lt 12, 3), (4, .iload_n 1, 1), (5, .aload_n 0, 1), (6, .getfield 33, 3), (9, .arraylength, 1), (10, .if_icmp .lt 6, 3), (13, .bipush (-2), 2), (15, .ireturn, 1), (16, .aload_n 0, 1), (17, .getfield 33, 3), (20, .iload_n 1, 1), (21, .aaload, 1), (22, .astore_n 2, 1), (23, .aload_n 2, 1), (24, .ifnonnull 18, 3), (27, .new 7, 3), (30, .dup, 1), (31, .invokespecial 9, 3), (34, .astore_n 2, 1), (35, .aload_n 0, 1), (36, .getfield 33, 3), (39, .iload_n 1, 1), (40, .aload_n 2, 1), (41, .aastore, 1), (42, .aload_n 2, 1), (43, .aload_n 0, 1), (44, .getfield 10, 3), (47, .invokevirtual 189, 3), (50, .aload_n 0, 1), (51, .getfield 10, 3), (54, .getfield 149, 3), (57, .ireturn, 1)]
set_option maxRecDepth 100000 in
theorem evT_ok_80 : evT_80.all (fun q => decide (decode cX7_save q.1 = .ok q.2)) = true := by decide +kernel
def evT_81 : List (Nat × Instr × Nat) := [(0, .iload_n 1, 1), (1, .ifCond .lt 12, 3), (4, .iload_n 1, 1), (5, .aload_n 0, 1), (6, .getfield 33, 3), (9, .arraylength, 1), (10, .if_icmp .lt 6, 3), (13, .bipush (-2), 2), (15, .ireturn, 1), (16, .aload_n 0, 1), (17, .getfield 33, 3), (20, .iload_n 1, 1), (21, .aaload, 1), (22, .astore_n 2, 1), (23, .aload_n 2, 1), (24, .ifnonnull 6, 3), (27, .bipush (-5), 2), (29, .ireturn, 1), (30, .aload_n 0, 1), (31, .getfield 22, 3), (34, .aload_n 0, 1), (35, .getfield 10, 3), (38, .invokevirtual 37, 3), (41, .aload_n 0, 1), (42, .getfield 10, 3), (45, .aload_n 2, 1), (46, .invokevirtual 189, 3), (49, .aload_n 0, 1), (50, .getfield 22, 3), (53, .aload_n 0, 1), (54, .getfield 10, 3), (57, .getfield 149, 3), (60, .invokevirtual 45, 3), (63, .ireturn, 1)]
set_option maxRecDepth 100000 in
theorem evT_ok_81 : evT_81.all (fun q => decide (decode cX7_restore q.1 = .ok q.2)) = true := by decide +kernel
def evT_82 : List (Nat × Instr × Nat) := [(0, .aload_n 0, 1), (1, .getfield 16, 3), (4, .aload_n 0, 1), (5, .getfield 10, 3), (8, .invokevirtual 189, 3), (11, .aload_n 0, 1), (12, .getfield 16, 3), (15, .iload_n 1, 1), (16, .invokevirtual 64, 3), (19, .astore_n 3, 1), (20, .aload_n 3, 1), (21, .ifnonnull 5, 3), (24, .iconst 0, 1), (25, .ireturn, 1), (26, .aload_n 3, 1), (27, .getfield 83, 3), (30, .aload_n 3, 1), (31, .getfield 80, 3), (34, .isub, 1), (35, .istore 4, 2), (37, .aload_n 3, 1), (38, .iload_n 2, 1), (39, .putfield 74, 3), (42, .aload_n 0, 1), (43, .getfield 16, 3), (46, .sipush 1000, 3), (49, .invokevirtual 195, 3), (52, .aload_n 3, 1), (53, .getfield 83, 3), (56, .aload_n 3, 1), (57, .getfield 80, 3), (60, .isub, 1), (61, .iload 4, 2), (63, .isub, 1), (64, .ireturn, 1)]
set_option maxRecDepth 100000 in
theorem evT_ok_82 : evT_82.all (fun q => decide (decode cX7_gainWith q.1 = .ok q.2)) = true := by decide +kernel
def evT_83 : List (Nat × Instr × Nat) := [(0, .aload_n 0, 1), (1, .getfield 29, 3), (4, .getfield 226, 3), (7, .lookupswitch 92 #[(43, 33), (98, 70), (108, 55)], 33), (40, .aload_n 0, 1), (41, .getfield 10, 3), (44, .aload_n 0, 1), (45, .getfield 29, 3), (48, .getfield 229, 3), (51, .aload_n 0, 1), (52, .getfield 29, 3), (55, .getfield 232, 3), (58, .invokevirtual 49, 3), (61, .ireturn, 1), (62, .aload_n 0, 1), (63, .getfield 10, 3), (66, .aload_n 0, 1), (67, .getfield 29, 3), (70, .getfield 229, 3), (73, .invokevirtual 55, 3), (76, .ireturn, 1), (77, .aload_n 0, 1), (78, .getfield 10, 3), (81, .aload_n 0, 1), (82, .getfield 29, 3), (85, .getfield 229, 3), (88, .aload_n 0, 1), (89, .getfield 29, 3), (92, .getfield 232, 3), (95, .invokevirtual 58, 3), (98, .ireturn, 1), (99, .aload_n 0, 1), (100, .getfield 10, 3), (103, .aload_n 0, 1), (104, .getfield 29, 3), (107, .getfield 229, 3), (110, .invokevirtual 61, 3), (113, .ireturn, 1)]
set_option maxRecDepth 100000 in
theorem evT_ok_83 : evT_83.all (fun q => decide (decode cX7_carryOrder q.1 = .ok q.2)) = true := by decide +kernel
def evT_84 : List (Nat × Instr × Nat) := [(0, .fload_n 0, 1), (1, .fconst 0, 1), (2, .fcmp .g, 1), (3, .ifCond .gt 5, 3), (6, .iconst 0, 1), (7, .ireturn, 1), (8, .fload_n 0, 1), (9, .fstore_n 1, 1), (10, .bipush 127, 2), (12, .istore_n 2, 1), (13, .fload_n 1, 1), (14, .fconst 1, 1), (15, .fcmp .g, 1), (16, .ifCond .ge 18, 3), (19, .iload_n 2, 1), (20, .iconst 1, 1), (21, .if_icmp .le 13, 3), (24, .fload_n 1, 1), (25, .fconst 2, 1), (26, .fmul, 1), (27, .fstore_n 1, 1), (28, .iinc 2 (-1), 3), (31, .goto (-18), 3), (34, .fload_n 1, 1), (35, .ldc 235, 2), (37, .fmul, 1), (38, .f2i, 1), (39, .ldc 236, 2), (41, .iand, 1), (42, .istore_n 3, 1), (43, .iload_n 2, 1), (44, .bipush 23, 2), (46, .ishl, 1), (47, .iload_n 3, 1), (48, .ior, 1), (49, .ireturn, 1)]
set_option maxRecDepth 100000 in
theorem evT_ok_84 : evT_84.all (fun q => decide (decode cX7_floatBits q.1 = .ok q.2)) = true := by decide +kernel
def evT_85 : List (Nat × Instr × Nat) := [(0, .dload_n 0, 1), (1, .dconst 0, 1), (2, .dcmp .g, 1), (3, .ifCond .gt 5, 3), (6, .lconst 0, 1), (7, .lreturn, 1), (8, .dload_n 0, 1), (9, .dstore_n 2, 1), (10, .ldc2_w 237, 3), (13, .lstore 4, 2), (15, .dload_n 2, 1), (16, .dconst 1, 1), (17, .dcmp .g, 1), (18, .ifCond .ge 25, 3), (21, .lload 4, 2), (23, .lconst 1, 1), (24, .lcmp, 1), (25, .ifCond .le 18, 3), (28, .dload_n 2, 1), (29, .ldc2_w 239, 3), (32, .dmul, 1), (33, .dstore_n 2, 1), (34, .lload 4, 2), (36, .lconst 1, 1), (37, .lsub, 1), (38, .lstore 4, 2), (40, .goto (-25), 3), (43, .dload_n 2, 1), (44, .ldc2_w 239, 3), (47, .dcmp .l, 1), (48, .ifCond .lt 27, 3), (51, .lload 4, 2), (53, .ldc2_w 241, 3), (56, .lcmp, 1), (57, .ifCond .ge 18, 3), (60, .dload_n 2, 1), (61, .ldc2_w 239, 3), (64, .ddiv, 1), (65, .dstore_n 2, 1), (66, .lload 4, 2), (68, .lconst 1, 1), (69, .ladd, 1), (70, .lstore 4, 2), (72, .goto (-29), 3), (75, .dload_n 2, 1), (76, .ldc2_w 243, 3), (79, .dmul, 1), (80, .d2l, 1), (81, .ldc2_w 245, 3), (84, .land, 1), (85, .lstore 6, 2), (87, .lload 4, 2), (89, .bipush 52, 2), (91, .lshl, 1), (92, .lload 6, 2), (94, .lor, 1), (95, .lreturn, 1)]
set_option maxRecDepth 100000 in
theorem evT_ok_85 : evT_85.all (fun q => decide (decode cX7_doubleBits q.1 = .ok q.2)) = true := by decide +kernel
def evT_86 : List (Nat × Instr × Nat) := [(0, .aload_n 0, 1), (1, .invokespecial 1, 3), (4, .aload_n 0, 1), (5, .sipush 328, 3), (8, .newarray .int, 2), (10, .putfield 7, 3), (13, .aload_n 0, 1), (14, .sipush 328, 3), (17, .newarray .int, 2), (19, .putfield 13, 3), (22, .aload_n 0, 1), (23, .sipush 1968, 3), (26, .newarray .int, 2), (28, .putfield 16, 3), (31, .aload_n 0, 1), (32, .sipush 656, 3), (35, .newarray .int, 2), (37, .putfield 19, 3), (40, .aload_n 0, 1), (41, .iconst 2, 1), (42, .newarray .int, 2), (44, .putfield 22, 3), (47, .aload_n 0, 1), (48, .bipush 80, 2), (50, .newarray .int, 2), (52, .putfield 25, 3), (55, .aload_n 0, 1), (56, .bipush 6, 2), (58, .newarray .int, 2), (60, .putfield 28, 3), (63, .aload_n 0, 1), (64, .iconst 2, 1), (65, .newarray .int, 2), (67, .putfield 31, 3), (70, .aload_n 0, 1), (71, .getfield 7, 3), (74, .iconst 0, 1), (75, .iconst 1, 1), (76, .iastore, 1), (77, .aload_n 0, 1), (78, .getfield 7, 3), (81, .iconst 1, 1), (82, .iconst 5, 1), (83, .iastore, 1), (84, .aload_n 0, 1), (85, .getfield 7, 3), (88, .iconst 2, 1), (89, .iconst 2, 1), (90, .iastore, 1), (91, .aload_n 0, 1), (92, .getfield 7, 3), (95, .bipush 7, 2), (97, .bipush (-6), 2), (99, .iastore, 1), (100, .return_, 1)]
set_option maxRecDepth 100000 in
theorem evT_ok_86 : evT_86.all (fun q => decide (decode cX8_init q.1 = .ok q.2)) = true := by decide +kernel
def evT_87 : List (Nat × Instr × Nat) := [(0, .iconst 0, 1), (1, .istore 4, 2), (3, .iload 4, 2), (5, .sipush 328, 3), (8, .if_icmp .ge 21, 3), (11, .aload_n 2, 1), (12, .iload_n 3, 1), (13, .iload 4, 2), (15, .iadd, 1), (16, .aload_n 0, 1), (17, .iload_n 1, 1), (18, .iload 4, 2), (20, .iadd, 1), (21, .iaload, 1), (22, .iastore, 1), (23, .iinc 4 1, 3), (26, .goto (-23), 3), (29, .return_, 1)]
set_option maxRecDepth 100000 in
theorem evT_ok_87 : evT_87.all (fun q => decide (decode cX8_moves q.1 = .ok q.2)) = true := by decide +kernel
def evT_88 : List (Nat × Instr × Nat) := [(0, .iload_n 0, 1), (1, .iload_n 1, 1), (2, .if_icmp .lt 12, 3), (5, .iload_n 0, 1), (6, .iload_n 2, 1), (7, .if_icmp .gt 7, 3), (10, .iconst 1, 1), (11, .goto 4, 3), (14, .iconst 0, 1), (15, .ireturn, 1)]
set_option maxRecDepth 100000 in
theorem evT_ok_88 : evT_88.all (fun q => decide (decode cX8_within q.1 = .ok q.2)) = true := by decide +kernel
def evT_89 : List (Nat × Instr × Nat) := [(0, .aload_n 0, 1), (1, .getfield 34, 3), (4, .bipush 6, 2), (6, .if_icmp .ne 44, 3), (9, .iconst 0, 1), (10, .istore_n 1, 1), (11, .iload_n 1, 1), (12, .sipush 1640, 3), (15, .if_icmp .ge 25, 3), (18, .aload_n 0, 1), (19, .getfield 16, 3), (22, .iload_n 1, 1), (23, .aload_n 0, 1), (24, .getfield 16, 3), (27, .iload_n 1, 1), (28, .sipush 328, 3), (31, .iadd, 1), (32, .iaload, 1), (33, .iastore, 1), (34, .iinc 1 1, 3), (37, .goto (-26), 3), (40, .aload_n 0, 1), (41, .dup, 1), (42, .getfield 34, 3), (45, .iconst 1, 1), (46, .isub, 1), (47, .putfield 34, 3), (50, .aload_n 0, 1), (51, .getfield 7, 3), (54, .iconst 0, 1), (55, .aload_n 0, 1), (56, .getfield 16, 3), (59, .aload_n 0, 1), (60, .getfield 34, 3), (63, .sipush 328, 3), (66, .imul, 1), (67, .invokestatic 38, 3), (70, .aload_n 0, 1), (71, .dup, 1), (72, .getfield 34, 3), (75, .iconst 1, 1), (76, .iadd, 1), (77, .putfield 34, 3), (80, .return_, 1)]
set_option maxRecDepth 100000 in
theorem evT_ok_89 : evT_89.all (fun q => decide (decode cX8_record q.1 = .ok q.2)) = true := by decide +kernel
def evT_90 : List (Nat × Instr × Nat) := [(0, .iload_n 1, 1), (1, .iconst 0, 1), (2, .aload_n 0, 1), (3, .getfield 7, 3), (6, .iconst 5, 1), (7, .iaload, 1), (8, .iconst 1, 1), (9, .isub, 1), (10, .invokestatic 42, 3), (13, .ireturn, 1)]
set_option maxRecDepth 100000 in
theorem evT_ok_90 : evT_90.all (fun q => decide (decode cX8_isBidder q.1 = .ok q.2)) = true := by decide +kernel
def evT_91 : List (Nat × Instr × Nat) := [(0, .iload_n 1, 1), (1, .iconst 0, 1), (2, .aload_n 0, 1), (3, .getfield 7, 3), (6, .bipush 6, 2), (8, .iaload, 1), (9, .iconst 1, 1), (10, .isub, 1), (11, .invokestatic 42, 3), (14, .ireturn, 1)]
set_option maxRecDepth 100000 in
theorem evT_ok_91 : evT_91.all (fun q => decide (decode cX8_isLot q.1 = .ok q.2)) = true := by decide +kernel
def evT_92 : List (Nat × Instr × Nat) := [(0, .aload_n 0, 1), (1, .getfield 7, 3), (4, .bipush 10, 2), (6, .bipush 8, 2), (8, .iload_n 1, 1), (9, .imul, 1), (10, .iadd, 1), (11, .iload_n 2, 1), (12, .iadd, 1), (13, .iaload, 1), (14, .ireturn, 1)]
set_option maxRecDepth 100000 in
theorem evT_ok_92 : evT_92.all (fun q => decide (decode cX8_bidderPart q.1 = .ok q.2)) = true := by decide +kernel
def evT_93 : List (Nat × Instr × Nat) := [(0, .aload_n 0, 1), (1, .getfield 7, 3), (4, .bipush 10, 2), (6, .bipush 8, 2), (8, .iload_n 1, 1), (9, .imul, 1), (10, .iadd, 1), (11, .iload_n 2, 1), (12, .iadd, 1), (13, .iload_n 3, 1), (14, .iastore, 1), (15, .return_, 1)]
set_option maxRecDepth 100000 in
theorem evT_ok_93 : evT_93.all (fun q => decide (decode cX8_setBidder q.1 = .ok q.2)) = true := by decide +kernel
def evT_94 : List (Nat × Instr × Nat) := [(0, .aload_n 0, 1), (1, .getfield 7, 3), (4, .bipush 10, 2), (6, .bipush 8, 2), (8, .iload_n 1, 1), (9, .imul, 1), (10, .iadd, 1), (11, .iload_n 2, 1), (12, .iadd, 1), (13, .dup2, 1), (14, .iaload, 1), (15, .iload_n 3, 1), (16, .iadd, 1), (17, .iastore, 1), (18, .return_, 1)]
set_option maxRecDepth 100000 in
theorem evT_ok_94 : evT_94.all (fun q => decide (decode cX8_adds q.1 = .ok q.2)) = true := by decide +kernel
def evT_95 : List (Nat × Instr × Nat) := [(0, .aload_n 0, 1), (1, .getfield 7, 3), (4, .bipush 58, 2), (6, .bipush 7, 2), (8, .iload_n 1, 1), (9, .imul, 1), (10, .iadd, 1), (11, .iload_n 2, 1), (12, .iadd, 1), (13, .iaload, 1), (14, .ireturn, 1)]
set_option maxRecDepth 100000 in
theorem evT_ok_95 : evT_95.all (fun q => decide (decode cX8_lotPart q.1 = .ok q.2)) = true := by decide +kernel
def evT_96 : List (Nat × Instr × Nat) := [(0, .aload_n 0, 1), (1, .getfield 7, 3), (4, .bipush 58, 2), (6, .bipush 7, 2), (8, .iload_n 1, 1), (9, .imul, 1), (10, .iadd, 1), (11, .iload_n 2, 1), (12, .iadd, 1), (13, .iload_n 3, 1), (14, .iastore, 1), (15, .return_, 1)]
set_option maxRecDepth 100000 in
theorem evT_ok_96 : evT_96.all (fun q => decide (decode cX8_setLot q.1 = .ok q.2)) = true := by decide +kernel
def evT_97 : List (Nat × Instr × Nat) := [(0, .iconst 0, 1), (1, .istore_n 2, 1), (2, .iconst 0, 1), (3, .istore_n 3, 1), (4, .iload_n 3, 1), (5, .aload_n 0, 1), (6, .getfield 7, 3), (9, .iconst 5, 1), (10, .iaload, 1), (11, .if_icmp .ge 18, 3), (14, .iload_n 2, 1), (15, .aload_n 0, 1), (16, .iload_n 3, 1), (17, .iload_n 1, 1), (18, .invokevirtual 46, 3), (21, .iadd, 1), (22, .istore_n 2, 1), (23, .iinc 3 1, 3), (26, .goto (-22), 3), (29, .iload_n 2, 1), (30, .ireturn, 1)]
set_option maxRecDepth 100000 in
theorem evT_ok_97 : evT_97.all (fun q => decide (decode cX8_ofAll q.1 = .ok q.2)) = true := by decide +kernel
def evT_98 : List (Nat × Instr × Nat) := [(0, .iconst 0, 1), (1, .istore_n 2, 1), (2, .iconst 0, 1), (3, .istore_n 3, 1), (4, .iload_n 3, 1), (5, .aload_n 0, 1), (6, .getfield 7, 3), (9, .bipush 6, 2), (11, .iaload, 1), (12, .if_icmp .ge 27, 3), (15, .iload_n 2, 1), (16, .aload_n 0, 1), (17, .iload_n 3, 1), (18, .iconst 1, 1), (19, .invokevirtual 50, 3), (22, .iload_n 1, 1), (23, .if_icmp .ne 7, 3), (26, .iconst 1, 1), (27, .goto 4, 3), (30, .iconst 0, 1), (31, .iadd, 1), (32, .istore_n 2, 1), (33, .iinc 3 1, 3), (36, .goto (-32), 3), (39, .iload_n 2, 1), (40, .ireturn, 1)]
set_option maxRecDepth 100000 in
theorem evT_ok_98 : evT_98.all (fun q => decide (decode cX8_withHow q.1 = .ok q.2)) = true := by decide +kernel
def evT_99 : List (Nat × Instr × Nat) := [(0, .bipush (-6), 2), (2, .istore_n 1, 1), (3, .aload_n 0, 1), (4, .getfield 7, 3), (7, .bipush 6, 2), (9, .iaload, 1), (10, .iconst 1, 1), (11, .isub, 1), (12, .istore_n 2, 1), (13, .iload_n 2, 1), (14, .ifCond .lt 24, 3), (17, .aload_n 0, 1), (18, .iload_n 2, 1), (19, .iconst 1, 1), (20, .invokevirtual 50, 3), (23, .ifCond .ne 7, 3), (26, .iload_n 2, 1), (27, .goto 4, 3), (30, .iload_n 1, 1), (31, .istore_n 1, 1), (32, .iinc 2 (-1), 3), (35, .goto (-22), 3), (38, .iload_n 1, 1), (39, .ireturn, 1)]
set_option maxRecDepth 100000 in
theorem evT_ok_99 : evT_99.all (fun q => decide (decode cX8_firstWaiting q.1 = .ok q.2)) = true := by decide +kernel
def evT_100 : List (Nat × Instr × Nat) := [(0, .iload_n 1, 1), (1, .aload_n 0, 1), (2, .getfield 53, 3), (5, .if_icmp .gt 35, 3), (8, .iload_n 1, 1), (9, .aload_n 0, 1), (10, .getfield 53, 3), (13, .if_icmp .ne 31, 3), (16, .iload_n 2, 1), (17, .aload_n 0, 1), (18, .getfield 56, 3), (21, .if_icmp .lt 19, 3), (24, .iload_n 2, 1), (25, .aload_n 0, 1), (26, .getfield 56, 3), (29, .if_icmp .ne 15, 3), (32, .iload_n 3, 1), (33, .aload_n 0, 1), (34, .getfield 59, 3), (37, .if_icmp .ge 7, 3), (40, .iconst 1, 1), (41, .goto 4, 3), (44, .iconst 0, 1), (45, .istore 4, 2), (47, .iload_n 1, 1), (48, .ifCond .le 23, 3), (51, .iload 4, 2), (53, .ifCond .eq 18, 3), (56, .aload_n 0, 1), (57, .iload_n 1, 1), (58, .putfield 53, 3), (61, .aload_n 0, 1), (62, .iload_n 2, 1), (63, .putfield 56, 3), (66, .aload_n 0, 1), (67, .iload_n 3, 1), (68, .putfield 59, 3), (71, .return_, 1)]
set_option maxRecDepth 100000 in
theorem evT_ok_100 : evT_100.all (fun q => decide (decode cX8_hears q.1 = .ok q.2)) = true := by decide +kernel
def evT_101 : List (Nat × Instr × Nat) := [(0, .aload_n 0, 1), (1, .iconst 0, 1), (2, .putfield 53, 3), (5, .aload_n 0, 1), (6, .iconst 0, 1), (7, .putfield 56, 3), (10, .aload_n 0, 1), (11, .bipush (-6), 2), (13, .putfield 59, 3), (16, .aload_n 0, 1), (17, .aload_n 0, 1), (18, .getfield 7, 3), (21, .bipush 114, 2), (23, .iconst 2, 1), (24, .iload_n 1, 1), (25, .imul, 1), (26, .iadd, 1), (27, .iaload, 1), (28, .aload_n 0, 1), (29, .getfield 7, 3), (32, .bipush 114, 2), (34, .iconst 2, 1), (35, .iload_n 1, 1), (36, .imul, 1), (37, .iadd, 1), (38, .iconst 1, 1), (39, .iadd, 1), (40, .iaload, 1), (41, .iload_n 1, 1), (42, .invokevirtual 62, 3), (45, .iconst 0, 1), (46, .istore_n 2, 1), (47, .iload_n 2, 1), (48, .aload_n 0, 1), (49, .getfield 7, 3), (52, .iconst 5, 1), (53, .iaload, 1), (54, .if_icmp .ge 93, 3), (57, .iload_n 2, 1), (58, .iload_n 1, 1), (59, .if_icmp .eq 82, 3), (62, .aload_n 0, 1), (63, .aload_n 0, 1), (64, .getfield 7, 3), (67, .bipush 126, 2), (69, .iconst 2, 1), (70, .iload_n 2, 1), (71, .imul, 1), (72, .iadd, 1), (73, .iaload, 1), (74, .aload_n 0, 1), (75, .getfield 7, 3), (78, .bipush 126, 2), (80, .iconst 2, 1), (81, .iload_n 2, 1), (82, .imul, 1), (83, .iadd, 1), (84, .iconst 1, 1), (85, .iadd, 1), (86, .iaload, 1), (87, .iload_n 2, 1), (88, .invokevirtual 62, 3), (91, .aload_n 0, 1), (92, .getfield 7, 3), (95, .iconst 0, 1), (96, .iaload, 1), (97, .iconst 1, 1), (98, .iadd, 1), (99, .istore_n 3, 1), (100, .iload_n 3, 1), (101, .iconst 5, 1), (102, .if_icmp .gt 39, 3), (105, .aload_n 0, 1), (106, .aload_n 0, 1), (107, .getfield 7, 3), (110, .sipush 138, 3), (113, .bipush 6, 2), (115, .iload_n 3, 1), (116, .iconst 1, 1), (117, .isub, 1), (118, .imul, 1), (119, .iadd, 1), (120, .iload_n 2, 1), (121, .iadd, 1), (122, .iaload, 1), (123, .aload_n 0, 1), (124, .getfield 7, 3), (127, .iconst 4, 1), (128, .iaload, 1), (129, .iload_n 3, 1), (130, .isub, 1), (131, .iload_n 2, 1), (132, .invokevirtual 62, 3), (135, .iinc 3 1, 3), (138, .goto (-38), 3), (141, .iinc 2 1, 3), (144, .goto (-97), 3), (147, .return_, 1)]
set_option maxRecDepth 100000 in
theorem evT_ok_101 : evT_101.all (fun q => decide (decode cX8_believes q.1 = .ok q.2)) = true := by decide +kernel
def evT_102 : List (Nat × Instr × Nat) := [(0, .aload_n 0, 1), (1, .aload_n 0, 1), (2, .getfield 7, 3), (5, .bipush 7, 2), (7, .iaload, 1), (8, .iconst 0, 1), (9, .invokevirtual 50, 3), (12, .aload_n 0, 1), (13, .iload_n 1, 1), (14, .iconst 1, 1), (15, .invokevirtual 46, 3), (18, .imul, 1), (19, .bipush 100, 2), (21, .idiv, 1), (22, .istore_n 2, 1), (23, .iload_n 2, 1), (24, .aload_n 0, 1), (25, .iload_n 1, 1), (26, .iconst 0, 1), (27, .invokevirtual 46, 3), (30, .if_icmp .ge 7, 3), (33, .iload_n 2, 1), (34, .goto 9, 3), (37, .aload_n 0, 1), (38, .iload_n 1, 1), (39, .iconst 0, 1), (40, .invokevirtual 46, 3), (43, .ireturn, 1)]
set_option maxRecDepth 100000 in
theorem evT_ok_102 : evT_102.all (fun q => decide (decode cX8_limitOf q.1 = .ok q.2)) = true := by decide +kernel
def evT_103 : List (Nat × Instr × Nat) := [(0, .aload_n 0, 1), (1, .iload_n 1, 1), (2, .bipush 7, 2), (4, .invokevirtual 46, 3), (7, .istore_n 2, 1), (8, .iload_n 2, 1), (9, .ifCond .le 15, 3), (12, .iload_n 2, 1), (13, .aload_n 0, 1), (14, .iload_n 1, 1), (15, .iconst 0, 1), (16, .invokevirtual 46, 3), (19, .if_icmp .gt 5, 3), (22, .iload_n 2, 1), (23, .ireturn, 1), (24, .aload_n 0, 1), (25, .iload_n 1, 1), (26, .invokevirtual 66, 3), (29, .aload_n 0, 1), (30, .getfield 53, 3), (33, .aload_n 0, 1), (34, .getfield 7, 3), (37, .iconst 1, 1), (38, .iaload, 1), (39, .iadd, 1), (40, .istore_n 3, 1), (41, .aload_n 0, 1), (42, .getfield 59, 3), (45, .iload_n 1, 1), (46, .if_icmp .eq 16, 3), (49, .iload_n 3, 1), (50, .aload_n 0, 1), (51, .iload_n 1, 1), (52, .invokevirtual 70, 3), (55, .if_icmp .gt 7, 3), (58, .iload_n 3, 1), (59, .goto 4, 3), (62, .iconst 0, 1), (63, .ireturn, 1)]
set_option maxRecDepth 100000 in
theorem evT_ok_103 : evT_103.all (fun q => decide (decode cX8_bidOf q.1 = .ok q.2)) = true := by decide +kernel
def evT_104 : List (Nat × Instr × Nat) := [(0, .aload_n 0, 1), (1, .getfield 7, 3), (4, .bipush 7, 2), (6, .iload_n 1, 1), (7, .iastore, 1), (8, .aload_n 0, 1), (9, .getfield 7, 3), (12, .bipush 8, 2), (14, .iconst 0, 1), (15, .iastore, 1), (16, .aload_n 0, 1), (17, .getfield 7, 3), (20, .bipush 9, 2), (22, .iconst 0, 1), (23, .iastore, 1), (24, .aload_n 0, 1), (25, .iload_n 1, 1), (26, .iconst 1, 1), (27, .iconst 1, 1), (28, .invokevirtual 74, 3), (31, .bipush 114, 2), (33, .istore_n 2, 1), (34, .iload_n 2, 1), (35, .sipush 328, 3), (38, .if_icmp .ge 16, 3), (41, .aload_n 0, 1), (42, .getfield 7, 3), (45, .iload_n 2, 1), (46, .iconst 0, 1), (47, .iastore, 1), (48, .iinc 2 1, 3), (51, .goto (-17), 3), (54, .return_, 1)]
set_option maxRecDepth 100000 in
theorem evT_ok_104 : evT_104.all (fun q => decide (decode cX8_begins q.1 = .ok q.2)) = true := by decide +kernel
def evT_105 : List (Nat × Instr × Nat) := [(0, .iload_n 3, 1), (1, .aload_n 0, 1), (2, .getfield 7, 3), (5, .iload_n 1, 1), (6, .iconst 2, 1), (7, .iload_n 2, 1), (8, .imul, 1), (9, .iadd, 1), (10, .iaload, 1), (11, .if_icmp .le 28, 3), (14, .aload_n 0, 1), (15, .getfield 7, 3), (18, .iload_n 1, 1), (19, .iconst 2, 1), (20, .iload_n 2, 1), (21, .imul, 1), (22, .iadd, 1), (23, .iload_n 3, 1), (24, .iastore, 1), (25, .aload_n 0, 1), (26, .getfield 7, 3), (29, .iload_n 1, 1), (30, .iconst 2, 1), (31, .iload_n 2, 1), (32, .imul, 1), (33, .iadd, 1), (34, .iconst 1, 1), (35, .iadd, 1), (36, .iload 4, 2), (38, .iastore, 1), (39, .return_, 1)]
set_option maxRecDepth 100000 in
theorem evT_ok_105 : evT_105.all (fun q => decide (decode cX8_keepsBest q.1 = .ok q.2)) = true := by decide +kernel
def evT_106 : List (Nat × Instr × Nat) := [(0, .sipush 159, 3), (3, .istore 4, 2), (5, .iload 4, 2), (7, .iconst 4, 1), (8, .if_icmp .lt 33, 3), (11, .aload_n 0, 1), (12, .getfield 7, 3), (15, .sipush 168, 3), (18, .iload 4, 2), (20, .iadd, 1), (21, .aload_n 0, 1), (22, .getfield 7, 3), (25, .sipush 168, 3), (28, .iload 4, 2), (30, .iadd, 1), (31, .iconst 4, 1), (32, .isub, 1), (33, .iaload, 1), (34, .iastore, 1), (35, .iinc 4 (-1), 3), (38, .goto (-33), 3), (41, .aload_n 0, 1), (42, .getfield 7, 3), (45, .sipush 168, 3), (48, .iload_n 1, 1), (49, .iastore, 1), (50, .aload_n 0, 1), (51, .getfield 7, 3), (54, .sipush 169, 3), (57, .iload_n 2, 1), (58, .iastore, 1), (59, .aload_n 0, 1), (60, .getfield 7, 3), (63, .sipush 170, 3), (66, .aload_n 0, 1), (67, .getfield 7, 3), (70, .iconst 4, 1), (71, .iaload, 1), (72, .iastore, 1), (73, .aload_n 0, 1), (74, .getfield 7, 3), (77, .sipush 171, 3), (80, .iload_n 3, 1), (81, .ifCond .eq 7, 3), (84, .iconst 1, 1), (85, .goto 4, 3), (88, .iconst 0, 1), (89, .iastore, 1), (90, .aload_n 0, 1), (91, .getfield 7, 3), (94, .bipush 9, 2), (96, .dup2, 1), (97, .iaload, 1), (98, .aload_n 0, 1), (99, .getfield 7, 3), (102, .bipush 9, 2), (104, .iaload, 1), (105, .bipush 40, 2), (107, .if_icmp .ge 7, 3), (110, .iconst 1, 1), (111, .goto 4, 3), (114, .iconst 0, 1), (115, .iadd, 1), (116, .iastore, 1), (117, .return_, 1)]
set_option maxRecDepth 100000 in
theorem evT_ok_106 : evT_106.all (fun q => decide (decode cX8_keepsMade q.1 = .ok q.2)) = true := by decide +kernel
def evT_107 : List (Nat × Instr × Nat) := [(0, .aload_n 0, 1), (1, .iload_n 1, 1), (2, .iconst 5, 1), (3, .invokevirtual 50, 3), (6, .istore_n 2, 1), (7, .iconst 0, 1), (8, .istore_n 3, 1), (9, .iconst 0, 1), (10, .istore 4, 2), (12, .iload 4, 2), (14, .aload_n 0, 1), (15, .getfield 7, 3), (18, .iconst 5, 1), (19, .iaload, 1), (20, .if_icmp .ge 139, 3), (23, .aload_n 0, 1), (24, .getfield 28, 3), (27, .iload 4, 2), (29, .iaload, 1), (30, .ifCond .le 123, 3), (33, .aload_n 0, 1), (34, .getfield 28, 3), (37, .iload 4, 2), (39, .iaload, 1), (40, .iload_n 2, 1), (41, .if_icmp .gt 7, 3), (44, .iconst 1, 1), (45, .goto 4, 3), (48, .iconst 0, 1), (49, .istore 5, 2), (51, .iconst 1, 1), (52, .istore_n 3, 1), (53, .aload_n 0, 1), (54, .iload 4, 2), (56, .iconst 5, 1), (57, .iconst 1, 1), (58, .invokevirtual 77, 3), (61, .aload_n 0, 1), (62, .iload 4, 2), (64, .bipush 6, 2), (66, .iload 5, 2), (68, .ifCond .eq 7, 3), (71, .iconst 1, 1), (72, .goto 4, 3), (75, .iconst 0, 1), (76, .invokevirtual 77, 3), (79, .aload_n 0, 1), (80, .bipush 114, 2), (82, .iload 4, 2), (84, .aload_n 0, 1), (85, .getfield 28, 3), (88, .iload 4, 2), (90, .iaload, 1), (91, .aload_n 0, 1), (92, .getfield 7, 3), (95, .iconst 4, 1), (96, .iaload, 1), (97, .invokevirtual 80, 3), (100, .aload_n 0, 1), (101, .iload 4, 2), (103, .aload_n 0, 1), (104, .getfield 28, 3), (107, .iload 4, 2), (109, .iaload, 1), (110, .iload 5, 2), (112, .invokevirtual 84, 3), (115, .aload_n 0, 1), (116, .getfield 28, 3), (119, .iload 4, 2), (121, .iaload, 1), (122, .aload_n 0, 1), (123, .iload_n 1, 1), (124, .iconst 5, 1), (125, .invokevirtual 50, 3), (128, .if_icmp .le 25, 3), (131, .aload_n 0, 1), (132, .iload_n 1, 1), (133, .iconst 5, 1), (134, .aload_n 0, 1), (135, .getfield 28, 3), (138, .iload 4, 2), (140, .iaload, 1), (141, .invokevirtual 74, 3), (144, .aload_n 0, 1), (145, .iload_n 1, 1), (146, .bipush 6, 2), (148, .iload 4, 2), (150, .invokevirtual 74, 3), (153, .iinc 4 1, 3), (156, .goto (-144), 3), (159, .iload_n 3, 1), (160, .ireturn, 1)]
set_option maxRecDepth 100000 in
theorem evT_ok_107 : evT_107.all (fun q => decide (decode cX8_makesBids q.1 = .ok q.2)) = true := by decide +kernel
def evT_108 : List (Nat × Instr × Nat) := [(0, .sipush 162, 3), (3, .istore_n 1, 1), (4, .iconst 0, 1), (5, .istore_n 2, 1), (6, .iload_n 2, 1), (7, .aload_n 0, 1), (8, .getfield 7, 3), (11, .iconst 5, 1), (12, .iaload, 1), (13, .if_icmp .ge 32, 3), (16, .aload_n 0, 1), (17, .bipush 126, 2), (19, .iload_n 2, 1), (20, .aload_n 0, 1), (21, .getfield 7, 3), (24, .iload_n 1, 1), (25, .iload_n 2, 1), (26, .iadd, 1), (27, .iaload, 1), (28, .aload_n 0, 1), (29, .getfield 7, 3), (32, .iconst 4, 1), (33, .iaload, 1), (34, .iconst 5, 1), (35, .isub, 1), (36, .invokevirtual 80, 3), (39, .iinc 2 1, 3), (42, .goto (-36), 3), (45, .bipush 29, 2), (47, .istore_n 2, 1), (48, .iload_n 2, 1), (49, .bipush 6, 2), (51, .if_icmp .lt 32, 3), (54, .aload_n 0, 1), (55, .getfield 7, 3), (58, .sipush 138, 3), (61, .iload_n 2, 1), (62, .iadd, 1), (63, .aload_n 0, 1), (64, .getfield 7, 3), (67, .sipush 138, 3), (70, .iload_n 2, 1), (71, .iadd, 1), (72, .bipush 6, 2), (74, .isub, 1), (75, .iaload, 1), (76, .iastore, 1), (77, .iinc 2 (-1), 3), (80, .goto (-32), 3), (83, .iconst 0, 1), (84, .istore_n 2, 1), (85, .iload_n 2, 1), (86, .bipush 6, 2), (88, .if_icmp .ge 39, 3), (91, .aload_n 0, 1), (92, .getfield 7, 3), (95, .sipush 138, 3), (98, .iload_n 2, 1), (99, .iadd, 1), (100, .iload_n 2, 1), (101, .aload_n 0, 1), (102, .getfield 7, 3), (105, .iconst 5, 1), (106, .iaload, 1), (107, .if_icmp .ge 12, 3), (110, .aload_n 0, 1), (111, .getfield 28, 3), (114, .iload_n 2, 1), (115, .iaload, 1), (116, .goto 4, 3), (119, .iconst 0, 1), (120, .iastore, 1), (121, .iinc 2 1, 3), (124, .goto (-39), 3), (127, .return_, 1)]
set_option maxRecDepth 100000 in
theorem evT_ok_108 : evT_108.all (fun q => decide (decode cX8_grows q.1 = .ok q.2)) = true := by decide +kernel
def evT_109 : List (Nat × Instr × Nat) := [(0, .aload_n 0, 1), (1, .iload_n 1, 1), (2, .iconst 5, 1), (3, .invokevirtual 50, 3), (6, .istore_n 2, 1), (7, .aload_n 0, 1), (8, .getfield 7, 3), (11, .iconst 3, 1), (12, .iaload, 1), (13, .ifCond .ne 5, 3), (16, .iload_n 2, 1), (17, .ireturn, 1), (18, .iconst 0, 1), (19, .istore_n 3, 1), (20, .iconst 0, 1), (21, .istore 4, 2), (23, .iload 4, 2), (25, .aload_n 0, 1), (26, .getfield 7, 3), (29, .iconst 5, 1), (30, .iaload, 1), (31, .if_icmp .ge 54, 3), (34, .iload 4, 2), (36, .aload_n 0, 1), (37, .iload_n 1, 1), (38, .bipush 6, 2), (40, .invokevirtual 50, 3), (43, .if_icmp .eq 34, 3), (46, .aload_n 0, 1), (47, .getfield 7, 3), (50, .bipush 114, 2), (52, .iconst 2, 1), (53, .iload 4, 2), (55, .imul, 1), (56, .iadd, 1), (57, .iaload, 1), (58, .iload_n 3, 1), (59, .if_icmp .le 18, 3), (62, .aload_n 0, 1), (63, .getfield 7, 3), (66, .bipush 114, 2), (68, .iconst 2, 1), (69, .iload 4, 2), (71, .imul, 1), (72, .iadd, 1), (73, .iaload, 1), (74, .goto 4, 3), (77, .iload_n 3, 1), (78, .istore_n 3, 1), (79, .iinc 4 1, 3), (82, .goto (-59), 3), (85, .iload_n 3, 1), (86, .aload_n 0, 1), (87, .getfield 7, 3), (90, .iconst 1, 1), (91, .iaload, 1), (92, .iadd, 1), (93, .iload_n 2, 1), (94, .if_icmp .ge 14, 3), (97, .iload_n 3, 1), (98, .aload_n 0, 1), (99, .getfield 7, 3), (102, .iconst 1, 1), (103, .iaload, 1), (104, .iadd, 1), (105, .goto 4, 3), (108, .iload_n 2, 1), (109, .ireturn, 1)]
set_option maxRecDepth 100000 in
theorem evT_ok_109 : evT_109.all (fun q => decide (decode cX8_priceOf q.1 = .ok q.2)) = true := by decide +kernel
def evT_110 : List (Nat × Instr × Nat) := [(0, .aload_n 0, 1), (1, .getfield 7, 3), (4, .bipush 7, 2), (6, .bipush (-6), 2), (8, .iastore, 1), (9, .aload_n 0, 1), (10, .iload_n 1, 1), (11, .bipush 6, 2), (13, .invokevirtual 50, 3), (16, .istore_n 2, 1), (17, .iload_n 2, 1), (18, .bipush (-6), 2), (20, .if_icmp .ne 13, 3), (23, .aload_n 0, 1), (24, .iload_n 1, 1), (25, .iconst 1, 1), (26, .iconst 3, 1), (27, .invokevirtual 74, 3), (30, .goto 73, 3), (33, .aload_n 0, 1), (34, .iload_n 1, 1), (35, .invokevirtual 88, 3), (38, .istore_n 3, 1), (39, .aload_n 0, 1), (40, .iload_n 1, 1), (41, .iconst 1, 1), (42, .iconst 2, 1), (43, .invokevirtual 74, 3), (46, .aload_n 0, 1), (47, .iload_n 1, 1), (48, .iconst 2, 1), (49, .iload_n 2, 1), (50, .invokevirtual 74, 3), (53, .aload_n 0, 1), (54, .iload_n 1, 1), (55, .iconst 3, 1), (56, .iload_n 3, 1), (57, .invokevirtual 74, 3), (60, .aload_n 0, 1), (61, .iload_n 2, 1), (62, .iconst 0, 1), (63, .iload_n 3, 1), (64, .ineg, 1), (65, .invokevirtual 77, 3), (68, .aload_n 0, 1), (69, .iload_n 2, 1), (70, .iconst 3, 1), (71, .iload_n 3, 1), (72, .invokevirtual 77, 3), (75, .aload_n 0, 1), (76, .iload_n 2, 1), (77, .iconst 4, 1), (78, .aload_n 0, 1), (79, .iload_n 1, 1), (80, .iconst 0, 1), (81, .invokevirtual 50, 3), (84, .invokevirtual 77, 3), (87, .aload_n 0, 1), (88, .iload_n 2, 1), (89, .iconst 2, 1), (90, .aload_n 0, 1), (91, .iload_n 2, 1), (92, .iconst 2, 1), (93, .invokevirtual 46, 3), (96, .iconst 1, 1), (97, .iload_n 1, 1), (98, .ishl, 1), (99, .ior, 1), (100, .invokevirtual 91, 3), (103, .return_, 1)]
set_option maxRecDepth 100000 in
theorem evT_ok_110 : evT_110.all (fun q => decide (decode cX8_ends q.1 = .ok q.2)) = true := by decide +kernel
def evT_111 : List (Nat × Instr × Nat) := [(0, .aload_n 0, 1), (1, .getfield 7, 3), (4, .bipush 7, 2), (6, .iaload, 1), (7, .istore_n 1, 1), (8, .iconst 0, 1), (9, .istore_n 2, 1), (10, .iload_n 2, 1), (11, .aload_n 0, 1), (12, .getfield 7, 3), (15, .iconst 5, 1), (16, .iaload, 1), (17, .if_icmp .ge 20, 3), (20, .aload_n 0, 1), (21, .getfield 28, 3), (24, .iload_n 2, 1), (25, .aload_n 0, 1), (26, .iload_n 2, 1), (27, .invokevirtual 94, 3), (30, .iastore, 1), (31, .iinc 2 1, 3), (34, .goto (-24), 3), (37, .iconst 0, 1), (38, .istore_n 2, 1), (39, .iload_n 2, 1), (40, .aload_n 0, 1), (41, .getfield 7, 3), (44, .iconst 5, 1), (45, .iaload, 1), (46, .if_icmp .ge 17, 3), (49, .aload_n 0, 1), (50, .iload_n 2, 1), (51, .bipush 7, 2), (53, .iconst 0, 1), (54, .invokevirtual 91, 3), (57, .iinc 2 1, 3), (60, .goto (-21), 3), (63, .aload_n 0, 1), (64, .getfield 7, 3), (67, .bipush 8, 2), (69, .aload_n 0, 1), (70, .iload_n 1, 1), (71, .invokevirtual 97, 3), (74, .ifCond .eq 7, 3), (77, .iconst 0, 1), (78, .goto 12, 3), (81, .aload_n 0, 1), (82, .getfield 7, 3), (85, .bipush 8, 2), (87, .iaload, 1), (88, .iconst 1, 1), (89, .iadd, 1), (90, .iastore, 1), (91, .aload_n 0, 1), (92, .invokevirtual 101, 3), (95, .aload_n 0, 1), (96, .iload_n 1, 1), (97, .iconst 4, 1), (98, .aload_n 0, 1), (99, .iload_n 1, 1), (100, .iconst 4, 1), (101, .invokevirtual 50, 3), (104, .iconst 1, 1), (105, .iadd, 1), (106, .invokevirtual 74, 3), (109, .aload_n 0, 1), (110, .getfield 7, 3), (113, .bipush 8, 2), (115, .iaload, 1), (116, .aload_n 0, 1), (117, .getfield 7, 3), (120, .iconst 2, 1), (121, .iaload, 1), (122, .aload_n 0, 1), (123, .getfield 7, 3), (126, .iconst 0, 1), (127, .iaload, 1), (128, .iadd, 1), (129, .if_icmp .lt 7, 3), (132, .iconst 1, 1), (133, .goto 4, 3), (136, .iconst 0, 1), (137, .istore_n 2, 1), (138, .iload_n 2, 1), (139, .ifCond .eq 8, 3), (142, .aload_n 0, 1), (143, .iload_n 1, 1), (144, .invokevirtual 104, 3), (147, .iload_n 2, 1), (148, .ireturn, 1)]
set_option maxRecDepth 100000 in
theorem evT_ok_111 : evT_111.all (fun q => decide (decode cX8_runsOn q.1 = .ok q.2)) = true := by decide +kernel
def evT_112 : List (Nat × Instr × Nat) := [(0, .aload_n 0, 1), (1, .invokevirtual 107, 3), (4, .istore_n 1, 1), (5, .aload_n 0, 1), (6, .getfield 7, 3), (9, .bipush 7, 2), (11, .iaload, 1), (12, .bipush (-6), 2), (14, .if_icmp .ne 14, 3), (17, .iload_n 1, 1), (18, .bipush (-6), 2), (20, .if_icmp .eq 8, 3), (23, .aload_n 0, 1), (24, .iload_n 1, 1), (25, .invokevirtual 111, 3), (28, .aload_n 0, 1), (29, .getfield 7, 3), (32, .bipush 7, 2), (34, .iaload, 1), (35, .bipush (-6), 2), (37, .if_icmp .eq 14, 3), (40, .aload_n 0, 1), (41, .invokevirtual 114, 3), (44, .ifCond .eq 7, 3), (47, .iconst 1, 1), (48, .goto 4, 3), (51, .iconst 0, 1), (52, .istore_n 2, 1), (53, .aload_n 0, 1), (54, .getfield 7, 3), (57, .iconst 4, 1), (58, .dup2, 1), (59, .iaload, 1), (60, .iconst 1, 1), (61, .iadd, 1), (62, .iastore, 1), (63, .iload_n 2, 1), (64, .ifCond .eq 7, 3), (67, .iconst 1, 1), (68, .goto 4, 3), (71, .iconst 0, 1), (72, .ireturn, 1)]
set_option maxRecDepth 100000 in
theorem evT_ok_112 : evT_112.all (fun q => decide (decode cX8_round q.1 = .ok q.2)) = true := by decide +kernel
def evT_113 : List (Nat × Instr × Nat) := [(0, .iconst 0, 1), (1, .istore_n 2, 1), (2, .iconst 0, 1), (3, .istore_n 3, 1), (4, .iload_n 3, 1), (5, .iload_n 1, 1), (6, .if_icmp .ge 16, 3), (9, .iload_n 2, 1), (10, .aload_n 0, 1), (11, .invokevirtual 118, 3), (14, .iadd, 1), (15, .istore_n 2, 1), (16, .iinc 3 1, 3), (19, .goto (-15), 3), (22, .iload_n 2, 1), (23, .ireturn, 1)]
set_option maxRecDepth 100000 in
theorem evT_ok_113 : evT_113.all (fun q => decide (decode cX8_passes q.1 = .ok q.2)) = true := by decide +kernel
def evT_114 : List (Nat × Instr × Nat) := [(0, .iload_n 0, 1), (1, .tableswitch 61 0 3 #[31, 38, 46, 54], 31), (32, .iload_n 1, 1), (33, .iconst 0, 1), (34, .iconst 5, 1), (35, .invokestatic 42, 3), (38, .ireturn, 1), (39, .iload_n 1, 1), (40, .iconst 1, 1), (41, .bipush 99, 2), (43, .invokestatic 42, 3), (46, .ireturn, 1), (47, .iload_n 1, 1), (48, .iconst 1, 1), (49, .bipush 9, 2), (51, .invokestatic 42, 3), (54, .ireturn, 1), (55, .iload_n 1, 1), (56, .iconst 0, 1), (57, .iconst 1, 1), (58, .invokestatic 42, 3), (61, .ireturn, 1), (62, .iconst 0, 1), (63, .ireturn, 1)]
set_option maxRecDepth 100000 in
theorem evT_ok_114 : evT_114.all (fun q => decide (decode cX8_isValue q.1 = .ok q.2)) = true := by decide +kernel
def evT_115 : List (Nat × Instr × Nat) := [(0, .iload_n 1, 1), (1, .iload_n 2, 1), (2, .invokestatic 121, 3), (5, .ifCond .ne 6, 3), (8, .bipush (-2), 2), (10, .ireturn, 1), (11, .aload_n 0, 1), (12, .invokevirtual 125, 3), (15, .aload_n 0, 1), (16, .getfield 7, 3), (19, .iload_n 1, 1), (20, .iaload, 1), (21, .istore_n 3, 1), (22, .aload_n 0, 1), (23, .getfield 7, 3), (26, .iload_n 1, 1), (27, .iload_n 2, 1), (28, .iastore, 1), (29, .iload_n 3, 1), (30, .ireturn, 1)]
set_option maxRecDepth 100000 in
theorem evT_ok_115 : evT_115.all (fun q => decide (decode cX8_set q.1 = .ok q.2)) = true := by decide +kernel
def evT_116 : List (Nat × Instr × Nat) := [(0, .iload_n 1, 1), (1, .iconst 0, 1), (2, .sipush 9999, 3), (5, .invokestatic 42, 3), (8, .ifCond .eq 14, 3), (11, .iload_n 2, 1), (12, .iconst 0, 1), (13, .sipush 200, 3), (16, .invokestatic 42, 3), (19, .ifCond .ne 8, 3), (22, .bipush (-2), 2), (24, .goto 20, 3), (27, .aload_n 0, 1), (28, .getfield 7, 3), (31, .iconst 5, 1), (32, .iaload, 1), (33, .bipush 6, 2), (35, .if_icmp .ne 8, 3), (38, .bipush (-4), 2), (40, .goto 4, 3), (43, .iconst 0, 1), (44, .ireturn, 1)]
set_option maxRecDepth 100000 in
theorem evT_ok_116 : evT_116.all (fun q => decide (decode cX8_whyNoBidder q.1 = .ok q.2)) = true := by decide +kernel
def evT_117 : List (Nat × Instr × Nat) := [(0, .aload_n 0, 1), (1, .getfield 7, 3), (4, .iconst 5, 1), (5, .iaload, 1), (6, .istore_n 3, 1), (7, .iconst 0, 1), (8, .istore 4, 2), (10, .iload 4, 2), (12, .bipush 8, 2), (14, .if_icmp .ge 17, 3), (17, .aload_n 0, 1), (18, .iload_n 3, 1), (19, .iload 4, 2), (21, .iconst 0, 1), (22, .invokevirtual 91, 3), (25, .iinc 4 1, 3), (28, .goto (-18), 3), (31, .aload_n 0, 1), (32, .iload_n 3, 1), (33, .iconst 0, 1), (34, .iload_n 1, 1), (35, .invokevirtual 91, 3), (38, .aload_n 0, 1), (39, .iload_n 3, 1), (40, .iconst 1, 1), (41, .iload_n 2, 1), (42, .invokevirtual 91, 3), (45, .aload_n 0, 1), (46, .getfield 7, 3), (49, .iconst 5, 1), (50, .dup2, 1), (51, .iaload, 1), (52, .iconst 1, 1), (53, .iadd, 1), (54, .iastore, 1), (55, .iload_n 3, 1), (56, .ireturn, 1)]
set_option maxRecDepth 100000 in
theorem evT_ok_117 : evT_117.all (fun q => decide (decode cX8_comes q.1 = .ok q.2)) = true := by decide +kernel
def evT_118 : List (Nat × Instr × Nat) := [(0, .aload_n 0, 1), (1, .iload_n 1, 1), (2, .iload_n 2, 1), (3, .invokevirtual 128, 3), (6, .istore_n 3, 1), (7, .iload_n 3, 1), (8, .ifCond .ge 5, 3), (11, .iload_n 3, 1), (12, .ireturn, 1), (13, .aload_n 0, 1), (14, .invokevirtual 125, 3), (17, .aload_n 0, 1), (18, .iload_n 1, 1), (19, .iload_n 2, 1), (20, .invokevirtual 131, 3), (23, .ireturn, 1)]
set_option maxRecDepth 100000 in
theorem evT_ok_118 : evT_118.all (fun q => decide (decode cX8_bidder q.1 = .ok q.2)) = true := by decide +kernel
def evT_119 : List (Nat × Instr × Nat) := [(0, .aload_n 0, 1), (1, .iload_n 1, 1), (2, .invokevirtual 134, 3), (5, .ifCond .ne 5, 3), (8, .iconst (-1), 1), (9, .ireturn, 1), (10, .iload_n 2, 1), (11, .iconst 0, 1), (12, .sipush 200, 3), (15, .invokestatic 42, 3), (18, .ifCond .ne 6, 3), (21, .bipush (-2), 2), (23, .ireturn, 1), (24, .aload_n 0, 1), (25, .invokevirtual 125, 3), (28, .aload_n 0, 1), (29, .iload_n 1, 1), (30, .iconst 1, 1), (31, .invokevirtual 46, 3), (34, .istore_n 3, 1), (35, .aload_n 0, 1), (36, .iload_n 1, 1), (37, .iconst 1, 1), (38, .iload_n 2, 1), (39, .invokevirtual 91, 3), (42, .iload_n 3, 1), (43, .ireturn, 1)]
set_option maxRecDepth 100000 in
theorem evT_ok_119 : evT_119.all (fun q => decide (decode cX8_plan q.1 = .ok q.2)) = true := by decide +kernel
def evT_120 : List (Nat × Instr × Nat) := [(0, .iload_n 1, 1), (1, .iconst 0, 1), (2, .sipush 999, 3), (5, .invokestatic 42, 3), (8, .ifCond .ne 8, 3), (11, .bipush (-2), 2), (13, .goto 21, 3), (16, .aload_n 0, 1), (17, .getfield 7, 3), (20, .bipush 6, 2), (22, .iaload, 1), (23, .bipush 8, 2), (25, .if_icmp .ne 8, 3), (28, .bipush (-4), 2), (30, .goto 4, 3), (33, .iconst 0, 1), (34, .ireturn, 1)]
set_option maxRecDepth 100000 in
theorem evT_ok_120 : evT_120.all (fun q => decide (decode cX8_whyNoLot q.1 = .ok q.2)) = true := by decide +kernel
def evT_121 : List (Nat × Instr × Nat) := [(0, .aload_n 0, 1), (1, .getfield 7, 3), (4, .bipush 6, 2), (6, .iaload, 1), (7, .istore_n 2, 1), (8, .aload_n 0, 1), (9, .iload_n 2, 1), (10, .iconst 0, 1), (11, .iload_n 1, 1), (12, .invokevirtual 74, 3), (15, .aload_n 0, 1), (16, .iload_n 2, 1), (17, .iconst 1, 1), (18, .iconst 0, 1), (19, .invokevirtual 74, 3), (22, .aload_n 0, 1), (23, .iload_n 2, 1), (24, .iconst 2, 1), (25, .bipush (-6), 2), (27, .invokevirtual 74, 3), (30, .aload_n 0, 1), (31, .iload_n 2, 1), (32, .iconst 3, 1), (33, .bipush (-6), 2), (35, .invokevirtual 74, 3), (38, .aload_n 0, 1), (39, .iload_n 2, 1), (40, .iconst 4, 1), (41, .iconst 0, 1), (42, .invokevirtual 74, 3), (45, .aload_n 0, 1), (46, .iload_n 2, 1), (47, .iconst 5, 1), (48, .iconst 0, 1), (49, .invokevirtual 74, 3), (52, .aload_n 0, 1), (53, .iload_n 2, 1), (54, .bipush 6, 2), (56, .bipush (-6), 2), (58, .invokevirtual 74, 3), (61, .aload_n 0, 1), (62, .getfield 7, 3), (65, .bipush 6, 2), (67, .dup2, 1), (68, .iaload, 1), (69, .iconst 1, 1), (70, .iadd, 1), (71, .iastore, 1), (72, .iload_n 2, 1), (73, .ireturn, 1)]
set_option maxRecDepth 100000 in
theorem evT_ok_121 : evT_121.all (fun q => decide (decode cX8_lotComes q.1 = .ok q.2)) = true := by decide +kernel
def evT_122 : List (Nat × Instr × Nat) := [(0, .aload_n 0, 1), (1, .iload_n 1, 1), (2, .invokevirtual 137, 3), (5, .istore_n 2, 1), (6, .iload_n 2, 1), (7, .ifCond .ge 5, 3), (10, .iload_n 2, 1), (11, .ireturn, 1), (12, .aload_n 0, 1), (13, .invokevirtual 125, 3), (16, .aload_n 0, 1), (17, .iload_n 1, 1), (18, .invokevirtual 140, 3), (21, .ireturn, 1)]
set_option maxRecDepth 100000 in
theorem evT_ok_122 : evT_122.all (fun q => decide (decode cX8_lot q.1 = .ok q.2)) = true := by decide +kernel
def evT_123 : List (Nat × Instr × Nat) := [(0, .aload_n 0, 1), (1, .iload_n 1, 1), (2, .invokevirtual 134, 3), (5, .ifCond .ne 7, 3), (8, .iconst (-1), 1), (9, .goto 20, 3), (12, .iload_n 2, 1), (13, .iconst 1, 1), (14, .sipush 9999, 3), (17, .invokestatic 42, 3), (20, .ifCond .ne 8, 3), (23, .bipush (-2), 2), (25, .goto 4, 3), (28, .iconst 0, 1), (29, .ireturn, 1)]
set_option maxRecDepth 100000 in
theorem evT_ok_123 : evT_123.all (fun q => decide (decode cX8_whyNotTold q.1 = .ok q.2)) = true := by decide +kernel
def evT_124 : List (Nat × Instr × Nat) := [(0, .aload_n 0, 1), (1, .iload_n 1, 1), (2, .iload_n 2, 1), (3, .invokevirtual 143, 3), (6, .istore_n 3, 1), (7, .iload_n 3, 1), (8, .ifCond .ge 5, 3), (11, .iload_n 3, 1), (12, .ireturn, 1), (13, .aload_n 0, 1), (14, .invokevirtual 125, 3), (17, .aload_n 0, 1), (18, .iload_n 1, 1), (19, .bipush 7, 2), (21, .invokevirtual 46, 3), (24, .istore 4, 2), (26, .aload_n 0, 1), (27, .iload_n 1, 1), (28, .bipush 7, 2), (30, .iload_n 2, 1), (31, .invokevirtual 91, 3), (34, .iload 4, 2), (36, .ireturn, 1)]
set_option maxRecDepth 100000 in
theorem evT_ok_124 : evT_124.all (fun q => decide (decode cX8_bid q.1 = .ok q.2)) = true := by decide +kernel
def evT_125 : List (Nat × Instr × Nat) := [(0, .iload_n 1, 1), (1, .iconst 1, 1), (2, .bipush 99, 2), (4, .invokestatic 42, 3), (7, .ifCond .ne 8, 3), (10, .bipush (-2), 2), (12, .goto 23, 3), (15, .aload_n 0, 1), (16, .getfield 7, 3), (19, .iconst 4, 1), (20, .iaload, 1), (21, .iload_n 1, 1), (22, .iadd, 1), (23, .sipush 9999, 3), (26, .if_icmp .le 8, 3), (29, .bipush (-5), 2), (31, .goto 4, 3), (34, .iconst 0, 1), (35, .ireturn, 1)]
set_option maxRecDepth 100000 in
theorem evT_ok_125 : evT_125.all (fun q => decide (decode cX8_whyNotPassed q.1 = .ok q.2)) = true := by decide +kernel
def evT_126 : List (Nat × Instr × Nat) := [(0, .aload_n 0, 1), (1, .iload_n 1, 1), (2, .invokevirtual 146, 3), (5, .istore_n 2, 1), (6, .iload_n 2, 1), (7, .ifCond .ge 5, 3), (10, .iload_n 2, 1), (11, .ireturn, 1), (12, .aload_n 0, 1), (13, .invokevirtual 125, 3), (16, .aload_n 0, 1), (17, .iload_n 1, 1), (18, .invokevirtual 149, 3), (21, .ireturn, 1)]
set_option maxRecDepth 100000 in
theorem evT_ok_126 : evT_126.all (fun q => decide (decode cX8_pass q.1 = .ok q.2)) = true := by decide +kernel
def evT_127 : List (Nat × Instr × Nat) := [(0, .aload_n 0, 1), (1, .getfield 7, 3), (4, .bipush 7, 2), (6, .iaload, 1), (7, .bipush (-6), 2), (9, .if_icmp .ne 16, 3), (12, .iload_n 2, 1), (13, .bipush 7, 2), (15, .if_icmp .ne 7, 3), (18, .iconst 0, 1), (19, .goto 5, 3), (22, .bipush (-6), 2), (24, .ireturn, 1), (25, .aload_n 0, 1), (26, .iload_n 1, 1), (27, .invokevirtual 66, 3), (30, .iload_n 2, 1), (31, .bipush 7, 2), (33, .if_icmp .ne 10, 3), (36, .aload_n 0, 1), (37, .getfield 53, 3), (40, .goto 7, 3), (43, .aload_n 0, 1), (44, .getfield 59, 3), (47, .ireturn, 1)]
set_option maxRecDepth 100000 in
theorem evT_ok_127 : evT_127.all (fun q => decide (decode cX8_belief q.1 = .ok q.2)) = true := by decide +kernel
def evT_128 : List (Nat × Instr × Nat) := [(0, .aload_n 0, 1), (1, .iload_n 1, 1), (2, .invokevirtual 134, 3), (5, .ifCond .ne 5, 3), (8, .iconst (-1), 1), (9, .ireturn, 1), (10, .iload_n 2, 1), (11, .iconst 0, 1), (12, .bipush 6, 2), (14, .invokestatic 42, 3), (17, .ifCond .eq 10, 3), (20, .aload_n 0, 1), (21, .iload_n 1, 1), (22, .iload_n 2, 1), (23, .invokevirtual 46, 3), (26, .ireturn, 1), (27, .iload_n 2, 1), (28, .bipush 9, 2), (30, .if_icmp .ne 13, 3), (33, .aload_n 0, 1), (34, .iload_n 1, 1), (35, .bipush 7, 2), (37, .invokevirtual 46, 3), (40, .goto 25, 3), (43, .iload_n 2, 1), (44, .bipush 7, 2), (46, .bipush 8, 2), (48, .invokestatic 42, 3), (51, .ifCond .eq 12, 3), (54, .aload_n 0, 1), (55, .iload_n 1, 1), (56, .iload_n 2, 1), (57, .invokevirtual 152, 3), (60, .goto 5, 3), (63, .bipush (-2), 2), (65, .ireturn, 1)]
set_option maxRecDepth 100000 in
theorem evT_ok_128 : evT_128.all (fun q => decide (decode cX8_of q.1 = .ok q.2)) = true := by decide +kernel
def evT_129 : List (Nat × Instr × Nat) := [(0, .aload_n 0, 1), (1, .iload_n 1, 1), (2, .invokevirtual 155, 3), (5, .ifCond .ne 5, 3), (8, .iconst (-1), 1), (9, .ireturn, 1), (10, .iload_n 2, 1), (11, .iconst 0, 1), (12, .bipush 6, 2), (14, .invokestatic 42, 3), (17, .ifCond .eq 12, 3), (20, .aload_n 0, 1), (21, .iload_n 1, 1), (22, .iload_n 2, 1), (23, .invokevirtual 50, 3), (26, .goto 5, 3), (29, .bipush (-2), 2), (31, .ireturn, 1)]
set_option maxRecDepth 100000 in
theorem evT_ok_129 : evT_129.all (fun q => decide (decode cX8_ofLot q.1 = .ok q.2)) = true := by decide +kernel
def evT_130 : List (Nat × Instr × Nat) := [(0, .iload_n 1, 1), (1, .iconst 0, 1), (2, .aload_n 0, 1), (3, .getfield 7, 3), (6, .bipush 9, 2), (8, .iaload, 1), (9, .iconst 1, 1), (10, .isub, 1), (11, .invokestatic 42, 3), (14, .ifCond .ne 5, 3), (17, .iconst (-1), 1), (18, .ireturn, 1), (19, .iload_n 2, 1), (20, .iconst 0, 1), (21, .iconst 3, 1), (22, .invokestatic 42, 3), (25, .ifCond .eq 20, 3), (28, .aload_n 0, 1), (29, .getfield 7, 3), (32, .sipush 168, 3), (35, .iconst 4, 1), (36, .iload_n 1, 1), (37, .imul, 1), (38, .iadd, 1), (39, .iload_n 2, 1), (40, .iadd, 1), (41, .iaload, 1), (42, .goto 5, 3), (45, .bipush (-2), 2), (47, .ireturn, 1)]
set_option maxRecDepth 100000 in
theorem evT_ok_130 : evT_130.all (fun q => decide (decode cX8_made q.1 = .ok q.2)) = true := by decide +kernel
def evT_131 : List (Nat × Instr × Nat) := [(0, .iload_n 1, 1), (1, .bipush 8, 2), (3, .bipush 11, 2), (5, .invokestatic 42, 3), (8, .ifCond .eq 13, 3), (11, .aload_n 0, 1), (12, .getfield 7, 3), (15, .iload_n 1, 1), (16, .bipush 8, 2), (18, .isub, 1), (19, .iaload, 1), (20, .ireturn, 1), (21, .iload_n 1, 1), (22, .tableswitch 135 0 13 #[70, 77, 84, 92, 100, 106, 112, 118, 135, 135, 135, 135, 125, 130], 70), (92, .aload_n 0, 1), (93, .getfield 7, 3), (96, .iconst 4, 1), (97, .iaload, 1), (98, .ireturn, 1), (99, .aload_n 0, 1), (100, .getfield 7, 3), (103, .iconst 5, 1), (104, .iaload, 1), (105, .ireturn, 1), (106, .aload_n 0, 1), (107, .getfield 7, 3), (110, .bipush 6, 2), (112, .iaload, 1), (113, .ireturn, 1), (114, .aload_n 0, 1), (115, .getfield 7, 3), (118, .bipush 7, 2), (120, .iaload, 1), (121, .ireturn, 1), (122, .aload_n 0, 1), (123, .iconst 2, 1), (124, .invokevirtual 158, 3), (127, .ireturn, 1), (128, .aload_n 0, 1), (129, .iconst 3, 1), (130, .invokevirtual 161, 3), (133, .ireturn, 1), (134, .aload_n 0, 1), (135, .iconst 5, 1), (136, .invokevirtual 161, 3), (139, .ireturn, 1), (140, .aload_n 0, 1), (141, .bipush 6, 2), (143, .invokevirtual 161, 3), (146, .ireturn, 1), (147, .aload_n 0, 1), (148, .getfield 164, 3), (151, .ireturn, 1), (152, .aload_n 0, 1), (153, .getfield 34, 3), (156, .ireturn, 1), (157, .bipush (-2), 2), (159, .ireturn, 1)]
set_option maxRecDepth 100000 in
theorem evT_ok_131 : evT_131.all (fun q => decide (decode cX8_count q.1 = .ok q.2)) = true := by decide +kernel
def evT_132 : List (Nat × Instr × Nat) := [(0, .aload_n 0, 1), (1, .iconst 5, 1), (2, .invokevirtual 161, 3), (5, .istore_n 1, 1), (6, .iload_n 1, 1), (7, .ifCond .ne 7, 3), (10, .iconst 0, 1), (11, .goto 16, 3), (14, .aload_n 0, 1), (15, .bipush 6, 2), (17, .invokevirtual 161, 3), (20, .i2f, 1), (21, .iload_n 1, 1), (22, .i2f, 1), (23, .fdiv, 1), (24, .invokestatic 167, 3), (27, .ireturn, 1)]
set_option maxRecDepth 100000 in
theorem evT_ok_132 : evT_132.all (fun q => decide (decode cX8_shadows q.1 = .ok q.2)) = true := by decide +kernel
def evT_133 : List (Nat × Instr × Nat) := [(0, .aload_n 0, 1), (1, .iconst 4, 1), (2, .invokevirtual 161, 3), (5, .istore_n 1, 1), (6, .iload_n 1, 1), (7, .ifCond .ne 7, 3), (10, .lconst 0, 1), (11, .goto 15, 3), (14, .aload_n 0, 1), (15, .iconst 3, 1), (16, .invokevirtual 161, 3), (19, .i2d, 1), (20, .iload_n 1, 1), (21, .i2d, 1), (22, .ddiv, 1), (23, .invokestatic 173, 3), (26, .lreturn, 1)]
set_option maxRecDepth 100000 in
theorem evT_ok_133 : evT_133.all (fun q => decide (decode cX8_dear q.1 = .ok q.2)) = true := by decide +kernel
def evT_134 : List (Nat × Instr × Nat) := [(0, .aload_n 0, 1), (1, .getfield 7, 3), (4, .bipush 7, 2), (6, .iaload, 1), (7, .bipush (-6), 2), (9, .if_icmp .ne 12, 3), (12, .aload_n 0, 1), (13, .invokevirtual 107, 3), (16, .bipush (-6), 2), (18, .if_icmp .eq 7, 3), (21, .iconst 1, 1), (22, .goto 4, 3), (25, .iconst 0, 1), (26, .ireturn, 1)]
set_option maxRecDepth 100000 in
theorem evT_ok_134 : evT_134.all (fun q => decide (decode cX8_hasLots q.1 = .ok q.2)) = true := by decide +kernel
def evT_135 : List (Nat × Instr × Nat) := [(0, .aload_n 0, 1), (1, .getfield 7, 3), (4, .iconst 0, 1), (5, .aload_n 0, 1), (6, .getfield 13, 3), (9, .iconst 0, 1), (10, .invokestatic 38, 3), (13, .iconst 0, 1), (14, .istore_n 1, 1), (15, .aload_n 0, 1), (16, .invokevirtual 179, 3), (19, .istore_n 2, 1), (20, .bipush (-6), 2), (22, .istore_n 3, 1), (23, .iload_n 2, 1), (24, .ifCond .eq 40, 3), (27, .iload_n 1, 1), (28, .sipush 500, 3), (31, .if_icmp .ge 33, 3), (34, .iinc 1 1, 3), (37, .aload_n 0, 1), (38, .invokevirtual 118, 3), (41, .ifCond .ne 7, 3), (44, .iconst 1, 1), (45, .goto 4, 3), (48, .iconst 0, 1), (49, .istore_n 2, 1), (50, .iload_n 2, 1), (51, .ifCond .eq 8, 3), (54, .bipush (-6), 2), (56, .goto 4, 3), (59, .iload_n 1, 1), (60, .istore_n 3, 1), (61, .goto (-38), 3), (64, .aload_n 0, 1), (65, .getfield 13, 3), (68, .iconst 0, 1), (69, .aload_n 0, 1), (70, .getfield 7, 3), (73, .iconst 0, 1), (74, .invokestatic 38, 3), (77, .iload_n 3, 1), (78, .ireturn, 1)]
set_option maxRecDepth 100000 in
theorem evT_ok_135 : evT_135.all (fun q => decide (decode cX8_endsIn q.1 = .ok q.2)) = true := by decide +kernel
def evT_136 : List (Nat × Instr × Nat) := [(0, .iconst 0, 1), (1, .istore_n 1, 1), (2, .iload_n 1, 1), (3, .sipush 1000, 3), (6, .if_icmp .ge 21, 3), (9, .aload_n 0, 1), (10, .invokevirtual 179, 3), (13, .ifCond .eq 14, 3), (16, .aload_n 0, 1), (17, .invokevirtual 118, 3), (20, .pop, 1), (21, .iinc 1 1, 3), (24, .goto (-22), 3), (27, .return_, 1)]
set_option maxRecDepth 100000 in
theorem evT_ok_136 : evT_136.all (fun q => decide (decode cX8_goesFar q.1 = .ok q.2)) = true := by decide +kernel
def evT_137 : List (Nat × Instr × Nat) := [(0, .iload_n 1, 1), (1, .iconst 0, 1), (2, .iconst 5, 1), (3, .invokestatic 42, 3), (6, .ifCond .ne 6, 3), (9, .bipush (-2), 2), (11, .ireturn, 1), (12, .aload_n 0, 1), (13, .getfield 7, 3), (16, .iconst 0, 1), (17, .aload_n 0, 1), (18, .getfield 13, 3), (21, .iconst 0, 1), (22, .invokestatic 38, 3), (25, .aload_n 0, 1), (26, .iconst 3, 1), (27, .invokevirtual 161, 3), (30, .istore_n 2, 1), (31, .aload_n 0, 1), (32, .getfield 7, 3), (35, .iconst 0, 1), (36, .iload_n 1, 1), (37, .iastore, 1), (38, .aload_n 0, 1), (39, .invokevirtual 182, 3), (42, .aload_n 0, 1), (43, .iconst 3, 1), (44, .invokevirtual 161, 3), (47, .iload_n 2, 1), (48, .isub, 1), (49, .istore_n 2, 1), (50, .aload_n 0, 1), (51, .getfield 13, 3), (54, .iconst 0, 1), (55, .aload_n 0, 1), (56, .getfield 7, 3), (59, .iconst 0, 1), (60, .invokestatic 38, 3), (63, .iload_n 2, 1), (64, .ireturn, 1)]
set_option maxRecDepth 100000 in
theorem evT_ok_137 : evT_137.all (fun q => decide (decode cX8_ifLag q.1 = .ok q.2)) = true := by decide +kernel
def evT_138 : List (Nat × Instr × Nat) := [(0, .aload_n 0, 1), (1, .iload_n 1, 1), (2, .iconst 4, 1), (3, .invokevirtual 46, 3), (6, .aload_n 0, 1), (7, .iload_n 1, 1), (8, .iconst 3, 1), (9, .invokevirtual 46, 3), (12, .isub, 1), (13, .ireturn, 1)]
set_option maxRecDepth 100000 in
theorem evT_ok_138 : evT_138.all (fun q => decide (decode cX8_gainOf q.1 = .ok q.2)) = true := by decide +kernel
def evT_139 : List (Nat × Instr × Nat) := [(0, .aload_n 0, 1), (1, .iload_n 1, 1), (2, .invokevirtual 134, 3), (5, .ifCond .ne 5, 3), (8, .iconst (-1), 1), (9, .ireturn, 1), (10, .iload_n 2, 1), (11, .iconst 0, 1), (12, .iconst 1, 1), (13, .invokestatic 42, 3), (16, .ifCond .ne 6, 3), (19, .bipush (-2), 2), (21, .ireturn, 1), (22, .aload_n 0, 1), (23, .getfield 7, 3), (26, .iconst 0, 1), (27, .aload_n 0, 1), (28, .getfield 13, 3), (31, .iconst 0, 1), (32, .invokestatic 38, 3), (35, .aload_n 0, 1), (36, .iload_n 1, 1), (37, .invokevirtual 185, 3), (40, .istore_n 3, 1), (41, .bipush (-6), 2), (43, .istore 4, 2), (45, .iconst 0, 1), (46, .istore 5, 2), (48, .iconst 0, 1), (49, .istore 6, 2), (51, .iload 6, 2), (53, .sipush 200, 3), (56, .if_icmp .gt 92, 3), (59, .aload_n 0, 1), (60, .iload_n 1, 1), (61, .iconst 1, 1), (62, .iload 6, 2), (64, .invokevirtual 91, 3), (67, .aload_n 0, 1), (68, .invokevirtual 182, 3), (71, .aload_n 0, 1), (72, .iload_n 1, 1), (73, .invokevirtual 185, 3), (76, .iload_n 3, 1), (77, .isub, 1), (78, .istore 7, 2), (80, .aload_n 0, 1), (81, .getfield 13, 3), (84, .iconst 0, 1), (85, .aload_n 0, 1), (86, .getfield 7, 3), (89, .iconst 0, 1), (90, .invokestatic 38, 3), (93, .iload 4, 2), (95, .bipush (-6), 2), (97, .if_icmp .eq 10, 3), (100, .iload 7, 2), (102, .iload 5, 2), (104, .if_icmp .le 7, 3), (107, .iconst 1, 1), (108, .goto 4, 3), (111, .iconst 0, 1), (112, .istore 8, 2), (114, .iload 8, 2), (116, .ifCond .eq 8, 3), (119, .iload 6, 2), (121, .goto 5, 3), (124, .iload 4, 2), (126, .istore 4, 2), (128, .iload 8, 2), (130, .ifCond .eq 8, 3), (133, .iload 7, 2), (135, .goto 5, 3), (138, .iload 5, 2), (140, .istore 5, 2), (142, .iinc 6 10, 3), (145, .goto (-94), 3), (148, .iload_n 2, 1), (149, .ifCond .ne 8, 3), (152, .iload 4, 2), (154, .goto 8, 3), (157, .iload 5, 2), (159, .ldc 188, 2), (161, .iadd, 1), (162, .ireturn, 1)]
set_option maxRecDepth 100000 in
theorem evT_ok_139 : evT_139.all (fun q => decide (decode cX8_bestPlan q.1 = .ok q.2)) = true := by decide +kernel
def evT_140 : List (Nat × Instr × Nat) := [(0, .iconst 0, 1), (1, .istore_n 3, 1), (2, .lload_n 1, 1), (3, .lstore 4, 2), (5, .iconst 1, 1), (6, .istore 6, 2), (8, .iload_n 3, 1), (9, .bipush 8, 2), (11, .if_icmp .ge 56, 3), (14, .lload 4, 2), (16, .ldc2_w 189, 3), (19, .land, 1), (20, .lconst 0, 1), (21, .lcmp, 1), (22, .ifCond .eq 45, 3), (25, .iload 6, 2), (27, .ifCond .eq 24, 3), (30, .lload 4, 2), (32, .ldc2_w 189, 3), (35, .land, 1), (36, .l2i, 1), (37, .bipush 33, 2), (39, .bipush 126, 2), (41, .invokestatic 42, 3), (44, .ifCond .eq 7, 3), (47, .iconst 1, 1), (48, .goto 4, 3), (51, .iconst 0, 1), (52, .istore 6, 2), (54, .lload 4, 2), (56, .bipush 8, 2), (58, .lushr, 1), (59, .lstore 4, 2), (61, .iinc 3 1, 3), (64, .goto (-56), 3), (67, .iload_n 3, 1), (68, .ifCond .eq 15, 3), (71, .iload 6, 2), (73, .ifCond .eq 10, 3), (76, .lload 4, 2), (78, .lconst 0, 1), (79, .lcmp, 1), (80, .ifCond .eq 6, 3), (83, .bipush (-2), 2), (85, .ireturn, 1), (86, .aload_n 0, 1), (87, .getfield 164, 3), (90, .iload_n 3, 1), (91, .iadd, 1), (92, .bipush 80, 2), (94, .if_icmp .le 6, 3), (97, .bipush (-4), 2), (99, .ireturn, 1), (100, .iload_n 3, 1), (101, .iconst 1, 1), (102, .isub, 1), (103, .istore 7, 2), (105, .iload 7, 2), (107, .ifCond .lt 40, 3), (110, .aload_n 0, 1), (111, .getfield 25, 3), (114, .aload_n 0, 1), (115, .getfield 164, 3), (118, .lload_n 1, 1), (119, .bipush 8, 2), (121, .iload 7, 2), (123, .imul, 1), (124, .lushr, 1), (125, .ldc2_w 189, 3), (128, .land, 1), (129, .l2i, 1), (130, .iastore, 1), (131, .aload_n 0, 1), (132, .dup, 1), (133, .getfield 164, 3), (136, .iconst 1, 1), (137, .iadd, 1), (138, .putfield 164, 3), (141, .iinc 7 (-1), 3), (144, .goto (-39), 3), (147, .aload_n 0, 1), (148, .getfield 164, 3), (151, .ireturn, 1)]
set_option maxRecDepth 100000 in
theorem evT_ok_140 : evT_140.all (fun q => decide (decode cX8_put q.1 = .ok q.2)) = true := by decide +kernel
def evT_141 : List (Nat × Instr × Nat) := [(0, .aload_n 0, 1), (1, .getfield 164, 3), (4, .istore_n 1, 1), (5, .aload_n 0, 1), (6, .iconst 0, 1), (7, .putfield 164, 3), (10, .iload_n 1, 1), (11, .ireturn, 1)]
set_option maxRecDepth 100000 in
theorem evT_ok_141 : evT_141.all (fun q => decide (decode cX8_wipe q.1 = .ok q.2)) = true := by decide +kernel
def evT_142 : List (Nat × Instr × Nat) := [(0, .iload_n 1, 1), (1, .aload_n 0, 1), (2, .getfield 164, 3), (5, .if_icmp .ge 12, 3), (8, .aload_n 0, 1), (9, .getfield 25, 3), (12, .iload_n 1, 1), (13, .iaload, 1), (14, .goto 4, 3), (17, .iconst (-1), 1), (18, .ireturn, 1)]
set_option maxRecDepth 100000 in
theorem evT_ok_142 : evT_142.all (fun q => decide (decode cX8_character q.1 = .ok q.2)) = true := by decide +kernel
def evT_143 : List (Nat × Instr × Nat) := [(0, .aload_n 0, 1), (1, .aload_n 0, 1), (2, .getfield 191, 3), (5, .invokevirtual 194, 3), (8, .iload_n 1, 1), (9, .if_icmp .ne 7, 3), (12, .iconst 1, 1), (13, .goto 4, 3), (16, .iconst 0, 1), (17, .istore_n 2, 1), (18, .aload_n 0, 1), (19, .dup, 1), (20, .getfield 191, 3), (23, .iload_n 2, 1), (24, .ifCond .eq 7, 3), (27, .iconst 1, 1), (28, .goto 4, 3), (31, .iconst 0, 1), (32, .iadd, 1), (33, .putfield 191, 3), (36, .iload_n 2, 1), (37, .ireturn, 1)]
set_option maxRecDepth 100000 in
theorem evT_ok_143 : evT_143.all (fun q => decide (decode cX8_isNext q.1 = .ok q.2)) = true := by decide +kernel
def evT_144 : List (Nat × Instr × Nat) := [(0, .aload_n 0, 1), (1, .aload_n 0, 1), (2, .getfield 191, 3), (5, .invokevirtual 194, 3), (8, .bipush 48, 2), (10, .bipush 57, 2), (12, .invokestatic 42, 3), (15, .ireturn, 1)]
set_option maxRecDepth 100000 in
theorem evT_ok_144 : evT_144.all (fun q => decide (decode cX8_isDigit q.1 = .ok q.2)) = true := by decide +kernel
def evT_145 : List (Nat × Instr × Nat) := [(0, .aload_n 0, 1), (1, .getfield 31, 3), (4, .aload_n 0, 1), (5, .getfield 197, 3), (8, .iload_n 1, 1), (9, .iastore, 1), (10, .aload_n 0, 1), (11, .dup, 1), (12, .getfield 197, 3), (15, .iconst 1, 1), (16, .iadd, 1), (17, .putfield 197, 3), (20, .return_, 1)]
set_option maxRecDepth 100000 in
theorem evT_ok_145 : evT_145.all (fun q => decide (decode cX8_takes q.1 = .ok q.2)) = true := by decide +kernel
def evT_146 : List (Nat × Instr × Nat) := [(0, .aload_n 0, 1), (1, .invokevirtual 200, 3), (4, .ifCond .ne 5, 3), (7, .iconst 0, 1), (8, .ireturn, 1), (9, .aload_n 0, 1), (10, .aload_n 0, 1), (11, .aload_n 0, 1), (12, .getfield 191, 3), (15, .invokevirtual 194, 3), (18, .bipush 48, 2), (20, .isub, 1), (21, .invokevirtual 203, 3), (24, .aload_n 0, 1), (25, .dup, 1), (26, .getfield 191, 3), (29, .iconst 1, 1), (30, .iadd, 1), (31, .putfield 191, 3), (34, .iconst 1, 1), (35, .ireturn, 1)]
set_option maxRecDepth 100000 in
theorem evT_ok_146 : evT_146.all (fun q => decide (decode cX8_takesDigit q.1 = .ok q.2)) = true := by decide +kernel
def evT_147 : List (Nat × Instr × Nat) := [(0, .aload_n 0, 1), (1, .invokevirtual 200, 3), (4, .ifCond .ne 5, 3), (7, .iconst 0, 1), (8, .ireturn, 1), (9, .aload_n 0, 1), (10, .aload_n 0, 1), (11, .getfield 191, 3), (14, .invokevirtual 194, 3), (17, .bipush 48, 2), (19, .isub, 1), (20, .istore_n 1, 1), (21, .aload_n 0, 1), (22, .dup, 1), (23, .getfield 191, 3), (26, .iconst 1, 1), (27, .iadd, 1), (28, .putfield 191, 3), (31, .iload_n 1, 1), (32, .ifCond .le 47, 3), (35, .iload_n 1, 1), (36, .sipush 1000, 3), (39, .if_icmp .ge 40, 3), (42, .aload_n 0, 1), (43, .invokevirtual 200, 3), (46, .ifCond .eq 33, 3), (49, .bipush 10, 2), (51, .iload_n 1, 1), (52, .imul, 1), (53, .aload_n 0, 1), (54, .aload_n 0, 1), (55, .getfield 191, 3), (58, .invokevirtual 194, 3), (61, .iadd, 1), (62, .bipush 48, 2), (64, .isub, 1), (65, .istore_n 1, 1), (66, .aload_n 0, 1), (67, .dup, 1), (68, .getfield 191, 3), (71, .iconst 1, 1), (72, .iadd, 1), (73, .putfield 191, 3), (76, .goto (-45), 3), (79, .aload_n 0, 1), (80, .iload_n 1, 1), (81, .invokevirtual 203, 3), (84, .iconst 1, 1), (85, .ireturn, 1)]
set_option maxRecDepth 100000 in
theorem evT_ok_147 : evT_147.all (fun q => decide (decode cX8_takesNumber q.1 = .ok q.2)) = true := by decide +kernel
def evT_148 : List (Nat × Instr × Nat) := [(0, .aload_n 0, 1), (1, .iconst 0, 1), (2, .putfield 197, 3), (5, .aload_n 0, 1), (6, .aload_n 0, 1), (7, .aload_n 0, 1), (8, .getfield 191, 3), (11, .invokevirtual 194, 3), (14, .putfield 206, 3), (17, .aload_n 0, 1), (18, .dup, 1), (19, .getfield 191, 3), (22, .iconst 1, 1), (23, .iadd, 1), (24, .putfield 191, 3), (27, .aload_n 0, 1), (28, .getfield 206, 3), (31, .lookupswitch 104 #[(43, 41), (98, 75), (108, 70), (116, 70)], 41), (72, .aload_n 0, 1), (73, .invokevirtual 209, 3), (76, .ifCond .eq 23, 3), (79, .aload_n 0, 1), (80, .bipush 42, 2), (82, .invokevirtual 212, 3), (85, .ifCond .eq 14, 3), (88, .aload_n 0, 1), (89, .invokevirtual 209, 3), (92, .ifCond .eq 7, 3), (95, .iconst 1, 1), (96, .goto 4, 3), (99, .iconst 0, 1), (100, .ireturn, 1), (101, .aload_n 0, 1), (102, .invokevirtual 209, 3), (105, .ireturn, 1), (106, .aload_n 0, 1), (107, .invokevirtual 215, 3), (110, .ifCond .eq 23, 3), (113, .aload_n 0, 1), (114, .bipush 61, 2), (116, .invokevirtual 212, 3), (119, .ifCond .eq 14, 3), (122, .aload_n 0, 1), (123, .invokevirtual 209, 3), (126, .ifCond .eq 7, 3), (129, .iconst 1, 1), (130, .goto 4, 3), (133, .iconst 0, 1), (134, .ireturn, 1), (135, .aload_n 0, 1), (136, .dup, 1), (137, .getfield 191, 3), (140, .iconst 1, 1), (141, .isub, 1), (142, .putfield 191, 3), (145, .iconst 0, 1), (146, .ireturn, 1)]
set_option maxRecDepth 100000 in
theorem evT_ok_148 : evT_148.all (fun q => decide (decode cX8_readsOrder q.1 = .ok q.2)) = true := by decide +kernel
def evT_149 : List (Nat × Instr × Nat) := [(0, .aload_n 0, 1), (1, .iconst 0, 1), (2, .putfield 191, 3), (5, .aload_n 0, 1), (6, .invokevirtual 218, 3), (9, .ifCond .ne 8, 3), (12, .aload_n 0, 1), (13, .getfield 191, 3), (16, .ireturn, 1), (17, .aload_n 0, 1), (18, .getfield 191, 3), (21, .aload_n 0, 1), (22, .getfield 164, 3), (25, .if_icmp .ne 6, 3), (28, .bipush (-6), 2), (30, .ireturn, 1), (31, .aload_n 0, 1), (32, .bipush 59, 2), (34, .invokevirtual 212, 3), (37, .ifCond .ne (-32), 3), (40, .aload_n 0, 1), (41, .getfield 191, 3), (44, .ireturn, 1)]
set_option maxRecDepth 100000 in
theorem evT_ok_149 : evT_149.all (fun q => decide (decode cX8_findFault q.1 = .ok q.2)) = true := by decide +kernel
def evT_150 : List (Nat × Instr × Nat) := [(0, .aload_n 0, 1), (1, .invokevirtual 221, 3), (4, .ireturn, 1)]
set_option maxRecDepth 100000 in
theorem evT_ok_150 : evT_150.all (fun q => decide (decode cX8_fault q.1 = .ok q.2)) = true := by decide +kernel
def evT_151 : List (Nat × Instr × Nat) := [(0, .aload_n 0, 1), (1, .getfield 206, 3), (4, .lookupswitch 81 #[(43, 36), (98, 64), (108, 53)], 36), (40, .aload_n 0, 1), (41, .aload_n 0, 1), (42, .getfield 31, 3), (45, .iconst 0, 1), (46, .iaload, 1), (47, .aload_n 0, 1), (48, .getfield 31, 3), (51, .iconst 1, 1), (52, .iaload, 1), (53, .invokevirtual 128, 3), (56, .ireturn, 1), (57, .aload_n 0, 1), (58, .aload_n 0, 1), (59, .getfield 31, 3), (62, .iconst 0, 1), (63, .iaload, 1), (64, .invokevirtual 137, 3), (67, .ireturn, 1), (68, .aload_n 0, 1), (69, .aload_n 0, 1), (70, .getfield 31, 3), (73, .iconst 0, 1), (74, .iaload, 1), (75, .aload_n 0, 1), (76, .getfield 31, 3), (79, .iconst 1, 1), (80, .iaload, 1), (81, .invokevirtual 143, 3), (84, .ireturn, 1), (85, .aload_n 0, 1), (86, .aload_n 0, 1), (87, .getfield 31, 3), (90, .iconst 0, 1), (91, .iaload, 1), (92, .invokevirtual 146, 3), (95, .ireturn, 1)]
set_option maxRecDepth 100000 in
theorem evT_ok_151 : evT_151.all (fun q => decide (decode cX8_whyNotDone q.1 = .ok q.2)) = true := by decide +kernel
def evT_152 : List (Nat × Instr × Nat) := [(0, .aload_n 0, 1), (1, .getfield 206, 3), (4, .lookupswitch 91 #[(43, 36), (98, 70), (108, 56)], 36), (40, .aload_n 0, 1), (41, .aload_n 0, 1), (42, .getfield 31, 3), (45, .iconst 0, 1), (46, .iaload, 1), (47, .aload_n 0, 1), (48, .getfield 31, 3), (51, .iconst 1, 1), (52, .iaload, 1), (53, .invokevirtual 131, 3), (56, .pop, 1), (57, .goto 49, 3), (60, .aload_n 0, 1), (61, .aload_n 0, 1), (62, .getfield 31, 3), (65, .iconst 0, 1), (66, .iaload, 1), (67, .invokevirtual 140, 3), (70, .pop, 1), (71, .goto 35, 3), (74, .aload_n 0, 1), (75, .aload_n 0, 1), (76, .getfield 31, 3), (79, .iconst 0, 1), (80, .iaload, 1), (81, .bipush 7, 2), (83, .aload_n 0, 1), (84, .getfield 31, 3), (87, .iconst 1, 1), (88, .iaload, 1), (89, .invokevirtual 91, 3), (92, .goto 14, 3), (95, .aload_n 0, 1), (96, .aload_n 0, 1), (97, .getfield 31, 3), (100, .iconst 0, 1), (101, .iaload, 1), (102, .invokevirtual 149, 3), (105, .pop, 1), (106, .return_, 1)]
set_option maxRecDepth 100000 in
theorem evT_ok_152 : evT_152.all (fun q => decide (decode cX8_does q.1 = .ok q.2)) = true := by decide +kernel
def evT_153 : List (Nat × Instr × Nat) := [(0, .aload_n 0, 1), (1, .invokevirtual 221, 3), (4, .bipush (-6), 2), (6, .if_icmp .eq 6, 3), (9, .bipush (-3), 2), (11, .ireturn, 1), (12, .aload_n 0, 1), (13, .invokevirtual 125, 3), (16, .iconst 0, 1), (17, .istore_n 1, 1), (18, .aload_n 0, 1), (19, .iconst 0, 1), (20, .putfield 191, 3), (23, .iconst 1, 1), (24, .istore_n 2, 1), (25, .iload_n 2, 1), (26, .ifCond .eq 53, 3), (29, .aload_n 0, 1), (30, .getfield 191, 3), (33, .aload_n 0, 1), (34, .getfield 164, 3), (37, .if_icmp .ge 42, 3), (40, .aload_n 0, 1), (41, .invokevirtual 218, 3), (44, .pop, 1), (45, .aload_n 0, 1), (46, .bipush 59, 2), (48, .invokevirtual 212, 3), (51, .pop, 1), (52, .aload_n 0, 1), (53, .invokevirtual 224, 3), (56, .ifCond .ne 7, 3), (59, .iconst 1, 1), (60, .goto 4, 3), (63, .iconst 0, 1), (64, .istore_n 2, 1), (65, .iload_n 2, 1), (66, .ifCond .eq (-41), 3), (69, .aload_n 0, 1), (70, .invokevirtual 227, 3), (73, .iinc 1 1, 3), (76, .goto (-51), 3), (79, .aload_n 0, 1), (80, .iconst 0, 1), (81, .putfield 164, 3), (84, .iload_n 1, 1), (85, .ireturn, 1)]
set_option maxRecDepth 100000 in
theorem evT_ok_153 : evT_153.all (fun q => decide (decode cX8_carryOut q.1 = .ok q.2)) = true := by decide +kernel
def evT_154 : List (Nat × Instr × Nat) := [(0, .aload_n 0, 1), (1, .getfield 34, 3), (4, .ifCond .ne 6, 3), (7, .bipush (-5), 2), (9, .ireturn, 1), (10, .aload_n 0, 1), (11, .dup, 1), (12, .getfield 34, 3), (15, .iconst 1, 1), (16, .isub, 1), (17, .putfield 34, 3), (20, .aload_n 0, 1), (21, .getfield 16, 3), (24, .aload_n 0, 1), (25, .getfield 34, 3), (28, .sipush 328, 3), (31, .imul, 1), (32, .aload_n 0, 1), (33, .getfield 7, 3), (36, .iconst 0, 1), (37, .invokestatic 38, 3), (40, .aload_n 0, 1), (41, .getfield 34, 3), (44, .ireturn, 1)]
set_option maxRecDepth 100000 in
theorem evT_ok_154 : evT_154.all (fun q => decide (decode cX8_undo q.1 = .ok q.2)) = true := by decide +kernel
def evT_155 : List (Nat × Instr × Nat) := [(0, .iload_n 1, 1), (1, .iconst 0, 1), (2, .iconst 1, 1), (3, .invokestatic 42, 3), (6, .ifCond .ne 6, 3), (9, .bipush (-2), 2), (11, .ireturn, 1), (12, .aload_n 0, 1), (13, .getfield 7, 3), (16, .iconst 0, 1), (17, .aload_n 0, 1), (18, .getfield 19, 3), (21, .sipush 328, 3), (24, .iload_n 1, 1), (25, .imul, 1), (26, .invokestatic 38, 3), (29, .aload_n 0, 1), (30, .getfield 22, 3), (33, .iload_n 1, 1), (34, .iconst 1, 1), (35, .iastore, 1), (36, .aload_n 0, 1), (37, .getfield 7, 3), (40, .bipush 6, 2), (42, .iaload, 1), (43, .ireturn, 1)]
set_option maxRecDepth 100000 in
theorem evT_ok_155 : evT_155.all (fun q => decide (decode cX8_save q.1 = .ok q.2)) = true := by decide +kernel
def evT_156 : List (Nat × Instr × Nat) := [(0, .iload_n 1, 1), (1, .iconst 0, 1), (2, .iconst 1, 1), (3, .invokestatic 42, 3), (6, .ifCond .ne 6, 3), (9, .bipush (-2), 2), (11, .ireturn, 1), (12, .aload_n 0, 1), (13, .getfield 22, 3), (16, .iload_n 1, 1), (17, .iaload, 1), (18, .ifCond .ne 6, 3), (21, .bipush (-5), 2), (23, .ireturn, 1), (24, .aload_n 0, 1), (25, .invokevirtual 125, 3), (28, .aload_n 0, 1), (29, .getfield 19, 3), (32, .sipush 328, 3), (35, .iload_n 1, 1), (36, .imul, 1), (37, .aload_n 0, 1), (38, .getfield 7, 3), (41, .iconst 0, 1), (42, .invokestatic 38, 3), (45, .aload_n 0, 1), (46, .getfield 7, 3), (49, .bipush 6, 2), (51, .iaload, 1), (52, .ireturn, 1)]
set_option maxRecDepth 100000 in
theorem evT_ok_156 : evT_156.all (fun q => decide (decode cX8_restore q.1 = .ok q.2)) = true := by decide +kernel
def evT_157 : List (Nat × Instr × Nat) := [(0, .dload_n 0, 1), (1, .dload_n 0, 1), (2, .dcmp .l, 1), (3, .ifCond .eq 7, 3), (6, .iconst 1, 1), (7, .goto 4, 3), (10, .iconst 0, 1), (11, .ireturn, 1)]
set_option maxRecDepth 100000 in
theorem evT_ok_157 : evT_157.all (fun q => decide (decode cJxe99ae_isNaN_b9ae7 q.1 = .ok q.2)) = true := by decide +kernel
def evT_158 : List (Nat × Instr × Nat) := [(0, .dload_n 0, 1), (1, .invokestatic 122, 3), (4, .ifCond .ne 8, 3), (7, .dload_n 0, 1), (8, .invokestatic 134, 3), (11, .lreturn, 1), (12, .ldc2_w 137, 3), (15, .lreturn, 1)]
set_option maxRecDepth 100000 in
theorem evT_ok_158 : evT_158.all (fun q => decide (decode cJxe99ae_doubleToLongBits_ccdee q.1 = .ok q.2)) = true := by decide +kernel
def evT_159 : List (Nat × Instr × Nat) := [(0, .fload_n 0, 1), (1, .fload_n 0, 1), (2, .fcmp .l, 1), (3, .ifCond .eq 7, 3), (6, .iconst 1, 1), (7, .goto 4, 3), (10, .iconst 0, 1), (11, .ireturn, 1)]
set_option maxRecDepth 100000 in
theorem evT_ok_159 : evT_159.all (fun q => decide (decode cJxf58ca_isNaN_12338 q.1 = .ok q.2)) = true := by decide +kernel
def evT_160 : List (Nat × Instr × Nat) := [(0, .fload_n 0, 1), (1, .invokestatic 59, 3), (4, .ifCond .ne 8, 3), (7, .fload_n 0, 1), (8, .invokestatic 74, 3), (11, .ireturn, 1), (12, .ldc 77, 2), (14, .ireturn, 1)]
set_option maxRecDepth 100000 in
theorem evT_ok_160 : evT_160.all (fun q => decide (decode cJxf58ca_floatToIntBits_5c35a q.1 = .ok q.2)) = true := by decide +kernel
def evT_161 : List (Nat × Instr × Nat) := [(0, .iload_n 0, 1), (1, .iload_n 1, 1), (2, .irem, 1), (3, .istore_n 2, 1), (4, .iload_n 0, 1), (5, .iload_n 1, 1), (6, .ixor, 1), (7, .ifCond .ge 11, 3), (10, .iload_n 2, 1), (11, .ifCond .eq 7, 3), (14, .iload_n 2, 1), (15, .iload_n 1, 1), (16, .iadd, 1), (17, .ireturn, 1), (18, .iload_n 2, 1), (19, .ireturn, 1)]
set_option maxRecDepth 100000 in
theorem evT_ok_161 : evT_161.all (fun q => decide (decode cJ9_floorMod_7cf53 q.1 = .ok q.2)) = true := by decide +kernel
def evT_162 : List (Nat × Instr × Nat) := [(0, .iload_n 0, 1), (1, .iload_n 1, 1), (2, .if_icmp .lt 7, 3), (5, .iload_n 0, 1), (6, .goto 4, 3), (9, .iload_n 1, 1), (10, .ireturn, 1)]
set_option maxRecDepth 100000 in
theorem evT_ok_162 : evT_162.all (fun q => decide (decode cJ9_max_7cf53 q.1 = .ok q.2)) = true := by decide +kernel
def evT_163 : List (Nat × Instr × Nat) := [(0, .iload_n 0, 1), (1, .iload_n 1, 1), (2, .if_icmp .gt 7, 3), (5, .iload_n 0, 1), (6, .goto 4, 3), (9, .iload_n 1, 1), (10, .ireturn, 1)]
set_option maxRecDepth 100000 in
theorem evT_ok_163 : evT_163.all (fun q => decide (decode cJ9_min_7cf53 q.1 = .ok q.2)) = true := by decide +kernel
def evT_164 : List (Nat × Instr × Nat) := [(0, .new 7, 3), (3, .dup, 1), (4, .invokespecial 9, 3), (7, .astore_n 1, 1), (8, .new 10, 3), (11, .dup, 1), (12, .invokespecial 12, 3), (15, .astore_n 2, 1), (16, .iconst 0, 1), (17, .istore_n 3, 1), (18, .iload_n 3, 1), (19, .aload_n 0, 1), (20, .arraylength, 1), (21, .iconst 3, 1), (22, .isub, 1), (23, .if_icmp .gt 666, 3), (26, .aload_n 0, 1), (27, .iload_n 3, 1), (28, .iaload, 1), (29, .bipush 31, 2), (31, .iand, 1), (32, .tableswitch 651 0 21 #[104, 137, 170, 203, 226, 259, 282, 315, 348, 381, 404, 417, 431, 444, 467, 500, 553, 566, 579, 592, 605, 628], 104), (136, .aload_n 1, 1), (137, .aload_n 0, 1), (138, .iload_n 3, 1), (139, .iconst 1, 1), (140, .iadd, 1), (141, .iaload, 1), (142, .aload_n 0, 1), (143, .iload_n 3, 1), (144, .iconst 2, 1), (145, .iadd, 1), (146, .iaload, 1), (147, .invokevirtual 13, 3), (150, .aload_n 2, 1), (151, .aload_n 0, 1), (152, .iload_n 3, 1), (153, .iconst 1, 1), (154, .iadd, 1), (155, .iaload, 1), (156, .aload_n 0, 1), (157, .iload_n 3, 1), (158, .iconst 2, 1), (159, .iadd, 1), (160, .iaload, 1), (161, .invokevirtual 17, 3), (164, .if_icmp .eq 519, 3), (167, .iconst 0, 1), (168, .ireturn, 1), (169, .aload_n 1, 1), (170, .aload_n 0, 1), (171, .iload_n 3, 1), (172, .iconst 1, 1), (173, .iadd, 1), (174, .iaload, 1), (175, .aload_n 0, 1), (176, .iload_n 3, 1), (177, .iconst 2, 1), (178, .iadd, 1), (179, .iaload, 1), (180, .invokevirtual 18, 3), (183, .aload_n 2, 1), (184, .aload_n 0, 1), (185, .iload_n 3, 1), (186, .iconst 1, 1), (187, .iadd, 1), (188, .iaload, 1), (189, .aload_n 0, 1), (190, .iload_n 3, 1), (191, .iconst 2, 1), (192, .iadd, 1), (193, .iaload, 1), (194, .invokevirtual 21, 3), (197, .if_icmp .eq 486, 3), (200, .iconst 0, 1), (201, .ireturn, 1), (202, .aload_n 1, 1), (203, .aload_n 0, 1), (204, .iload_n 3, 1), (205, .iconst 1, 1), (206, .iadd, 1), (207, .iaload, 1), (208, .aload_n 0, 1), (209, .iload_n 3, 1), (210, .iconst 2, 1), (211, .iadd, 1), (212, .iaload, 1), (213, .invokevirtual 22, 3), (216, .aload_n 2, 1), (217, .aload_n 0, 1), (218, .iload_n 3, 1), (219, .iconst 1, 1), (220, .iadd, 1), (221, .iaload, 1), (222, .aload_n 0, 1), (223, .iload_n 3, 1), (224, .iconst 2, 1), (225, .iadd, 1), (226, .iaload, 1), (227, .invokevirtual 25, 3), (230, .if_icmp .eq 453, 3), (233, .iconst 0, 1), (234, .ireturn, 1), (235, .aload_n 1, 1), (236, .aload_n 0, 1), (237, .iload_n 3, 1), (238, .iconst 1, 1), (239, .iadd, 1), (240, .iaload, 1), (241, .invokevirtual 26, 3), (244, .aload_n 2, 1), (245, .aload_n 0, 1), (246, .iload_n 3, 1), (247, .iconst 1, 1), (248, .iadd, 1), (249, .iaload, 1), (250, .invokevirtual 30, 3), (253, .if_icmp .eq 430, 3), (256, .iconst 0, 1), (257, .ireturn, 1), (258, .aload_n 1, 1), (259, .aload_n 0, 1), (260, .iload_n 3, 1), (261, .iconst 1, 1), (262, .iadd, 1), (263, .iaload, 1), (264, .aload_n 0, 1), (265, .iload_n 3, 1), (266, .iconst 2, 1), (267, .iadd, 1), (268, .iaload, 1), (269, .invokevirtual 31, 3), (272, .aload_n 2, 1), (273, .aload_n 0, 1), (274, .iload_n 3, 1), (275, .iconst 1, 1), (276, .iadd, 1), (277, .iaload, 1), (278, .aload_n 0, 1), (279, .iload_n 3, 1), (280, .iconst 2, 1), (281, .iadd, 1), (282, .iaload, 1), (283, .invokevirtual 34, 3), (286, .if_icmp .eq 397, 3), (289, .iconst 0, 1), (290, .ireturn, 1), (291, .aload_n 1, 1), (292, .aload_n 0, 1), (293, .iload_n 3, 1), (294, .iconst 1, 1), (295, .iadd, 1), (296, .iaload, 1), (297, .invokevirtual 35, 3), (300, .aload_n 2, 1), (301, .aload_n 0, 1), (302, .iload_n 3, 1), (303, .iconst 1, 1), (304, .iadd, 1), (305, .iaload, 1), (306, .invokevirtual 38, 3), (309, .if_icmp .eq 374, 3), (312, .iconst 0, 1), (313, .ireturn, 1), (314, .aload_n 1, 1), (315, .aload_n 0, 1), (316, .iload_n 3, 1), (317, .iconst 1, 1), (318, .iadd, 1), (319, .iaload, 1), (320, .aload_n 0, 1), (321, .iload_n 3, 1), (322, .iconst 2, 1), (323, .iadd, 1), (324, .iaload, 1), (325, .invokevirtual 39, 3), (328, .aload_n 2, 1), (329, .aload_n 0, 1), (330, .iload_n 3, 1), (331, .iconst 1, 1), (332, .iadd, 1), (333, .iaload, 1), (334, .aload_n 0, 1), (335, .iload_n 3, 1), (336, .iconst 2, 1), (337, .iadd, 1), (338, .iaload, 1), (339, .invokevirtual 42, 3), (342, .if_icmp .eq 341, 3), (345, .iconst 0, 1), (346, .ireturn, 1), (347, .aload_n 1, 1), (348, .aload_n 0, 1), (349, .iload_n 3, 1), (350, .iconst 1, 1), (351, .iadd, 1), (352, .iaload, 1), (353, .aload_n 0, 1), (354, .iload_n 3, 1), (355, .iconst 2, 1), (356, .iadd, 1), (357, .iaload, 1), (358, .invokevirtual 43, 3), (361, .aload_n 2, 1), (362, .aload_n 0, 1), (363, .iload_n 3, 1), (364, .iconst 1, 1), (365, .iadd, 1), (366, .iaload, 1), (367, .aload_n 0, 1), (368, .iload_n 3, 1), (369, .iconst 2, 1), (370, .iadd, 1), (371, .iaload, 1), (372, .invokevirtual 46, 3), (375, .if_icmp .eq 308, 3), (378, .iconst 0, 1), (379, .ireturn, 1), (380, .aload_n 1, 1), (381, .aload_n 0, 1), (382, .iload_n 3, 1), (383, .iconst 1, 1), (384, .iadd, 1), (385, .iaload, 1), (386, .aload_n 0, 1), (387, .iload_n 3, 1), (388, .iconst 2, 1), (389, .iadd, 1), (390, .iaload, 1), (391, .invokevirtual 47, 3), (394, .aload_n 2, 1), (395, .aload_n 0, 1), (396, .iload_n 3, 1), (397, .iconst 1, 1), (398, .iadd, 1), (399, .iaload, 1), (400, .aload_n 0, 1), (401, .iload_n 3, 1), (402, .iconst 2, 1), (403, .iadd, 1), (404, .iaload, 1), (405, .invokevirtual 50, 3), (408, .if_icmp .eq 275, 3), (411, .iconst 0, 1), (412, .ireturn, 1), (413, .aload_n 1, 1), (414, .aload_n 0, 1), (415, .iload_n 3, 1), (416, .iconst 1, 1), (417, .iadd, 1), (418, .iaload, 1), (419, .invokevirtual 51, 3), (422, .aload_n 2, 1), (423, .aload_n 0, 1), (424, .iload_n 3, 1), (425, .iconst 1, 1), (426, .iadd, 1), (427, .iaload, 1), (428, .invokevirtual 54, 3), (431, .if_icmp .eq 252, 3), (434, .iconst 0, 1), (435, .ireturn, 1), (436, .aload_n 1, 1), (437, .invokevirtual 55, 3), (440, .aload_n 2, 1), (441, .invokevirtual 59, 3), (444, .if_icmp .eq 239, 3), (447, .iconst 0, 1), (448, .ireturn, 1), (449, .aload_n 1, 1), (450, .invokevirtual 60, 3), (453, .aload_n 2, 1), (454, .invokevirtual 64, 3), (457, .lcmp, 1), (458, .ifCond .eq 225, 3), (461, .iconst 0, 1), (462, .ireturn, 1), (463, .aload_n 1, 1), (464, .invokevirtual 65, 3), (467, .aload_n 2, 1), (468, .invokevirtual 68, 3), (471, .if_icmp .eq 212, 3), (474, .iconst 0, 1), (475, .ireturn, 1), (476, .aload_n 1, 1), (477, .aload_n 0, 1), (478, .iload_n 3, 1), (479, .iconst 1, 1), (480, .iadd, 1), (481, .iaload, 1), (482, .invokevirtual 69, 3), (485, .aload_n 2, 1), (486, .aload_n 0, 1), (487, .iload_n 3, 1), (488, .iconst 1, 1), (489, .iadd, 1), (490, .iaload, 1), (491, .invokevirtual 72, 3), (494, .if_icmp .eq 189, 3), (497, .iconst 0, 1), (498, .ireturn, 1), (499, .aload_n 1, 1), (500, .aload_n 0, 1), (501, .iload_n 3, 1), (502, .iconst 1, 1), (503, .iadd, 1), (504, .iaload, 1), (505, .aload_n 0, 1), (506, .iload_n 3, 1), (507, .iconst 2, 1), (508, .iadd, 1), (509, .iaload, 1), (510, .invokevirtual 73, 3), (513, .aload_n 2, 1), (514, .aload_n 0, 1), (515, .iload_n 3, 1), (516, .iconst 1, 1), (517, .iadd, 1), (518, .iaload, 1), (519, .aload_n 0, 1), (520, .iload_n 3, 1), (521, .iconst 2, 1), (522, .iadd, 1), (523, .iaload, 1), (524, .invokevirtual 76, 3), (527, .if_icmp .eq 156, 3), (530, .iconst 0, 1), (531, .ireturn, 1), (532, .aload_n 1, 1), (533, .aload_n 0, 1), (534, .iload_n 3, 1), (535, .iconst 1, 1), (536, .iadd, 1), (537, .iaload, 1), (538, .i2l, 1), (539, .bipush 32, 2), (541, .lshl, 1), (542, .aload_n 0, 1), (543, .iload_n 3, 1), (544, .iconst 2, 1), (545, .iadd, 1), (546, .iaload, 1), (547, .i2l, 1), (548, .ldc2_w 77, 3), (551, .land, 1), (552, .lor, 1), (553, .invokevirtual 79, 3), (556, .aload_n 2, 1), (557, .aload_n 0, 1), (558, .iload_n 3, 1), (559, .iconst 1, 1), (560, .iadd, 1), (561, .iaload, 1), (562, .i2l, 1), (563, .bipush 32, 2), (565, .lshl, 1), (566, .aload_n 0, 1), (567, .iload_n 3, 1), (568, .iconst 2, 1), (569, .iadd, 1), (570, .iaload, 1), (571, .i2l, 1), (572, .ldc2_w 77, 3), (575, .land, 1), (576, .lor, 1), (577, .invokevirtual 83, 3), (580, .if_icmp .eq 103, 3), (583, .iconst 0, 1), (584, .ireturn, 1), (585, .aload_n 1, 1), (586, .invokevirtual 84, 3), (589, .aload_n 2, 1), (590, .invokevirtual 87, 3), (593, .if_icmp .eq 90, 3), (596, .iconst 0, 1), (597, .ireturn, 1), (598, .aload_n 1, 1), (599, .invokevirtual 88, 3), (602, .aload_n 2, 1), (603, .invokevirtual 91, 3), (606, .if_icmp .eq 77, 3), (609, .iconst 0, 1), (610, .ireturn, 1), (611, .aload_n 1, 1), (612, .invokevirtual 92, 3), (615, .aload_n 2, 1), (616, .invokevirtual 95, 3), (619, .if_icmp .eq 64, 3), (622, .iconst 0, 1), (623, .ireturn, 1), (624, .aload_n 1, 1), (625, .invokevirtual 96, 3), (628, .aload_n 2, 1), (629, .invokevirtual 99, 3), (632, .if_icmp .eq 51, 3), (635, .iconst 0, 1), (636, .ireturn, 1), (637, .aload_n 1, 1), (638, .aload_n 0, 1), (639, .iload_n 3, 1), (640, .iconst 1, 1), (641, .iadd, 1), (642, .iaload, 1), (643, .invokevirtual 100, 3), (646, .aload_n 2, 1), (647, .aload_n 0, 1), (648, .iload_n 3, 1), (649, .iconst 1, 1), (650, .iadd, 1), (651, .iaload, 1), (652, .invokevirtual 103, 3), (655, .if_icmp .eq 28, 3), (658, .iconst 0, 1), (659, .ireturn, 1), (660, .aload_n 1, 1), (661, .aload_n 0, 1), (662, .iload_n 3, 1), (663, .iconst 1, 1), (664, .iadd, 1), (665, .iaload, 1), (666, .invokevirtual 104, 3), (669, .aload_n 2, 1), (670, .aload_n 0, 1), (671, .iload_n 3, 1), (672, .iconst 1, 1), (673, .iadd, 1), (674, .iaload, 1), (675, .invokevirtual 107, 3), (678, .if_icmp .eq 5, 3), (681, .iconst 0, 1), (682, .ireturn, 1), (683, .iinc 3 3, 3), (686, .goto (-668), 3), (689, .iconst 1, 1), (690, .ireturn, 1)]
set_option maxRecDepth 100000 in
theorem evT_ok_164 : evT_164.all (fun q => decide (decode cL_law q.1 = .ok q.2)) = true := by decide +kernel
end
section
def evOwn : List String := [RX0, RX1, RX2, RX3, RX4, RX5, RX6, RX7, RX8, RL, RJxe99ae, RJxf58ca, RJ9]
def evOs (o : Nat) : String := evOwn.getD o ""
/-- a method: its name, bytes, room of its frame, what it answers, its owner, how many frames and words it needs above its own -/
abbrev evMI : Type := MethodName × ByteArray × Nat × Option FieldType × Nat × Nat × Nat
def evMT_1 : List (evMI) := [(yX0_init, cX0_init, 1, none, 0, 1, 20), (yX0_write, cX0_write, 4, none, 0, 0, 0), (yX0_clear, cX0_clear, 1, none, 0, 1, 23), (yX0_copyFrom, cX0_copyFrom, 2, none, 0, 1, 23), (yX0_isAbove, cX0_isAbove, 2, (some .boolean), 0, 0, 0), (yX1_init, cX1_init, 1, none, 1, 2, 40), (yX1_copyFrom, cX1_copyFrom, 2, none, 1, 2, 44), (yX2_init, cX2_init, 2, none, 2, 3, 60), (yX2_copyFrom, cX2_copyFrom, 2, none, 2, 4, 87), (yX2_copyRows, cX2_copyRows, 3, none, 2, 3, 65), (yX2_bidderAt, cX2_bidderAt, 2, (some (.object "EchoBids$Bidder")), 2, 0, 0), (yX2_lotAt, cX2_lotAt, 2, (some (.object "EchoBids$Lot")), 2, 0, 0), (yX2_settingAt, cX2_settingAt, 2, (some .int), 2, 0, 0), (yX2_changeSetting, cX2_changeSetting, 4, (some .int), 2, 0, 0), (yX2_addBidder, cX2_addBidder, 4, (some .int), 2, 1, 21)]
def evMT_2 : List (evMI) := [(yX2_changePlan, cX2_changePlan, 5, (some .int), 2, 1, 21), (yX2_addLot, cX2_addLot, 3, (some .int), 2, 1, 21), (yX2_tellBid, cX2_tellBid, 5, (some .int), 2, 1, 21), (yX2_letPass, cX2_letPass, 4, (some .int), 2, 5, 119), (yX2_playOut, cX2_playOut, 3, none, 2, 5, 119), (yX2_hasLotsLeft, cX2_hasLotsLeft, 1, (some .boolean), 2, 0, 0), (yX2_playRound, cX2_playRound, 3, (some .boolean), 2, 4, 97), (yX2_beginLot, cX2_beginLot, 3, none, 2, 2, 43), (yX2_takeBids, cX2_takeBids, 7, none, 2, 3, 71), (yX2_chooseBid, cX2_chooseBid, 7, (some .int), 2, 1, 21), (yX2_believed, cX2_believed, 3, (some (.object "EchoBids$Bid")), 2, 1, 22), (yX2_noteBid, cX2_noteBid, 5, none, 2, 2, 47), (yX2_echoRound, cX2_echoRound, 4, none, 2, 2, 44), (yX2_endLot, cX2_endLot, 3, none, 2, 2, 45), (yX2_priceOf, cX2_priceOf, 5, (some .int), 2, 1, 21)]
def evMT_3 : List (evMI) := [(yX2_lotsSold, cX2_lotsSold, 4, (some .int), 2, 1, 21), (yX2_coinsPaid, cX2_coinsPaid, 4, (some .int), 2, 1, 21), (yX2_worthSold, cX2_worthSold, 4, (some .int), 2, 1, 21), (yX2_bidsMade, cX2_bidsMade, 4, (some .int), 2, 1, 21), (yX2_shadowsMade, cX2_shadowsMade, 4, (some .int), 2, 1, 21), (yX3_init, cX3_init, 2, none, 3, 4, 81), (yX3_prepare, cX3_prepare, 2, none, 3, 5, 108), (yX3_settle, cX3_settle, 2, (some .int), 3, 1, 21), (yX3_takeBack, cX3_takeBack, 2, (some .int), 3, 5, 108), (yX4_init, cX4_init, 1, none, 4, 2, 40), (yX4_copyFrom, cX4_copyFrom, 2, none, 4, 2, 44), (yX5_init, cX5_init, 1, none, 5, 1, 20), (yX5_append, cX5_append, 5, (some .int), 5, 1, 26), (yX5_countSigns, cX5_countSigns, 7, (some .int), 5, 0, 0), (yX5_empty, cX5_empty, 2, (some .int), 5, 0, 0)]
def evMT_4 : List (evMI) := [(yX5_findFault, cX5_findFault, 2, (some .int), 5, 5, 105), (yX5_rewind, cX5_rewind, 1, none, 5, 0, 0), (yX5_readOrder, cX5_readOrder, 1, (some .boolean), 5, 4, 85), (yX5_sign, cX5_sign, 1, (some .int), 5, 0, 0), (yX5_atDigit, cX5_atDigit, 2, (some .boolean), 5, 1, 20), (yX5_expect, cX5_expect, 2, none, 5, 1, 20), (yX5_readDigit, cX5_readDigit, 2, (some .int), 5, 2, 41), (yX5_readNumber, cX5_readNumber, 4, (some .int), 5, 3, 62), (yX6_init, cX6_init, 1, none, 6, 1, 20), (yX6_copyFrom, cX6_copyFrom, 2, none, 6, 1, 26), (yX6_clear, cX6_clear, 1, none, 6, 0, 0), (yX6_add, cX6_add, 6, none, 6, 1, 22), (yX6_knows, cX6_knows, 2, (some .boolean), 6, 0, 0), (yX6_at, cX6_at, 4, (some .int), 6, 1, 22), (yX7_init, cX7_init, 1, none, 7, 5, 102)]
def evMT_5 : List (evMI) := [(yX7_set, cX7_set, 3, (some .int), 7, 6, 129), (yX7_bidder, cX7_bidder, 3, (some .int), 7, 6, 129), (yX7_plan, cX7_plan, 3, (some .int), 7, 6, 129), (yX7_lot, cX7_lot, 2, (some .int), 7, 6, 129), (yX7_bid, cX7_bid, 3, (some .int), 7, 6, 129), (yX7_pass, cX7_pass, 2, (some .int), 7, 6, 142), (yX7_of, cX7_of, 4, (some .int), 7, 2, 44), (yX7_ofLot, cX7_ofLot, 4, (some .int), 7, 1, 21), (yX7_made, cX7_made, 3, (some .int), 7, 2, 45), (yX7_count, cX7_count, 2, (some .int), 7, 2, 44), (yX7_shadows, cX7_shadows, 2, (some .int), 7, 2, 44), (yX7_dear, cX7_dear, 2, (some .long), 7, 2, 44), (yX7_endsIn, cX7_endsIn, 2, (some .int), 7, 5, 119), (yX7_ifLag, cX7_ifLag, 2, (some .int), 7, 6, 141), (yX7_bestPlan, cX7_bestPlan, 7, (some .int), 7, 7, 165)]
def evMT_6 : List (evMI) := [(yX7_put, cX7_put, 3, (some .int), 7, 2, 50), (yX7_wipe, cX7_wipe, 1, (some .int), 7, 1, 21), (yX7_fault, cX7_fault, 1, (some .int), 7, 6, 126), (yX7_carryOut, cX7_carryOut, 2, (some .int), 7, 7, 162), (yX7_undo, cX7_undo, 1, (some .int), 7, 6, 129), (yX7_save, cX7_save, 3, (some .int), 7, 5, 108), (yX7_restore, cX7_restore, 3, (some .int), 7, 6, 129), (yX7_gainWith, cX7_gainWith, 5, (some .int), 7, 6, 141), (yX7_carryOrder, cX7_carryOrder, 1, (some .int), 7, 6, 142), (yX7_floatBits, cX7_floatBits, 4, (some .int), 7, 0, 0), (yX7_doubleBits, cX7_doubleBits, 8, (some .long), 7, 0, 0), (yX8_init, cX8_init, 1, none, 8, 1, 20), (yX8_moves, cX8_moves, 5, none, 8, 0, 0), (yX8_within, cX8_within, 3, (some .boolean), 8, 0, 0), (yX8_record, cX8_record, 2, none, 8, 1, 24)]
def evMT_7 : List (evMI) := [(yX8_isBidder, cX8_isBidder, 2, (some .boolean), 8, 1, 22), (yX8_isLot, cX8_isLot, 2, (some .boolean), 8, 1, 22), (yX8_bidderPart, cX8_bidderPart, 3, (some .int), 8, 0, 0), (yX8_setBidder, cX8_setBidder, 4, none, 8, 0, 0), (yX8_adds, cX8_adds, 4, none, 8, 0, 0), (yX8_lotPart, cX8_lotPart, 3, (some .int), 8, 0, 0), (yX8_setLot, cX8_setLot, 4, none, 8, 0, 0), (yX8_ofAll, cX8_ofAll, 4, (some .int), 8, 1, 22), (yX8_withHow, cX8_withHow, 4, (some .int), 8, 1, 22), (yX8_firstWaiting, cX8_firstWaiting, 3, (some .int), 8, 1, 22), (yX8_hears, cX8_hears, 5, none, 8, 0, 0), (yX8_believes, cX8_believes, 4, none, 8, 1, 24), (yX8_limitOf, cX8_limitOf, 3, (some .int), 8, 1, 22), (yX8_bidOf, cX8_bidOf, 4, (some .int), 8, 2, 47), (yX8_begins, cX8_begins, 3, none, 8, 1, 23)]
def evMT_8 : List (evMI) := [(yX8_keepsBest, cX8_keepsBest, 5, none, 8, 0, 0), (yX8_keepsMade, cX8_keepsMade, 5, none, 8, 0, 0), (yX8_makesBids, cX8_makesBids, 6, (some .boolean), 8, 1, 24), (yX8_grows, cX8_grows, 3, none, 8, 1, 24), (yX8_priceOf, cX8_priceOf, 5, (some .int), 8, 1, 22), (yX8_ends, cX8_ends, 4, none, 8, 2, 46), (yX8_runsOn, cX8_runsOn, 3, (some .boolean), 8, 3, 70), (yX8_round, cX8_round, 3, (some .int), 8, 4, 92), (yX8_passes, cX8_passes, 4, (some .int), 8, 5, 114), (yX8_isValue, cX8_isValue, 2, (some .boolean), 8, 1, 22), (yX8_set, cX8_set, 4, (some .int), 8, 2, 45), (yX8_whyNoBidder, cX8_whyNoBidder, 3, (some .int), 8, 1, 22), (yX8_comes, cX8_comes, 5, (some .int), 8, 1, 23), (yX8_bidder, cX8_bidder, 4, (some .int), 8, 2, 47), (yX8_plan, cX8_plan, 4, (some .int), 8, 2, 45)]
def evMT_9 : List (evMI) := [(yX8_whyNoLot, cX8_whyNoLot, 2, (some .int), 8, 1, 22), (yX8_lotComes, cX8_lotComes, 3, (some .int), 8, 1, 23), (yX8_lot, cX8_lot, 3, (some .int), 8, 2, 45), (yX8_whyNotTold, cX8_whyNotTold, 3, (some .int), 8, 2, 43), (yX8_bid, cX8_bid, 5, (some .int), 8, 3, 65), (yX8_whyNotPassed, cX8_whyNotPassed, 2, (some .int), 8, 1, 22), (yX8_pass, cX8_pass, 3, (some .int), 8, 6, 137), (yX8_belief, cX8_belief, 3, (some .int), 8, 2, 47), (yX8_of, cX8_of, 3, (some .int), 8, 3, 69), (yX8_ofLot, cX8_ofLot, 3, (some .int), 8, 2, 43), (yX8_made, cX8_made, 3, (some .int), 8, 1, 22), (yX8_count, cX8_count, 2, (some .int), 8, 2, 45), (yX8_shadows, cX8_shadows, 2, (some .int), 8, 2, 46), (yX8_dear, cX8_dear, 2, (some .long), 8, 2, 47), (yX8_hasLots, cX8_hasLots, 1, (some .boolean), 8, 2, 44)]
def evMT_10 : List (evMI) := [(yX8_endsIn, cX8_endsIn, 4, (some .int), 8, 5, 114), (yX8_goesFar, cX8_goesFar, 2, none, 8, 5, 114), (yX8_ifLag, cX8_ifLag, 3, (some .int), 8, 6, 135), (yX8_gainOf, cX8_gainOf, 2, (some .int), 8, 1, 22), (yX8_bestPlan, cX8_bestPlan, 9, (some .int), 8, 6, 135), (yX8_put, cX8_put, 8, (some .int), 8, 1, 22), (yX8_wipe, cX8_wipe, 2, (some .int), 8, 0, 0), (yX8_character, cX8_character, 2, (some .int), 8, 0, 0), (yX8_isNext, cX8_isNext, 3, (some .boolean), 8, 1, 21), (yX8_isDigit, cX8_isDigit, 1, (some .boolean), 8, 1, 22), (yX8_takes, cX8_takes, 2, none, 8, 0, 0), (yX8_takesDigit, cX8_takesDigit, 1, (some .boolean), 8, 2, 42), (yX8_takesNumber, cX8_takesNumber, 2, (some .boolean), 8, 2, 42), (yX8_readsOrder, cX8_readsOrder, 1, (some .boolean), 8, 3, 63), (yX8_findFault, cX8_findFault, 1, (some .int), 8, 4, 83)]
def evMT_11 : List (evMI) := [(yX8_fault, cX8_fault, 1, (some .int), 8, 5, 103), (yX8_whyNotDone, cX8_whyNotDone, 1, (some .int), 8, 3, 65), (yX8_does, cX8_does, 1, none, 8, 6, 137), (yX8_carryOut, cX8_carryOut, 3, (some .int), 8, 7, 157), (yX8_undo, cX8_undo, 1, (some .int), 8, 1, 24), (yX8_save, cX8_save, 2, (some .int), 8, 1, 24), (yX8_restore, cX8_restore, 2, (some .int), 8, 2, 45), (yJxe99ae_isNaN_b9ae7, cJxe99ae_isNaN_b9ae7, 2, (some .boolean), 10, 0, 0), (yJxe99ae_doubleToLongBits_ccdee, cJxe99ae_doubleToLongBits_ccdee, 2, (some .long), 10, 1, 26), (yJxf58ca_isNaN_12338, cJxf58ca_isNaN_12338, 1, (some .boolean), 11, 0, 0), (yJxf58ca_floatToIntBits_5c35a, cJxf58ca_floatToIntBits_5c35a, 1, (some .int), 11, 1, 26), (yJ9_floorMod_7cf53, cJ9_floorMod_7cf53, 3, (some .int), 12, 0, 0), (yJ9_max_7cf53, cJ9_max_7cf53, 2, (some .int), 12, 0, 0), (yJ9_min_7cf53, cJ9_min_7cf53, 2, (some .int), 12, 0, 0), (yL_law, cL_law, 4, (some .boolean), 9, 8, 191)]
def evMT : List (evMI) := evMT_1 ++ (evMT_2 ++ (evMT_3 ++ (evMT_4 ++ (evMT_5 ++ (evMT_6 ++ (evMT_7 ++ (evMT_8 ++ (evMT_9 ++ (evMT_10 ++ (evMT_11))))))))))
abbrev mX0_init : Nat := 0
abbrev mX0_write : Nat := 1
abbrev mX0_clear : Nat := 2
abbrev mX0_copyFrom : Nat := 3
abbrev mX0_isAbove : Nat := 4
abbrev mX1_init : Nat := 5
abbrev mX1_copyFrom : Nat := 6
abbrev mX2_init : Nat := 7
abbrev mX2_copyFrom : Nat := 8
abbrev mX2_copyRows : Nat := 9
abbrev mX2_bidderAt : Nat := 10
abbrev mX2_lotAt : Nat := 11
abbrev mX2_settingAt : Nat := 12
abbrev mX2_changeSetting : Nat := 13
abbrev mX2_addBidder : Nat := 14
abbrev mX2_changePlan : Nat := 15
abbrev mX2_addLot : Nat := 16
abbrev mX2_tellBid : Nat := 17
abbrev mX2_letPass : Nat := 18
abbrev mX2_playOut : Nat := 19
abbrev mX2_hasLotsLeft : Nat := 20
abbrev mX2_playRound : Nat := 21
abbrev mX2_beginLot : Nat := 22
abbrev mX2_takeBids : Nat := 23
abbrev mX2_chooseBid : Nat := 24
abbrev mX2_believed : Nat := 25
abbrev mX2_noteBid : Nat := 26
abbrev mX2_echoRound : Nat := 27
abbrev mX2_endLot : Nat := 28
abbrev mX2_priceOf : Nat := 29
abbrev mX2_lotsSold : Nat := 30
abbrev mX2_coinsPaid : Nat := 31
abbrev mX2_worthSold : Nat := 32
abbrev mX2_bidsMade : Nat := 33
abbrev mX2_shadowsMade : Nat := 34
abbrev mX3_init : Nat := 35
abbrev mX3_prepare : Nat := 36
abbrev mX3_settle : Nat := 37
abbrev mX3_takeBack : Nat := 38
abbrev mX4_init : Nat := 39
abbrev mX4_copyFrom : Nat := 40
abbrev mX5_init : Nat := 41
abbrev mX5_append : Nat := 42
abbrev mX5_countSigns : Nat := 43
abbrev mX5_empty : Nat := 44
abbrev mX5_findFault : Nat := 45
abbrev mX5_rewind : Nat := 46
abbrev mX5_readOrder : Nat := 47
abbrev mX5_sign : Nat := 48
abbrev mX5_atDigit : Nat := 49
abbrev mX5_expect : Nat := 50
abbrev mX5_readDigit : Nat := 51
abbrev mX5_readNumber : Nat := 52
abbrev mX6_init : Nat := 53
abbrev mX6_copyFrom : Nat := 54
abbrev mX6_clear : Nat := 55
abbrev mX6_add : Nat := 56
abbrev mX6_knows : Nat := 57
abbrev mX6_at : Nat := 58
abbrev mX7_init : Nat := 59
abbrev mX7_set : Nat := 60
abbrev mX7_bidder : Nat := 61
abbrev mX7_plan : Nat := 62
abbrev mX7_lot : Nat := 63
abbrev mX7_bid : Nat := 64
abbrev mX7_pass : Nat := 65
abbrev mX7_of : Nat := 66
abbrev mX7_ofLot : Nat := 67
abbrev mX7_made : Nat := 68
abbrev mX7_count : Nat := 69
abbrev mX7_shadows : Nat := 70
abbrev mX7_dear : Nat := 71
abbrev mX7_endsIn : Nat := 72
abbrev mX7_ifLag : Nat := 73
abbrev mX7_bestPlan : Nat := 74
abbrev mX7_put : Nat := 75
abbrev mX7_wipe : Nat := 76
abbrev mX7_fault : Nat := 77
abbrev mX7_carryOut : Nat := 78
abbrev mX7_undo : Nat := 79
abbrev mX7_save : Nat := 80
abbrev mX7_restore : Nat := 81
abbrev mX7_gainWith : Nat := 82
abbrev mX7_carryOrder : Nat := 83
abbrev mX7_floatBits : Nat := 84
abbrev mX7_doubleBits : Nat := 85
abbrev mX8_init : Nat := 86
abbrev mX8_moves : Nat := 87
abbrev mX8_within : Nat := 88
abbrev mX8_record : Nat := 89
abbrev mX8_isBidder : Nat := 90
abbrev mX8_isLot : Nat := 91
abbrev mX8_bidderPart : Nat := 92
abbrev mX8_setBidder : Nat := 93
abbrev mX8_adds : Nat := 94
abbrev mX8_lotPart : Nat := 95
abbrev mX8_setLot : Nat := 96
abbrev mX8_ofAll : Nat := 97
abbrev mX8_withHow : Nat := 98
abbrev mX8_firstWaiting : Nat := 99
abbrev mX8_hears : Nat := 100
abbrev mX8_believes : Nat := 101
abbrev mX8_limitOf : Nat := 102
abbrev mX8_bidOf : Nat := 103
abbrev mX8_begins : Nat := 104
abbrev mX8_keepsBest : Nat := 105
abbrev mX8_keepsMade : Nat := 106
abbrev mX8_makesBids : Nat := 107
abbrev mX8_grows : Nat := 108
abbrev mX8_priceOf : Nat := 109
abbrev mX8_ends : Nat := 110
abbrev mX8_runsOn : Nat := 111
abbrev mX8_round : Nat := 112
abbrev mX8_passes : Nat := 113
abbrev mX8_isValue : Nat := 114
abbrev mX8_set : Nat := 115
abbrev mX8_whyNoBidder : Nat := 116
abbrev mX8_comes : Nat := 117
abbrev mX8_bidder : Nat := 118
abbrev mX8_plan : Nat := 119
abbrev mX8_whyNoLot : Nat := 120
abbrev mX8_lotComes : Nat := 121
abbrev mX8_lot : Nat := 122
abbrev mX8_whyNotTold : Nat := 123
abbrev mX8_bid : Nat := 124
abbrev mX8_whyNotPassed : Nat := 125
abbrev mX8_pass : Nat := 126
abbrev mX8_belief : Nat := 127
abbrev mX8_of : Nat := 128
abbrev mX8_ofLot : Nat := 129
abbrev mX8_made : Nat := 130
abbrev mX8_count : Nat := 131
abbrev mX8_shadows : Nat := 132
abbrev mX8_dear : Nat := 133
abbrev mX8_hasLots : Nat := 134
abbrev mX8_endsIn : Nat := 135
abbrev mX8_goesFar : Nat := 136
abbrev mX8_ifLag : Nat := 137
abbrev mX8_gainOf : Nat := 138
abbrev mX8_bestPlan : Nat := 139
abbrev mX8_put : Nat := 140
abbrev mX8_wipe : Nat := 141
abbrev mX8_character : Nat := 142
abbrev mX8_isNext : Nat := 143
abbrev mX8_isDigit : Nat := 144
abbrev mX8_takes : Nat := 145
abbrev mX8_takesDigit : Nat := 146
abbrev mX8_takesNumber : Nat := 147
abbrev mX8_readsOrder : Nat := 148
abbrev mX8_findFault : Nat := 149
abbrev mX8_fault : Nat := 150
abbrev mX8_whyNotDone : Nat := 151
abbrev mX8_does : Nat := 152
abbrev mX8_carryOut : Nat := 153
abbrev mX8_undo : Nat := 154
abbrev mX8_save : Nat := 155
abbrev mX8_restore : Nat := 156
abbrev mJxe99ae_isNaN_b9ae7 : Nat := 157
abbrev mJxe99ae_doubleToLongBits_ccdee : Nat := 158
abbrev mJxf58ca_isNaN_12338 : Nat := 159
abbrev mJxf58ca_floatToIntBits_5c35a : Nat := 160
abbrev mJ9_floorMod_7cf53 : Nat := 161
abbrev mJ9_max_7cf53 : Nat := 162
abbrev mJ9_min_7cf53 : Nat := 163
abbrev mL_law : Nat := 164
def evM0 : evMI := (yX0_init, cX0_init, 0, none, 0, 0, 0)
def evName (y : Nat) : MethodName := (evMT.getD y evM0).1
def evCode (y : Nat) : ByteArray := (evMT.getD y evM0).2.1
def evML (y : Nat) : Nat := (evMT.getD y evM0).2.2.1
def evRet (y : Nat) : Option FieldType := (evMT.getD y evM0).2.2.2.1
def evOw (y : Nat) : Nat := (evMT.getD y evM0).2.2.2.2.1
def evFr (y : Nat) : Nat := (evMT.getD y evM0).2.2.2.2.2.1
def evLo (y : Nat) : Nat := (evMT.getD y evM0).2.2.2.2.2.2
def evMok (q : evMI) : Prop := Cond.code q.1 q.2.1 q.2.2.1 q.2.2.2.1 ∈ lw_tbl
set_option maxRecDepth 100000 in
theorem evc_0 : evMok (yX0_init, cX0_init, 1, none, 0, 1, 20) := List.mem_of_getElem? (i := 117) rfl
set_option maxRecDepth 100000 in
theorem evc_1 : evMok (yX0_write, cX0_write, 4, none, 0, 0, 0) := List.mem_of_getElem? (i := 353) rfl
set_option maxRecDepth 100000 in
theorem evc_2 : evMok (yX0_clear, cX0_clear, 1, none, 0, 1, 23) := List.mem_of_getElem? (i := 443) rfl
set_option maxRecDepth 100000 in
theorem evc_3 : evMok (yX0_copyFrom, cX0_copyFrom, 2, none, 0, 1, 23) := List.mem_of_getElem? (i := 349) rfl
set_option maxRecDepth 100000 in
theorem evc_4 : evMok (yX0_isAbove, cX0_isAbove, 2, (some .boolean), 0, 0, 0) := List.mem_of_getElem? (i := 462) rfl
set_option maxRecDepth 100000 in
theorem evc_5 : evMok (yX1_init, cX1_init, 1, none, 1, 2, 40) := List.mem_of_getElem? (i := 111) rfl
set_option maxRecDepth 100000 in
theorem evc_6 : evMok (yX1_copyFrom, cX1_copyFrom, 2, none, 1, 2, 44) := List.mem_of_getElem? (i := 345) rfl
set_option maxRecDepth 100000 in
theorem evc_7 : evMok (yX2_init, cX2_init, 2, none, 2, 3, 60) := List.mem_of_getElem? (i := 86) rfl
set_option maxRecDepth 100000 in
theorem evc_8 : evMok (yX2_copyFrom, cX2_copyFrom, 2, none, 2, 4, 87) := List.mem_of_getElem? (i := 334) rfl
set_option maxRecDepth 100000 in
theorem evc_9 : evMok (yX2_copyRows, cX2_copyRows, 3, none, 2, 3, 65) := List.mem_of_getElem? (i := 341) rfl
set_option maxRecDepth 100000 in
theorem evc_10 : evMok (yX2_bidderAt, cX2_bidderAt, 2, (some (.object "EchoBids$Bidder")), 2, 0, 0) := List.mem_of_getElem? (i := 391) rfl
set_option maxRecDepth 100000 in
theorem evc_11 : evMok (yX2_lotAt, cX2_lotAt, 2, (some (.object "EchoBids$Lot")), 2, 0, 0) := List.mem_of_getElem? (i := 411) rfl
set_option maxRecDepth 100000 in
theorem evc_12 : evMok (yX2_settingAt, cX2_settingAt, 2, (some .int), 2, 0, 0) := List.mem_of_getElem? (i := 455) rfl
set_option maxRecDepth 100000 in
theorem evc_13 : evMok (yX2_changeSetting, cX2_changeSetting, 4, (some .int), 2, 0, 0) := List.mem_of_getElem? (i := 368) rfl
set_option maxRecDepth 100000 in
theorem evc_14 : evMok (yX2_addBidder, cX2_addBidder, 4, (some .int), 2, 1, 21) := List.mem_of_getElem? (i := 387) rfl
set_option maxRecDepth 100000 in
theorem evc_15 : evMok (yX2_changePlan, cX2_changePlan, 5, (some .int), 2, 1, 21) := List.mem_of_getElem? (i := 399) rfl
set_option maxRecDepth 100000 in
theorem evc_16 : evMok (yX2_addLot, cX2_addLot, 3, (some .int), 2, 1, 21) := List.mem_of_getElem? (i := 407) rfl
set_option maxRecDepth 100000 in
theorem evc_17 : evMok (yX2_tellBid, cX2_tellBid, 5, (some .int), 2, 1, 21) := List.mem_of_getElem? (i := 419) rfl
set_option maxRecDepth 100000 in
theorem evc_18 : evMok (yX2_letPass, cX2_letPass, 4, (some .int), 2, 5, 119) := List.mem_of_getElem? (i := 427) rfl
set_option maxRecDepth 100000 in
theorem evc_19 : evMok (yX2_playOut, cX2_playOut, 3, none, 2, 5, 119) := List.mem_of_getElem? (i := 579) rfl
set_option maxRecDepth 100000 in
theorem evc_20 : evMok (yX2_hasLotsLeft, cX2_hasLotsLeft, 1, (some .boolean), 2, 0, 0) := List.mem_of_getElem? (i := 569) rfl
set_option maxRecDepth 100000 in
theorem evc_21 : evMok (yX2_playRound, cX2_playRound, 3, (some .boolean), 2, 4, 97) := List.mem_of_getElem? (i := 431) rfl
set_option maxRecDepth 100000 in
theorem evc_22 : evMok (yX2_beginLot, cX2_beginLot, 3, none, 2, 2, 43) := List.mem_of_getElem? (i := 435) rfl
set_option maxRecDepth 100000 in
theorem evc_23 : evMok (yX2_takeBids, cX2_takeBids, 7, none, 2, 3, 71) := List.mem_of_getElem? (i := 447) rfl
set_option maxRecDepth 100000 in
theorem evc_24 : evMok (yX2_chooseBid, cX2_chooseBid, 7, (some .int), 2, 1, 21) := List.mem_of_getElem? (i := 466) rfl
set_option maxRecDepth 100000 in
theorem evc_25 : evMok (yX2_believed, cX2_believed, 3, (some (.object "EchoBids$Bid")), 2, 1, 22) := List.mem_of_getElem? (i := 451) rfl
set_option maxRecDepth 100000 in
theorem evc_26 : evMok (yX2_noteBid, cX2_noteBid, 5, none, 2, 2, 47) := List.mem_of_getElem? (i := 471) rfl
set_option maxRecDepth 100000 in
theorem evc_27 : evMok (yX2_echoRound, cX2_echoRound, 4, none, 2, 2, 44) := List.mem_of_getElem? (i := 481) rfl
set_option maxRecDepth 100000 in
theorem evc_28 : evMok (yX2_endLot, cX2_endLot, 3, none, 2, 2, 45) := List.mem_of_getElem? (i := 485) rfl
set_option maxRecDepth 100000 in
theorem evc_29 : evMok (yX2_priceOf, cX2_priceOf, 5, (some .int), 2, 1, 21) := List.mem_of_getElem? (i := 489) rfl
set_option maxRecDepth 100000 in
theorem evc_30 : evMok (yX2_lotsSold, cX2_lotsSold, 4, (some .int), 2, 1, 21) := List.mem_of_getElem? (i := 523) rfl
set_option maxRecDepth 100000 in
theorem evc_31 : evMok (yX2_coinsPaid, cX2_coinsPaid, 4, (some .int), 2, 1, 21) := List.mem_of_getElem? (i := 527) rfl
set_option maxRecDepth 100000 in
theorem evc_32 : evMok (yX2_worthSold, cX2_worthSold, 4, (some .int), 2, 1, 21) := List.mem_of_getElem? (i := 553) rfl
set_option maxRecDepth 100000 in
theorem evc_33 : evMok (yX2_bidsMade, cX2_bidsMade, 4, (some .int), 2, 1, 21) := List.mem_of_getElem? (i := 531) rfl
set_option maxRecDepth 100000 in
theorem evc_34 : evMok (yX2_shadowsMade, cX2_shadowsMade, 4, (some .int), 2, 1, 21) := List.mem_of_getElem? (i := 535) rfl
set_option maxRecDepth 100000 in
theorem evc_35 : evMok (yX3_init, cX3_init, 2, none, 3, 4, 81) := List.mem_of_getElem? (i := 256) rfl
set_option maxRecDepth 100000 in
theorem evc_36 : evMok (yX3_prepare, cX3_prepare, 2, none, 3, 5, 108) := List.mem_of_getElem? (i := 330) rfl
set_option maxRecDepth 100000 in
theorem evc_37 : evMok (yX3_settle, cX3_settle, 2, (some .int), 3, 1, 21) := List.mem_of_getElem? (i := 376) rfl
set_option maxRecDepth 100000 in
theorem evc_38 : evMok (yX3_takeBack, cX3_takeBack, 2, (some .int), 3, 5, 108) := List.mem_of_getElem? (i := 665) rfl
set_option maxRecDepth 100000 in
theorem evc_39 : evMok (yX4_init, cX4_init, 1, none, 4, 2, 40) := List.mem_of_getElem? (i := 181) rfl
set_option maxRecDepth 100000 in
theorem evc_40 : evMok (yX4_copyFrom, cX4_copyFrom, 2, none, 4, 2, 44) := List.mem_of_getElem? (i := 357) rfl
set_option maxRecDepth 100000 in
theorem evc_41 : evMok (yX5_init, cX5_init, 1, none, 5, 1, 20) := List.mem_of_getElem? (i := 276) rfl
set_option maxRecDepth 100000 in
theorem evc_42 : evMok (yX5_append, cX5_append, 5, (some .int), 5, 1, 26) := List.mem_of_getElem? (i := 597) rfl
set_option maxRecDepth 100000 in
theorem evc_43 : evMok (yX5_countSigns, cX5_countSigns, 7, (some .int), 5, 0, 0) := List.mem_of_getElem? (i := 600) rfl
set_option maxRecDepth 100000 in
theorem evc_44 : evMok (yX5_empty, cX5_empty, 2, (some .int), 5, 0, 0) := List.mem_of_getElem? (i := 611) rfl
set_option maxRecDepth 100000 in
theorem evc_45 : evMok (yX5_findFault, cX5_findFault, 2, (some .int), 5, 5, 105) := List.mem_of_getElem? (i := 619) rfl
set_option maxRecDepth 100000 in
theorem evc_46 : evMok (yX5_rewind, cX5_rewind, 1, none, 5, 0, 0) := List.mem_of_getElem? (i := 623) rfl
set_option maxRecDepth 100000 in
theorem evc_47 : evMok (yX5_readOrder, cX5_readOrder, 1, (some .boolean), 5, 4, 85) := List.mem_of_getElem? (i := 627) rfl
set_option maxRecDepth 100000 in
theorem evc_48 : evMok (yX5_sign, cX5_sign, 1, (some .int), 5, 0, 0) := List.mem_of_getElem? (i := 631) rfl
set_option maxRecDepth 100000 in
theorem evc_49 : evMok (yX5_atDigit, cX5_atDigit, 2, (some .boolean), 5, 1, 20) := List.mem_of_getElem? (i := 643) rfl
set_option maxRecDepth 100000 in
theorem evc_50 : evMok (yX5_expect, cX5_expect, 2, none, 5, 1, 20) := List.mem_of_getElem? (i := 647) rfl
set_option maxRecDepth 100000 in
theorem evc_51 : evMok (yX5_readDigit, cX5_readDigit, 2, (some .int), 5, 2, 41) := List.mem_of_getElem? (i := 639) rfl
set_option maxRecDepth 100000 in
theorem evc_52 : evMok (yX5_readNumber, cX5_readNumber, 4, (some .int), 5, 3, 62) := List.mem_of_getElem? (i := 635) rfl
set_option maxRecDepth 100000 in
theorem evc_53 : evMok (yX6_init, cX6_init, 1, none, 6, 1, 20) := List.mem_of_getElem? (i := 98) rfl
set_option maxRecDepth 100000 in
theorem evc_54 : evMok (yX6_copyFrom, cX6_copyFrom, 2, none, 6, 1, 26) := List.mem_of_getElem? (i := 363) rfl
set_option maxRecDepth 100000 in
theorem evc_55 : evMok (yX6_clear, cX6_clear, 1, none, 6, 0, 0) := List.mem_of_getElem? (i := 439) rfl
set_option maxRecDepth 100000 in
theorem evc_56 : evMok (yX6_add, cX6_add, 6, none, 6, 1, 22) := List.mem_of_getElem? (i := 476) rfl
set_option maxRecDepth 100000 in
theorem evc_57 : evMok (yX6_knows, cX6_knows, 2, (some .boolean), 6, 0, 0) := List.mem_of_getElem? (i := 511) rfl
set_option maxRecDepth 100000 in
theorem evc_58 : evMok (yX6_at, cX6_at, 4, (some .int), 6, 1, 22) := List.mem_of_getElem? (i := 515) rfl
set_option maxRecDepth 100000 in
theorem evc_59 : evMok (yX7_init, cX7_init, 1, none, 7, 5, 102) := List.mem_of_getElem? (i := 78) rfl
set_option maxRecDepth 100000 in
theorem evc_60 : evMok (yX7_set, cX7_set, 3, (some .int), 7, 6, 129) := List.mem_of_getElem? (i := 326) rfl
set_option maxRecDepth 100000 in
theorem evc_61 : evMok (yX7_bidder, cX7_bidder, 3, (some .int), 7, 6, 129) := List.mem_of_getElem? (i := 383) rfl
set_option maxRecDepth 100000 in
theorem evc_62 : evMok (yX7_plan, cX7_plan, 3, (some .int), 7, 6, 129) := List.mem_of_getElem? (i := 395) rfl
set_option maxRecDepth 100000 in
theorem evc_63 : evMok (yX7_lot, cX7_lot, 2, (some .int), 7, 6, 129) := List.mem_of_getElem? (i := 403) rfl
set_option maxRecDepth 100000 in
theorem evc_64 : evMok (yX7_bid, cX7_bid, 3, (some .int), 7, 6, 129) := List.mem_of_getElem? (i := 415) rfl
set_option maxRecDepth 100000 in
theorem evc_65 : evMok (yX7_pass, cX7_pass, 2, (some .int), 7, 6, 142) := List.mem_of_getElem? (i := 423) rfl
set_option maxRecDepth 100000 in
theorem evc_66 : evMok (yX7_of, cX7_of, 4, (some .int), 7, 2, 44) := List.mem_of_getElem? (i := 496) rfl
set_option maxRecDepth 100000 in
theorem evc_67 : evMok (yX7_ofLot, cX7_ofLot, 4, (some .int), 7, 1, 21) := List.mem_of_getElem? (i := 502) rfl
set_option maxRecDepth 100000 in
theorem evc_68 : evMok (yX7_made, cX7_made, 3, (some .int), 7, 2, 45) := List.mem_of_getElem? (i := 507) rfl
set_option maxRecDepth 100000 in
theorem evc_69 : evMok (yX7_count, cX7_count, 2, (some .int), 7, 2, 44) := List.mem_of_getElem? (i := 519) rfl
set_option maxRecDepth 100000 in
theorem evc_70 : evMok (yX7_shadows, cX7_shadows, 2, (some .int), 7, 2, 44) := List.mem_of_getElem? (i := 540) rfl
set_option maxRecDepth 100000 in
theorem evc_71 : evMok (yX7_dear, cX7_dear, 2, (some .long), 7, 2, 44) := List.mem_of_getElem? (i := 549) rfl
set_option maxRecDepth 100000 in
theorem evc_72 : evMok (yX7_endsIn, cX7_endsIn, 2, (some .int), 7, 5, 119) := List.mem_of_getElem? (i := 565) rfl
set_option maxRecDepth 100000 in
theorem evc_73 : evMok (yX7_ifLag, cX7_ifLag, 2, (some .int), 7, 6, 141) := List.mem_of_getElem? (i := 575) rfl
set_option maxRecDepth 100000 in
theorem evc_74 : evMok (yX7_bestPlan, cX7_bestPlan, 7, (some .int), 7, 7, 165) := List.mem_of_getElem? (i := 584) rfl
set_option maxRecDepth 100000 in
theorem evc_75 : evMok (yX7_put, cX7_put, 3, (some .int), 7, 2, 50) := List.mem_of_getElem? (i := 593) rfl
set_option maxRecDepth 100000 in
theorem evc_76 : evMok (yX7_wipe, cX7_wipe, 1, (some .int), 7, 1, 21) := List.mem_of_getElem? (i := 607) rfl
set_option maxRecDepth 100000 in
theorem evc_77 : evMok (yX7_fault, cX7_fault, 1, (some .int), 7, 6, 126) := List.mem_of_getElem? (i := 615) rfl
set_option maxRecDepth 100000 in
theorem evc_78 : evMok (yX7_carryOut, cX7_carryOut, 2, (some .int), 7, 7, 162) := List.mem_of_getElem? (i := 651) rfl
set_option maxRecDepth 100000 in
theorem evc_79 : evMok (yX7_undo, cX7_undo, 1, (some .int), 7, 6, 129) := List.mem_of_getElem? (i := 661) rfl
set_option maxRecDepth 100000 in
theorem evc_80 : evMok (yX7_save, cX7_save, 3, (some .int), 7, 5, 108) := List.mem_of_getElem? (i := 669) rfl
set_option maxRecDepth 100000 in
theorem evc_81 : evMok (yX7_restore, cX7_restore, 3, (some .int), 7, 6, 129) := List.mem_of_getElem? (i := 673) rfl
set_option maxRecDepth 100000 in
theorem evc_82 : evMok (yX7_gainWith, cX7_gainWith, 5, (some .int), 7, 6, 141) := List.mem_of_getElem? (i := 588) rfl
set_option maxRecDepth 100000 in
theorem evc_83 : evMok (yX7_carryOrder, cX7_carryOrder, 1, (some .int), 7, 6, 142) := List.mem_of_getElem? (i := 657) rfl
set_option maxRecDepth 100000 in
theorem evc_84 : evMok (yX7_floatBits, cX7_floatBits, 4, (some .int), 7, 0, 0) := List.mem_of_getElem? (i := 543) rfl
set_option maxRecDepth 100000 in
theorem evc_85 : evMok (yX7_doubleBits, cX7_doubleBits, 8, (some .long), 7, 0, 0) := List.mem_of_getElem? (i := 556) rfl
set_option maxRecDepth 100000 in
theorem evc_86 : evMok (yX8_init, cX8_init, 1, none, 8, 1, 20) := List.mem_of_getElem? (i := 678) rfl
set_option maxRecDepth 100000 in
theorem evc_87 : evMok (yX8_moves, cX8_moves, 5, none, 8, 0, 0) := List.mem_of_getElem? (i := 745) rfl
set_option maxRecDepth 100000 in
theorem evc_88 : evMok (yX8_within, cX8_within, 3, (some .boolean), 8, 0, 0) := List.mem_of_getElem? (i := 738) rfl
set_option maxRecDepth 100000 in
theorem evc_89 : evMok (yX8_record, cX8_record, 2, none, 8, 1, 24) := List.mem_of_getElem? (i := 742) rfl
set_option maxRecDepth 100000 in
theorem evc_90 : evMok (yX8_isBidder, cX8_isBidder, 2, (some .boolean), 8, 1, 22) := List.mem_of_getElem? (i := 769) rfl
set_option maxRecDepth 100000 in
theorem evc_91 : evMok (yX8_isLot, cX8_isLot, 2, (some .boolean), 8, 1, 22) := List.mem_of_getElem? (i := 889) rfl
set_option maxRecDepth 100000 in
theorem evc_92 : evMok (yX8_bidderPart, cX8_bidderPart, 3, (some .int), 8, 0, 0) := List.mem_of_getElem? (i := 773) rfl
set_option maxRecDepth 100000 in
theorem evc_93 : evMok (yX8_setBidder, cX8_setBidder, 4, none, 8, 0, 0) := List.mem_of_getElem? (i := 761) rfl
set_option maxRecDepth 100000 in
theorem evc_94 : evMok (yX8_adds, cX8_adds, 4, none, 8, 0, 0) := List.mem_of_getElem? (i := 853) rfl
set_option maxRecDepth 100000 in
theorem evc_95 : evMok (yX8_lotPart, cX8_lotPart, 3, (some .int), 8, 0, 0) := List.mem_of_getElem? (i := 821) rfl
set_option maxRecDepth 100000 in
theorem evc_96 : evMok (yX8_setLot, cX8_setLot, 4, none, 8, 0, 0) := List.mem_of_getElem? (i := 789) rfl
set_option maxRecDepth 100000 in
theorem evc_97 : evMok (yX8_ofAll, cX8_ofAll, 4, (some .int), 8, 1, 22) := List.mem_of_getElem? (i := 905) rfl
set_option maxRecDepth 100000 in
theorem evc_98 : evMok (yX8_withHow, cX8_withHow, 4, (some .int), 8, 1, 22) := List.mem_of_getElem? (i := 901) rfl
set_option maxRecDepth 100000 in
theorem evc_99 : evMok (yX8_firstWaiting, cX8_firstWaiting, 3, (some .int), 8, 1, 22) := List.mem_of_getElem? (i := 817) rfl
set_option maxRecDepth 100000 in
theorem evc_100 : evMok (yX8_hears, cX8_hears, 5, none, 8, 0, 0) := List.mem_of_getElem? (i := 841) rfl
set_option maxRecDepth 100000 in
theorem evc_101 : evMok (yX8_believes, cX8_believes, 4, none, 8, 1, 24) := List.mem_of_getElem? (i := 837) rfl
set_option maxRecDepth 100000 in
theorem evc_102 : evMok (yX8_limitOf, cX8_limitOf, 3, (some .int), 8, 1, 22) := List.mem_of_getElem? (i := 845) rfl
set_option maxRecDepth 100000 in
theorem evc_103 : evMok (yX8_bidOf, cX8_bidOf, 4, (some .int), 8, 2, 47) := List.mem_of_getElem? (i := 833) rfl
set_option maxRecDepth 100000 in
theorem evc_104 : evMok (yX8_begins, cX8_begins, 3, none, 8, 1, 23) := List.mem_of_getElem? (i := 825) rfl
set_option maxRecDepth 100000 in
theorem evc_105 : evMok (yX8_keepsBest, cX8_keepsBest, 5, none, 8, 0, 0) := List.mem_of_getElem? (i := 857) rfl
set_option maxRecDepth 100000 in
theorem evc_106 : evMok (yX8_keepsMade, cX8_keepsMade, 5, none, 8, 0, 0) := List.mem_of_getElem? (i := 861) rfl
set_option maxRecDepth 100000 in
theorem evc_107 : evMok (yX8_makesBids, cX8_makesBids, 6, (some .boolean), 8, 1, 24) := List.mem_of_getElem? (i := 849) rfl
set_option maxRecDepth 100000 in
theorem evc_108 : evMok (yX8_grows, cX8_grows, 3, none, 8, 1, 24) := List.mem_of_getElem? (i := 865) rfl
set_option maxRecDepth 100000 in
theorem evc_109 : evMok (yX8_priceOf, cX8_priceOf, 5, (some .int), 8, 1, 22) := List.mem_of_getElem? (i := 873) rfl
set_option maxRecDepth 100000 in
theorem evc_110 : evMok (yX8_ends, cX8_ends, 4, none, 8, 2, 46) := List.mem_of_getElem? (i := 869) rfl
set_option maxRecDepth 100000 in
theorem evc_111 : evMok (yX8_runsOn, cX8_runsOn, 3, (some .boolean), 8, 3, 70) := List.mem_of_getElem? (i := 829) rfl
set_option maxRecDepth 100000 in
theorem evc_112 : evMok (yX8_round, cX8_round, 3, (some .int), 8, 4, 92) := List.mem_of_getElem? (i := 813) rfl
set_option maxRecDepth 100000 in
theorem evc_113 : evMok (yX8_passes, cX8_passes, 4, (some .int), 8, 5, 114) := List.mem_of_getElem? (i := 809) rfl
set_option maxRecDepth 100000 in
theorem evc_114 : evMok (yX8_isValue, cX8_isValue, 2, (some .boolean), 8, 1, 22) := List.mem_of_getElem? (i := 735) rfl
set_option maxRecDepth 100000 in
theorem evc_115 : evMok (yX8_set, cX8_set, 4, (some .int), 8, 2, 45) := List.mem_of_getElem? (i := 732) rfl
set_option maxRecDepth 100000 in
theorem evc_116 : evMok (yX8_whyNoBidder, cX8_whyNoBidder, 3, (some .int), 8, 1, 22) := List.mem_of_getElem? (i := 753) rfl
set_option maxRecDepth 100000 in
theorem evc_117 : evMok (yX8_comes, cX8_comes, 5, (some .int), 8, 1, 23) := List.mem_of_getElem? (i := 757) rfl
set_option maxRecDepth 100000 in
theorem evc_118 : evMok (yX8_bidder, cX8_bidder, 4, (some .int), 8, 2, 47) := List.mem_of_getElem? (i := 749) rfl
set_option maxRecDepth 100000 in
theorem evc_119 : evMok (yX8_plan, cX8_plan, 4, (some .int), 8, 2, 45) := List.mem_of_getElem? (i := 765) rfl
set_option maxRecDepth 100000 in
theorem evc_120 : evMok (yX8_whyNoLot, cX8_whyNoLot, 2, (some .int), 8, 1, 22) := List.mem_of_getElem? (i := 781) rfl
set_option maxRecDepth 100000 in
theorem evc_121 : evMok (yX8_lotComes, cX8_lotComes, 3, (some .int), 8, 1, 23) := List.mem_of_getElem? (i := 785) rfl
set_option maxRecDepth 100000 in
theorem evc_122 : evMok (yX8_lot, cX8_lot, 3, (some .int), 8, 2, 45) := List.mem_of_getElem? (i := 777) rfl
set_option maxRecDepth 100000 in
theorem evc_123 : evMok (yX8_whyNotTold, cX8_whyNotTold, 3, (some .int), 8, 2, 43) := List.mem_of_getElem? (i := 797) rfl
set_option maxRecDepth 100000 in
theorem evc_124 : evMok (yX8_bid, cX8_bid, 5, (some .int), 8, 3, 65) := List.mem_of_getElem? (i := 793) rfl
set_option maxRecDepth 100000 in
theorem evc_125 : evMok (yX8_whyNotPassed, cX8_whyNotPassed, 2, (some .int), 8, 1, 22) := List.mem_of_getElem? (i := 805) rfl
set_option maxRecDepth 100000 in
theorem evc_126 : evMok (yX8_pass, cX8_pass, 3, (some .int), 8, 6, 137) := List.mem_of_getElem? (i := 801) rfl
set_option maxRecDepth 100000 in
theorem evc_127 : evMok (yX8_belief, cX8_belief, 3, (some .int), 8, 2, 47) := List.mem_of_getElem? (i := 881) rfl
set_option maxRecDepth 100000 in
theorem evc_128 : evMok (yX8_of, cX8_of, 3, (some .int), 8, 3, 69) := List.mem_of_getElem? (i := 877) rfl
set_option maxRecDepth 100000 in
theorem evc_129 : evMok (yX8_ofLot, cX8_ofLot, 3, (some .int), 8, 2, 43) := List.mem_of_getElem? (i := 885) rfl
set_option maxRecDepth 100000 in
theorem evc_130 : evMok (yX8_made, cX8_made, 3, (some .int), 8, 1, 22) := List.mem_of_getElem? (i := 893) rfl
set_option maxRecDepth 100000 in
theorem evc_131 : evMok (yX8_count, cX8_count, 2, (some .int), 8, 2, 45) := List.mem_of_getElem? (i := 897) rfl
set_option maxRecDepth 100000 in
theorem evc_132 : evMok (yX8_shadows, cX8_shadows, 2, (some .int), 8, 2, 46) := List.mem_of_getElem? (i := 909) rfl
set_option maxRecDepth 100000 in
theorem evc_133 : evMok (yX8_dear, cX8_dear, 2, (some .long), 8, 2, 47) := List.mem_of_getElem? (i := 923) rfl
set_option maxRecDepth 100000 in
theorem evc_134 : evMok (yX8_hasLots, cX8_hasLots, 1, (some .boolean), 8, 2, 44) := List.mem_of_getElem? (i := 941) rfl
set_option maxRecDepth 100000 in
theorem evc_135 : evMok (yX8_endsIn, cX8_endsIn, 4, (some .int), 8, 5, 114) := List.mem_of_getElem? (i := 937) rfl
set_option maxRecDepth 100000 in
theorem evc_136 : evMok (yX8_goesFar, cX8_goesFar, 2, none, 8, 5, 114) := List.mem_of_getElem? (i := 949) rfl
set_option maxRecDepth 100000 in
theorem evc_137 : evMok (yX8_ifLag, cX8_ifLag, 3, (some .int), 8, 6, 135) := List.mem_of_getElem? (i := 945) rfl
set_option maxRecDepth 100000 in
theorem evc_138 : evMok (yX8_gainOf, cX8_gainOf, 2, (some .int), 8, 1, 22) := List.mem_of_getElem? (i := 957) rfl
set_option maxRecDepth 100000 in
theorem evc_139 : evMok (yX8_bestPlan, cX8_bestPlan, 9, (some .int), 8, 6, 135) := List.mem_of_getElem? (i := 953) rfl
set_option maxRecDepth 100000 in
theorem evc_140 : evMok (yX8_put, cX8_put, 8, (some .int), 8, 1, 22) := List.mem_of_getElem? (i := 962) rfl
set_option maxRecDepth 100000 in
theorem evc_141 : evMok (yX8_wipe, cX8_wipe, 2, (some .int), 8, 0, 0) := List.mem_of_getElem? (i := 967) rfl
set_option maxRecDepth 100000 in
theorem evc_142 : evMok (yX8_character, cX8_character, 2, (some .int), 8, 0, 0) := List.mem_of_getElem? (i := 983) rfl
set_option maxRecDepth 100000 in
theorem evc_143 : evMok (yX8_isNext, cX8_isNext, 3, (some .boolean), 8, 1, 21) := List.mem_of_getElem? (i := 999) rfl
set_option maxRecDepth 100000 in
theorem evc_144 : evMok (yX8_isDigit, cX8_isDigit, 1, (some .boolean), 8, 1, 22) := List.mem_of_getElem? (i := 991) rfl
set_option maxRecDepth 100000 in
theorem evc_145 : evMok (yX8_takes, cX8_takes, 2, none, 8, 0, 0) := List.mem_of_getElem? (i := 995) rfl
set_option maxRecDepth 100000 in
theorem evc_146 : evMok (yX8_takesDigit, cX8_takesDigit, 1, (some .boolean), 8, 2, 42) := List.mem_of_getElem? (i := 1003) rfl
set_option maxRecDepth 100000 in
theorem evc_147 : evMok (yX8_takesNumber, cX8_takesNumber, 2, (some .boolean), 8, 2, 42) := List.mem_of_getElem? (i := 987) rfl
set_option maxRecDepth 100000 in
theorem evc_148 : evMok (yX8_readsOrder, cX8_readsOrder, 1, (some .boolean), 8, 3, 63) := List.mem_of_getElem? (i := 979) rfl
set_option maxRecDepth 100000 in
theorem evc_149 : evMok (yX8_findFault, cX8_findFault, 1, (some .int), 8, 4, 83) := List.mem_of_getElem? (i := 975) rfl
set_option maxRecDepth 100000 in
theorem evc_150 : evMok (yX8_fault, cX8_fault, 1, (some .int), 8, 5, 103) := List.mem_of_getElem? (i := 971) rfl
set_option maxRecDepth 100000 in
theorem evc_151 : evMok (yX8_whyNotDone, cX8_whyNotDone, 1, (some .int), 8, 3, 65) := List.mem_of_getElem? (i := 1011) rfl
set_option maxRecDepth 100000 in
theorem evc_152 : evMok (yX8_does, cX8_does, 1, none, 8, 6, 137) := List.mem_of_getElem? (i := 1015) rfl
set_option maxRecDepth 100000 in
theorem evc_153 : evMok (yX8_carryOut, cX8_carryOut, 3, (some .int), 8, 7, 157) := List.mem_of_getElem? (i := 1007) rfl
set_option maxRecDepth 100000 in
theorem evc_154 : evMok (yX8_undo, cX8_undo, 1, (some .int), 8, 1, 24) := List.mem_of_getElem? (i := 1019) rfl
set_option maxRecDepth 100000 in
theorem evc_155 : evMok (yX8_save, cX8_save, 2, (some .int), 8, 1, 24) := List.mem_of_getElem? (i := 1023) rfl
set_option maxRecDepth 100000 in
theorem evc_156 : evMok (yX8_restore, cX8_restore, 2, (some .int), 8, 2, 45) := List.mem_of_getElem? (i := 1027) rfl
set_option maxRecDepth 100000 in
theorem evc_157 : evMok (yJxe99ae_isNaN_b9ae7, cJxe99ae_isNaN_b9ae7, 2, (some .boolean), 10, 0, 0) := List.mem_of_getElem? (i := 929) rfl
set_option maxRecDepth 100000 in
theorem evc_158 : evMok (yJxe99ae_doubleToLongBits_ccdee, cJxe99ae_doubleToLongBits_ccdee, 2, (some .long), 10, 1, 26) := List.mem_of_getElem? (i := 926) rfl
set_option maxRecDepth 100000 in
theorem evc_159 : evMok (yJxf58ca_isNaN_12338, cJxf58ca_isNaN_12338, 1, (some .boolean), 11, 0, 0) := List.mem_of_getElem? (i := 915) rfl
set_option maxRecDepth 100000 in
theorem evc_160 : evMok (yJxf58ca_floatToIntBits_5c35a, cJxf58ca_floatToIntBits_5c35a, 1, (some .int), 11, 1, 26) := List.mem_of_getElem? (i := 912) rfl
set_option maxRecDepth 100000 in
theorem evc_161 : evMok (yJ9_floorMod_7cf53, cJ9_floorMod_7cf53, 3, (some .int), 12, 0, 0) := List.mem_of_getElem? (i := 458) rfl
set_option maxRecDepth 100000 in
theorem evc_162 : evMok (yJ9_max_7cf53, cJ9_max_7cf53, 2, (some .int), 12, 0, 0) := List.mem_of_getElem? (i := 492) rfl
set_option maxRecDepth 100000 in
theorem evc_163 : evMok (yJ9_min_7cf53, cJ9_min_7cf53, 2, (some .int), 12, 0, 0) := List.mem_of_getElem? (i := 379) rfl
theorem evMT_ok_1 : ∀ q ∈ evMT_1, evMok q := List.forall_mem_cons.mpr ⟨evc_0, List.forall_mem_cons.mpr ⟨evc_1, List.forall_mem_cons.mpr ⟨evc_2, List.forall_mem_cons.mpr ⟨evc_3, List.forall_mem_cons.mpr ⟨evc_4, List.forall_mem_cons.mpr ⟨evc_5, List.forall_mem_cons.mpr ⟨evc_6, List.forall_mem_cons.mpr ⟨evc_7, List.forall_mem_cons.mpr ⟨evc_8, List.forall_mem_cons.mpr ⟨evc_9, List.forall_mem_cons.mpr ⟨evc_10, List.forall_mem_cons.mpr ⟨evc_11, List.forall_mem_cons.mpr ⟨evc_12, List.forall_mem_cons.mpr ⟨evc_13, List.forall_mem_cons.mpr ⟨evc_14, fun _ h => absurd h List.not_mem_nil⟩⟩⟩⟩⟩⟩⟩⟩⟩⟩⟩⟩⟩⟩⟩
theorem evMT_ok_2 : ∀ q ∈ evMT_2, evMok q := List.forall_mem_cons.mpr ⟨evc_15, List.forall_mem_cons.mpr ⟨evc_16, List.forall_mem_cons.mpr ⟨evc_17, List.forall_mem_cons.mpr ⟨evc_18, List.forall_mem_cons.mpr ⟨evc_19, List.forall_mem_cons.mpr ⟨evc_20, List.forall_mem_cons.mpr ⟨evc_21, List.forall_mem_cons.mpr ⟨evc_22, List.forall_mem_cons.mpr ⟨evc_23, List.forall_mem_cons.mpr ⟨evc_24, List.forall_mem_cons.mpr ⟨evc_25, List.forall_mem_cons.mpr ⟨evc_26, List.forall_mem_cons.mpr ⟨evc_27, List.forall_mem_cons.mpr ⟨evc_28, List.forall_mem_cons.mpr ⟨evc_29, fun _ h => absurd h List.not_mem_nil⟩⟩⟩⟩⟩⟩⟩⟩⟩⟩⟩⟩⟩⟩⟩
theorem evMT_ok_3 : ∀ q ∈ evMT_3, evMok q := List.forall_mem_cons.mpr ⟨evc_30, List.forall_mem_cons.mpr ⟨evc_31, List.forall_mem_cons.mpr ⟨evc_32, List.forall_mem_cons.mpr ⟨evc_33, List.forall_mem_cons.mpr ⟨evc_34, List.forall_mem_cons.mpr ⟨evc_35, List.forall_mem_cons.mpr ⟨evc_36, List.forall_mem_cons.mpr ⟨evc_37, List.forall_mem_cons.mpr ⟨evc_38, List.forall_mem_cons.mpr ⟨evc_39, List.forall_mem_cons.mpr ⟨evc_40, List.forall_mem_cons.mpr ⟨evc_41, List.forall_mem_cons.mpr ⟨evc_42, List.forall_mem_cons.mpr ⟨evc_43, List.forall_mem_cons.mpr ⟨evc_44, fun _ h => absurd h List.not_mem_nil⟩⟩⟩⟩⟩⟩⟩⟩⟩⟩⟩⟩⟩⟩⟩
theorem evMT_ok_4 : ∀ q ∈ evMT_4, evMok q := List.forall_mem_cons.mpr ⟨evc_45, List.forall_mem_cons.mpr ⟨evc_46, List.forall_mem_cons.mpr ⟨evc_47, List.forall_mem_cons.mpr ⟨evc_48, List.forall_mem_cons.mpr ⟨evc_49, List.forall_mem_cons.mpr ⟨evc_50, List.forall_mem_cons.mpr ⟨evc_51, List.forall_mem_cons.mpr ⟨evc_52, List.forall_mem_cons.mpr ⟨evc_53, List.forall_mem_cons.mpr ⟨evc_54, List.forall_mem_cons.mpr ⟨evc_55, List.forall_mem_cons.mpr ⟨evc_56, List.forall_mem_cons.mpr ⟨evc_57, List.forall_mem_cons.mpr ⟨evc_58, List.forall_mem_cons.mpr ⟨evc_59, fun _ h => absurd h List.not_mem_nil⟩⟩⟩⟩⟩⟩⟩⟩⟩⟩⟩⟩⟩⟩⟩
theorem evMT_ok_5 : ∀ q ∈ evMT_5, evMok q := List.forall_mem_cons.mpr ⟨evc_60, List.forall_mem_cons.mpr ⟨evc_61, List.forall_mem_cons.mpr ⟨evc_62, List.forall_mem_cons.mpr ⟨evc_63, List.forall_mem_cons.mpr ⟨evc_64, List.forall_mem_cons.mpr ⟨evc_65, List.forall_mem_cons.mpr ⟨evc_66, List.forall_mem_cons.mpr ⟨evc_67, List.forall_mem_cons.mpr ⟨evc_68, List.forall_mem_cons.mpr ⟨evc_69, List.forall_mem_cons.mpr ⟨evc_70, List.forall_mem_cons.mpr ⟨evc_71, List.forall_mem_cons.mpr ⟨evc_72, List.forall_mem_cons.mpr ⟨evc_73, List.forall_mem_cons.mpr ⟨evc_74, fun _ h => absurd h List.not_mem_nil⟩⟩⟩⟩⟩⟩⟩⟩⟩⟩⟩⟩⟩⟩⟩
theorem evMT_ok_6 : ∀ q ∈ evMT_6, evMok q := List.forall_mem_cons.mpr ⟨evc_75, List.forall_mem_cons.mpr ⟨evc_76, List.forall_mem_cons.mpr ⟨evc_77, List.forall_mem_cons.mpr ⟨evc_78, List.forall_mem_cons.mpr ⟨evc_79, List.forall_mem_cons.mpr ⟨evc_80, List.forall_mem_cons.mpr ⟨evc_81, List.forall_mem_cons.mpr ⟨evc_82, List.forall_mem_cons.mpr ⟨evc_83, List.forall_mem_cons.mpr ⟨evc_84, List.forall_mem_cons.mpr ⟨evc_85, List.forall_mem_cons.mpr ⟨evc_86, List.forall_mem_cons.mpr ⟨evc_87, List.forall_mem_cons.mpr ⟨evc_88, List.forall_mem_cons.mpr ⟨evc_89, fun _ h => absurd h List.not_mem_nil⟩⟩⟩⟩⟩⟩⟩⟩⟩⟩⟩⟩⟩⟩⟩
theorem evMT_ok_7 : ∀ q ∈ evMT_7, evMok q := List.forall_mem_cons.mpr ⟨evc_90, List.forall_mem_cons.mpr ⟨evc_91, List.forall_mem_cons.mpr ⟨evc_92, List.forall_mem_cons.mpr ⟨evc_93, List.forall_mem_cons.mpr ⟨evc_94, List.forall_mem_cons.mpr ⟨evc_95, List.forall_mem_cons.mpr ⟨evc_96, List.forall_mem_cons.mpr ⟨evc_97, List.forall_mem_cons.mpr ⟨evc_98, List.forall_mem_cons.mpr ⟨evc_99, List.forall_mem_cons.mpr ⟨evc_100, List.forall_mem_cons.mpr ⟨evc_101, List.forall_mem_cons.mpr ⟨evc_102, List.forall_mem_cons.mpr ⟨evc_103, List.forall_mem_cons.mpr ⟨evc_104, fun _ h => absurd h List.not_mem_nil⟩⟩⟩⟩⟩⟩⟩⟩⟩⟩⟩⟩⟩⟩⟩
theorem evMT_ok_8 : ∀ q ∈ evMT_8, evMok q := List.forall_mem_cons.mpr ⟨evc_105, List.forall_mem_cons.mpr ⟨evc_106, List.forall_mem_cons.mpr ⟨evc_107, List.forall_mem_cons.mpr ⟨evc_108, List.forall_mem_cons.mpr ⟨evc_109, List.forall_mem_cons.mpr ⟨evc_110, List.forall_mem_cons.mpr ⟨evc_111, List.forall_mem_cons.mpr ⟨evc_112, List.forall_mem_cons.mpr ⟨evc_113, List.forall_mem_cons.mpr ⟨evc_114, List.forall_mem_cons.mpr ⟨evc_115, List.forall_mem_cons.mpr ⟨evc_116, List.forall_mem_cons.mpr ⟨evc_117, List.forall_mem_cons.mpr ⟨evc_118, List.forall_mem_cons.mpr ⟨evc_119, fun _ h => absurd h List.not_mem_nil⟩⟩⟩⟩⟩⟩⟩⟩⟩⟩⟩⟩⟩⟩⟩
theorem evMT_ok_9 : ∀ q ∈ evMT_9, evMok q := List.forall_mem_cons.mpr ⟨evc_120, List.forall_mem_cons.mpr ⟨evc_121, List.forall_mem_cons.mpr ⟨evc_122, List.forall_mem_cons.mpr ⟨evc_123, List.forall_mem_cons.mpr ⟨evc_124, List.forall_mem_cons.mpr ⟨evc_125, List.forall_mem_cons.mpr ⟨evc_126, List.forall_mem_cons.mpr ⟨evc_127, List.forall_mem_cons.mpr ⟨evc_128, List.forall_mem_cons.mpr ⟨evc_129, List.forall_mem_cons.mpr ⟨evc_130, List.forall_mem_cons.mpr ⟨evc_131, List.forall_mem_cons.mpr ⟨evc_132, List.forall_mem_cons.mpr ⟨evc_133, List.forall_mem_cons.mpr ⟨evc_134, fun _ h => absurd h List.not_mem_nil⟩⟩⟩⟩⟩⟩⟩⟩⟩⟩⟩⟩⟩⟩⟩
theorem evMT_ok_10 : ∀ q ∈ evMT_10, evMok q := List.forall_mem_cons.mpr ⟨evc_135, List.forall_mem_cons.mpr ⟨evc_136, List.forall_mem_cons.mpr ⟨evc_137, List.forall_mem_cons.mpr ⟨evc_138, List.forall_mem_cons.mpr ⟨evc_139, List.forall_mem_cons.mpr ⟨evc_140, List.forall_mem_cons.mpr ⟨evc_141, List.forall_mem_cons.mpr ⟨evc_142, List.forall_mem_cons.mpr ⟨evc_143, List.forall_mem_cons.mpr ⟨evc_144, List.forall_mem_cons.mpr ⟨evc_145, List.forall_mem_cons.mpr ⟨evc_146, List.forall_mem_cons.mpr ⟨evc_147, List.forall_mem_cons.mpr ⟨evc_148, List.forall_mem_cons.mpr ⟨evc_149, fun _ h => absurd h List.not_mem_nil⟩⟩⟩⟩⟩⟩⟩⟩⟩⟩⟩⟩⟩⟩⟩
theorem evMT_ok_11 : ∀ q ∈ evMT_11.take 14, evMok q := List.forall_mem_cons.mpr ⟨evc_150, List.forall_mem_cons.mpr ⟨evc_151, List.forall_mem_cons.mpr ⟨evc_152, List.forall_mem_cons.mpr ⟨evc_153, List.forall_mem_cons.mpr ⟨evc_154, List.forall_mem_cons.mpr ⟨evc_155, List.forall_mem_cons.mpr ⟨evc_156, List.forall_mem_cons.mpr ⟨evc_157, List.forall_mem_cons.mpr ⟨evc_158, List.forall_mem_cons.mpr ⟨evc_159, List.forall_mem_cons.mpr ⟨evc_160, List.forall_mem_cons.mpr ⟨evc_161, List.forall_mem_cons.mpr ⟨evc_162, List.forall_mem_cons.mpr ⟨evc_163, fun _ h => absurd h List.not_mem_nil⟩⟩⟩⟩⟩⟩⟩⟩⟩⟩⟩⟩⟩⟩
abbrev evLawN : Nat := 164
set_option maxRecDepth 100000 in
theorem evMT_ok : ∀ y q, y < evLawN → evMT[y]? = some q → evMok q := by
  intro y q hy hq
  have h : ∀ q ∈ evMT.take evLawN, evMok q := by
    rw [show evMT.take evLawN = evMT_1 ++ (evMT_2 ++ (evMT_3 ++ (evMT_4 ++ (evMT_5 ++ (evMT_6 ++ (evMT_7 ++ (evMT_8 ++ (evMT_9 ++ (evMT_10 ++ (evMT_11.take 14)))))))))) from rfl]
    exact List.forall_mem_append.mpr ⟨evMT_ok_1, List.forall_mem_append.mpr ⟨evMT_ok_2, List.forall_mem_append.mpr ⟨evMT_ok_3, List.forall_mem_append.mpr ⟨evMT_ok_4, List.forall_mem_append.mpr ⟨evMT_ok_5, List.forall_mem_append.mpr ⟨evMT_ok_6, List.forall_mem_append.mpr ⟨evMT_ok_7, List.forall_mem_append.mpr ⟨evMT_ok_8, List.forall_mem_append.mpr ⟨evMT_ok_9, List.forall_mem_append.mpr ⟨evMT_ok_10, evMT_ok_11⟩⟩⟩⟩⟩⟩⟩⟩⟩⟩
  refine h q (List.mem_of_getElem? (i := y) ?_)
  rw [List.getElem?_take]; simp [hy, hq]
def evBT_1 : List (ByteArray × List (Nat × Instr × Nat)) := [(cX0_init, evT_0), (cX0_write, evT_1), (cX0_clear, evT_2), (cX0_copyFrom, evT_3), (cX0_isAbove, evT_4), (cX1_init, evT_5), (cX1_copyFrom, evT_6), (cX2_init, evT_7), (cX2_copyFrom, evT_8), (cX2_copyRows, evT_9), (cX2_bidderAt, evT_10), (cX2_lotAt, evT_11), (cX2_settingAt, evT_12), (cX2_changeSetting, evT_13), (cX2_addBidder, evT_14)]
def evBT_2 : List (ByteArray × List (Nat × Instr × Nat)) := [(cX2_changePlan, evT_15), (cX2_addLot, evT_16), (cX2_tellBid, evT_17), (cX2_letPass, evT_18), (cX2_playOut, evT_19), (cX2_hasLotsLeft, evT_20), (cX2_playRound, evT_21), (cX2_beginLot, evT_22), (cX2_takeBids, evT_23), (cX2_chooseBid, evT_24), (cX2_believed, evT_25), (cX2_noteBid, evT_26), (cX2_echoRound, evT_27), (cX2_endLot, evT_28), (cX2_priceOf, evT_29)]
def evBT_3 : List (ByteArray × List (Nat × Instr × Nat)) := [(cX2_lotsSold, evT_30), (cX2_coinsPaid, evT_31), (cX2_worthSold, evT_32), (cX2_bidsMade, evT_33), (cX2_shadowsMade, evT_34), (cX3_init, evT_35), (cX3_prepare, evT_36), (cX3_settle, evT_37), (cX3_takeBack, evT_38), (cX4_init, evT_39), (cX4_copyFrom, evT_40), (cX5_init, evT_41), (cX5_append, evT_42), (cX5_countSigns, evT_43), (cX5_empty, evT_44)]
def evBT_4 : List (ByteArray × List (Nat × Instr × Nat)) := [(cX5_findFault, evT_45), (cX5_rewind, evT_46), (cX5_readOrder, evT_47), (cX5_sign, evT_48), (cX5_atDigit, evT_49), (cX5_expect, evT_50), (cX5_readDigit, evT_51), (cX5_readNumber, evT_52), (cX6_init, evT_53), (cX6_copyFrom, evT_54), (cX6_clear, evT_55), (cX6_add, evT_56), (cX6_knows, evT_57), (cX6_at, evT_58), (cX7_init, evT_59)]
def evBT_5 : List (ByteArray × List (Nat × Instr × Nat)) := [(cX7_set, evT_60), (cX7_bidder, evT_61), (cX7_plan, evT_62), (cX7_lot, evT_63), (cX7_bid, evT_64), (cX7_pass, evT_65), (cX7_of, evT_66), (cX7_ofLot, evT_67), (cX7_made, evT_68), (cX7_count, evT_69), (cX7_shadows, evT_70), (cX7_dear, evT_71), (cX7_endsIn, evT_72), (cX7_ifLag, evT_73), (cX7_bestPlan, evT_74)]
def evBT_6 : List (ByteArray × List (Nat × Instr × Nat)) := [(cX7_put, evT_75), (cX7_wipe, evT_76), (cX7_fault, evT_77), (cX7_carryOut, evT_78), (cX7_undo, evT_79), (cX7_save, evT_80), (cX7_restore, evT_81), (cX7_gainWith, evT_82), (cX7_carryOrder, evT_83), (cX7_floatBits, evT_84), (cX7_doubleBits, evT_85), (cX8_init, evT_86), (cX8_moves, evT_87), (cX8_within, evT_88), (cX8_record, evT_89)]
def evBT_7 : List (ByteArray × List (Nat × Instr × Nat)) := [(cX8_isBidder, evT_90), (cX8_isLot, evT_91), (cX8_bidderPart, evT_92), (cX8_setBidder, evT_93), (cX8_adds, evT_94), (cX8_lotPart, evT_95), (cX8_setLot, evT_96), (cX8_ofAll, evT_97), (cX8_withHow, evT_98), (cX8_firstWaiting, evT_99), (cX8_hears, evT_100), (cX8_believes, evT_101), (cX8_limitOf, evT_102), (cX8_bidOf, evT_103), (cX8_begins, evT_104)]
def evBT_8 : List (ByteArray × List (Nat × Instr × Nat)) := [(cX8_keepsBest, evT_105), (cX8_keepsMade, evT_106), (cX8_makesBids, evT_107), (cX8_grows, evT_108), (cX8_priceOf, evT_109), (cX8_ends, evT_110), (cX8_runsOn, evT_111), (cX8_round, evT_112), (cX8_passes, evT_113), (cX8_isValue, evT_114), (cX8_set, evT_115), (cX8_whyNoBidder, evT_116), (cX8_comes, evT_117), (cX8_bidder, evT_118), (cX8_plan, evT_119)]
def evBT_9 : List (ByteArray × List (Nat × Instr × Nat)) := [(cX8_whyNoLot, evT_120), (cX8_lotComes, evT_121), (cX8_lot, evT_122), (cX8_whyNotTold, evT_123), (cX8_bid, evT_124), (cX8_whyNotPassed, evT_125), (cX8_pass, evT_126), (cX8_belief, evT_127), (cX8_of, evT_128), (cX8_ofLot, evT_129), (cX8_made, evT_130), (cX8_count, evT_131), (cX8_shadows, evT_132), (cX8_dear, evT_133), (cX8_hasLots, evT_134)]
def evBT_10 : List (ByteArray × List (Nat × Instr × Nat)) := [(cX8_endsIn, evT_135), (cX8_goesFar, evT_136), (cX8_ifLag, evT_137), (cX8_gainOf, evT_138), (cX8_bestPlan, evT_139), (cX8_put, evT_140), (cX8_wipe, evT_141), (cX8_character, evT_142), (cX8_isNext, evT_143), (cX8_isDigit, evT_144), (cX8_takes, evT_145), (cX8_takesDigit, evT_146), (cX8_takesNumber, evT_147), (cX8_readsOrder, evT_148), (cX8_findFault, evT_149)]
def evBT_11 : List (ByteArray × List (Nat × Instr × Nat)) := [(cX8_fault, evT_150), (cX8_whyNotDone, evT_151), (cX8_does, evT_152), (cX8_carryOut, evT_153), (cX8_undo, evT_154), (cX8_save, evT_155), (cX8_restore, evT_156), (cJxe99ae_isNaN_b9ae7, evT_157), (cJxe99ae_doubleToLongBits_ccdee, evT_158), (cJxf58ca_isNaN_12338, evT_159), (cJxf58ca_floatToIntBits_5c35a, evT_160), (cJ9_floorMod_7cf53, evT_161), (cJ9_max_7cf53, evT_162), (cJ9_min_7cf53, evT_163), (cL_law, evT_164)]
def evBT : List (ByteArray × List (Nat × Instr × Nat)) := evBT_1 ++ (evBT_2 ++ (evBT_3 ++ (evBT_4 ++ (evBT_5 ++ (evBT_6 ++ (evBT_7 ++ (evBT_8 ++ (evBT_9 ++ (evBT_10 ++ (evBT_11))))))))))
def evBok (q : ByteArray × List (Nat × Instr × Nat)) : Prop := q.2.all (fun z => decide (decode q.1 z.1 = .ok z.2)) = true
theorem evBT_ok_1 : ∀ q ∈ evBT_1, evBok q := List.forall_mem_cons.mpr ⟨evT_ok_0, List.forall_mem_cons.mpr ⟨evT_ok_1, List.forall_mem_cons.mpr ⟨evT_ok_2, List.forall_mem_cons.mpr ⟨evT_ok_3, List.forall_mem_cons.mpr ⟨evT_ok_4, List.forall_mem_cons.mpr ⟨evT_ok_5, List.forall_mem_cons.mpr ⟨evT_ok_6, List.forall_mem_cons.mpr ⟨evT_ok_7, List.forall_mem_cons.mpr ⟨evT_ok_8, List.forall_mem_cons.mpr ⟨evT_ok_9, List.forall_mem_cons.mpr ⟨evT_ok_10, List.forall_mem_cons.mpr ⟨evT_ok_11, List.forall_mem_cons.mpr ⟨evT_ok_12, List.forall_mem_cons.mpr ⟨evT_ok_13, List.forall_mem_cons.mpr ⟨evT_ok_14, fun _ h => absurd h List.not_mem_nil⟩⟩⟩⟩⟩⟩⟩⟩⟩⟩⟩⟩⟩⟩⟩
theorem evBT_ok_2 : ∀ q ∈ evBT_2, evBok q := List.forall_mem_cons.mpr ⟨evT_ok_15, List.forall_mem_cons.mpr ⟨evT_ok_16, List.forall_mem_cons.mpr ⟨evT_ok_17, List.forall_mem_cons.mpr ⟨evT_ok_18, List.forall_mem_cons.mpr ⟨evT_ok_19, List.forall_mem_cons.mpr ⟨evT_ok_20, List.forall_mem_cons.mpr ⟨evT_ok_21, List.forall_mem_cons.mpr ⟨evT_ok_22, List.forall_mem_cons.mpr ⟨evT_ok_23, List.forall_mem_cons.mpr ⟨evT_ok_24, List.forall_mem_cons.mpr ⟨evT_ok_25, List.forall_mem_cons.mpr ⟨evT_ok_26, List.forall_mem_cons.mpr ⟨evT_ok_27, List.forall_mem_cons.mpr ⟨evT_ok_28, List.forall_mem_cons.mpr ⟨evT_ok_29, fun _ h => absurd h List.not_mem_nil⟩⟩⟩⟩⟩⟩⟩⟩⟩⟩⟩⟩⟩⟩⟩
theorem evBT_ok_3 : ∀ q ∈ evBT_3, evBok q := List.forall_mem_cons.mpr ⟨evT_ok_30, List.forall_mem_cons.mpr ⟨evT_ok_31, List.forall_mem_cons.mpr ⟨evT_ok_32, List.forall_mem_cons.mpr ⟨evT_ok_33, List.forall_mem_cons.mpr ⟨evT_ok_34, List.forall_mem_cons.mpr ⟨evT_ok_35, List.forall_mem_cons.mpr ⟨evT_ok_36, List.forall_mem_cons.mpr ⟨evT_ok_37, List.forall_mem_cons.mpr ⟨evT_ok_38, List.forall_mem_cons.mpr ⟨evT_ok_39, List.forall_mem_cons.mpr ⟨evT_ok_40, List.forall_mem_cons.mpr ⟨evT_ok_41, List.forall_mem_cons.mpr ⟨evT_ok_42, List.forall_mem_cons.mpr ⟨evT_ok_43, List.forall_mem_cons.mpr ⟨evT_ok_44, fun _ h => absurd h List.not_mem_nil⟩⟩⟩⟩⟩⟩⟩⟩⟩⟩⟩⟩⟩⟩⟩
theorem evBT_ok_4 : ∀ q ∈ evBT_4, evBok q := List.forall_mem_cons.mpr ⟨evT_ok_45, List.forall_mem_cons.mpr ⟨evT_ok_46, List.forall_mem_cons.mpr ⟨evT_ok_47, List.forall_mem_cons.mpr ⟨evT_ok_48, List.forall_mem_cons.mpr ⟨evT_ok_49, List.forall_mem_cons.mpr ⟨evT_ok_50, List.forall_mem_cons.mpr ⟨evT_ok_51, List.forall_mem_cons.mpr ⟨evT_ok_52, List.forall_mem_cons.mpr ⟨evT_ok_53, List.forall_mem_cons.mpr ⟨evT_ok_54, List.forall_mem_cons.mpr ⟨evT_ok_55, List.forall_mem_cons.mpr ⟨evT_ok_56, List.forall_mem_cons.mpr ⟨evT_ok_57, List.forall_mem_cons.mpr ⟨evT_ok_58, List.forall_mem_cons.mpr ⟨evT_ok_59, fun _ h => absurd h List.not_mem_nil⟩⟩⟩⟩⟩⟩⟩⟩⟩⟩⟩⟩⟩⟩⟩
theorem evBT_ok_5 : ∀ q ∈ evBT_5, evBok q := List.forall_mem_cons.mpr ⟨evT_ok_60, List.forall_mem_cons.mpr ⟨evT_ok_61, List.forall_mem_cons.mpr ⟨evT_ok_62, List.forall_mem_cons.mpr ⟨evT_ok_63, List.forall_mem_cons.mpr ⟨evT_ok_64, List.forall_mem_cons.mpr ⟨evT_ok_65, List.forall_mem_cons.mpr ⟨evT_ok_66, List.forall_mem_cons.mpr ⟨evT_ok_67, List.forall_mem_cons.mpr ⟨evT_ok_68, List.forall_mem_cons.mpr ⟨evT_ok_69, List.forall_mem_cons.mpr ⟨evT_ok_70, List.forall_mem_cons.mpr ⟨evT_ok_71, List.forall_mem_cons.mpr ⟨evT_ok_72, List.forall_mem_cons.mpr ⟨evT_ok_73, List.forall_mem_cons.mpr ⟨evT_ok_74, fun _ h => absurd h List.not_mem_nil⟩⟩⟩⟩⟩⟩⟩⟩⟩⟩⟩⟩⟩⟩⟩
theorem evBT_ok_6 : ∀ q ∈ evBT_6, evBok q := List.forall_mem_cons.mpr ⟨evT_ok_75, List.forall_mem_cons.mpr ⟨evT_ok_76, List.forall_mem_cons.mpr ⟨evT_ok_77, List.forall_mem_cons.mpr ⟨evT_ok_78, List.forall_mem_cons.mpr ⟨evT_ok_79, List.forall_mem_cons.mpr ⟨evT_ok_80, List.forall_mem_cons.mpr ⟨evT_ok_81, List.forall_mem_cons.mpr ⟨evT_ok_82, List.forall_mem_cons.mpr ⟨evT_ok_83, List.forall_mem_cons.mpr ⟨evT_ok_84, List.forall_mem_cons.mpr ⟨evT_ok_85, List.forall_mem_cons.mpr ⟨evT_ok_86, List.forall_mem_cons.mpr ⟨evT_ok_87, List.forall_mem_cons.mpr ⟨evT_ok_88, List.forall_mem_cons.mpr ⟨evT_ok_89, fun _ h => absurd h List.not_mem_nil⟩⟩⟩⟩⟩⟩⟩⟩⟩⟩⟩⟩⟩⟩⟩
theorem evBT_ok_7 : ∀ q ∈ evBT_7, evBok q := List.forall_mem_cons.mpr ⟨evT_ok_90, List.forall_mem_cons.mpr ⟨evT_ok_91, List.forall_mem_cons.mpr ⟨evT_ok_92, List.forall_mem_cons.mpr ⟨evT_ok_93, List.forall_mem_cons.mpr ⟨evT_ok_94, List.forall_mem_cons.mpr ⟨evT_ok_95, List.forall_mem_cons.mpr ⟨evT_ok_96, List.forall_mem_cons.mpr ⟨evT_ok_97, List.forall_mem_cons.mpr ⟨evT_ok_98, List.forall_mem_cons.mpr ⟨evT_ok_99, List.forall_mem_cons.mpr ⟨evT_ok_100, List.forall_mem_cons.mpr ⟨evT_ok_101, List.forall_mem_cons.mpr ⟨evT_ok_102, List.forall_mem_cons.mpr ⟨evT_ok_103, List.forall_mem_cons.mpr ⟨evT_ok_104, fun _ h => absurd h List.not_mem_nil⟩⟩⟩⟩⟩⟩⟩⟩⟩⟩⟩⟩⟩⟩⟩
theorem evBT_ok_8 : ∀ q ∈ evBT_8, evBok q := List.forall_mem_cons.mpr ⟨evT_ok_105, List.forall_mem_cons.mpr ⟨evT_ok_106, List.forall_mem_cons.mpr ⟨evT_ok_107, List.forall_mem_cons.mpr ⟨evT_ok_108, List.forall_mem_cons.mpr ⟨evT_ok_109, List.forall_mem_cons.mpr ⟨evT_ok_110, List.forall_mem_cons.mpr ⟨evT_ok_111, List.forall_mem_cons.mpr ⟨evT_ok_112, List.forall_mem_cons.mpr ⟨evT_ok_113, List.forall_mem_cons.mpr ⟨evT_ok_114, List.forall_mem_cons.mpr ⟨evT_ok_115, List.forall_mem_cons.mpr ⟨evT_ok_116, List.forall_mem_cons.mpr ⟨evT_ok_117, List.forall_mem_cons.mpr ⟨evT_ok_118, List.forall_mem_cons.mpr ⟨evT_ok_119, fun _ h => absurd h List.not_mem_nil⟩⟩⟩⟩⟩⟩⟩⟩⟩⟩⟩⟩⟩⟩⟩
theorem evBT_ok_9 : ∀ q ∈ evBT_9, evBok q := List.forall_mem_cons.mpr ⟨evT_ok_120, List.forall_mem_cons.mpr ⟨evT_ok_121, List.forall_mem_cons.mpr ⟨evT_ok_122, List.forall_mem_cons.mpr ⟨evT_ok_123, List.forall_mem_cons.mpr ⟨evT_ok_124, List.forall_mem_cons.mpr ⟨evT_ok_125, List.forall_mem_cons.mpr ⟨evT_ok_126, List.forall_mem_cons.mpr ⟨evT_ok_127, List.forall_mem_cons.mpr ⟨evT_ok_128, List.forall_mem_cons.mpr ⟨evT_ok_129, List.forall_mem_cons.mpr ⟨evT_ok_130, List.forall_mem_cons.mpr ⟨evT_ok_131, List.forall_mem_cons.mpr ⟨evT_ok_132, List.forall_mem_cons.mpr ⟨evT_ok_133, List.forall_mem_cons.mpr ⟨evT_ok_134, fun _ h => absurd h List.not_mem_nil⟩⟩⟩⟩⟩⟩⟩⟩⟩⟩⟩⟩⟩⟩⟩
theorem evBT_ok_10 : ∀ q ∈ evBT_10, evBok q := List.forall_mem_cons.mpr ⟨evT_ok_135, List.forall_mem_cons.mpr ⟨evT_ok_136, List.forall_mem_cons.mpr ⟨evT_ok_137, List.forall_mem_cons.mpr ⟨evT_ok_138, List.forall_mem_cons.mpr ⟨evT_ok_139, List.forall_mem_cons.mpr ⟨evT_ok_140, List.forall_mem_cons.mpr ⟨evT_ok_141, List.forall_mem_cons.mpr ⟨evT_ok_142, List.forall_mem_cons.mpr ⟨evT_ok_143, List.forall_mem_cons.mpr ⟨evT_ok_144, List.forall_mem_cons.mpr ⟨evT_ok_145, List.forall_mem_cons.mpr ⟨evT_ok_146, List.forall_mem_cons.mpr ⟨evT_ok_147, List.forall_mem_cons.mpr ⟨evT_ok_148, List.forall_mem_cons.mpr ⟨evT_ok_149, fun _ h => absurd h List.not_mem_nil⟩⟩⟩⟩⟩⟩⟩⟩⟩⟩⟩⟩⟩⟩⟩
theorem evBT_ok_11 : ∀ q ∈ evBT_11, evBok q := List.forall_mem_cons.mpr ⟨evT_ok_150, List.forall_mem_cons.mpr ⟨evT_ok_151, List.forall_mem_cons.mpr ⟨evT_ok_152, List.forall_mem_cons.mpr ⟨evT_ok_153, List.forall_mem_cons.mpr ⟨evT_ok_154, List.forall_mem_cons.mpr ⟨evT_ok_155, List.forall_mem_cons.mpr ⟨evT_ok_156, List.forall_mem_cons.mpr ⟨evT_ok_157, List.forall_mem_cons.mpr ⟨evT_ok_158, List.forall_mem_cons.mpr ⟨evT_ok_159, List.forall_mem_cons.mpr ⟨evT_ok_160, List.forall_mem_cons.mpr ⟨evT_ok_161, List.forall_mem_cons.mpr ⟨evT_ok_162, List.forall_mem_cons.mpr ⟨evT_ok_163, List.forall_mem_cons.mpr ⟨evT_ok_164, fun _ h => absurd h List.not_mem_nil⟩⟩⟩⟩⟩⟩⟩⟩⟩⟩⟩⟩⟩⟩⟩
theorem evBT_ok : ∀ q ∈ evBT, evBok q := List.forall_mem_append.mpr ⟨evBT_ok_1, List.forall_mem_append.mpr ⟨evBT_ok_2, List.forall_mem_append.mpr ⟨evBT_ok_3, List.forall_mem_append.mpr ⟨evBT_ok_4, List.forall_mem_append.mpr ⟨evBT_ok_5, List.forall_mem_append.mpr ⟨evBT_ok_6, List.forall_mem_append.mpr ⟨evBT_ok_7, List.forall_mem_append.mpr ⟨evBT_ok_8, List.forall_mem_append.mpr ⟨evBT_ok_9, List.forall_mem_append.mpr ⟨evBT_ok_10, evBT_ok_11⟩⟩⟩⟩⟩⟩⟩⟩⟩⟩
set_option maxRecDepth 100000 in
theorem evBT_codes : evBT.map (fun q => q.1) = evMT.map (fun q => q.2.1) := rfl
def evFT_1 : List (Nat × Nat × Nat × Nat × Bool × Nat) := [(0, 9, 0, 0, false, 119), (0, 15, 0, 1, false, 122), (0, 18, 0, 2, false, 125), (1, 10, 1, 8, false, 157), (1, 16, 1, 0, false, 133), (1, 20, 1, 1, false, 136), (1, 23, 1, 2, false, 139), (1, 26, 1, 3, false, 142), (1, 29, 1, 4, false, 145), (1, 32, 1, 5, false, 148), (1, 35, 1, 6, false, 151), (1, 38, 1, 7, false, 154), (2, 9, 2, 0, false, 216), (2, 15, 2, 4, false, 222), (2, 21, 2, 6, false, 226), (2, 27, 2, 7, false, 227), (2, 33, 2, 8, false, 228), (2, 40, 2, 9, false, 229), (2, 53, 2, 1, false, 217), (2, 56, 2, 2, false, 219)]
def evFT_2 : List (Nat × Nat × Nat × Nat × Bool × Nat) := [(2, 59, 2, 3, false, 221), (2, 62, 2, 5, false, 224), (2, 92, 1, 0, true, 134), (2, 95, 1, 1, true, 137), (2, 102, 4, 0, true, 187), (2, 105, 1, 2, true, 141), (2, 121, 4, 4, true, 198), (2, 131, 4, 1, true, 190), (2, 137, 1, 8, true, 158), (2, 142, 4, 5, true, 201), (2, 145, 0, 1, true, 124), (2, 160, 4, 3, true, 196), (2, 166, 0, 0, true, 121), (2, 182, 1, 6, true, 153), (2, 185, 1, 7, true, 156), (2, 200, 4, 2, true, 193), (2, 203, 1, 4, true, 147), (2, 206, 1, 5, true, 150), (2, 207, 1, 3, true, 144), (3, 13, 3, 0, false, 261)]
def evFT_3 : List (Nat × Nat × Nat × Nat × Bool × Nat) := [(3, 18, 3, 1, false, 262), (3, 26, 3, 2, false, 263), (4, 10, 4, 5, false, 199), (4, 16, 4, 0, false, 185), (4, 20, 4, 1, false, 188), (4, 23, 4, 2, false, 191), (4, 26, 4, 3, false, 194), (4, 29, 4, 4, false, 197), (5, 11, 5, 0, false, 278), (5, 19, 5, 1, false, 279), (5, 36, 5, 3, false, 282), (5, 40, 5, 2, false, 281), (5, 43, 5, 4, false, 283), (5, 50, 5, 5, false, 284), (5, 53, 5, 7, false, 288), (5, 59, 5, 6, false, 286), (6, 9, 6, 0, false, 100), (6, 19, 6, 1, false, 101), (7, 10, 7, 0, false, 307), (7, 16, 7, 1, false, 308)]
def evFT_4 : List (Nat × Nat × Nat × Nat × Bool × Nat) := [(7, 22, 7, 2, false, 309), (7, 29, 7, 3, false, 310), (7, 33, 7, 4, false, 311), (7, 68, 1, 0, true, 135), (7, 74, 1, 1, true, 138), (7, 77, 1, 3, true, 143), (7, 80, 1, 4, true, 146), (7, 83, 1, 5, true, 149), (7, 86, 1, 6, true, 152), (7, 89, 1, 7, true, 155), (7, 92, 2, 4, true, 223), (7, 99, 0, 1, true, 123), (7, 104, 0, 0, true, 120), (7, 107, 1, 2, true, 140), (7, 114, 4, 0, true, 186), (7, 117, 4, 1, true, 189), (7, 120, 4, 5, true, 200), (7, 124, 4, 2, true, 192), (7, 127, 4, 3, true, 195), (7, 130, 2, 9, true, 230)]
def evFT_5 : List (Nat × Nat × Nat × Nat × Bool × Nat) := [(7, 143, 2, 5, true, 225), (7, 146, 2, 1, true, 218), (7, 149, 2, 2, true, 220), (7, 168, 5, 1, true, 280), (7, 171, 3, 2, true, 264), (7, 226, 5, 5, true, 285), (7, 229, 5, 6, true, 287), (7, 232, 5, 7, true, 289), (8, 7, 8, 0, false, 680), (8, 13, 8, 1, false, 681), (8, 16, 8, 2, false, 682), (8, 19, 8, 4, false, 684), (8, 22, 8, 5, false, 685), (8, 25, 8, 6, false, 686), (8, 28, 8, 11, false, 691), (8, 31, 8, 14, false, 694), (8, 34, 8, 3, false, 683), (8, 53, 8, 8, false, 688), (8, 56, 8, 9, false, 689), (8, 59, 8, 10, false, 690)]
def evFT_6 : List (Nat × Nat × Nat × Nat × Bool × Nat) := [(8, 164, 8, 7, false, 687), (8, 191, 8, 12, false, 692), (8, 197, 8, 15, false, 695), (8, 206, 8, 13, false, 693)]
def evFT : List (Nat × Nat × Nat × Nat × Bool × Nat) := evFT_1 ++ (evFT_2 ++ (evFT_3 ++ (evFT_4 ++ (evFT_5 ++ (evFT_6)))))
def evCT_1 : List (Nat × Nat × Nat × Nat × Nat × Bool × Nat × Nat × Nat × Nat) := [(0, 21, 0, 1, 3, false, 350, 351, 352, 65), (1, 9, 2, 0, 0, true, 115, 116, 0, 65), (1, 41, 0, 3, 1, false, 346, 347, 348, 65), (2, 39, 2, 53, 0, true, 96, 97, 0, 63), (2, 44, 2, 5, 0, true, 109, 110, 0, 64), (2, 45, 2, 39, 0, true, 179, 180, 0, 66), (2, 46, 2, 0, 0, true, 215, 116, 0, 65), (2, 65, 0, 9, 1, false, 338, 340, 0, 62), (2, 69, 0, 54, 1, false, 360, 361, 362, 63), (2, 73, 0, 6, 1, false, 342, 343, 344, 64), (2, 76, 0, 40, 1, false, 354, 355, 356, 66), (2, 79, 0, 3, 1, false, 359, 347, 348, 65), (2, 88, 0, 10, 1, false, 388, 389, 390, 62), (2, 98, 0, 11, 1, false, 408, 409, 410, 62), (2, 108, 0, 21, 0, false, 428, 429, 430, 62), (2, 112, 0, 20, 0, false, 580, 567, 568, 62), (2, 115, 0, 22, 0, false, 432, 434, 1, 62), (2, 118, 0, 23, 1, false, 444, 446, 2, 62), (2, 124, 0, 12, 1, false, 452, 453, 454, 62), (2, 128, 0, 28, 1, false, 482, 484, 6, 62)]
def evCT_2 : List (Nat × Nat × Nat × Nat × Nat × Bool × Nat × Nat × Nat × Nat) := [(2, 134, 0, 55, 0, false, 436, 437, 438, 63), (2, 141, 0, 2, 0, false, 440, 441, 442, 65), (2, 148, 0, 25, 1, false, 448, 449, 450, 62), (2, 152, 0, 24, 4, false, 463, 465, 3, 62), (2, 156, 0, 26, 4, false, 468, 470, 4, 62), (2, 163, 0, 27, 1, false, 478, 480, 5, 62), (2, 169, 1, 163, 2, false, 467, 378, 0, 71), (2, 175, 1, 161, 2, false, 456, 457, 0, 71), (2, 178, 0, 4, 1, false, 459, 460, 461, 65), (2, 188, 0, 1, 3, false, 472, 351, 352, 65), (2, 192, 0, 56, 4, false, 473, 474, 475, 63), (2, 196, 0, 29, 1, false, 486, 488, 7, 62), (2, 210, 1, 162, 2, false, 490, 491, 0, 71), (3, 17, 2, 7, 0, false, 260, 85, 0, 62), (3, 22, 0, 8, 1, false, 331, 332, 333, 62), (3, 29, 1, 163, 2, false, 377, 378, 0, 71), (4, 9, 2, 0, 0, true, 184, 116, 0, 65), (4, 32, 0, 3, 1, false, 358, 347, 348, 65), (5, 15, 1, 43, 1, false, 598, 599, 0, 68), (5, 29, 0, 46, 0, false, 620, 621, 622, 68)]
def evCT_3 : List (Nat × Nat × Nat × Nat × Nat × Bool × Nat × Nat × Nat × Nat) := [(5, 32, 0, 47, 0, false, 624, 625, 626, 68), (5, 46, 0, 48, 0, false, 628, 630, 9, 68), (5, 56, 0, 52, 0, false, 632, 634, 10, 68), (5, 62, 0, 50, 1, false, 644, 646, 13, 68), (5, 66, 0, 51, 0, false, 636, 638, 11, 68), (5, 69, 0, 49, 0, false, 640, 642, 12, 68), (6, 23, 1, 161, 2, false, 477, 457, 0, 71), (7, 9, 2, 7, 0, false, 84, 85, 0, 62), (7, 21, 2, 35, 0, false, 254, 255, 0, 67), (7, 28, 2, 41, 0, true, 274, 275, 0, 68), (7, 37, 0, 36, 1, false, 327, 328, 329, 67), (7, 41, 0, 13, 2, false, 365, 366, 367, 62), (7, 45, 0, 37, 1, false, 373, 374, 375, 67), (7, 49, 0, 14, 2, false, 384, 385, 386, 62), (7, 52, 0, 15, 2, false, 396, 397, 398, 62), (7, 55, 0, 16, 1, false, 404, 405, 406, 62), (7, 58, 0, 17, 2, false, 416, 417, 418, 62), (7, 61, 0, 18, 1, false, 424, 425, 426, 62), (7, 64, 0, 10, 1, false, 497, 389, 390, 62), (7, 95, 0, 25, 1, false, 498, 449, 450, 62)]
def evCT_4 : List (Nat × Nat × Nat × Nat × Nat × Bool × Nat × Nat × Nat × Nat) := [(7, 110, 0, 11, 1, false, 503, 409, 410, 62), (7, 134, 0, 57, 1, false, 508, 509, 510, 63), (7, 140, 0, 58, 2, false, 512, 513, 514, 63), (7, 152, 0, 30, 0, false, 520, 521, 522, 62), (7, 156, 0, 31, 0, false, 524, 525, 526, 62), (7, 159, 0, 33, 0, false, 528, 529, 530, 62), (7, 162, 0, 34, 0, false, 532, 533, 534, 62), (7, 165, 0, 12, 1, false, 536, 453, 454, 62), (7, 174, 1, 84, 1, false, 541, 542, 0, 61), (7, 178, 0, 32, 0, false, 550, 551, 552, 62), (7, 181, 1, 85, 1, false, 554, 555, 0, 61), (7, 185, 0, 20, 0, false, 566, 567, 568, 62), (7, 189, 0, 8, 1, false, 570, 332, 333, 62), (7, 192, 0, 21, 0, false, 571, 429, 430, 62), (7, 195, 0, 19, 1, false, 576, 577, 578, 62), (7, 199, 0, 82, 2, false, 585, 587, 8, 61), (7, 203, 0, 42, 1, false, 594, 595, 596, 68), (7, 207, 0, 44, 0, false, 608, 609, 610, 68), (7, 210, 0, 45, 0, false, 616, 617, 618, 68), (7, 213, 0, 46, 0, false, 652, 621, 622, 68)]
def evCT_5 : List (Nat × Nat × Nat × Nat × Nat × Bool × Nat × Nat × Nat × Nat) := [(7, 216, 0, 47, 0, false, 653, 625, 626, 68), (7, 219, 0, 83, 0, false, 654, 656, 14, 61), (7, 222, 0, 38, 1, false, 662, 663, 664, 67), (8, 38, 1, 87, 4, false, 743, 744, 0, 69), (8, 42, 1, 88, 3, false, 736, 737, 0, 69), (8, 46, 0, 92, 2, false, 770, 772, 20, 69), (8, 50, 0, 95, 2, false, 818, 820, 29, 69), (8, 62, 0, 100, 3, false, 838, 840, 34, 69), (8, 66, 0, 101, 1, false, 834, 836, 33, 69), (8, 70, 0, 102, 1, false, 842, 844, 35, 69), (8, 74, 0, 96, 3, false, 786, 788, 23, 69), (8, 77, 0, 94, 3, false, 850, 852, 37, 69), (8, 80, 0, 105, 4, false, 854, 856, 38, 69), (8, 84, 0, 106, 3, false, 858, 860, 39, 69), (8, 88, 0, 109, 1, false, 870, 872, 42, 69), (8, 91, 0, 93, 3, false, 758, 760, 18, 69), (8, 94, 0, 103, 1, false, 830, 832, 32, 69), (8, 97, 0, 107, 1, false, 846, 848, 36, 69), (8, 101, 0, 108, 0, false, 862, 864, 40, 69), (8, 104, 0, 110, 1, false, 866, 868, 41, 69)]
def evCT_6 : List (Nat × Nat × Nat × Nat × Nat × Bool × Nat × Nat × Nat × Nat) := [(8, 107, 0, 99, 0, false, 814, 816, 28, 69), (8, 111, 0, 104, 1, false, 822, 824, 30, 69), (8, 114, 0, 111, 0, false, 826, 828, 31, 69), (8, 118, 0, 112, 0, false, 810, 812, 27, 69), (8, 121, 1, 114, 2, false, 733, 734, 0, 69), (8, 125, 0, 89, 0, false, 739, 741, 15, 69), (8, 128, 0, 116, 2, false, 750, 752, 16, 69), (8, 131, 0, 117, 2, false, 754, 756, 17, 69), (8, 134, 0, 90, 1, false, 766, 768, 19, 69), (8, 137, 0, 120, 1, false, 778, 780, 21, 69), (8, 140, 0, 121, 1, false, 782, 784, 22, 69), (8, 143, 0, 123, 2, false, 794, 796, 24, 69), (8, 146, 0, 125, 1, false, 802, 804, 25, 69), (8, 149, 0, 113, 1, false, 806, 808, 26, 69), (8, 152, 0, 127, 2, false, 878, 880, 43, 69), (8, 155, 0, 91, 1, false, 886, 888, 44, 69), (8, 158, 0, 98, 1, false, 898, 900, 45, 69), (8, 161, 0, 97, 1, false, 902, 904, 46, 69), (8, 167, 1, 160, 1, false, 910, 911, 0, 72), (8, 173, 1, 158, 1, false, 924, 925, 0, 73)]
def evCT_7 : List (Nat × Nat × Nat × Nat × Nat × Bool × Nat × Nat × Nat × Nat) := [(8, 179, 0, 134, 0, false, 938, 940, 47, 69), (8, 182, 0, 136, 0, false, 946, 948, 48, 69), (8, 185, 0, 138, 1, false, 954, 956, 49, 69), (8, 194, 0, 142, 1, false, 980, 982, 52, 69), (8, 200, 0, 144, 0, false, 988, 990, 54, 69), (8, 203, 0, 145, 1, false, 992, 994, 55, 69), (8, 209, 0, 147, 0, false, 984, 986, 53, 69), (8, 212, 0, 143, 1, false, 996, 998, 56, 69), (8, 215, 0, 146, 0, false, 1000, 1002, 57, 69), (8, 218, 0, 148, 0, false, 976, 978, 51, 69), (8, 221, 0, 149, 0, false, 972, 974, 50, 69), (8, 224, 0, 151, 0, false, 1008, 1010, 58, 69), (8, 227, 0, 152, 0, false, 1012, 1014, 59, 69), (10, 122, 1, 157, 1, false, 927, 928, 0, 73), (11, 59, 1, 159, 1, false, 913, 914, 0, 72), (9, 9, 2, 59, 0, false, 76, 77, 0, 61), (9, 12, 2, 86, 0, false, 676, 677, 0, 69), (9, 13, 0, 60, 2, false, 323, 324, 325, 61), (9, 17, 0, 115, 2, false, 729, 730, 731, 69), (9, 18, 0, 61, 2, false, 380, 381, 382, 61)]
def evCT_8 : List (Nat × Nat × Nat × Nat × Nat × Bool × Nat × Nat × Nat × Nat) := [(9, 21, 0, 118, 2, false, 746, 747, 748, 69), (9, 22, 0, 62, 2, false, 392, 393, 394, 61), (9, 25, 0, 119, 2, false, 762, 763, 764, 69), (9, 26, 0, 63, 1, false, 400, 401, 402, 61), (9, 30, 0, 122, 1, false, 774, 775, 776, 69), (9, 31, 0, 64, 2, false, 412, 413, 414, 61), (9, 34, 0, 124, 2, false, 790, 791, 792, 69), (9, 35, 0, 65, 1, false, 420, 421, 422, 61), (9, 38, 0, 126, 1, false, 798, 799, 800, 69), (9, 39, 0, 66, 2, false, 493, 494, 495, 61), (9, 42, 0, 128, 2, false, 874, 875, 876, 69), (9, 43, 0, 67, 2, false, 499, 500, 501, 61), (9, 46, 0, 129, 2, false, 882, 883, 884, 69), (9, 47, 0, 68, 2, false, 504, 505, 506, 61), (9, 50, 0, 130, 2, false, 890, 891, 892, 69), (9, 51, 0, 69, 1, false, 516, 517, 518, 61), (9, 54, 0, 131, 1, false, 894, 895, 896, 69), (9, 55, 0, 70, 0, false, 537, 538, 539, 61), (9, 59, 0, 132, 0, false, 906, 907, 908, 69), (9, 60, 0, 71, 0, false, 546, 547, 548, 61)]
def evCT_9 : List (Nat × Nat × Nat × Nat × Nat × Bool × Nat × Nat × Nat × Nat) := [(9, 64, 0, 133, 0, false, 920, 921, 922, 69), (9, 65, 0, 72, 0, false, 562, 563, 564, 61), (9, 68, 0, 135, 0, false, 934, 935, 936, 69), (9, 69, 0, 73, 1, false, 572, 573, 574, 61), (9, 72, 0, 137, 1, false, 942, 943, 944, 69), (9, 73, 0, 74, 2, false, 581, 582, 583, 61), (9, 76, 0, 139, 2, false, 950, 951, 952, 69), (9, 79, 0, 75, 1, false, 590, 591, 592, 61), (9, 83, 0, 140, 1, false, 959, 960, 961, 69), (9, 84, 0, 76, 0, false, 604, 605, 606, 61), (9, 87, 0, 141, 0, false, 964, 965, 966, 69), (9, 88, 0, 77, 0, false, 612, 613, 614, 61), (9, 91, 0, 150, 0, false, 968, 969, 970, 69), (9, 92, 0, 78, 0, false, 648, 649, 650, 61), (9, 95, 0, 153, 0, false, 1004, 1005, 1006, 69), (9, 96, 0, 79, 0, false, 658, 659, 660, 61), (9, 99, 0, 154, 0, false, 1016, 1017, 1018, 69), (9, 100, 0, 80, 1, false, 666, 667, 668, 61), (9, 103, 0, 155, 1, false, 1020, 1021, 1022, 69), (9, 104, 0, 81, 1, false, 670, 671, 672, 61)]
def evCT_10 : List (Nat × Nat × Nat × Nat × Nat × Bool × Nat × Nat × Nat × Nat) := [(9, 107, 0, 156, 1, false, 1024, 1025, 1026, 69)]
def evCT : List (Nat × Nat × Nat × Nat × Nat × Bool × Nat × Nat × Nat × Nat) := evCT_1 ++ (evCT_2 ++ (evCT_3 ++ (evCT_4 ++ (evCT_5 ++ (evCT_6 ++ (evCT_7 ++ (evCT_8 ++ (evCT_9 ++ (evCT_10)))))))))
def evNT_1 : List (Nat × Nat × Nat × Nat × Nat × Nat × Nat) := [(0, 3, 3, 118, 80, 81, 0), (1, 1, 3, 112, 80, 81, 0), (2, 3, 3, 87, 80, 81, 0), (2, 47, 0, 335, 337, 336, 70), (3, 3, 3, 257, 80, 81, 0), (4, 1, 3, 182, 80, 81, 0), (5, 3, 3, 277, 80, 81, 0), (6, 1, 3, 99, 80, 81, 0), (6, 13, 0, 364, 337, 336, 70), (7, 1, 3, 79, 80, 81, 0), (8, 1, 3, 679, 80, 81, 0), (10, 134, 2, 930, 932, 931, 73), (11, 74, 1, 916, 918, 917, 72)]
def evNT : List (Nat × Nat × Nat × Nat × Nat × Nat × Nat) := evNT_1
def evWT_1 : List (Nat × Nat × Nat × Nat × Nat × Nat) := [(1, 7, 0, 113, 114, 65), (2, 37, 6, 94, 95, 63), (4, 7, 0, 183, 114, 65), (7, 7, 2, 82, 83, 62), (7, 19, 3, 252, 253, 67), (7, 26, 5, 272, 273, 68), (9, 7, 7, 74, 75, 61), (9, 10, 8, 674, 675, 69)]
def evWT : List (Nat × Nat × Nat × Nat × Nat × Nat) := evWT_1
def evAT_1 : List (Nat × Nat × Nat × Nat × Nat) := [(2, 19, 11, 88, 89), (2, 25, 13, 90, 91), (2, 31, 10, 92, 93), (3, 11, 12, 258, 259)]
def evAT : List (Nat × Nat × Nat × Nat × Nat) := evAT_1
def evLT_1 : List (Nat × Nat × Value × Nat) := [(5, 23, .long (255), 601), (5, 25, .long (33), 602), (5, 27, .long (126), 603), (7, 202, .int (100000), 589), (7, 235, .float (1258291200), 544), (7, 236, .int (8388607), 545), (7, 237, .long (1023), 557), (7, 239, .double (4611686018427387904), 558), (7, 241, .long (2046), 559), (7, 243, .double (4841369599423283200), 560), (7, 245, .long (4503599627370495), 561), (8, 188, .int (100000), 958), (8, 189, .long (255), 963), (10, 137, .long (9221120237041090560), 933), (11, 77, .int (2143289344), 919), (9, 77, .long (4294967295), 1028)]
def evLT : List (Nat × Nat × Value × Nat) := evLT_1
def evST_1 : List (Nat × Nat × Nat × Nat) := [(2, 82, 0, 369), (2, 85, 1, 371)]
def evST : List (Nat × Nat × Nat × Nat) := evST_1
def evFokB (q : Nat × Nat × Nat × Nat × Bool × Nat) : Bool := match vwCl[q.2.2.1]? with
  | none => false
  | some (C, T, N) => decide (q.2.2.2.1 < N) && (if q.2.2.2.2.1 then decide (lw_tbl[q.2.2.2.2.2]? = some (Cond.fieldLinkNest (evOs q.1) q.2.1 C (T q.2.2.2.1).2.1 (T q.2.2.2.1).2.2.1 "EchoBids")) else decide (lw_tbl[q.2.2.2.2.2]? = some (Cond.fieldLink (evOs q.1) q.2.1 C (T q.2.2.2.1).2.1 (T q.2.2.2.1).2.2.1)))
set_option maxRecDepth 100000 in
theorem evFT_ok : evFT.all evFokB = true := by decide +kernel
def evCokB (q : Nat × Nat × Nat × Nat × Nat × Bool × Nat × Nat × Nat × Nat) : Bool := match q with
  | (o, i, kd, y, n, ne, pl, pb, pc, pd) =>
    (if ne then decide (lw_tbl[pl]? = some (Cond.methodLinkNest (evOs o) i (evName y) "EchoBids")) else decide (lw_tbl[pl]? = some (Cond.methodLink (evOs o) i (evName y)))) &&
    (if kd = 1 then decide (lw_tbl[pb]? = some (Cond.static (evName y))) else decide (lw_tbl[pb]? = some (Cond.instanceMethod (evName y)))) &&
    (if kd = 0 then decide (lw_tbl[pc]? = some (Cond.selects (evName y).cls (evName y) (evName y))) else true) &&
    decide (lw_tbl[pd]? = some (Cond.initialized (evName y).cls)) &&
    decide ((evName y).cls ≠ "java/lang/invoke/MethodHandle" ∧ (evName y).cls ≠ "java/lang/invoke/VarHandle" ∧ (parseMethodDescriptor (evName y).desc).map (fun d => d.parameters.length) = some n) &&
    (if kd = 2 then decide ((evName y).name = "<init>") && decide (evRet y = none) else true) && decide (y < evLawN) && decide (kd < 3) && decide ((evName y).cls = evOs (evOw y))
set_option maxRecDepth 100000 in
theorem evCT_ok : evCT.all evCokB = true := by decide +kernel
def evNokB (q : Nat × Nat × Nat × Nat × Nat × Nat × Nat) : Bool := match q with
  | (o, i, k, p1, p2, p3, p4) =>
    if k = 3 then decide (lw_tbl[p1]? = some (Cond.methodLink (evOs o) i objectInit)) && decide (lw_tbl[p2]? = some (Cond.instanceMethod objectInit)) && decide (p3 = 81)
    else if k = 0 then decide (lw_tbl[p1]? = some (Cond.methodLink (evOs o) i arraycopyName)) && decide (lw_tbl[p2]? = some (Cond.native arraycopyName)) && decide (lw_tbl[p3]? = some (Cond.static arraycopyName)) && decide (lw_tbl[p4]? = some (Cond.initialized "java/lang/System"))
    else if k = 1 then decide (lw_tbl[p1]? = some (Cond.methodLink (evOs o) i ⟨"java/lang/Float", "floatToRawIntBits", "(F)I"⟩)) && decide (lw_tbl[p2]? = some (Cond.native ⟨"java/lang/Float", "floatToRawIntBits", "(F)I"⟩)) && decide (lw_tbl[p3]? = some (Cond.static ⟨"java/lang/Float", "floatToRawIntBits", "(F)I"⟩)) && decide (lw_tbl[p4]? = some (Cond.initialized "java/lang/Float"))
    else if k = 2 then decide (lw_tbl[p1]? = some (Cond.methodLink (evOs o) i ⟨"java/lang/Double", "doubleToRawLongBits", "(D)J"⟩)) && decide (lw_tbl[p2]? = some (Cond.native ⟨"java/lang/Double", "doubleToRawLongBits", "(D)J"⟩)) && decide (lw_tbl[p3]? = some (Cond.static ⟨"java/lang/Double", "doubleToRawLongBits", "(D)J"⟩)) && decide (lw_tbl[p4]? = some (Cond.initialized "java/lang/Double"))
    else false
set_option maxRecDepth 100000 in
theorem evNT_ok : evNT.all evNokB = true := by decide +kernel
theorem evObjCode : Cond.code objectInit ⟨#[0xb1]⟩ 1 none ∈ lw_tbl := List.mem_of_getElem? (i := 81) rfl
def evWokB (q : Nat × Nat × Nat × Nat × Nat × Nat) : Bool := match q with
  | (o, i, ci, p1, p2, p3) => match vwCl[ci]? with
    | none => false
    | some (C, _, N) => decide (lw_tbl[p1]? = some (Cond.classLink (evOs o) i C)) && decide (lw_tbl[p2]? = some (Cond.instantiable C N)) && decide (lw_tbl[p3]? = some (Cond.initialized C))
set_option maxRecDepth 100000 in
theorem evWT_ok : evWT.all evWokB = true := by decide +kernel
/-- the kind of what an array of references holds -/
def evEl (k : Nat) : Nat := match k with
  | 10 => 0
  | 11 => 1
  | 12 => 2
  | _ => 4
def evAokB (q : Nat × Nat × Nat × Nat × Nat) : Bool := match q with
  | (o, i, k, p1, p2) => match vwCl[evEl k]? with
    | none => false
    | some (C, _, _) => decide (10 ≤ k ∧ k ≤ 13) && decide (lw_tbl[p1]? = some (Cond.classLink (evOs o) i C)) && decide (lw_tbl[p2]? = some (Cond.arrayOver (.object C)))
set_option maxRecDepth 100000 in
theorem evAT_ok : evAT.all evAokB = true := by decide +kernel
def evLokB (q : Nat × Nat × Value × Nat) : Bool := match q with
  | (o, i, v, p) => match v with
    | .int x => decide (lw_tbl[p]? = some (Cond.constant (evOs o) i x))
    | .long x => decide (lw_tbl[p]? = some (Cond.constantLong (evOs o) i x))
    | .float x => decide (lw_tbl[p]? = some (Cond.constantFloat (evOs o) i x))
    | .double x => decide (lw_tbl[p]? = some (Cond.constantDouble (evOs o) i x))
    | _ => false
set_option maxRecDepth 100000 in
theorem evLT_ok : evLT.all evLokB = true := by decide +kernel
def evGn (k : Nat) : String := match k with
  | 0 => "LEAST"
  | _ => "GREATEST"
def evSokB (q : Nat × Nat × Nat × Nat) : Bool := match q with
  | (o, i, k, p) => decide (k < 2) && decide (lw_tbl[p]? = some (Cond.fieldLinkNest (evOs o) i "EchoBids" (evGn k) "[I" "EchoBids"))
set_option maxRecDepth 100000 in
theorem evST_ok : evST.all evSokB = true := by decide +kernel
set_option maxRecDepth 100000 in
theorem evOw_ok : ∀ y, y < evLawN → (evName y).cls = evOs (evOw y) := by decide +kernel
def evF (y i : Nat) : Option (Nat × Nat × Bool × Nat) := (evFT.find? (fun q => q.1 == evOw y && q.2.1 == i)).map (fun q => q.2.2)
def evCl (y i : Nat) : Option (Nat × Nat × Nat × Bool × Nat × Nat × Nat × Nat) := (evCT.find? (fun q => q.1 == evOw y && q.2.1 == i)).map (fun q => q.2.2)
def evNa (y i : Nat) : Option (Nat × Nat × Nat × Nat × Nat) := (evNT.find? (fun q => q.1 == evOw y && q.2.1 == i)).map (fun q => q.2.2)
def evWn (y i : Nat) : Option (Nat × Nat × Nat × Nat) := (evWT.find? (fun q => q.1 == evOw y && q.2.1 == i)).map (fun q => q.2.2)
def evAn (y i : Nat) : Option (Nat × Nat × Nat) := (evAT.find? (fun q => q.1 == evOw y && q.2.1 == i)).map (fun q => q.2.2)
def evLd (y i : Nat) : Option (Value × Nat) := (evLT.find? (fun q => q.1 == evOw y && q.2.1 == i)).map (fun q => q.2.2)
def evSt (y i : Nat) : Option (Nat × Nat) := (evST.find? (fun q => q.1 == evOw y && q.2.1 == i)).map (fun q => q.2.2)
/-- the fields of kind k: how many; which hold references; which are final; their types -/
def evFN (k : Nat) : Nat := match k with
  | 0 => 3
  | 1 => 9
  | 2 => 10
  | 3 => 3
  | 4 => 6
  | 5 => 8
  | 6 => 2
  | 7 => 5
  | 8 => 16
  | _ => 0
def evIsR (k j : Nat) : Bool := match k with
  | 0 => false
  | 1 => decide (j = 8)
  | 2 => decide (j = 0) || decide (j = 6) || decide (j = 7) || decide (j = 8) || decide (j = 9)
  | 3 => decide (j = 0)
  | 4 => decide (j = 5)
  | 5 => decide (j = 0)
  | 6 => decide (j = 0)
  | 7 => decide (j = 0) || decide (j = 1) || decide (j = 2) || decide (j = 3) || decide (j = 4)
  | 8 => decide (j = 0) || decide (j = 1) || decide (j = 2) || decide (j = 4) || decide (j = 5) || decide (j = 6) || decide (j = 11) || decide (j = 14)
  | _ => false
def evTy (k : Nat) : Nat → FieldType := match k with
  | 0 => tyX0
  | 1 => tyX1
  | 2 => tyX2
  | 3 => tyX3
  | 4 => tyX4
  | 5 => tyX5
  | 6 => tyX6
  | 7 => tyX7
  | 8 => tyX8
  | _ => fun _ => .int
def evFin (k j : Nat) : Bool := match vwCl[k]? with
  | some (_, T, _) => (T j).2.2.2
  | none => false
/-- the words that a call hands on -/
def evTb : List Cond := lw_tbl.filter goodWord
end
section
/-! AN EVALUATOR OF THE CLAIM'S BYTECODE over a plain world: cells are numbered from 0 on; ints, references and shapes are functions; what it answers, the machine does (ev_sound in a later part). -/
abbrev evL : Type := List (Nat × Value)
abbrev evM : Type := Nat → Nat → Int32
/-- the fixed side of a world: number of cells, number of slots, kind and length of a cell, references, the rows of ints that lie outside -/
abbrev evH : Type := Nat × Nat × (Nat → Nat × Nat) × (Nat → Nat → Option Nat) × (Nat → Nat × (Nat → Int32))
abbrev evC : Type := Nat × evL × List Value × evH × evM
abbrev evO : Type := Option Value × evH × evM
def evN (h : evH) : Nat := h.1
def evSl (h : evH) : Nat := h.2.1
def evK (h : evH) (a : Nat) : Nat := (h.2.2.1 a).1
def evLen (h : evH) (a : Nat) : Nat := (h.2.2.1 a).2
def evR (h : evH) (a j : Nat) : Option Nat := h.2.2.2.1 a j
def evSp (h : evH) (k : Nat) : Nat × (Nat → Int32) := h.2.2.2.2 k
/-- where the numbers of what lies outside begin -/
def evO9 : Nat := 1000000000
/-- a new cell of kind k and length n -/
def evNew (h : evH) (k n : Nat) : evH := (h.1 + 1, h.2.1 + n, (fun a => if a = h.1 then (k, n) else h.2.2.1 a), (fun a j => if a = h.1 then none else h.2.2.2.1 a j), h.2.2.2.2)
def evNewM (h : evH) (mi : evM) : evM := fun a j => if a = h.1 then 0 else mi a j
def evSetR (h : evH) (a j : Nat) (v : Option Nat) : evH := (h.1, h.2.1, h.2.2.1, (fun b i => if b = a ∧ i = j then v else h.2.2.2.1 b i), h.2.2.2.2)
def evSetM (mi : evM) (a j : Nat) (v : Int32) : evM := fun b i => if b = a ∧ i = j then v else mi b i
def evRowM (mi : evM) (a : Nat) (f : Nat → Int32) : evM := fun b i => if b = a then f i else mi b i
-- locals
def evLk (i : Nat) : evL → Option Value
  | [] => none
  | q :: t => if q.1 = i then some q.2 else evLk i t
def evIn (i : Nat) (v : Value) : evL → evL
  | [] => [(i, v)]
  | q :: t => if q.1 < i then q :: evIn i v t else (i, v) :: q :: t
def evS1 (i : Nat) (v : Value) (l : evL) : evL := evIn i v (l.filter (fun q => !(q.1 == i) && !(q.1 + 1 == i && q.2.category == 2)))
def evS2 (i : Nat) (v : Value) (l : evL) : evL := evIn i v (l.filter (fun q => !(q.1 == i) && (!(q.1 == i + 1) && !(q.1 + 1 == i && q.2.category == 2))))
-- the stack
section EVP
variable {α : Type}
def evPi (st : List Value) (f : Int32 → List Value → Option α) : Option α := match st with
  | .int x :: r => f x r
  | _ => none
def evPl (st : List Value) (f : Int64 → List Value → Option α) : Option α := match st with
  | .long x :: r => f x r
  | _ => none
def evPf (st : List Value) (f : UInt32 → List Value → Option α) : Option α := match st with
  | .float x :: r => f x r
  | _ => none
def evPd (st : List Value) (f : UInt64 → List Value → Option α) : Option α := match st with
  | .double x :: r => f x r
  | _ => none
def evPr (st : List Value) (f : Nat → List Value → Option α) : Option α := match st with
  | .ref x :: r => f x r
  | _ => none
/-- a reference or null -/
def evPq (st : List Value) (f : Option Nat → List Value → Option α) : Option α := match st with
  | .ref x :: r => f (some x) r
  | .null :: r => f none r
  | _ => none
def evPv (st : List Value) (f : Value → List Value → Option α) : Option α := match st with
  | v :: r => f v r
  | [] => none
def evIf (c : Prop) [Decidable c] (x : Option α) : Option α := if c then x else none
end EVP
def evJ (pc : Nat) (off : Int) : Option Nat := if 0 ≤ (pc : Int) + off then some ((pc : Int) + off).toNat else none
def evIc (c : Jvm.ClassFile.Cond) (x y : Int32) : Bool := match c with
  | .eq => decide (x = y)
  | .ne => !decide (x = y)
  | .lt => decide (x < y)
  | .ge => decide (y ≤ x)
  | .gt => decide (y < x)
  | .le => decide (x ≤ y)
/-- a row of ints: one of the world's, or one outside -/
def evRow (h : evH) (mi : evM) (a : Nat) : Option (Nat × (Nat → Int32)) :=
  if evO9 ≤ a then evIf (a < evO9 + 3) (some (evSp h (a - evO9))) else evIf (a < evN h ∧ evK h a = 9) (some (evLen h a, mi a))
def evALen (h : evH) (a : Nat) : Option Nat :=
  if evO9 ≤ a then evIf (a < evO9 + 3) (some (evSp h (a - evO9)).1) else evIf (a < evN h ∧ 9 ≤ evK h a ∧ evK h a ≤ 13) (some (evLen h a))
def evFit (k j : Nat) (x : Int32) : Bool := decide (narrow (evTy k j) (.int x) = .int x) && fits (evTy k j) (.int x)
def evInit (y k : Nat) : Bool := (evName y).name == "<init>" && evOw y == k
def evMay (y k j : Nat) (ne : Bool) : Bool := !(evFin k j) || (evInit y k && !ne)
def evCs (st : List Value) : Nat := (st.map fun v => v.category).sum
/-- one step that is no call and no end -/
def evStep (y pc : Nat) (i : Instr) (lv : evL) (st : List Value) (h : evH) (mi : evM) : Option evC := match i with
  | .aload k => (evLk k lv).bind fun v => evPq (v :: st) fun q r => some (pc + 2, lv, va_rf q :: r, h, mi)
  | .aload_n k => (evLk k.val lv).bind fun v => evPq (v :: st) fun q r => some (pc + 1, lv, va_rf q :: r, h, mi)
  | .iload k => (evLk k lv).bind fun v => evPi (v :: st) fun x r => some (pc + 2, lv, .int x :: r, h, mi)
  | .iload_n k => (evLk k.val lv).bind fun v => evPi (v :: st) fun x r => some (pc + 1, lv, .int x :: r, h, mi)
  | .lload k => (evLk k lv).bind fun v => evPl (v :: st) fun x r => some (pc + 2, lv, .long x :: r, h, mi)
  | .lload_n k => (evLk k.val lv).bind fun v => evPl (v :: st) fun x r => some (pc + 1, lv, .long x :: r, h, mi)
  | .fload_n k => (evLk k.val lv).bind fun v => evPf (v :: st) fun x r => some (pc + 1, lv, .float x :: r, h, mi)
  | .dload_n k => (evLk k.val lv).bind fun v => evPd (v :: st) fun x r => some (pc + 1, lv, .double x :: r, h, mi)
  | .astore k => evPq st fun q r => evIf (k < evML y) (some (pc + 2, evS1 k (va_rf q) lv, r, h, mi))
  | .astore_n k => evPq st fun q r => evIf (k.val < evML y) (some (pc + 1, evS1 k.val (va_rf q) lv, r, h, mi))
  | .istore k => evPi st fun x r => evIf (k < evML y) (some (pc + 2, evS1 k (.int x) lv, r, h, mi))
  | .istore_n k => evPi st fun x r => evIf (k.val < evML y) (some (pc + 1, evS1 k.val (.int x) lv, r, h, mi))
  | .lstore k => evPl st fun x r => evIf (k + 1 < evML y) (some (pc + 2, evS2 k (.long x) lv, r, h, mi))
  | .lstore_n k => evPl st fun x r => evIf (k.val + 1 < evML y) (some (pc + 1, evS2 k.val (.long x) lv, r, h, mi))
  | .fstore_n k => evPf st fun x r => evIf (k.val < evML y) (some (pc + 1, evS1 k.val (.float x) lv, r, h, mi))
  | .dstore_n k => evPd st fun x r => evIf (k.val + 1 < evML y) (some (pc + 1, evS2 k.val (.double x) lv, r, h, mi))
  | .iinc k n => (evLk k lv).bind fun v => evPi [v] fun x _ => evIf (k < evML y) (some (pc + 3, evS1 k (.int (x + Int32.ofInt n)) lv, st, h, mi))
  | .iconst n => some (pc + 1, lv, .int (Int32.ofInt n) :: st, h, mi)
  | .bipush n => some (pc + 2, lv, .int (Int8.ofInt n).toInt32 :: st, h, mi)
  | .sipush n => some (pc + 3, lv, .int (Int16.ofInt n).toInt32 :: st, h, mi)
  | .lconst n => some (pc + 1, lv, .long (Int64.ofNat (n : Nat)) :: st, h, mi)
  | .fconst n => match n with
    | 0 => some (pc + 1, lv, .float FP.fconst0 :: st, h, mi)
    | 1 => some (pc + 1, lv, .float FP.fconst1 :: st, h, mi)
    | 2 => some (pc + 1, lv, .float FP.fconst2 :: st, h, mi)
  | .dconst n => match n with
    | 0 => some (pc + 1, lv, .double FP.dconst0 :: st, h, mi)
    | 1 => some (pc + 1, lv, .double FP.dconst1 :: st, h, mi)
  | .aconst_null => some (pc + 1, lv, .null :: st, h, mi)
  | .ldc k => (evLd y k).bind fun q => match q.1 with
    | .int x => some (pc + 2, lv, .int x :: st, h, mi)
    | .float x => some (pc + 2, lv, .float x :: st, h, mi)
    | _ => none
  | .ldc2_w k => (evLd y k).bind fun q => match q.1 with
    | .long x => some (pc + 3, lv, .long x :: st, h, mi)
    | .double x => some (pc + 3, lv, .double x :: st, h, mi)
    | _ => none
  | .iadd => evPi st fun b r => evPi r fun a r => some (pc + 1, lv, .int (a + b) :: r, h, mi)
  | .isub => evPi st fun b r => evPi r fun a r => some (pc + 1, lv, .int (a - b) :: r, h, mi)
  | .imul => evPi st fun b r => evPi r fun a r => some (pc + 1, lv, .int (a * b) :: r, h, mi)
  | .iand => evPi st fun b r => evPi r fun a r => some (pc + 1, lv, .int (a &&& b) :: r, h, mi)
  | .ior => evPi st fun b r => evPi r fun a r => some (pc + 1, lv, .int (a ||| b) :: r, h, mi)
  | .ixor => evPi st fun b r => evPi r fun a r => some (pc + 1, lv, .int (a ^^^ b) :: r, h, mi)
  | .ishl => evPi st fun b r => evPi r fun a r => some (pc + 1, lv, .int (a <<< (b &&& 31)) :: r, h, mi)
  | .idiv => evPi st fun b r => evPi r fun a r => evIf (¬ b = 0) (some (pc + 1, lv, .int (a / b) :: r, h, mi))
  | .irem => evPi st fun b r => evPi r fun a r => evIf (¬ b = 0) (some (pc + 1, lv, .int (a - a / b * b) :: r, h, mi))
  | .ineg => evPi st fun a r => some (pc + 1, lv, .int (-a) :: r, h, mi)
  | .ladd => evPl st fun b r => evPl r fun a r => some (pc + 1, lv, .long (a + b) :: r, h, mi)
  | .lsub => evPl st fun b r => evPl r fun a r => some (pc + 1, lv, .long (a - b) :: r, h, mi)
  | .land => evPl st fun b r => evPl r fun a r => some (pc + 1, lv, .long (a &&& b) :: r, h, mi)
  | .lor => evPl st fun b r => evPl r fun a r => some (pc + 1, lv, .long (a ||| b) :: r, h, mi)
  | .lshl => evPi st fun b r => evPl r fun a r => some (pc + 1, lv, .long (a <<< (b.toInt64 &&& 63)) :: r, h, mi)
  | .lushr => evPi st fun b r => evPl r fun a r => some (pc + 1, lv, .long (a.toUInt64 >>> (b.toInt64.toUInt64 &&& Int64.toUInt64 63)).toInt64 :: r, h, mi)
  | .lcmp => evPl st fun b r => evPl r fun a r => some (pc + 1, lv, .int (lg_cmp a b) :: r, h, mi)
  | .i2l => evPi st fun a r => some (pc + 1, lv, .long a.toInt64 :: r, h, mi)
  | .l2i => evPl st fun a r => some (pc + 1, lv, .int a.toInt32 :: r, h, mi)
  | .i2f => evPi st fun a r => some (pc + 1, lv, .float (FP.i2f a) :: r, h, mi)
  | .i2d => evPi st fun a r => some (pc + 1, lv, .double (FP.i2d a) :: r, h, mi)
  | .f2i => evPf st fun a r => some (pc + 1, lv, .int (FP.f2i a) :: r, h, mi)
  | .d2l => evPd st fun a r => some (pc + 1, lv, .long (FP.d2l a) :: r, h, mi)
  | .fmul => evPf st fun b r => evPf r fun a r => evIf (FP.fmul a b &&& 0x7fffffff ≤ 0x7f800000) (some (pc + 1, lv, .float (FP.fmul a b) :: r, h, mi))
  | .fdiv => evPf st fun b r => evPf r fun a r => evIf (FP.fdiv a b &&& 0x7fffffff ≤ 0x7f800000) (some (pc + 1, lv, .float (FP.fdiv a b) :: r, h, mi))
  | .dmul => evPd st fun b r => evPd r fun a r => evIf (FP.dmul a b &&& 0x7fffffffffffffff ≤ 0x7ff0000000000000) (some (pc + 1, lv, .double (FP.dmul a b) :: r, h, mi))
  | .ddiv => evPd st fun b r => evPd r fun a r => evIf (FP.ddiv a b &&& 0x7fffffffffffffff ≤ 0x7ff0000000000000) (some (pc + 1, lv, .double (FP.ddiv a b) :: r, h, mi))
  | .fcmp op => evPf st fun b r => evPf r fun a r => some (pc + 1, lv, .int (Op.cmpValue (FP.fcmp a b) op) :: r, h, mi)
  | .dcmp op => evPd st fun b r => evPd r fun a r => some (pc + 1, lv, .int (Op.cmpValue (FP.dcmp a b) op) :: r, h, mi)
  | .dup => evPv st fun v r => evIf (v.category = 1) (some (pc + 1, lv, v :: v :: r, h, mi))
  | .pop => evPv st fun v r => evIf (v.category = 1) (some (pc + 1, lv, r, h, mi))
  | .dup2 => evPv st fun v r => evPv r fun u r => evIf (v.category = 1 ∧ u.category = 1) (some (pc + 1, lv, v :: u :: v :: u :: r, h, mi))
  | .goto off => (evJ pc off).bind fun t => some (t, lv, st, h, mi)
  | .ifCond c off => evPi st fun x r => (evJ pc off).bind fun t => some (if evIc c x 0 = true then t else pc + 3, lv, r, h, mi)
  | .if_icmp c off => evPi st fun b r => evPi r fun a r => (evJ pc off).bind fun t => some (if evIc c a b = true then t else pc + 3, lv, r, h, mi)
  | .ifnull off => evPq st fun q r => (evJ pc off).bind fun t => some (if q.isNone = true then t else pc + 3, lv, r, h, mi)
  | .ifnonnull off => evPq st fun q r => (evJ pc off).bind fun t => some (if q.isNone = true then pc + 3 else t, lv, r, h, mi)
  | .lookupswitch dflt ps => evPi st fun x r => evIf ((ps.toList.zip (ps.toList.drop 1)).all (fun (a, next) => a.1 < next.1) = true) ((evJ pc (Op.lookupswitch.offset ps.toList dflt x.toInt)).bind fun t => some (t, lv, r, h, mi))
  | .tableswitch dflt lo hi offs => evPi st fun x r => if x.toInt < lo ∨ hi < x.toInt then (evJ pc dflt).bind fun t => some (t, lv, r, h, mi) else (offs[(x.toInt - lo).toNat]?).bind fun off => (evJ pc off).bind fun t => some (t, lv, r, h, mi)
  | .getfield k => (evF y k).bind fun q => evPr st fun a r => evIf (a < evN h ∧ evK h a = q.1) (some (pc + 3, lv, (if evIsR q.1 q.2.1 = true then va_rf (evR h a q.2.1) else .int (mi a q.2.1)) :: r, h, mi))
  | .putfield k => (evF y k).bind fun q => evIf (evMay y q.1 q.2.1 q.2.2.1 = true) (if evIsR q.1 q.2.1 = true then evPq st fun v r => evPr r fun a r => evIf (a < evN h ∧ evK h a = q.1) (some (pc + 3, lv, r, evSetR h a q.2.1 v, mi))
      else evPi st fun x r => evPr r fun a r => evIf (a < evN h ∧ evK h a = q.1 ∧ evFit q.1 q.2.1 x = true) (some (pc + 3, lv, r, h, evSetM mi a q.2.1 x)))
  | .getstatic k => (evSt y k).bind fun q => some (pc + 3, lv, .ref (evO9 + q.1) :: st, h, mi)
  | .iaload => evPi st fun j r => evPr r fun a r => (evRow h mi a).bind fun q => evIf (¬ j < 0 ∧ j.toNatClampNeg < q.1) (some (pc + 1, lv, .int (q.2 j.toNatClampNeg) :: r, h, mi))
  | .iastore => evPi st fun x r => evPi r fun j r => evPr r fun a r => evIf (a < evN h ∧ evK h a = 9 ∧ ¬ j < 0 ∧ j.toNatClampNeg < evLen h a) (some (pc + 1, lv, r, h, evSetM mi a j.toNatClampNeg x))
  | .aaload => evPi st fun j r => evPr r fun a r => evIf (a < evN h ∧ 10 ≤ evK h a ∧ evK h a ≤ 13 ∧ ¬ j < 0 ∧ j.toNatClampNeg < evLen h a) (some (pc + 1, lv, va_rf (evR h a j.toNatClampNeg) :: r, h, mi))
  | .aastore => evPr st fun v r => evPi r fun j r => evPr r fun a r => evIf (a < evN h ∧ v < evN h ∧ 10 ≤ evK h a ∧ evK h a ≤ 13 ∧ evEl (evK h a) = evK h v ∧ ¬ j < 0 ∧ j.toNatClampNeg < evLen h a) (some (pc + 1, lv, r, evSetR h a j.toNatClampNeg (some v), mi))
  | .arraylength => evPr st fun a r => (evALen h a).bind fun n => some (pc + 1, lv, .int (Int32.ofNat n) :: r, h, mi)
  | .new k => (evWn y k).bind fun q => evIf (evN h < evO9) (some (pc + 3, lv, .ref (evN h) :: st, evNew h q.1 (evFN q.1), evNewM h mi))
  | .newarray t => match t with
    | .int => evPi st fun n r => evIf (evN h < evO9 ∧ ¬ n < 0 ∧ n.toNatClampNeg ≤ 100000000) (some (pc + 2, lv, .ref (evN h) :: r, evNew h 9 n.toNatClampNeg, evNewM h mi))
    | _ => none
  | .anewarray k => (evAn y k).bind fun q => evPi st fun n r => evIf (evN h < evO9 ∧ ¬ n < 0 ∧ n.toNatClampNeg ≤ 100000000) (some (pc + 3, lv, .ref (evN h) :: r, evNew h q.1 n.toNatClampNeg, evNewM h mi))
  | .invokestatic k => (evNa y k).bind fun q => evIf (1 ≤ evFr y ∧ 26 ≤ evLo y) (match q.1 with
    | 0 => evPi st fun n r => evPi r fun dp r => evPr r fun a r => evPi r fun sp r => evPr r fun b r =>
      evIf (a < evN h ∧ b < evN h ∧ evK h a = 9 ∧ evK h b = 9 ∧ ¬ sp < 0 ∧ ¬ dp < 0 ∧ ¬ n < 0 ∧ sp.toNatClampNeg + n.toNatClampNeg ≤ evLen h b ∧ dp.toNatClampNeg + n.toNatClampNeg ≤ evLen h a ∧ evCs r ≤ 8)
        (some (pc + 3, lv, r, h, evRowM mi a (va_cpy (mi b) (mi a) sp.toNatClampNeg dp.toNatClampNeg n.toNatClampNeg)))
    | 1 => evPf st fun x r => evIf (evCs r ≤ 8) (some (pc + 3, lv, .int x.toInt32 :: r, h, mi))
    | 2 => evPd st fun x r => evIf (evCs r ≤ 8) (some (pc + 3, lv, .long x.toInt64 :: r, h, mi))
    | _ => none)
  | .invokespecial k => (evNa y k).bind fun q => evIf (q.1 = 3 ∧ 1 ≤ evFr y ∧ 20 ≤ evLo y) (evPr st fun _ r => evIf (evCs r ≤ 8) (some (pc + 3, lv, r, h, mi)))
  | _ => none
/-- how long an instruction is; the two switches are as long as they are -/
def evLenOk (i : Instr) (len : Nat) : Bool := match i with
  | .lookupswitch .. | .tableswitch .. => true
  | .aload _ | .iload _ | .lload _ | .astore _ | .istore _ | .lstore _ | .bipush _ | .ldc _ | .newarray _ => len == 2
  | .iinc .. | .sipush _ | .ldc2_w _ | .goto _ | .ifCond .. | .if_icmp .. | .ifnull _ | .ifnonnull _ | .getfield _ | .putfield _ | .getstatic _ | .new _ | .anewarray _ | .invokestatic _ | .invokespecial _ | .invokevirtual _ => len == 3
  | _ => len == 1
/-- the end of a method -/
def evEnd (y : Nat) (i : Instr) (st : List Value) : Option (Option Value) := match i with
  | .return_ => match st with
    | [] => evIf (evRet y = none) (some none)
    | _ => none
  | .ireturn => match st, evRet y with
    | [.int x], some t => evIf (narrow t (.int x) = .int x) (some (some (.int x)))
    | _, _ => none
  | .lreturn => match st with
    | [.long x] => evIf (evRet y = some .long) (some (some (.long x)))
    | _ => none
  | .areturn => match st, evRet y with
    | [.ref a], some (.object _) => some (some (.ref a))
    | [.null], some (.object _) => some (some .null)
    | _, _ => none
  | _ => none
/-- a call: whom, with what, what stays below -/
def evCall (y : Nat) (i : Instr) (st : List Value) (h : evH) : Option (Nat × List Value × List Value) := match i with
  | .invokevirtual k => (evCl y k).bind fun q => evIf (q.1 = 0 ∧ evFr q.2.1 + 1 ≤ evFr y ∧ 19 + evML q.2.1 + evLo q.2.1 ≤ evLo y ∧ q.2.2.1 ≤ st.length) (evPr (st.drop q.2.2.1) fun a r => evIf (a < evN h ∧ evK h a = evOw q.2.1 ∧ evOw q.2.1 < 9 ∧ evCs r ≤ 8 ∧ 1 + evCs (st.take q.2.2.1) ≤ evML q.2.1) (some (q.2.1, .ref a :: (st.take q.2.2.1).reverse, r)))
  | .invokestatic k => (evCl y k).bind fun q => evIf (q.1 = 1 ∧ evFr q.2.1 + 1 ≤ evFr y ∧ 19 + evML q.2.1 + evLo q.2.1 ≤ evLo y ∧ q.2.2.1 ≤ st.length ∧ evCs (st.drop q.2.2.1) ≤ 8 ∧ evCs (st.take q.2.2.1) ≤ evML q.2.1) (some (q.2.1, (st.take q.2.2.1).reverse, st.drop q.2.2.1))
  | .invokespecial k => (evCl y k).bind fun q => evIf (q.1 = 2 ∧ evFr q.2.1 + 1 ≤ evFr y ∧ 19 + evML q.2.1 + evLo q.2.1 ≤ evLo y ∧ q.2.2.1 ≤ st.length) (evPr (st.drop q.2.2.1) fun a r => evIf (evCs r ≤ 8 ∧ 1 + evCs (st.take q.2.2.1) ≤ evML q.2.1) (some (q.2.1, .ref a :: (st.take q.2.2.1).reverse, r)))
  | _ => none
def evIns (y pc : Nat) : Option (Instr × Nat) := (((evBT[y]?).map (fun q => q.2)).bind fun T => (T.find? (fun q => q.1 == pc)).map (fun q => q.2)).bind fun q => evIf (evLenOk q.1 q.2 = true) (some q)
theorem evIns_dec {y pc : Nat} {q : Instr × Nat} (h : evIns y pc = some q) : decode (evCode y) pc = .ok q ∧ evLenOk q.1 q.2 = true := by
  unfold evIns at h
  cases hb : evBT[y]? with
  | none => rw [hb] at h; cases h
  | some T =>
    rw [hb] at h
    simp only [Option.map_some, Option.bind_some] at h
    cases hf : T.2.find? (fun q => q.1 == pc) with
    | none => rw [hf] at h; cases h
    | some z =>
      rw [hf] at h
      simp only [Option.map_some, Option.bind_some, evIf] at h
      split at h
      · rename_i hl
        cases h
        have hz := List.find?_some hf
        have hm := List.mem_of_find?_eq_some hf
        have hT := evBT_ok T (List.mem_of_getElem? hb)
        have h1 := List.all_eq_true.mp hT z hm
        have hz : z.1 = pc := by simpa using hz
        have hc : evCode y = T.1 := by
          have h2 : (evBT.map (fun q => q.1))[y]? = some T.1 := by rw [List.getElem?_map, hb]; rfl
          rw [evBT_codes, List.getElem?_map] at h2
          cases hm2 : evMT[y]? with
          | none => rw [hm2] at h2; cases h2
          | some w =>
            rw [hm2] at h2
            simp only [Option.map_some, Option.some.injEq] at h2
            unfold evCode
            rw [List.getD_eq_getElem?_getD, hm2]
            exact h2
        refine ⟨?_, hl⟩
        rw [hc, ← hz]
        exact of_decide_eq_true h1
      · cases h
def evRun : Nat → Nat → Nat → evL → List Value → evH → evM → Option evO
  | 0, _, _, _, _, _, _ => none
  | n + 1, y, pc, lv, st, h, mi => (evIns y pc).bind fun q => match evEnd y q.1 st with
    | some r => some (r, h, mi)
    | none => match evCall y q.1 st h with
      | some c => (evRun n c.1 0 (lv_args 0 c.2.1) [] h mi).bind fun o => evRun n y (pc + 3) lv (o.1.toList ++ c.2.2) o.2.1 o.2.2
      | none => (evStep y pc q.1 lv st h mi).bind fun s => evRun n y s.1 s.2.1 s.2.2.1 s.2.2.2.1 s.2.2.2.2
end
section
/-! what the evaluator's helpers say, undone; the tables' facts; where a world lies -/
section EVU
variable {α : Type} {z : α}
theorem evPi_of {st : List Value} {f : Int32 → List Value → Option α} (h : evPi st f = some z) : ∃ x r, st = .int x :: r ∧ f x r = some z := by
  unfold evPi at h
  split at h
  · exact ⟨_, _, rfl, h⟩
  · cases h
theorem evPl_of {st : List Value} {f : Int64 → List Value → Option α} (h : evPl st f = some z) : ∃ x r, st = .long x :: r ∧ f x r = some z := by
  unfold evPl at h
  split at h
  · exact ⟨_, _, rfl, h⟩
  · cases h
theorem evPf_of {st : List Value} {f : UInt32 → List Value → Option α} (h : evPf st f = some z) : ∃ x r, st = .float x :: r ∧ f x r = some z := by
  unfold evPf at h
  split at h
  · exact ⟨_, _, rfl, h⟩
  · cases h
theorem evPd_of {st : List Value} {f : UInt64 → List Value → Option α} (h : evPd st f = some z) : ∃ x r, st = .double x :: r ∧ f x r = some z := by
  unfold evPd at h
  split at h
  · exact ⟨_, _, rfl, h⟩
  · cases h
theorem evPr_of {st : List Value} {f : Nat → List Value → Option α} (h : evPr st f = some z) : ∃ x r, st = .ref x :: r ∧ f x r = some z := by
  unfold evPr at h
  split at h
  · exact ⟨_, _, rfl, h⟩
  · cases h
theorem evPq_of {st : List Value} {f : Option Nat → List Value → Option α} (h : evPq st f = some z) : ∃ q r, st = va_rf q :: r ∧ f q r = some z := by
  unfold evPq at h
  split at h
  · exact ⟨some _, _, rfl, h⟩
  · exact ⟨none, _, rfl, h⟩
  · cases h
theorem evPv_of {st : List Value} {f : Value → List Value → Option α} (h : evPv st f = some z) : ∃ v r, st = v :: r ∧ f v r = some z := by
  unfold evPv at h
  split at h
  · exact ⟨_, _, rfl, h⟩
  · cases h
theorem evIf_of {c : Prop} [Decidable c] {x : Option α} (h : evIf c x = some z) : c ∧ x = some z := by
  unfold evIf at h
  split at h
  · rename_i hc
    exact ⟨hc, h⟩
  · cases h
theorem evB_of {β : Type} {x : Option β} {f : β → Option α} (h : x.bind f = some z) : ∃ b, x = some b ∧ f b = some z := by
  cases x with
  | none => cases h
  | some b => exact ⟨b, rfl, h⟩
end EVU
theorem evJ_of {pc t : Nat} {off : Int} (h : evJ pc off = some t) : (pc : Int) + off = (t : Int) := by
  unfold evJ at h
  split at h
  · rename_i h0
    have := Option.some.inj h
    omega
  · cases h
theorem evLk_of {i : Nat} {v : Value} : ∀ {l : evL}, evLk i l = some v → (i, v) ∈ l := by
  intro l
  induction l with
  | nil => intro h; cases h
  | cons q t ih =>
    intro h
    unfold evLk at h
    split at h
    · rename_i hq
      have := Option.some.inj h
      subst hq; subst this
      exact List.mem_cons_self
    · exact List.mem_cons_of_mem _ (ih h)
theorem evIn_mem {i : Nat} {v : Value} : ∀ {l : evL} {q : Nat × Value}, q ∈ evIn i v l → q = (i, v) ∨ q ∈ l := by
  intro l
  induction l with
  | nil => intro q h; exact Or.inl (List.mem_singleton.mp h)
  | cons p t ih =>
    intro q h
    unfold evIn at h
    split at h
    · rcases List.mem_cons.mp h with h | h
      · exact Or.inr (h ▸ List.mem_cons_self)
      · exact (ih h).imp id (List.mem_cons_of_mem _)
    · rcases List.mem_cons.mp h with h | h
      · exact Or.inl h
      · exact Or.inr h
theorem ev_find {α : Type} {l : List α} {p : α → Bool} {β : Type} {g : α → β} {b : β} (h : (l.find? p).map g = some b) : ∃ a, a ∈ l ∧ p a = true ∧ g a = b := by
  cases hf : l.find? p with
  | none => rw [hf] at h; cases h
  | some a =>
    rw [hf] at h
    exact ⟨a, List.mem_of_find?_eq_some hf, List.find?_some hf, Option.some.inj h⟩
theorem ev_two {x y i j : Nat} (h : (x == y && i == j) = true) : x = y ∧ i = j := by simpa using h
theorem evTb_in {w : Cond} (h : w ∈ lw_tbl) (hg : goodWord w = true) : w ∈ evTb := List.mem_filter.mpr ⟨h, hg⟩
theorem evCls_8 : ∀ (ci : Nat) (q : vw_C), vwCl[ci]? = some q → ci < 9 := by
  intro ci q h
  have := (List.getElem?_eq_some_iff.mp h).1
  exact this
theorem evCls_in : ∀ (ci : Nat) (q : vw_C), vwCl[ci]? = some q → ∀ w ∈ u_ws q.1 q.2.1 q.2.2, w ∈ evTb := by
  intro ci q h w hw
  have hg : goodWord w = true := by
    obtain ⟨k, -, rfl⟩ := List.mem_map.mp hw
    unfold u_lay
    split <;> rfl
  refine evTb_in ?_ hg
  match ci, h with
  | 0, h => cases h; exact inX0 w hw
  | 1, h => cases h; exact inX1 w hw
  | 2, h => cases h; exact inX2 w hw
  | 3, h => cases h; exact inX3 w hw
  | 4, h => cases h; exact inX4 w hw
  | 5, h => cases h; exact inX5 w hw
  | 6, h => cases h; exact inX6 w hw
  | 7, h => cases h; exact inX7 w hw
  | 8, h => cases h; exact inX8 w hw
  | n + 9, h => simp [vwCl] at h
theorem evCls_n : ∀ (ci : Nat) (q : vw_C), vwCl[ci]? = some q → q.2.2 = evFN ci ∧ q.1 = evOs ci := by
  intro ci q h
  match ci, h with
  | 0, h => cases h; exact ⟨rfl, rfl⟩
  | 1, h => cases h; exact ⟨rfl, rfl⟩
  | 2, h => cases h; exact ⟨rfl, rfl⟩
  | 3, h => cases h; exact ⟨rfl, rfl⟩
  | 4, h => cases h; exact ⟨rfl, rfl⟩
  | 5, h => cases h; exact ⟨rfl, rfl⟩
  | 6, h => cases h; exact ⟨rfl, rfl⟩
  | 7, h => cases h; exact ⟨rfl, rfl⟩
  | 8, h => cases h; exact ⟨rfl, rfl⟩
  | n + 9, h => simp [vwCl] at h
theorem evCls_ty : ∀ (ci : Nat) (q : vw_C), vwCl[ci]? = some q → ∀ k, k < q.2.2 → parseFieldDescriptor (q.2.1 k).2.2.1 = some (evTy ci k) := by
  intro ci q h
  match ci, h with
  | 0, h => cases h; exact tyX0_ok
  | 1, h => cases h; exact tyX1_ok
  | 2, h => cases h; exact tyX2_ok
  | 3, h => cases h; exact tyX3_ok
  | 4, h => cases h; exact tyX4_ok
  | 5, h => cases h; exact tyX5_ok
  | 6, h => cases h; exact tyX6_ok
  | 7, h => cases h; exact tyX7_ok
  | 8, h => cases h; exact tyX8_ok
  | n + 9, h => simp [vwCl] at h
theorem evCls_nm : ∀ (ci : Nat) (q : vw_C), vwCl[ci]? = some q → ∀ a, a < q.2.2 → ∀ b, b < q.2.2 → a ≠ b → (q.2.1 a).2.1 ≠ (q.2.1 b).2.1 := by
  intro ci q h
  match ci, h with
  | 0, h => cases h; exact nmX0
  | 1, h => cases h; exact nmX1
  | 2, h => cases h; exact nmX2
  | 3, h => cases h; exact nmX3
  | 4, h => cases h; exact nmX4
  | 5, h => cases h; exact nmX5
  | 6, h => cases h; exact nmX6
  | 7, h => cases h; exact nmX7
  | 8, h => cases h; exact nmX8
  | n + 9, h => simp [vwCl] at h
def evTyOk (ci k : Nat) : Bool := match evTy ci k with
  | .object _ => evIsR ci k
  | .array _ => evIsR ci k
  | .int => !(evIsR ci k)
  | .boolean => !(evIsR ci k)
  | _ => false
theorem evCls_r : ∀ ci, ci < 9 → ∀ k, k < evFN ci → evTyOk ci k = true := by decide +kernel
def evDcl (ci : Nat) : Bool := match vwCl[ci]? with
  | none => false
  | some (C, T, N) => (List.range N).all (fun k => decide ((T k).1 = C))
theorem evCls_d0 : ∀ ci, ci < 9 → evDcl ci = true := by decide +kernel
theorem evCls_d : ∀ (ci : Nat) (q : vw_C), vwCl[ci]? = some q → ∀ k, k < q.2.2 → (q.2.1 k).1 = q.1 := by
  intro ci q h k hk
  have h0 := evCls_d0 ci (evCls_8 ci q h)
  unfold evDcl at h0
  rw [h] at h0
  have := List.all_eq_true.mp h0 k (List.mem_range.mpr hk)
  exact of_decide_eq_true this
theorem evF_of {y i : Nat} {q : Nat × Nat × Bool × Nat} (h : evF y i = some q) : ∃ r : vw_C, vwCl[q.1]? = some r ∧ q.2.1 < r.2.2 ∧
    ((q.2.2.1 = true ∧ Cond.fieldLinkNest (evOs (evOw y)) i r.1 (r.2.1 q.2.1).2.1 (r.2.1 q.2.1).2.2.1 "EchoBids" ∈ lw_tbl) ∨ Cond.fieldLink (evOs (evOw y)) i r.1 (r.2.1 q.2.1).2.1 (r.2.1 q.2.1).2.2.1 ∈ lw_tbl) := by
  obtain ⟨e, he, hp, rfl⟩ := ev_find h
  obtain ⟨h1, h2⟩ := ev_two hp
  have hk := List.all_eq_true.mp evFT_ok e he
  unfold evFokB at hk
  rw [h1, h2] at hk
  split at hk
  · cases hk
  · rename_i C T N hc
    simp only [Bool.and_eq_true, decide_eq_true_eq] at hk
    refine ⟨(C, T, N), hc, hk.1, ?_⟩
    have hk2 := hk.2
    split at hk2
    · rename_i hb
      exact Or.inl ⟨hb, List.mem_of_getElem? (of_decide_eq_true hk2)⟩
    · exact Or.inr (List.mem_of_getElem? (of_decide_eq_true hk2))
end
section
/-! where the world's cells lie in a heap; reads and writes there -/
def evPh (B : Nat) (S : Nat → Nat) (a : Nat) : Nat := if a < evO9 then B + a else S (a - evO9)
def evV (B : Nat) (S : Nat → Nat) (v : Value) : Value := match v with
  | .ref a => .ref (evPh B S a)
  | v => v
def evFs (B : Nat) (S : Nat → Nat) (h : evH) (mi : evM) (k a : Nat) : List Value := (List.range (evFN k)).map (fun j => if evIsR k j = true then va_rf ((evR h a j).map (evPh B S)) else .int (mi a j))
def evE (B : Nat) (S : Nat → Nat) (dA : Nat → ClassId) (h : evH) (mi : evM) (a : Nat) : va_E :=
  if evK h a < 9 then .inr (evK h a, evFs B S h mi (evK h a) a)
  else if evK h a = 9 then .inl (dA 0, evLen h a, .inl (mi a))
  else .inl (dA (evK h a - 9), evLen h a, .inr (.inr (.inr (.inr (fun j => (evR h a j).map (evPh B S))))))
def evW (B : Nat) (S : Nat → Nat) (dA : Nat → ClassId) (h : evH) (mi : evM) : va_W := (List.range (evN h)).map (fun a => (B + a, evE B S dA h mi a))
def evTys (dA : Nat → ClassId) : List (ClassId × FieldType) := [(dA 0, .int), (dA 1, .object RX0), (dA 2, .object RX1), (dA 3, .object RX2), (dA 4, .object RX4)]
def evHW (B : Nat) (S : Nat → Nat) (D : va_G) (dA : Nat → ClassId) (sp : Nat → Nat × (Nat → Int32)) (h : evH) (mi : evM) (H : Heap) : Prop :=
  va_P D vwCl (evW B S dA h mi) H ∧ H.size = B + evN h ∧ evN h ≤ evO9 ∧ h.2.2.2.2 = sp
/-- the rows of the two static arrays -/
def evGv (k : Nat) : Nat → Int32 := match k with
  | 0 => fun j => match j with
    | 0 => 0
    | 1 => 1
    | 2 => 1
    | _ => 0
  | _ => fun j => match j with
    | 0 => 5
    | 1 => 99
    | 2 => 9
    | _ => 1
def evNW (U : State) : Prop := (∀ a i b n d, Cond.fieldLinkNest a i b n d "EchoBids" ∈ lw_tbl → va_Nw (.fieldLinkNest a i b n d "EchoBids") U) ∧ (∀ a i x, Cond.methodLinkNest a i x "EchoBids" ∈ lw_tbl → va_Nw (.methodLinkNest a i x "EchoBids") U) ∧ ∀ C, Cond.arrayOver (.object C) ∈ lw_tbl → va_AO C U
/-- what a method's start knows of the machine -/
def evFx (B : Nat) (S : Nat → Nat) (D : va_G) (dA : Nat → ClassId) (sp : Nat → Nat × (Nat → Int32)) (U : State) (H : Heap) : Prop :=
  va_K D vwCl (evTys dA) U ∧ B ≤ H.size ∧ (∀ k, k < 3 → va_T .int (S k) (sp k).1 (fun j => .int ((sp k).2 j)) (fun q => B ≤ q) U H) ∧ (∀ k, k < 2 → va_Z "EchoBids" (evGn k) "[I" (.ref (S k)) (fun q => B ≤ q) U H) ∧ evNW U
theorem evFx_moved {B : Nat} {S : Nat → Nat} {D : va_G} {dA : Nat → ClassId} {sp : Nat → Nat × (Nat → Int32)} {s U : State} {H H1 : Heap} (h : evFx B S D dA sp s H) (hW : s.WarmedH U.vm) (hz : H.size ≤ H1.size) (hk : ∀ q, q < B → H1[q]? = H[q]?) : evFx B S D dA sp U H1 := by
  obtain ⟨h1, h2, h3, h4, h5, h6, h7⟩ := h
  have hvm : s.vm.Alike U.vm := hW.alike
  refine ⟨va_K.moved hvm h1, Nat.le_trans h2 hz, fun k hk3 => ?_, fun k hk2 => ?_, fun a i b n d hm => va_Nw.warmF hW (h5 a i b n d hm), fun a i x hm => va_Nw.warmM hW (h6 a i x hm), fun C hC => va_AO.moved hvm (h7 C hC)⟩
  · exact ((h3 k hk3).kept (fun a _ hq => hk a (Nat.not_le.mp hq))).moved hvm
  · exact ((h4 k hk2).kept (fun a _ hq => hk a (Nat.not_le.mp hq))).moved hvm
theorem evW_get {B : Nat} {S : Nat → Nat} {dA : Nat → ClassId} {h : evH} {mi : evM} {a : Nat} (ha : a < evN h) : (evW B S dA h mi)[a]? = some (B + a, evE B S dA h mi a) := by
  unfold evW
  rw [List.getElem?_map, List.getElem?_range ha]
  rfl
theorem evW_of {B : Nat} {S : Nat → Nat} {dA : Nat → ClassId} {h : evH} {mi : evM} {k : Nat} {q : Nat × va_E} (hk : (evW B S dA h mi)[k]? = some q) : k < evN h ∧ q = (B + k, evE B S dA h mi k) := by
  have hl : k < evN h := by
    have := (List.getElem?_eq_some_iff.mp hk).1
    unfold evW at this
    rw [List.length_map, List.length_range] at this
    exact this
  rw [evW_get hl] at hk
  exact ⟨hl, (Option.some.inj hk).symm⟩
theorem evW_D {B : Nat} {S : Nat → Nat} {dA : Nat → ClassId} {h : evH} {mi : evM} : va_D (fun q => B ≤ q) (evW B S dA h mi) := by
  refine ⟨fun i j p q hi hj hpq => ?_, fun k q hk => ?_⟩
  · obtain ⟨-, rfl⟩ := evW_of hi
    obtain ⟨-, rfl⟩ := evW_of hj
    have : B + i = B + j := hpq
    omega
  · obtain ⟨-, rfl⟩ := evW_of hk
    exact Nat.le_add_right _ _
/-- a changed cell: all others as they were -/
theorem evW_set {B : Nat} {S : Nat → Nat} {dA : Nat → ClassId} {h h' : evH} {mi mi' : evM} {a : Nat} {e : va_E} (hn : evN h' = evN h) (he : evE B S dA h' mi' a = e) (ho : ∀ b, b ≠ a → evE B S dA h' mi' b = evE B S dA h mi b) : (evW B S dA h mi).set a (B + a, e) = evW B S dA h' mi' := by
  apply List.ext_getElem?
  intro k
  rw [List.getElem?_set]
  unfold evW
  simp only [List.getElem?_map, List.length_map, List.length_range, hn]
  by_cases hka : a = k
  · subst hka
    rw [if_pos rfl]
    by_cases hl : a < evN h
    · rw [if_pos hl, List.getElem?_range hl]
      rw [← he]
      rfl
    · rw [if_neg hl, List.getElem?_eq_none (by rw [List.length_range]; omega)]
      rfl
  · rw [if_neg hka]
    by_cases hl : k < evN h
    · rw [List.getElem?_range hl]
      simp only [Option.map_some, ho k (fun q => hka q.symm)]
    · rw [List.getElem?_eq_none (by rw [List.length_range]; omega)]
      rfl
theorem evW_new {B : Nat} {S : Nat → Nat} {dA : Nat → ClassId} {h h' : evH} {mi mi' : evM} {D : va_G} {H H1 : Heap} (hP : va_P D vwCl (evW B S dA h mi) H) (hz : H.size = B + evN h) (hn : evN h' = evN h + 1) (ho : ∀ b, b < evN h → evE B S dA h' mi' b = evE B S dA h mi b)
    (o1 : ∀ q, q < H.size → H1[q]? = H[q]?) (hnew : va_at D vwCl (H.size, evE B S dA h' mi' (evN h)) H1) : va_P D vwCl (evW B S dA h' mi') H1 := by
  intro k q hk
  obtain ⟨hl, rfl⟩ := evW_of hk
  rw [hn] at hl
  by_cases hkn : k = evN h
  · subst hkn
    rw [← hz]
    exact hnew
  · have hlt : k < evN h := by omega
    rw [ho k hlt]
    exact (hP k _ (evW_get hlt)).kept (o1 _ (by rw [hz]; show B + k < _; omega))
theorem evFs_get {B : Nat} {S : Nat → Nat} {h : evH} {mi : evM} {k a j : Nat} (hj : j < evFN k) : (evFs B S h mi k a)[j]? = some (if evIsR k j = true then va_rf ((evR h a j).map (evPh B S)) else .int (mi a j)) := by
  unfold evFs
  rw [List.getElem?_map, List.getElem?_range hj]
  rfl
theorem evFs_len {B : Nat} {S : Nat → Nat} {h : evH} {mi : evM} {k a : Nat} : (evFs B S h mi k a).length = evFN k := by
  unfold evFs
  rw [List.length_map, List.length_range]
theorem evFs_set {B : Nat} {S : Nat → Nat} {h h' : evH} {mi mi' : evM} {k a j : Nat} {v : Value} (hv : (if evIsR k j = true then va_rf ((evR h' a j).map (evPh B S)) else .int (mi' a j)) = v) (ho : ∀ i, i ≠ j → evR h' a i = evR h a i ∧ mi' a i = mi a i) : (evFs B S h mi k a).set j v = evFs B S h' mi' k a := by
  apply List.ext_getElem?
  intro i
  rw [List.getElem?_set, evFs_len]
  unfold evFs
  simp only [List.getElem?_map]
  by_cases hij : j = i
  · subst hij
    rw [if_pos rfl]
    by_cases hl : j < evFN k
    · rw [if_pos hl, List.getElem?_range hl]
      rw [← hv]
      rfl
    · rw [if_neg hl, List.getElem?_eq_none (by rw [List.length_range]; omega)]
      rfl
  · rw [if_neg hij]
    by_cases hl : i < evFN k
    · rw [List.getElem?_range hl]
      simp only [Option.map_some, (ho i (fun q => hij q.symm)).1, (ho i (fun q => hij q.symm)).2]
    · rw [List.getElem?_eq_none (by rw [List.length_range]; omega)]
      rfl
theorem evE_o {B : Nat} {S : Nat → Nat} {dA : Nat → ClassId} {h : evH} {mi : evM} {a k : Nat} (hk : evK h a = k) (h9 : k < 9) : evE B S dA h mi a = .inr (k, evFs B S h mi k a) := by
  subst hk
  unfold evE
  rw [if_pos h9]
theorem evE_i {B : Nat} {S : Nat → Nat} {dA : Nat → ClassId} {h : evH} {mi : evM} {a : Nat} (hk : evK h a = 9) : evE B S dA h mi a = .inl (dA 0, evLen h a, .inl (mi a)) := by
  unfold evE
  rw [hk]
  rfl
theorem evE_r {B : Nat} {S : Nat → Nat} {dA : Nat → ClassId} {h : evH} {mi : evM} {a : Nat} (hk : 10 ≤ evK h a) : evE B S dA h mi a = .inl (dA (evK h a - 9), evLen h a, .inr (.inr (.inr (.inr (fun j => (evR h a j).map (evPh B S)))))) := by
  unfold evE
  rw [if_neg (by omega), if_neg (by omega)]
theorem evE_same {B : Nat} {S : Nat → Nat} {dA : Nat → ClassId} {h h' : evH} {mi mi' : evM} {a : Nat} (h1 : h'.2.2.1 a = h.2.2.1 a) (h2 : ∀ j, evR h' a j = evR h a j) (h3 : mi' a = mi a) : evE B S dA h' mi' a = evE B S dA h mi a := by
  have e1 : evK h' a = evK h a := by unfold evK; rw [h1]
  have e2 : evLen h' a = evLen h a := by unfold evLen; rw [h1]
  unfold evE evFs
  rw [e1, e2, h3]
  simp only [h2]
theorem evV_rf {B : Nat} {S : Nat → Nat} {q : Option Nat} : evV B S (va_rf q) = va_rf (q.map (evPh B S)) := by cases q <;> rfl
theorem evPh_in {B : Nat} {S : Nat → Nat} {a : Nat} (h : a < evO9) : evPh B S a = B + a := if_pos h
theorem evPh_out {B : Nat} {S : Nat → Nat} {k : Nat} : evPh B S (evO9 + k) = S k := by
  unfold evPh
  rw [if_neg (by omega), Nat.add_sub_cancel_left]
theorem evCs_map {B : Nat} {S : Nat → Nat} (st : List Value) : ((st.map (evV B S)).map fun v => v.category).sum = evCs st := by
  unfold evCs
  congr 1
  rw [List.map_map]
  apply List.map_congr_left
  intro v _
  cases v <;> rfl
theorem evV_cat {B : Nat} {S : Nat → Nat} (v : Value) : (evV B S v).category = v.category := by cases v <;> rfl
def evLm (B : Nat) (S : Nat → Nat) (lv : evL) : List (Nat × Value) := lv.map (fun q => (q.1, evV B S q.2))
theorem evLm_at {B : Nat} {S : Nat → Nat} {ls : Array Slot} {n i : Nat} {lv : evL} {v : Value} (h : lv_has ls n (evLm B S lv)) (hk : evLk i lv = some v) : ls[i]? = some (.val (evV B S v)) :=
  h.2.2 (i, evV B S v) (List.mem_map.mpr ⟨(i, v), evLk_of hk, rfl⟩)
theorem evLm_1 {B : Nat} {S : Nat → Nat} {ls : Array Slot} {n i : Nat} {lv : evL} {v w : Value} (hw : evV B S v = w) (h : lv_has ls n ((i, w) :: (evLm B S lv).filter (fun q => !(q.1 == i) && !(q.1 + 1 == i && q.2.category == 2)))) : lv_has ls n (evLm B S (evS1 i v lv)) := by
  refine ⟨h.1, h.2.1, fun q hq => ?_⟩
  obtain ⟨p, hp, rfl⟩ := List.mem_map.mp hq
  refine h.2.2 _ ?_
  rcases evIn_mem hp with rfl | hp
  · rw [← hw]; exact List.mem_cons_self
  · obtain ⟨h1, h2⟩ := List.mem_filter.mp hp
    refine List.mem_cons_of_mem _ (List.mem_filter.mpr ⟨List.mem_map.mpr ⟨p, h1, rfl⟩, ?_⟩)
    show (!(p.1 == i) && !(p.1 + 1 == i && (evV B S p.2).category == 2)) = true
    rw [evV_cat]
    exact h2
theorem evLm_2 {B : Nat} {S : Nat → Nat} {ls : Array Slot} {n i : Nat} {lv : evL} {v w : Value} (hw : evV B S v = w) (h : lv_has ls n ((i, w) :: (evLm B S lv).filter (fun q => !(q.1 == i) && (!(q.1 == i + 1) && !(q.1 + 1 == i && q.2.category == 2))))) : lv_has ls n (evLm B S (evS2 i v lv)) := by
  refine ⟨h.1, h.2.1, fun q hq => ?_⟩
  obtain ⟨p, hp, rfl⟩ := List.mem_map.mp hq
  refine h.2.2 _ ?_
  rcases evIn_mem hp with rfl | hp
  · rw [← hw]; exact List.mem_cons_self
  · obtain ⟨h1, h2⟩ := List.mem_filter.mp hp
    refine List.mem_cons_of_mem _ (List.mem_filter.mpr ⟨List.mem_map.mpr ⟨p, h1, rfl⟩, ?_⟩)
    show (!(p.1 == i) && (!(p.1 == i + 1) && !(p.1 + 1 == i && (evV B S p.2).category == 2))) = true
    rw [evV_cat]
    exact h2
end
section
/-! writes, with the heap's size told -/
section EVHp
variable {p : Program} {l : Launch} {e : Env} {R : Room} {s : State} {m : MethodId} {args : Array Value} {below : List Frame} {meth : Method} {c : Code} {H : Heap} {locs : List Loc} {cells slots : Nat} {Q : State → Prop}
variable {cc : ByteArray} {pc : Nat} {ls : Array Slot} {rest : List Value} {D : va_G} {A : Nat → Prop} {a : Nat} {tys : List (ClassId × FieldType)} {ws : va_W} {H0 : Heap}
theorem evh_put {own : String} (hexec : p.tables.exec = Jvm.exec) (hb : c.code = cc) (hts : ∀ w ∈ evTb, w.before args s = true) (hown : s.vm.findClass own = some m.cls) (hK : va_K D vwCl tys s) (hP : va_P D vwCl ws H) (hD : va_D A ws) (hS0 : va_S A H0 H locs) (q0 : Nat) {ci index : Nat} {r : vw_C} {fs : List Value} (he : ws[q0]? = some (a, .inr (ci, fs))) (hc : vwCl[ci]? = some r) (k : Nat) (hk : k < r.2.2)
    (hlk : va_Nw (.fieldLinkNest own index r.1 (r.2.1 k).2.1 (r.2.1 k).2.2.1 "EchoBids") s ∨ (Cond.fieldLink own index r.1 (r.2.1 k).2.1 (r.2.1 k).2.2.1).before args s = true) (hfin : (r.2.1 k).2.2.2 = false) {v : Value} (hn : narrow (evTy ci k) v = v) (hfit : fits (evTy ci k) v = true) (hl : k < fs.length)
    (hdg : decode cc pc = .ok (.putfield index, 3)) (kk : ∀ (H1 : Heap) (locs1 : List Loc), H1.size = H.size → va_P D vwCl (ws.set q0 (a, .inr (ci, fs.set k v))) H1 → va_S A H0 H1 locs1 → W p l e R s m args below meth c H1 locs1 cells slots Q (F0 m (pc + 3) ls rest)) : W p l e R s m args below meth c H locs cells slots Q (F0 m pc ls (v :: .ref a :: rest)) := by
  have hin := evCls_in ci r hc
  have hty := evCls_ty ci r hc
  have hap := va_apart (own := own) hts hin (evTy ci) hty (evCls_nm ci r hc) hK hc
  obtain ⟨r', h1, cell, q1, q2, q3, q4⟩ := hP q0 _ he
  have hr : r' = r := Option.some.inj (h1.symm.trans hc)
  subst hr
  obtain ⟨hS, hfc, kC, hkC, hkind⟩ := hK.1 ci _ hc
  obtain ⟨cf, kf, fi, f, hi, hsl⟩ := hS k hk
  have hlay := hts _ (hin _ (u_in_lay hk))
  unfold u_lay at hlay
  rw [if_neg (by rw [hfin]; decide)] at hlay
  have hst := (u_facts hfc hkC (u_lays hts hin hk) hi).1
  have h6 := u_store hfc hkC hkind hlay hi (hty k hk) hn hfit
  have hi' : s.fieldFound? r'.1 (r'.2.1 k).2.1 (r'.2.1 k).2.2.1 = some (cf, kf, fi, f) := by rw [← evCls_d ci r' hc k hk]; exact hi
  have fin : ∀ H' : Heap, H'[a]? = some (cell.setSlot f.slot v) → H'.size = H.size → (∀ q, q ≠ a → H'[q]? = H[q]?) → W p l e R s m args below meth c H' (locs ++ [⟨a, f.slot⟩]) cells slots Q (F0 m (pc + 3) ls rest) := fun H' e1 e2 e3 => by
    rw [hsl] at e1 ⊢
    exact kk H' _ e2 (hP.set hD he ⟨_, hc, t_OB.to (V := updV (vp_V fs) k v) ⟨_, e1, q2, q3, t_set q4 hap hk v⟩ (fun j _ => vp_updV_set hl v j)⟩ e3) (hS0.put e2 e3 (hD.2 q0 _ he))
  rcases hlk with hlk | hlk
  · exact va_WputK hexec hb (f := f) hown (va_Nw.use rfl hlk) hi' hst (by rw [q2]; exact h6) q1 q3 (by rw [hsl]; exact k2_hasslot (q4 k hk)) rfl rfl hdg fin
  · exact W.putK hexec hb (f := f) ⟨hown, hlk, ⟨_, _, _, hi'⟩, hst⟩ (by rw [q2]; exact h6) q1 q3 (by rw [hsl]; exact k2_hasslot (q4 k hk)) rfl rfl hdg fin
theorem evh_putF {own : String} (hexec : p.tables.exec = Jvm.exec) (hb : c.code = cc) (hts : ∀ w ∈ evTb, w.before args s = true) (hown : s.vm.findClass own = some m.cls) (hK : va_K D vwCl tys s) (hP : va_P D vwCl ws H) (hD : va_D A ws) (hS0 : va_S A H0 H locs) (q0 : Nat) {ci index : Nat} {r : vw_C} {fs : List Value} (he : ws[q0]? = some (a, .inr (ci, fs))) (hc : vwCl[ci]? = some r) (k : Nat) (hk : k < r.2.2)
    (hlk : (Cond.fieldLink own index r.1 (r.2.1 k).2.1 (r.2.1 k).2.2.1).before args s = true) (hfin : (r.2.1 k).2.2.2 = true) (hin2 : meth.name = "<init>") (hdecl : r.1 = own) {v : Value} (hn : narrow (evTy ci k) v = v) (hfit : fits (evTy ci k) v = true) (hl : k < fs.length)
    (hdg : decode cc pc = .ok (.putfield index, 3)) (kk : ∀ (H1 : Heap) (locs1 : List Loc), H1.size = H.size → va_P D vwCl (ws.set q0 (a, .inr (ci, fs.set k v))) H1 → va_S A H0 H1 locs1 → W p l e R s m args below meth c H1 locs1 cells slots Q (F0 m (pc + 3) ls rest)) : W p l e R s m args below meth c H locs cells slots Q (F0 m pc ls (v :: .ref a :: rest)) := by
  have hin := evCls_in ci r hc
  have hty := evCls_ty ci r hc
  have hap := va_apart (own := own) hts hin (evTy ci) hty (evCls_nm ci r hc) hK hc
  obtain ⟨r', h1, cell, q1, q2, q3, q4⟩ := hP q0 _ he
  have hr : r' = r := Option.some.inj (h1.symm.trans hc)
  subst hr
  obtain ⟨hS, hfc, kC, hkC, hkind⟩ := hK.1 ci _ hc
  obtain ⟨cf, kf, fi, f, hi, hsl⟩ := hS k hk
  have hlay := hts _ (hin _ (u_in_lay hk))
  unfold u_lay at hlay
  rw [if_pos hfin] at hlay
  have hst := (u_facts hfc hkC (u_lays hts hin hk) hi).1
  have hcf : m.cls = cf := by
    obtain ⟨_, _, c', _, _, _, -, -, hf', -, -, -, hown2, -⟩ := Cond.laysFinal_spec hlay
    have e1 : c' = cf := by have := hi.symm.trans hf'; simp at this; exact this.1.symm
    rw [evCls_d ci r' hc k hk, hdecl] at hown2
    rw [← e1]; exact Option.some.inj (hown.symm.trans hown2)
  have h6 := u_fits hfc hkC hkind (Or.inr hlay) hi (hty k hk) hn hfit
  have hi' : s.fieldFound? r'.1 (r'.2.1 k).2.1 (r'.2.1 k).2.2.1 = some (cf, kf, fi, f) := by rw [← evCls_d ci r' hc k hk]; exact hi
  refine W.putFinK hexec hb hown hlk hi' hst hcf hin2 (by rw [q2]; exact h6) q1 q3 (by rw [hsl]; exact k2_hasslot (q4 k hk)) rfl rfl hdg fun H' e1 e2 e3 => ?_
  rw [hsl] at e1 ⊢
  exact kk H' _ e2 (hP.set hD he ⟨_, hc, t_OB.to (V := updV (vp_V fs) k v) ⟨_, e1, q2, q3, t_set q4 hap hk v⟩ (fun j _ => vp_updV_set hl v j)⟩ e3) (hS0.put e2 e3 (hD.2 q0 _ he))
theorem evh_iast (hexec : p.tables.exec = Jvm.exec) (hb : c.code = cc) (hK : va_K D vwCl tys s) (hP : va_P D vwCl ws H) (hD : va_D A ws) (hS : va_S A H0 H locs) (q0 t0 : Nat) {cA : ClassId} {n : Nat} {f : Nat → Int32} (ha : ws[q0]? = some (a, .inl (cA, n, .inl f))) (ht : tys[t0]? = some (cA, .int)) {i : Int32} {x : Int32} (hin : vp_in i n) (hdg : decode cc pc = .ok (.iastore, 1))
    (kk : ∀ (H1 : Heap) (locs1 : List Loc), H1.size = H.size → va_P D vwCl (ws.set q0 (a, .inl (cA, n, .inl (upd f i.toNatClampNeg x)))) H1 → va_S A H0 H1 locs1 → W p l e R s m args below meth c H1 locs1 cells slots Q (F0 m (pc + 1) ls rest)) : W p l e R s m args below meth c H locs cells slots Q (F0 m pc ls (.int x :: .int i :: .ref a :: rest)) := by
  refine W.iast hexec hb (hP q0 _ ha) ((hK.2 t0 _ ht).1 n (fun j => .int (f j))) (fun q => by cases q) (by show ¬ (i < 0 ∨ (arrV _ _ _).slots.size ≤ _); rw [arrV_size]; exact hin) rfl rfl hdg fun H1 e z oq => ?_
  refine kk H1 _ z (hP.set hD ha ?_ oq) (hS.put z oq (hD.2 q0 _ ha))
  show H1[a]? = some (vp_cell _ _)
  rw [e, vp_cell_i, vp_cell_i, arrV_store]
  congr 2
  funext q
  by_cases hq : q = i.toNatClampNeg
  · subst hq
    simp [updV, upd]
  · simp [updV, upd, hq]
theorem evh_astq (hexec : p.tables.exec = Jvm.exec) (hb : c.code = cc) (hK : va_K D vwCl tys s) (hP : va_P D vwCl ws H) (hD : va_D A ws) (hS : va_S A H0 H locs) (q0 t0 qk ci : Nat) {cA : ClassId} {r : vw_C} {n v : Nat} {vs : List Value} {f : Nat → Option Nat} (ha : ws[q0]? = some (a, .inl (cA, n, .inr (.inr (.inr (.inr f)))))) (ht : tys[t0]? = some (cA, .object r.1)) (hv : ws[qk]? = some (v, .inr (ci, vs))) (hc : vwCl[ci]? = some r) {i : Int32} (hin : vp_in i n) (hdg : decode cc pc = .ok (.aastore, 1))
    (kk : ∀ (H1 : Heap) (locs1 : List Loc), H1.size = H.size → va_P D vwCl (ws.set q0 (a, .inl (cA, n, .inr (.inr (.inr (.inr (va_up f i.toNatClampNeg (some v)))))))) H1 → va_S A H0 H1 locs1 → W p l e R s m args below meth c H1 locs1 cells slots Q (F0 m (pc + 1) ls rest)) : W p l e R s m args below meth c H locs cells slots Q (F0 m pc ls (.ref v :: .int i :: .ref a :: rest)) := by
  have hlt : i.toNatClampNeg < n := Nat.not_le.mp fun q => hin (Or.inr q)
  have h0 : ¬ i < 0 := fun q => hin (Or.inl q)
  obtain ⟨r', hr', cellV, g1, g2, g3, -⟩ := hP qk _ hv
  have hcls := (hK.1 ci r hc).2
  obtain ⟨kA, comp, k1, k2, k3, -⟩ := (hK.2 t0 _ ht).2
  have hcomp : comp = D.1 ci := Option.some.inj (k3.symm.trans hcls.1)
  subst hcomp
  obtain ⟨kC, hkC, -⟩ := hcls.2
  refine W.aast hexec hb (hP q0 _ ha) (fun q h => by cases h) (fun h => by cases h) k1 k2 rfl hkC ⟨h0, by show _ < (arrV _ _ _).slots.size; rw [arrV_size]; exact hlt⟩ g1 (fun q h => by rw [g3] at h; cases h) (by rw [g2]; exact hkC) (by rw [g2]; exact va_assign hcls) rfl rfl hdg fun H1 e z oq => ?_
  refine kk H1 _ z (hP.set hD ha ?_ oq) (hS.put z oq (hD.2 q0 _ ha))
  show H1[a]? = some (vp_cell _ _)
  rw [e, vp_cell_q, vp_cell_q, arrV_store]
  congr 2
  funext q
  by_cases hq : q = i.toNatClampNeg
  · subst hq
    simp [updV, va_up, va_rf]
  · simp [updV, va_up, hq]
theorem evh_nn (z : Int32) (hz : ¬ z < 0) : z.toInt = (z.toNatClampNeg : Int) := by
  have hz0 : (0 : Int) ≤ z.toInt := by
    have := Int32.not_lt.mp hz
    simpa using Int32.le_iff_toInt_le.mp this
  show z.toInt = ((z.toInt.toNat : Nat) : Int)
  omega
theorem evh_copy (hexec : p.tables.exec = Jvm.exec) (hb : c.code = cc) (hml : c.maxLocals = ls.size) {own : String} {index : Nat} (hown : s.vm.findClass own = some m.cls) (hlink : (Cond.methodLink own index arraycopyName).before args s = true) (hnat : (Cond.native arraycopyName).before args s = true) (hstat : (Cond.static arraycopyName).before args s = true) (hini : (Cond.initialized "java/lang/System").before args s = true)
    (hK : va_K D vwCl tys s) (hP : va_P D vwCl ws H) (hD : va_D A ws) (hS : va_S A H0 H locs) (q0 q1 t0 t1 : Nat) {a0 : Nat} {c0 c1 : ClassId} {n0 n1 : Nat} {f g : Nat → Int32} (ha0 : ws[q0]? = some (a0, .inl (c0, n0, .inl f))) (ha1 : ws[q1]? = some (a, .inl (c1, n1, .inl g))) (ht0 : tys[t0]? = some (c0, .int)) (ht1 : tys[t1]? = some (c1, .int))
    {sp dp n : Int32} (h1 : ¬ sp < 0) (h2 : ¬ dp < 0) (h3 : ¬ n < 0) (h4 : sp.toNatClampNeg + n.toNatClampNeg ≤ n0) (h5 : dp.toNatClampNeg + n.toNatClampNeg ≤ n1)
    (hframes : 1 ≤ R.frames) (hlocals : (rest.map fun v => v.category).sum + (nativeFrameWords "java/lang/System" "arraycopy" 5 + 11) ≤ R.locals) (hdg : decode cc pc = .ok (.invokestatic index, 3))
    (kk : ∀ (H1 : Heap) (locs1 : List Loc), H1.size = H.size → va_P D vwCl (ws.set q1 (a, .inl (c1, n1, .inl (va_cpy f g sp.toNatClampNeg dp.toNatClampNeg n.toNatClampNeg)))) H1 → va_S A H0 H1 locs1 → W p l e R s m args below meth c H1 locs1 cells slots Q (F0 m (pc + 3) ls rest)) : W p l e R s m args below meth c H locs cells slots Q (F0 m pc ls (.int n :: .int dp :: .ref a :: .int sp :: .ref a0 :: rest)) := by
  intro T hT X
  have hc0 : H[a0]? = some (vp_cell c0 (n0, .inl f)) := hP q0 _ ha0
  have hc1 : H[a]? = some (vp_cell c1 (n1, .inl g)) := hP q1 _ ha1
  obtain ⟨-, k0, hk0, cm0, hkk0⟩ := (hK.2 t0 _ ht0).1 n0 (fun j => .int (f j))
  obtain ⟨-, k1, hk1, cm1, hkk1⟩ := (hK.2 t1 _ ht1).1 n1 (fun j => .int (g j))
  obtain ⟨vm', X', step⟩ := X.arraycopy hexec hown hlink hnat hstat hini (src := a0) (dst := a) (cs := vp_cell c0 (n0, .inl f)) (cd := vp_cell c1 (n1, .inl g)) (srcPos := sp) (destPos := dp) (n := n) (by rw [hT]; exact hc0) (by rw [hT]; exact hc1)
    (fun _ h => by cases h) (fun _ h => by cases h) (fun h => by cases h) (fun h => by cases h) hk0 hk1 hkk0 hkk1 (by simp [refKind]) h1 h2 h3
    (by rw [evh_nn sp h1, evh_nn n h3]; show ¬ _ > ((arrV c0 n0 (fun j => .int (f j))).slots.size : Int); rw [arrV_size]; omega)
    (by rw [evh_nn dp h2, evh_nn n h3]; show ¬ _ > ((arrV c1 n1 (fun j => .int (g j))).slots.size : Int); rw [arrV_size]; omega)
    (fun vm₁ _ i hi => by
      have e : (vp_cell c0 (n0, .inl f)).slots.getD (sp.toNatClampNeg + i) .null = .int (f (sp.toNatClampNeg + i)) := by
        show (arrV c0 n0 (fun j => .int (f j))).slots.getD _ _ = _
        rw [Array.getD_eq_getD_getElem?, arrV_read _ _ (by omega)]
        rfl
      refine ⟨?_, ?_⟩
      · rw [e]
        rfl
      · rw [e]
        exact trivial)
    (g := F0 m pc ls (.int n :: .int dp :: .ref a :: .int sp :: .ref a0 :: rest)) rfl (by rw [hml]) (rest := rest) rfl (by rw [hb]; exact hdg) hframes (by show 2 * 0 + _ + _ ≤ _; omega)
  have e1 : copied (vp_cell c0 (n0, .inl f)) (vp_cell c1 (n1, .inl g)) sp dp n = vp_cell c1 (n1, .inl (va_cpy f g sp.toNatClampNeg dp.toNatClampNeg n.toNatClampNeg)) := va_copied (fun z => .int z) c0 c1 f g h4
  rw [e1] at X' step
  have hl : a < H.size := (Array.getElem?_eq_some_iff.mp hc1).1
  have hheap : ((T.setVm vm').setCell a (vp_cell c1 (n1, .inl (va_cpy f g sp.toNatClampNeg dp.toNatClampNeg n.toNatClampNeg)))).heap = H.setIfInBounds a (vp_cell c1 (n1, .inl (va_cpy f g sp.toNatClampNeg dp.toNatClampNeg n.toNatClampNeg))) := by rw [← hT]; rfl
  have oq : ∀ q : Nat, q ≠ a → (H.setIfInBounds a (vp_cell c1 (n1, .inl (va_cpy f g sp.toNatClampNeg dp.toNatClampNeg n.toNatClampNeg))))[q]? = H[q]? := fun q hq => by simp [Array.getElem?_setIfInBounds, Ne.symm hq]
  obtain ⟨t, a1, b1⟩ := kk _ _ (by simp) (hP.set hD ha1 (show (H.setIfInBounds a _)[a]? = some _ by simp [Array.getElem?_setIfInBounds, hl]) oq) ⟨by simp; exact hS.1, fun q g1 g2 => by
      rw [oq q (fun e => g2 (by rw [e]; exact hD.2 q1 _ ha1))]
      exact hS.2.1 q g1 g2, fun q hq => by
      rcases List.mem_append.mp hq with h | h
      · exact hS.2.2 q h
      · obtain ⟨z, -, hz⟩ := List.mem_map.mp h
        rw [← hz]
        exact hD.2 q1 _ ha1⟩ _ hheap X'
  exact ⟨t, step t a1, b1⟩
end EVHp
end
section
theorem ev_refty {ci j : Nat} (h9 : ci < 9) (hj : j < evFN ci) (hr : evIsR ci j = true) (o : Option Nat) : narrow (evTy ci j) (va_rf o) = va_rf o ∧ fits (evTy ci j) (va_rf o) = true := by
  have h := evCls_r ci h9 j hj
  unfold evTyOk at h
  rw [hr] at h
  split at h <;> first | (rename_i he; rw [he]; cases o <;> exact ⟨rfl, rfl⟩) | cases h
theorem ev_deflt {ci j : Nat} {B : Nat} {S : Nat → Nat} (h9 : ci < 9) (hj : j < evFN ci) : defaultValue (evTy ci j) = (some (if evIsR ci j = true then va_rf ((none : Option Nat).map (evPh B S)) else Value.int 0)).getD .null := by
  have h := evCls_r ci h9 j hj
  unfold evTyOk at h
  split at h <;> first | (rename_i he; rw [he, h]; rfl) | (rename_i he; simp only [Bool.not_eq_true'] at h; rw [he, h]; rfl) | cases h
theorem evTys_r (dA : Nat → ClassId) {k : Nat} (h1 : 10 ≤ k) (h2 : k ≤ 13) : ∃ r : vw_C, (evTys dA)[k - 9]? = some (dA (k - 9), .object r.1) ∧ vwCl[evEl k]? = some r := by
  rcases (show k = 10 ∨ k = 11 ∨ k = 12 ∨ k = 13 by omega) with rfl | rfl | rfl | rfl
  · exact ⟨_, rfl, rfl⟩
  · exact ⟨_, rfl, rfl⟩
  · exact ⟨_, rfl, rfl⟩
  · exact ⟨_, rfl, rfl⟩
theorem evE_new {B : Nat} {S : Nat → Nat} {dA : Nat → ClassId} {h : evH} {mi : evM} {k n b : Nat} (hb : b < evN h) : evE B S dA (evNew h k n) (evNewM h mi) b = evE B S dA h mi b := by
  have hne : ¬ b = h.1 := Nat.ne_of_lt hb
  refine evE_same ?_ (fun j => ?_) (funext fun j => ?_)
  · show (if b = h.1 then _ else _) = _
    rw [if_neg hne]
  · show (if b = h.1 then _ else _) = _
    rw [if_neg hne]
    rfl
  · show (if b = h.1 then _ else _) = _
    rw [if_neg hne]
theorem evArrI : Cond.arrayClass .int ∈ lw_tbl := List.mem_of_getElem? (i := 107) (by decide +kernel)
section EVT
variable {p : Program} {l : Launch} {e : Env} {R : Room} {s : State} {m : MethodId} {args : Array Value} {below : List Frame} {meth : Method} {c : Code} {Q : State → Prop} {B : Nat} {S : Nat → Nat} {D : va_G} {dA : Nat → ClassId} {sp : Nat → Nat × (Nat → Int32)} {y : Nat}
/-- what stays fixed while method y runs -/
def evOK (p : Program) (R : Room) (s : State) (m : MethodId) (args : Array Value) (meth : Method) (c : Code) (y : Nat) : Prop :=
  p.tables.exec = Jvm.exec ∧ c.code = evCode y ∧ c.maxLocals = evML y ∧ s.vm.findClass (evOs (evOw y)) = some m.cls ∧ (∀ w ∈ evTb, w.before args s = true) ∧ ((evName y).name = "<init>" → meth.name = "<init>") ∧ evFr y ≤ R.frames ∧ evLo y ≤ R.locals
set_option maxHeartbeats 4000000 in
set_option maxRecDepth 100000 in
theorem ev_step {n0 s0 pc len : Nat} {i : Instr} {lv : evL} {st : List Value} {h : evH} {mi : evM} {s' : evC} {H : Heap} {locs : List Loc} {ls : Array Slot} (ok : evOK p R s m args meth c y) (fx : evFx B S D dA sp s s.heap) (hd : decode (evCode y) pc = .ok (i, len)) (hlen : evLenOk i len = true)
    (he : evStep y pc i lv st h mi = some s') (hw : evHW B S D dA sp h mi H) (hS : va_S (fun q => B ≤ q) s.heap H locs) (hl : lv_has ls (evML y) (evLm B S lv)) (hn0 : n0 ≤ evN h) (hs0 : s0 ≤ evSl h) (hC : evN s'.2.2.2.1 - n0 ≤ R.cells) (hR : evSl s'.2.2.2.1 - s0 ≤ R.slots)
    (k : ∀ H' locs' ls', evHW B S D dA sp s'.2.2.2.1 s'.2.2.2.2 H' → va_S (fun q => B ≤ q) s.heap H' locs' → lv_has ls' (evML y) (evLm B S s'.2.1) → W p l e R s m args below meth c H' locs' (evN s'.2.2.2.1 - n0) (evSl s'.2.2.2.1 - s0) Q (F0 m s'.1 ls' (s'.2.2.1.map (evV B S)))) :
    W p l e R s m args below meth c H locs (evN h - n0) (evSl h - s0) Q (F0 m pc ls (st.map (evV B S))) := by
  obtain ⟨hx, hb, hml, hown, hts, hinit, hfr, hlo⟩ := ok
  obtain ⟨hK, hBz, hX, hZ, hNW⟩ := id fx
  obtain ⟨hP, hz, hn9, hsp⟩ := id hw
  cases i with
  | iconst n =>
    obtain rfl : len = 1 := by simpa [evLenOk] using hlen
    simp only [evStep] at he
    cases he
    exact lv_iconst hx hb hd rfl (k H locs ls hw hS hl)
  | bipush n =>
    obtain rfl : len = 2 := by simpa [evLenOk] using hlen
    simp only [evStep] at he
    cases he
    exact lv_bipush hx hb hd rfl (k H locs ls hw hS hl)
  | sipush n =>
    obtain rfl : len = 3 := by simpa [evLenOk] using hlen
    simp only [evStep] at he
    cases he
    exact lv_sipush hx hb hd rfl (k H locs ls hw hS hl)
  | lconst n =>
    obtain rfl : len = 1 := by simpa [evLenOk] using hlen
    simp only [evStep] at he
    cases he
    exact lv_lconst hx hb hd rfl (k H locs ls hw hS hl)
  | aconst_null =>
    obtain rfl : len = 1 := by simpa [evLenOk] using hlen
    simp only [evStep] at he
    cases he
    exact lv_null hx hb hd (k H locs ls hw hS hl)
  | fconst n =>
    obtain rfl : len = 1 := by simpa [evLenOk] using hlen
    match n, hd, he with
    | 0, hd, he => cases he; exact lv_fconst0 hx hb hd (k H locs ls hw hS hl)
    | 1, hd, he => cases he; exact lv_fconst1 hx hb hd (k H locs ls hw hS hl)
    | 2, hd, he => cases he; exact lv_fconst2 hx hb hd (k H locs ls hw hS hl)
  | dconst n =>
    obtain rfl : len = 1 := by simpa [evLenOk] using hlen
    match n, hd, he with
    | 0, hd, he => cases he; exact lv_dconst0 hx hb hd (k H locs ls hw hS hl)
    | 1, hd, he => cases he; exact lv_dconst1 hx hb hd (k H locs ls hw hS hl)
  | iload n =>
    obtain rfl : len = 2 := by simpa [evLenOk] using hlen
    simp only [evStep] at he
    replace he := evB_of he
    obtain ⟨v, hv, he⟩ := he
    replace he := evPi_of he
    obtain ⟨x, r, hr, he⟩ := he
    cases hr
    cases he
    exact lv_iload hx hb hd (evLm_at hl hv) (k H locs ls hw hS hl)
  | iload_n n =>
    obtain rfl : len = 1 := by simpa [evLenOk] using hlen
    simp only [evStep] at he
    replace he := evB_of he
    obtain ⟨v, hv, he⟩ := he
    replace he := evPi_of he
    obtain ⟨x, r, hr, he⟩ := he
    cases hr
    cases he
    exact lv_iload_n hx hb hd rfl (evLm_at hl hv) (k H locs ls hw hS hl)
  | lload n =>
    obtain rfl : len = 2 := by simpa [evLenOk] using hlen
    simp only [evStep] at he
    replace he := evB_of he
    obtain ⟨v, hv, he⟩ := he
    replace he := evPl_of he
    obtain ⟨x, r, hr, he⟩ := he
    cases hr
    cases he
    exact lv_lload hx hb hd (evLm_at hl hv) (k H locs ls hw hS hl)
  | lload_n n =>
    obtain rfl : len = 1 := by simpa [evLenOk] using hlen
    simp only [evStep] at he
    replace he := evB_of he
    obtain ⟨v, hv, he⟩ := he
    replace he := evPl_of he
    obtain ⟨x, r, hr, he⟩ := he
    cases hr
    cases he
    exact lv_lload_n hx hb hd rfl (evLm_at hl hv) (k H locs ls hw hS hl)
  | fload_n n =>
    obtain rfl : len = 1 := by simpa [evLenOk] using hlen
    simp only [evStep] at he
    replace he := evB_of he
    obtain ⟨v, hv, he⟩ := he
    replace he := evPf_of he
    obtain ⟨x, r, hr, he⟩ := he
    cases hr
    cases he
    exact lv_fload_n hx hb hd rfl (evLm_at hl hv) (k H locs ls hw hS hl)
  | dload_n n =>
    obtain rfl : len = 1 := by simpa [evLenOk] using hlen
    simp only [evStep] at he
    replace he := evB_of he
    obtain ⟨v, hv, he⟩ := he
    replace he := evPd_of he
    obtain ⟨x, r, hr, he⟩ := he
    cases hr
    cases he
    exact lv_dload_n hx hb hd rfl (evLm_at hl hv) (k H locs ls hw hS hl)
  | aload n =>
    obtain rfl : len = 2 := by simpa [evLenOk] using hlen
    simp only [evStep] at he
    replace he := evB_of he
    obtain ⟨v, hv, he⟩ := he
    replace he := evPq_of he
    obtain ⟨q, r, hr, he⟩ := he
    cases hr
    cases he
    cases q with
    | none => exact lv_aloadN hx hb hd (evLm_at hl hv) (k H locs ls hw hS hl)
    | some a => exact lv_aload hx hb hd (evLm_at hl hv) (k H locs ls hw hS hl)
  | aload_n n =>
    obtain rfl : len = 1 := by simpa [evLenOk] using hlen
    simp only [evStep] at he
    replace he := evB_of he
    obtain ⟨v, hv, he⟩ := he
    replace he := evPq_of he
    obtain ⟨q, r, hr, he⟩ := he
    cases hr
    cases he
    cases q with
    | none => exact lv_aload_nN hx hb hd rfl (evLm_at hl hv) (k H locs ls hw hS hl)
    | some a => exact lv_aload_n hx hb hd rfl (evLm_at hl hv) (k H locs ls hw hS hl)
  | istore n =>
    obtain rfl : len = 2 := by simpa [evLenOk] using hlen
    simp only [evStep] at he
    replace he := evPi_of he
    obtain ⟨x, r, rfl, he⟩ := he
    replace he := evIf_of he
    obtain ⟨hn, he⟩ := he
    cases he
    exact lv_istore hx hb hd hl hn rfl (fun ls' h' => k H locs ls' hw hS (evLm_1 rfl h'))
  | istore_n n =>
    obtain rfl : len = 1 := by simpa [evLenOk] using hlen
    simp only [evStep] at he
    replace he := evPi_of he
    obtain ⟨x, r, rfl, he⟩ := he
    replace he := evIf_of he
    obtain ⟨hn, he⟩ := he
    cases he
    exact lv_istore_n hx hb hd rfl hl hn rfl (fun ls' h' => k H locs ls' hw hS (evLm_1 rfl h'))
  | fstore_n n =>
    obtain rfl : len = 1 := by simpa [evLenOk] using hlen
    simp only [evStep] at he
    replace he := evPf_of he
    obtain ⟨x, r, rfl, he⟩ := he
    replace he := evIf_of he
    obtain ⟨hn, he⟩ := he
    cases he
    exact lv_fstore_n hx hb hd rfl hl hn rfl (fun ls' h' => k H locs ls' hw hS (evLm_1 rfl h'))
  | lstore n =>
    obtain rfl : len = 2 := by simpa [evLenOk] using hlen
    simp only [evStep] at he
    replace he := evPl_of he
    obtain ⟨x, r, rfl, he⟩ := he
    replace he := evIf_of he
    obtain ⟨hn, he⟩ := he
    cases he
    exact lv_lstore hx hb hd hl hn rfl (fun ls' h' => k H locs ls' hw hS (evLm_2 rfl h'))
  | lstore_n n =>
    obtain rfl : len = 1 := by simpa [evLenOk] using hlen
    simp only [evStep] at he
    replace he := evPl_of he
    obtain ⟨x, r, rfl, he⟩ := he
    replace he := evIf_of he
    obtain ⟨hn, he⟩ := he
    cases he
    exact lv_lstore_n hx hb hd rfl hl hn rfl (fun ls' h' => k H locs ls' hw hS (evLm_2 rfl h'))
  | dstore_n n =>
    obtain rfl : len = 1 := by simpa [evLenOk] using hlen
    simp only [evStep] at he
    replace he := evPd_of he
    obtain ⟨x, r, rfl, he⟩ := he
    replace he := evIf_of he
    obtain ⟨hn, he⟩ := he
    cases he
    exact lv_dstore_n hx hb hd rfl hl hn rfl (fun ls' h' => k H locs ls' hw hS (evLm_2 rfl h'))
  | astore n =>
    obtain rfl : len = 2 := by simpa [evLenOk] using hlen
    simp only [evStep] at he
    replace he := evPq_of he
    obtain ⟨q, r, rfl, he⟩ := he
    replace he := evIf_of he
    obtain ⟨hn, he⟩ := he
    cases he
    cases q with
    | none => exact lv_astoreN hx hb hd hl hn rfl (fun ls' h' => k H locs ls' hw hS (evLm_1 rfl h'))
    | some a => exact lv_astore hx hb hd hl hn rfl (fun ls' h' => k H locs ls' hw hS (evLm_1 rfl h'))
  | astore_n n =>
    obtain rfl : len = 1 := by simpa [evLenOk] using hlen
    simp only [evStep] at he
    replace he := evPq_of he
    obtain ⟨q, r, rfl, he⟩ := he
    replace he := evIf_of he
    obtain ⟨hn, he⟩ := he
    cases he
    cases q with
    | none => exact lv_astore_nN hx hb hd rfl hl hn rfl (fun ls' h' => k H locs ls' hw hS (evLm_1 rfl h'))
    | some a => exact lv_astore_n hx hb hd rfl hl hn rfl (fun ls' h' => k H locs ls' hw hS (evLm_1 rfl h'))
  | iinc n z =>
    obtain rfl : len = 3 := by simpa [evLenOk] using hlen
    simp only [evStep] at he
    replace he := evB_of he
    obtain ⟨v, hv, he⟩ := he
    replace he := evPi_of he
    obtain ⟨x, r, hr, he⟩ := he
    cases hr
    replace he := evIf_of he
    obtain ⟨hn, he⟩ := he
    cases he
    obtain ⟨j, hj⟩ := List.getElem?_of_mem (List.mem_map.mpr ⟨(n, .int x), evLk_of hv, rfl⟩ : (n, Value.int x) ∈ evLm B S lv)
    exact lv_iinc hx hb hd hl hj rfl hn rfl (fun ls' h' => k H locs ls' hw hS (evLm_1 rfl h'))
  | ldc n =>
    obtain rfl : len = 2 := by simpa [evLenOk] using hlen
    simp only [evStep] at he
    replace he := evB_of he
    obtain ⟨q, hq, he⟩ := he
    obtain ⟨z, hz2, hp, rfl⟩ := ev_find hq
    obtain ⟨h1, h2⟩ := ev_two hp
    have hk := List.all_eq_true.mp evLT_ok z hz2
    obtain ⟨o, i, v, pp⟩ := z
    cases h1; cases h2
    cases v with
    | int x => cases he; exact lv_ldc hx hb hown (hts _ (evTb_in (List.mem_of_getElem? (of_decide_eq_true hk)) rfl)) hd (k H locs ls hw hS hl)
    | float x => cases he; exact lv_ldcf hx hb hown (hts _ (evTb_in (List.mem_of_getElem? (of_decide_eq_true hk)) rfl)) hd (k H locs ls hw hS hl)
    | _ => cases he
  | ldc2_w n =>
    obtain rfl : len = 3 := by simpa [evLenOk] using hlen
    simp only [evStep] at he
    replace he := evB_of he
    obtain ⟨q, hq, he⟩ := he
    obtain ⟨z, hz2, hp, rfl⟩ := ev_find hq
    obtain ⟨h1, h2⟩ := ev_two hp
    have hk := List.all_eq_true.mp evLT_ok z hz2
    obtain ⟨o, i, v, pp⟩ := z
    cases h1; cases h2
    cases v with
    | long x => cases he; exact lv_ldc2 hx hb hown (hts _ (evTb_in (List.mem_of_getElem? (of_decide_eq_true hk)) rfl)) hd (k H locs ls hw hS hl)
    | double x => cases he; exact lv_ldc2d hx hb hown (hts _ (evTb_in (List.mem_of_getElem? (of_decide_eq_true hk)) rfl)) hd (k H locs ls hw hS hl)
    | _ => cases he
  | iadd =>
    obtain rfl : len = 1 := by simpa [evLenOk] using hlen
    simp only [evStep] at he
    replace he := evPi_of he
    obtain ⟨b, r, rfl, he⟩ := he
    replace he := evPi_of he
    obtain ⟨a, r, rfl, he⟩ := he
    cases he
    exact lv_iadd hx hb hd (k H locs ls hw hS hl)
  | isub =>
    obtain rfl : len = 1 := by simpa [evLenOk] using hlen
    simp only [evStep] at he
    replace he := evPi_of he
    obtain ⟨b, r, rfl, he⟩ := he
    replace he := evPi_of he
    obtain ⟨a, r, rfl, he⟩ := he
    cases he
    exact lv_isub hx hb hd (k H locs ls hw hS hl)
  | imul =>
    obtain rfl : len = 1 := by simpa [evLenOk] using hlen
    simp only [evStep] at he
    replace he := evPi_of he
    obtain ⟨b, r, rfl, he⟩ := he
    replace he := evPi_of he
    obtain ⟨a, r, rfl, he⟩ := he
    cases he
    exact lv_imul hx hb hd (k H locs ls hw hS hl)
  | iand =>
    obtain rfl : len = 1 := by simpa [evLenOk] using hlen
    simp only [evStep] at he
    replace he := evPi_of he
    obtain ⟨b, r, rfl, he⟩ := he
    replace he := evPi_of he
    obtain ⟨a, r, rfl, he⟩ := he
    cases he
    exact lv_iand hx hb hd (k H locs ls hw hS hl)
  | ior =>
    obtain rfl : len = 1 := by simpa [evLenOk] using hlen
    simp only [evStep] at he
    replace he := evPi_of he
    obtain ⟨b, r, rfl, he⟩ := he
    replace he := evPi_of he
    obtain ⟨a, r, rfl, he⟩ := he
    cases he
    exact lv_ior hx hb hd (k H locs ls hw hS hl)
  | ixor =>
    obtain rfl : len = 1 := by simpa [evLenOk] using hlen
    simp only [evStep] at he
    replace he := evPi_of he
    obtain ⟨b, r, rfl, he⟩ := he
    replace he := evPi_of he
    obtain ⟨a, r, rfl, he⟩ := he
    cases he
    exact lv_ixor hx hb hd (k H locs ls hw hS hl)
  | ishl =>
    obtain rfl : len = 1 := by simpa [evLenOk] using hlen
    simp only [evStep] at he
    replace he := evPi_of he
    obtain ⟨b, r, rfl, he⟩ := he
    replace he := evPi_of he
    obtain ⟨a, r, rfl, he⟩ := he
    cases he
    exact lv_ishl hx hb hd (k H locs ls hw hS hl)
  | idiv =>
    obtain rfl : len = 1 := by simpa [evLenOk] using hlen
    simp only [evStep] at he
    replace he := evPi_of he
    obtain ⟨b, r, rfl, he⟩ := he
    replace he := evPi_of he
    obtain ⟨a, r, rfl, he⟩ := he
    replace he := evIf_of he
    obtain ⟨hne, he⟩ := he
    cases he
    exact lv_idiv hx hb hd hne (k H locs ls hw hS hl)
  | irem =>
    obtain rfl : len = 1 := by simpa [evLenOk] using hlen
    simp only [evStep] at he
    replace he := evPi_of he
    obtain ⟨b, r, rfl, he⟩ := he
    replace he := evPi_of he
    obtain ⟨a, r, rfl, he⟩ := he
    replace he := evIf_of he
    obtain ⟨hne, he⟩ := he
    cases he
    exact lv_irem hx hb hd hne (k H locs ls hw hS hl)
  | ineg =>
    obtain rfl : len = 1 := by simpa [evLenOk] using hlen
    simp only [evStep] at he
    replace he := evPi_of he
    obtain ⟨a, r, rfl, he⟩ := he
    cases he
    exact lv_ineg hx hb hd (k H locs ls hw hS hl)
  | ladd =>
    obtain rfl : len = 1 := by simpa [evLenOk] using hlen
    simp only [evStep] at he
    replace he := evPl_of he
    obtain ⟨b, r, rfl, he⟩ := he
    replace he := evPl_of he
    obtain ⟨a, r, rfl, he⟩ := he
    cases he
    exact lv_ladd hx hb hd (k H locs ls hw hS hl)
  | lsub =>
    obtain rfl : len = 1 := by simpa [evLenOk] using hlen
    simp only [evStep] at he
    replace he := evPl_of he
    obtain ⟨b, r, rfl, he⟩ := he
    replace he := evPl_of he
    obtain ⟨a, r, rfl, he⟩ := he
    cases he
    exact lv_lsub hx hb hd (k H locs ls hw hS hl)
  | land =>
    obtain rfl : len = 1 := by simpa [evLenOk] using hlen
    simp only [evStep] at he
    replace he := evPl_of he
    obtain ⟨b, r, rfl, he⟩ := he
    replace he := evPl_of he
    obtain ⟨a, r, rfl, he⟩ := he
    cases he
    exact lv_land hx hb hd (k H locs ls hw hS hl)
  | lor =>
    obtain rfl : len = 1 := by simpa [evLenOk] using hlen
    simp only [evStep] at he
    replace he := evPl_of he
    obtain ⟨b, r, rfl, he⟩ := he
    replace he := evPl_of he
    obtain ⟨a, r, rfl, he⟩ := he
    cases he
    exact lv_lor hx hb hd (k H locs ls hw hS hl)
  | lshl =>
    obtain rfl : len = 1 := by simpa [evLenOk] using hlen
    simp only [evStep] at he
    replace he := evPi_of he
    obtain ⟨b, r, rfl, he⟩ := he
    replace he := evPl_of he
    obtain ⟨a, r, rfl, he⟩ := he
    cases he
    exact lv_lshl hx hb hd rfl (k H locs ls hw hS hl)
  | lushr =>
    obtain rfl : len = 1 := by simpa [evLenOk] using hlen
    simp only [evStep] at he
    replace he := evPi_of he
    obtain ⟨b, r, rfl, he⟩ := he
    replace he := evPl_of he
    obtain ⟨a, r, rfl, he⟩ := he
    cases he
    exact lv_lushr hx hb hd rfl (k H locs ls hw hS hl)
  | lcmp =>
    obtain rfl : len = 1 := by simpa [evLenOk] using hlen
    simp only [evStep] at he
    replace he := evPl_of he
    obtain ⟨b, r, rfl, he⟩ := he
    replace he := evPl_of he
    obtain ⟨a, r, rfl, he⟩ := he
    cases he
    exact W.lcmp hx hb hd (k H locs ls hw hS hl)
  | i2l =>
    obtain rfl : len = 1 := by simpa [evLenOk] using hlen
    simp only [evStep] at he
    replace he := evPi_of he
    obtain ⟨a, r, rfl, he⟩ := he
    cases he
    exact lv_i2l hx hb hd rfl (k H locs ls hw hS hl)
  | l2i =>
    obtain rfl : len = 1 := by simpa [evLenOk] using hlen
    simp only [evStep] at he
    replace he := evPl_of he
    obtain ⟨a, r, rfl, he⟩ := he
    cases he
    exact lv_l2i hx hb hd rfl (k H locs ls hw hS hl)
  | i2f =>
    obtain rfl : len = 1 := by simpa [evLenOk] using hlen
    simp only [evStep] at he
    replace he := evPi_of he
    obtain ⟨a, r, rfl, he⟩ := he
    cases he
    exact lv_i2f hx hb hd (k H locs ls hw hS hl)
  | i2d =>
    obtain rfl : len = 1 := by simpa [evLenOk] using hlen
    simp only [evStep] at he
    replace he := evPi_of he
    obtain ⟨a, r, rfl, he⟩ := he
    cases he
    exact lv_i2d hx hb hd (k H locs ls hw hS hl)
  | f2i =>
    obtain rfl : len = 1 := by simpa [evLenOk] using hlen
    simp only [evStep] at he
    replace he := evPf_of he
    obtain ⟨a, r, rfl, he⟩ := he
    cases he
    exact lv_f2i hx hb hd (k H locs ls hw hS hl)
  | d2l =>
    obtain rfl : len = 1 := by simpa [evLenOk] using hlen
    simp only [evStep] at he
    replace he := evPd_of he
    obtain ⟨a, r, rfl, he⟩ := he
    cases he
    exact lv_d2l hx hb hd (k H locs ls hw hS hl)
  | fmul =>
    obtain rfl : len = 1 := by simpa [evLenOk] using hlen
    simp only [evStep] at he
    replace he := evPf_of he
    obtain ⟨b, r, rfl, he⟩ := he
    replace he := evPf_of he
    obtain ⟨a, r, rfl, he⟩ := he
    replace he := evIf_of he
    obtain ⟨hne, he⟩ := he
    cases he
    exact lv_fmul hx hb hd hne (k H locs ls hw hS hl)
  | fdiv =>
    obtain rfl : len = 1 := by simpa [evLenOk] using hlen
    simp only [evStep] at he
    replace he := evPf_of he
    obtain ⟨b, r, rfl, he⟩ := he
    replace he := evPf_of he
    obtain ⟨a, r, rfl, he⟩ := he
    replace he := evIf_of he
    obtain ⟨hne, he⟩ := he
    cases he
    exact lv_fdiv hx hb hd hne (k H locs ls hw hS hl)
  | dmul =>
    obtain rfl : len = 1 := by simpa [evLenOk] using hlen
    simp only [evStep] at he
    replace he := evPd_of he
    obtain ⟨b, r, rfl, he⟩ := he
    replace he := evPd_of he
    obtain ⟨a, r, rfl, he⟩ := he
    replace he := evIf_of he
    obtain ⟨hne, he⟩ := he
    cases he
    exact lv_dmul hx hb hd hne (k H locs ls hw hS hl)
  | ddiv =>
    obtain rfl : len = 1 := by simpa [evLenOk] using hlen
    simp only [evStep] at he
    replace he := evPd_of he
    obtain ⟨b, r, rfl, he⟩ := he
    replace he := evPd_of he
    obtain ⟨a, r, rfl, he⟩ := he
    replace he := evIf_of he
    obtain ⟨hne, he⟩ := he
    cases he
    exact lv_ddiv hx hb hd hne (k H locs ls hw hS hl)
  | fcmp op =>
    obtain rfl : len = 1 := by simpa [evLenOk] using hlen
    simp only [evStep] at he
    replace he := evPf_of he
    obtain ⟨b, r, rfl, he⟩ := he
    replace he := evPf_of he
    obtain ⟨a, r, rfl, he⟩ := he
    cases he
    exact lv_fcmp hx hb hd (k H locs ls hw hS hl)
  | dcmp op =>
    obtain rfl : len = 1 := by simpa [evLenOk] using hlen
    simp only [evStep] at he
    replace he := evPd_of he
    obtain ⟨b, r, rfl, he⟩ := he
    replace he := evPd_of he
    obtain ⟨a, r, rfl, he⟩ := he
    cases he
    exact lv_dcmp hx hb hd (k H locs ls hw hS hl)
  | dup =>
    obtain rfl : len = 1 := by simpa [evLenOk] using hlen
    simp only [evStep] at he
    replace he := evPv_of he
    obtain ⟨v, r, rfl, he⟩ := he
    replace he := evIf_of he
    obtain ⟨hv, he⟩ := he
    cases he
    exact lv_dup hx hb hd ((evV_cat v).trans hv) (k H locs ls hw hS hl)
  | pop =>
    obtain rfl : len = 1 := by simpa [evLenOk] using hlen
    simp only [evStep] at he
    replace he := evPv_of he
    obtain ⟨v, r, rfl, he⟩ := he
    replace he := evIf_of he
    obtain ⟨hv, he⟩ := he
    cases he
    exact lv_pop hx hb hd ((evV_cat v).trans hv) (k H locs ls hw hS hl)
  | dup2 =>
    obtain rfl : len = 1 := by simpa [evLenOk] using hlen
    simp only [evStep] at he
    replace he := evPv_of he
    obtain ⟨v, r, rfl, he⟩ := he
    replace he := evPv_of he
    obtain ⟨u, r, rfl, he⟩ := he
    replace he := evIf_of he
    obtain ⟨hv, he⟩ := he
    cases he
    exact lv_dup2_11 hx hb hd ((evV_cat v).trans hv.1) ((evV_cat u).trans hv.2) (k H locs ls hw hS hl)
  | goto off =>
    obtain rfl : len = 3 := by simpa [evLenOk] using hlen
    simp only [evStep] at he
    replace he := evB_of he
    obtain ⟨t, ht, he⟩ := he
    cases he
    exact lv_goto hx hb hd (evJ_of ht) (k H locs ls hw hS hl)
  | ifCond cnd off =>
    obtain rfl : len = 3 := by simpa [evLenOk] using hlen
    simp only [evStep] at he
    replace he := evPi_of he
    obtain ⟨x, r, rfl, he⟩ := he
    replace he := evB_of he
    obtain ⟨t, ht, he⟩ := he
    cases he
    have k1 := k H locs ls hw hS hl
    cases cnd with
    | eq => exact lv_if_eq hx hb hd (evJ_of ht) (fun q => by rw [if_pos (by simp [evIc, q])] at k1; exact k1) (fun q => by rw [if_neg (by simp [evIc, q])] at k1; exact k1)
    | ne => exact lv_if_ne hx hb hd (evJ_of ht) (fun q => by rw [if_pos (by simp [evIc, q])] at k1; exact k1) (fun q => by rw [if_neg (by simp [evIc, q])] at k1; exact k1)
    | lt => exact lv_if_lt hx hb hd (evJ_of ht) (fun q => by rw [if_pos (by simp [evIc, q])] at k1; exact k1) (fun q => by rw [if_neg (by simp [evIc, q])] at k1; exact k1)
    | ge => exact lv_if_ge hx hb hd (evJ_of ht) (fun q => by rw [if_pos (by simp [evIc, q])] at k1; exact k1) (fun q => by rw [if_neg (by simp [evIc, q])] at k1; exact k1)
    | gt => exact lv_if_gt hx hb hd (evJ_of ht) (fun q => by rw [if_pos (by simp [evIc, q])] at k1; exact k1) (fun q => by rw [if_neg (by simp [evIc, q])] at k1; exact k1)
    | le => exact lv_if_le hx hb hd (evJ_of ht) (fun q => by rw [if_pos (by simp [evIc, q])] at k1; exact k1) (fun q => by rw [if_neg (by simp [evIc, q])] at k1; exact k1)
  | if_icmp cnd off =>
    obtain rfl : len = 3 := by simpa [evLenOk] using hlen
    simp only [evStep] at he
    replace he := evPi_of he
    obtain ⟨b, r, rfl, he⟩ := he
    replace he := evPi_of he
    obtain ⟨a, r, rfl, he⟩ := he
    replace he := evB_of he
    obtain ⟨t, ht, he⟩ := he
    cases he
    have k1 := k H locs ls hw hS hl
    cases cnd with
    | eq => exact lv_icmp_eq hx hb hd (evJ_of ht) (fun q => by rw [if_pos (by simp [evIc, q])] at k1; exact k1) (fun q => by rw [if_neg (by simp [evIc, q])] at k1; exact k1)
    | ne => exact lv_icmp_ne hx hb hd (evJ_of ht) (fun q => by rw [if_pos (by simp [evIc, q])] at k1; exact k1) (fun q => by rw [if_neg (by simp [evIc, q])] at k1; exact k1)
    | lt => exact lv_icmp_lt hx hb hd (evJ_of ht) (fun q => by rw [if_pos (by simp [evIc, q])] at k1; exact k1) (fun q => by rw [if_neg (by simp [evIc, q])] at k1; exact k1)
    | ge => exact lv_icmp_ge hx hb hd (evJ_of ht) (fun q => by rw [if_pos (by simp [evIc, q])] at k1; exact k1) (fun q => by rw [if_neg (by simp [evIc, q])] at k1; exact k1)
    | gt => exact lv_icmp_gt hx hb hd (evJ_of ht) (fun q => by rw [if_pos (by simp [evIc, q])] at k1; exact k1) (fun q => by rw [if_neg (by simp [evIc, q])] at k1; exact k1)
    | le => exact lv_icmp_le hx hb hd (evJ_of ht) (fun q => by rw [if_pos (by simp [evIc, q])] at k1; exact k1) (fun q => by rw [if_neg (by simp [evIc, q])] at k1; exact k1)
  | ifnull off =>
    obtain rfl : len = 3 := by simpa [evLenOk] using hlen
    simp only [evStep] at he
    replace he := evPq_of he
    obtain ⟨q, r, rfl, he⟩ := he
    replace he := evB_of he
    obtain ⟨t, ht, he⟩ := he
    cases he
    cases q with
    | none => exact lv_ifnullN hx hb hd (evJ_of ht) (k H locs ls hw hS hl)
    | some a => exact lv_ifnull hx hb hd (k H locs ls hw hS hl)
  | ifnonnull off =>
    obtain rfl : len = 3 := by simpa [evLenOk] using hlen
    simp only [evStep] at he
    replace he := evPq_of he
    obtain ⟨q, r, rfl, he⟩ := he
    replace he := evB_of he
    obtain ⟨t, ht, he⟩ := he
    cases he
    cases q with
    | none => exact lv_ifnonnullN hx hb hd (k H locs ls hw hS hl)
    | some a => exact lv_ifnonnull hx hb hd (evJ_of ht) (k H locs ls hw hS hl)
  | lookupswitch dflt ps =>
    simp only [evStep] at he
    replace he := evPi_of he
    obtain ⟨x, r, rfl, he⟩ := he
    replace he := evIf_of he
    obtain ⟨hp, he⟩ := he
    replace he := evB_of he
    obtain ⟨t, ht, he⟩ := he
    cases he
    exact lv_lookup hx hb hd hp rfl (evJ_of ht) (k H locs ls hw hS hl)
  | tableswitch dflt lo hi offs =>
    simp only [evStep] at he
    replace he := evPi_of he
    obtain ⟨x, r, rfl, he⟩ := he
    split at he
    · rename_i ho
      replace he := evB_of he
      obtain ⟨t, ht, he⟩ := he
      cases he
      exact lv_tableOut hx hb hd ho (evJ_of ht) (k H locs ls hw hS hl)
    · rename_i ho
      replace he := evB_of he
      obtain ⟨off, hoff, he⟩ := he
      replace he := evB_of he
      obtain ⟨t, ht, he⟩ := he
      cases he
      exact lv_tableIn hx hb hd (fun q => ho (Or.inl q)) (fun q => ho (Or.inr q)) hoff (evJ_of ht) (k H locs ls hw hS hl)
  | getfield n =>
    obtain rfl : len = 3 := by simpa [evLenOk] using hlen
    simp only [evStep] at he
    replace he := evB_of he
    obtain ⟨q, hq, he⟩ := he
    replace he := evPr_of he
    obtain ⟨a, r, rfl, he⟩ := he
    replace he := evIf_of he
    obtain ⟨⟨ha, hka⟩, he⟩ := he
    cases he
    obtain ⟨rr, hrr, hj, hlk⟩ := evF_of hq
    have h9 := evCls_8 _ _ hrr
    have hN := (evCls_n _ _ hrr).1
    have hg := evW_get (B := B) (S := S) (dA := dA) (mi := mi) ha
    rw [evE_o hka h9] at hg
    have hv := evFs_get (B := B) (S := S) (h := h) (mi := mi) (k := q.1) (a := a) (hN ▸ hj)
    have hph : evPh B S a = B + a := evPh_in (Nat.lt_of_lt_of_le ha hn9)
    have hdc := evCls_d _ _ hrr _ hj
    have hkk : W p l e R s m args below meth c H locs (evN h - n0) (evSl h - s0) Q (F0 m (pc + 3) ls ((if evIsR q.1 q.2.1 = true then va_rf ((evR h a q.2.1).map (evPh B S)) else .int (mi a q.2.1)) :: r.map (evV B S))) := by
      have k1 := k H locs ls hw hS hl
      have e1 : evV B S (if evIsR q.1 q.2.1 = true then va_rf (evR h a q.2.1) else .int (mi a q.2.1)) = (if evIsR q.1 q.2.1 = true then va_rf ((evR h a q.2.1).map (evPh B S)) else .int (mi a q.2.1)) := by
        split
        · exact evV_rf
        · rfl
      rw [← e1]
      exact k1
    show W p l e R s m args below meth c H locs _ _ Q (F0 m pc ls (.ref (evPh B S a) :: r.map (evV B S)))
    rw [hph]
    rcases hlk with ⟨-, hlk⟩ | hlk
    · exact va_getN hx hb hts (evCls_in _ _ hrr) hown hK hP a hg hrr q.2.1 hj (va_Nw.use rfl (hNW.1 _ _ _ _ _ hlk)) (fun x h9' => by rw [← hdc]; exact h9') hv hd hkk
    · exact va_get hx hb hts (evCls_in _ _ hrr) hown hK hP a hg hrr q.2.1 hj (hts _ (evTb_in hlk rfl)) (fun x h9' => by rw [← hdc]; exact h9') hv hd hkk
  | putfield n =>
    obtain rfl : len = 3 := by simpa [evLenOk] using hlen
    simp only [evStep] at he
    replace he := evB_of he
    obtain ⟨q, hq, he⟩ := he
    replace he := evIf_of he
    obtain ⟨hmay, he⟩ := he
    obtain ⟨rr, hrr, hj, hlk⟩ := evF_of hq
    have h9 := evCls_8 _ _ hrr
    have hN := (evCls_n _ _ hrr).1
    have hC1 := (evCls_n _ _ hrr).2
    have hfe : evFin q.1 q.2.1 = (rr.2.1 q.2.1).2.2.2 := by unfold evFin; rw [hrr]
    have put : ∀ (a : Nat) (v : Value) (r : List Value) (h' : evH) (mi' : evM), a < evN h → evK h a = q.1 → narrow (evTy q.1 q.2.1) v = v → fits (evTy q.1 q.2.1) v = true → (evW B S dA h mi).set a (B + a, .inr (q.1, (evFs B S h mi q.1 a).set q.2.1 v)) = evW B S dA h' mi' →
        (∀ H' locs', va_P D vwCl (evW B S dA h' mi') H' → H'.size = H.size → va_S (fun q => B ≤ q) s.heap H' locs' → W p l e R s m args below meth c H' locs' (evN h - n0) (evSl h - s0) Q (F0 m (pc + 3) ls r)) →
        W p l e R s m args below meth c H locs (evN h - n0) (evSl h - s0) Q (F0 m pc ls (v :: .ref (B + a) :: r)) := by
      intro a v r h' mi' ha hka hn hf hset kk
      have hg := evW_get (B := B) (S := S) (dA := dA) (mi := mi) ha
      rw [evE_o hka h9] at hg
      have hlen2 : q.2.1 < (evFs B S h mi q.1 a).length := by rw [evFs_len, ← hN]; exact hj
      cases hfb : evFin q.1 q.2.1 with
      | false =>
        refine evh_put hx hb hts hown hK hP evW_D hS a hg hrr q.2.1 hj ?_ (by rw [← hfe]; exact hfb) hn hf hlen2 hd (fun H1 locs1 z1 hP1 hS1 => kk H1 locs1 (by rw [← hset]; exact hP1) z1 hS1)
        rcases hlk with ⟨-, hlk⟩ | hlk
        · exact Or.inl (hNW.1 _ _ _ _ _ hlk)
        · exact Or.inr (hts _ (evTb_in hlk rfl))
      | true =>
        have hm2 : evInit y q.1 = true ∧ q.2.2.1 = false := by
          unfold evMay at hmay
          rw [hfb] at hmay
          simpa using hmay
        have hm3 : (evName y).name = "<init>" ∧ evOw y = q.1 := by
          have := hm2.1
          unfold evInit at this
          simpa using this
        rcases hlk with ⟨hne, -⟩ | hlk
        · rw [hm2.2] at hne; cases hne
        · exact evh_putF hx hb hts hown hK hP evW_D hS a hg hrr q.2.1 hj (hts _ (evTb_in hlk rfl)) (by rw [← hfe]; exact hfb) (hinit hm3.1) (by rw [hm3.2]; exact hC1) hn hf hlen2 hd (fun H1 locs1 z1 hP1 hS1 => kk H1 locs1 (by rw [← hset]; exact hP1) z1 hS1)
    split at he
    · rename_i hir
      replace he := evPq_of he
      obtain ⟨v, r, rfl, he⟩ := he
      replace he := evPr_of he
      obtain ⟨a, r, rfl, he⟩ := he
      replace he := evIf_of he
      obtain ⟨⟨ha, hka⟩, he⟩ := he
      cases he
      have hph : evPh B S a = B + a := evPh_in (Nat.lt_of_lt_of_le ha hn9)
      have hty := ev_refty h9 (hN ▸ hj) hir (v.map (evPh B S))
      show W p l e R s m args below meth c H locs _ _ Q (F0 m pc ls (evV B S (va_rf v) :: .ref (evPh B S a) :: r.map (evV B S)))
      rw [hph, evV_rf]
      refine put a (va_rf (v.map (evPh B S))) (r.map (evV B S)) (evSetR h a q.2.1 v) mi ha hka hty.1 hty.2 ?_ (fun H' locs' hP' z' hS' => k H' locs' ls ⟨hP', z'.trans hz, hn9, hsp⟩ hS' hl)
      refine evW_set rfl ?_ (fun b hb' => evE_same rfl (fun j => ?_) rfl)
      · rw [evE_o (show evK (evSetR h a q.2.1 v) a = q.1 from hka) h9]
        congr 2
        refine (evFs_set ?_ (fun i hi => ⟨?_, rfl⟩)).symm
        · rw [if_pos hir]
          show va_rf ((if a = a ∧ q.2.1 = q.2.1 then v else _).map _) = _
          rw [if_pos ⟨rfl, rfl⟩]
        · show (if a = a ∧ i = q.2.1 then v else _) = _
          rw [if_neg (fun z => hi z.2)]
          rfl
      · show (if b = a ∧ j = q.2.1 then v else _) = _
        rw [if_neg (fun z => hb' z.1)]
        rfl
    · rename_i hir
      replace he := evPi_of he
      obtain ⟨x, r, rfl, he⟩ := he
      replace he := evPr_of he
      obtain ⟨a, r, rfl, he⟩ := he
      replace he := evIf_of he
      obtain ⟨⟨ha, hka, hfit⟩, he⟩ := he
      cases he
      have hph : evPh B S a = B + a := evPh_in (Nat.lt_of_lt_of_le ha hn9)
      have hty : narrow (evTy q.1 q.2.1) (.int x) = .int x ∧ fits (evTy q.1 q.2.1) (.int x) = true := by
        unfold evFit at hfit
        simpa using hfit
      show W p l e R s m args below meth c H locs _ _ Q (F0 m pc ls (.int x :: .ref (evPh B S a) :: r.map (evV B S)))
      rw [hph]
      refine put a (.int x) (r.map (evV B S)) h (evSetM mi a q.2.1 x) ha hka hty.1 hty.2 ?_ (fun H' locs' hP' z' hS' => k H' locs' ls ⟨hP', z'.trans hz, hn9, hsp⟩ hS' hl)
      refine evW_set rfl ?_ (fun b hb' => evE_same rfl (fun j => rfl) (funext fun j => ?_))
      · rw [evE_o hka h9]
        congr 2
        refine (evFs_set ?_ (fun i hi => ⟨rfl, ?_⟩)).symm
        · rw [if_neg hir]
          show Value.int (if a = a ∧ q.2.1 = q.2.1 then x else _) = _
          rw [if_pos ⟨rfl, rfl⟩]
        · show (if a = a ∧ i = q.2.1 then x else _) = _
          rw [if_neg (fun z => hi z.2)]
      · show (if b = a ∧ j = q.2.1 then x else _) = _
        rw [if_neg (fun z => hb' z.1)]
  | getstatic n =>
    obtain rfl : len = 3 := by simpa [evLenOk] using hlen
    simp only [evStep] at he
    replace he := evB_of he
    obtain ⟨q, hq, he⟩ := he
    cases he
    obtain ⟨z, hz2, hp, rfl⟩ := ev_find hq
    obtain ⟨h1, h2⟩ := ev_two hp
    have hk := List.all_eq_true.mp evST_ok z hz2
    obtain ⟨o, i, kk, pp⟩ := z
    cases h1; cases h2
    simp only [evSokB, Bool.and_eq_true, decide_eq_true_eq] at hk
    have k1 := k H locs ls hw hS hl
    have e1 : evV B S (.ref (evO9 + kk)) = .ref (S kk) := by
      show Value.ref _ = _
      rw [evPh_out]
    refine va_getsN hx hb (hZ kk hk.1) hS hown (va_Nw.use rfl (hNW.1 _ _ _ _ _ (List.mem_of_getElem? hk.2))) (fun x h => h) hd ?_
    rw [← e1]
    exact k1
  | iaload =>
    obtain rfl : len = 1 := by simpa [evLenOk] using hlen
    simp only [evStep] at he
    replace he := evPi_of he
    obtain ⟨j, r, rfl, he⟩ := he
    replace he := evPr_of he
    obtain ⟨a, r, rfl, he⟩ := he
    replace he := evB_of he
    obtain ⟨q, hq, he⟩ := he
    replace he := evIf_of he
    obtain ⟨⟨hj0, hjl⟩, he⟩ := he
    cases he
    have k1 := k H locs ls hw hS hl
    have hin : vp_in j q.1 := fun z => z.elim hj0 (fun z => absurd hjl (Nat.not_lt.mpr z))
    unfold evRow at hq
    split at hq
    · rename_i h9
      replace hq := evIf_of hq
      obtain ⟨h3, hq⟩ := hq
      cases hq
      have hak : a - evO9 < 3 := Nat.sub_lt_left_of_lt_add h9 h3
      have hph : evPh B S a = S (a - evO9) := if_neg (by omega)
      have hXk := hX _ hak
      have hspk : evSp h (a - evO9) = sp (a - evO9) := by unfold evSp; rw [hsp]
      show W p l e R s m args below meth c H locs _ _ Q (F0 m pc ls (.int j :: .ref (evPh B S a) :: r.map (evV B S)))
      rw [hph]
      simp only [hspk] at hin k1
      exact va_ti hx hb hXk hS hin rfl hd k1
    · replace hq := evIf_of hq
      obtain ⟨⟨ha, hk9⟩, hq⟩ := hq
      cases hq
      have hg := evW_get (B := B) (S := S) (dA := dA) (mi := mi) ha
      rw [evE_i hk9] at hg
      have hph : evPh B S a = B + a := evPh_in (Nat.lt_of_lt_of_le ha hn9)
      show W p l e R s m args below meth c H locs _ _ Q (F0 m pc ls (.int j :: .ref (evPh B S a) :: r.map (evV B S)))
      rw [hph]
      exact va_iald hx hb hK hP a 0 hg rfl hin hd k1
  | iastore =>
    obtain rfl : len = 1 := by simpa [evLenOk] using hlen
    simp only [evStep] at he
    replace he := evPi_of he
    obtain ⟨x, r, rfl, he⟩ := he
    replace he := evPi_of he
    obtain ⟨j, r, rfl, he⟩ := he
    replace he := evPr_of he
    obtain ⟨a, r, rfl, he⟩ := he
    replace he := evIf_of he
    obtain ⟨⟨ha, hk9, hj0, hjl⟩, he⟩ := he
    cases he
    have hin : vp_in j (evLen h a) := fun z => z.elim hj0 (fun z => absurd hjl (Nat.not_lt.mpr z))
    have hg := evW_get (B := B) (S := S) (dA := dA) (mi := mi) ha
    rw [evE_i hk9] at hg
    have hph : evPh B S a = B + a := evPh_in (Nat.lt_of_lt_of_le ha hn9)
    show W p l e R s m args below meth c H locs _ _ Q (F0 m pc ls (.int x :: .int j :: .ref (evPh B S a) :: r.map (evV B S)))
    rw [hph]
    refine evh_iast hx hb hK hP evW_D hS a 0 hg rfl hin hd (fun H1 locs1 z1 hP1 hS1 => k H1 locs1 ls ⟨?_, z1.trans hz, hn9, hsp⟩ hS1 hl)
    have hset : (evW B S dA h mi).set a (B + a, .inl (dA 0, evLen h a, .inl (upd (mi a) j.toNatClampNeg x))) = evW B S dA h (evSetM mi a j.toNatClampNeg x) := by
      refine evW_set rfl ?_ (fun b hb' => evE_same rfl (fun j => rfl) (funext fun i => ?_))
      · rw [evE_i hk9]
        congr 4
        funext i
        unfold evSetM upd
        simp
      · show (if b = a ∧ i = _ then x else _) = _
        rw [if_neg (fun z => hb' z.1)]
    rw [hset] at hP1
    exact hP1
  | aaload =>
    obtain rfl : len = 1 := by simpa [evLenOk] using hlen
    simp only [evStep] at he
    replace he := evPi_of he
    obtain ⟨j, r, rfl, he⟩ := he
    replace he := evPr_of he
    obtain ⟨a, r, rfl, he⟩ := he
    replace he := evIf_of he
    obtain ⟨⟨ha, hk10, hk13, hj0, hjl⟩, he⟩ := he
    cases he
    have hin : vp_in j (evLen h a) := fun z => z.elim hj0 (fun z => absurd hjl (Nat.not_lt.mpr z))
    have hg := evW_get (B := B) (S := S) (dA := dA) (mi := mi) ha
    rw [evE_r hk10] at hg
    have hph : evPh B S a = B + a := evPh_in (Nat.lt_of_lt_of_le ha hn9)
    obtain ⟨rr, ht, -⟩ := evTys_r dA hk10 hk13
    have k1 := k H locs ls hw hS hl
    show W p l e R s m args below meth c H locs _ _ Q (F0 m pc ls (.int j :: .ref (evPh B S a) :: r.map (evV B S)))
    rw [hph]
    refine va_aldq hx hb hK hP a _ hg ht hin hd ?_
    rw [← evV_rf]
    exact k1
  | aastore =>
    obtain rfl : len = 1 := by simpa [evLenOk] using hlen
    simp only [evStep] at he
    replace he := evPr_of he
    obtain ⟨v, r, rfl, he⟩ := he
    replace he := evPi_of he
    obtain ⟨j, r, rfl, he⟩ := he
    replace he := evPr_of he
    obtain ⟨a, r, rfl, he⟩ := he
    replace he := evIf_of he
    obtain ⟨⟨ha, hv, hk10, hk13, hel, hj0, hjl⟩, he⟩ := he
    cases he
    have hin : vp_in j (evLen h a) := fun z => z.elim hj0 (fun z => absurd hjl (Nat.not_lt.mpr z))
    have hg := evW_get (B := B) (S := S) (dA := dA) (mi := mi) ha
    rw [evE_r hk10] at hg
    obtain ⟨rr, ht, hrr⟩ := evTys_r dA hk10 hk13
    have hgv := evW_get (B := B) (S := S) (dA := dA) (mi := mi) hv
    rw [evE_o hel.symm (evCls_8 _ _ hrr)] at hgv
    have hph : evPh B S a = B + a := evPh_in (Nat.lt_of_lt_of_le ha hn9)
    have hphv : evPh B S v = B + v := evPh_in (Nat.lt_of_lt_of_le hv hn9)
    show W p l e R s m args below meth c H locs _ _ Q (F0 m pc ls (.ref (evPh B S v) :: .int j :: .ref (evPh B S a) :: r.map (evV B S)))
    rw [hph, hphv]
    refine evh_astq hx hb hK hP evW_D hS a _ v _ hg ht hgv hrr hin hd (fun H1 locs1 z1 hP1 hS1 => k H1 locs1 ls ⟨?_, z1.trans hz, hn9, hsp⟩ hS1 hl)
    have hset : (evW B S dA h mi).set a (B + a, .inl (dA (evK h a - 9), evLen h a, .inr (.inr (.inr (.inr (va_up (fun j => (evR h a j).map (evPh B S)) j.toNatClampNeg (some (B + v)))))))) = evW B S dA (evSetR h a j.toNatClampNeg (some v)) mi := by
      refine evW_set rfl ?_ (fun b hb' => evE_same rfl (fun i => ?_) rfl)
      · rw [evE_r (show 10 ≤ evK (evSetR h a j.toNatClampNeg (some v)) a from hk10)]
        refine congrArg (fun f : Nat → Option Nat => (Sum.inl (dA (evK h a - 9), evLen h a, Sum.inr (Sum.inr (Sum.inr (Sum.inr f)))) : va_E)) (funext fun i => ?_)
        show ((if a = a ∧ i = j.toNatClampNeg then some v else _) : Option Nat).map _ = _
        unfold va_up
        by_cases hi : i = j.toNatClampNeg
        · rw [if_pos ⟨rfl, hi⟩, if_pos hi, ← hphv]
          rfl
        · rw [if_neg (fun z => hi z.2), if_neg hi]
          rfl
      · show (if b = a ∧ i = _ then some v else _) = _
        rw [if_neg (fun z => hb' z.1)]
        rfl
    rw [hset] at hP1
    exact hP1
  | arraylength =>
    obtain rfl : len = 1 := by simpa [evLenOk] using hlen
    simp only [evStep] at he
    replace he := evPr_of he
    obtain ⟨a, r, rfl, he⟩ := he
    replace he := evB_of he
    obtain ⟨n, hq, he⟩ := he
    cases he
    have k1 := k H locs ls hw hS hl
    unfold evALen at hq
    split at hq
    · rename_i h9
      replace hq := evIf_of hq
      obtain ⟨h3, hq⟩ := hq
      cases hq
      have hak : a - evO9 < 3 := Nat.sub_lt_left_of_lt_add h9 h3
      have hph : evPh B S a = S (a - evO9) := if_neg (by omega)
      have hXk := hX _ hak
      have hspk : evSp h (a - evO9) = sp (a - evO9) := by unfold evSp; rw [hsp]
      show W p l e R s m args below meth c H locs _ _ Q (F0 m pc ls (.ref (evPh B S a) :: r.map (evV B S)))
      rw [hph]
      simp only [hspk] at k1
      exact va_tlen hx hb hXk hS rfl hd k1
    · replace hq := evIf_of hq
      obtain ⟨⟨ha, hk9, hk13⟩, hq⟩ := hq
      cases hq
      have hph : evPh B S a = B + a := evPh_in (Nat.lt_of_lt_of_le ha hn9)
      have hg := evW_get (B := B) (S := S) (dA := dA) (mi := mi) ha
      show W p l e R s m args below meth c H locs _ _ Q (F0 m pc ls (.ref (evPh B S a) :: r.map (evV B S)))
      rw [hph]
      by_cases h10 : evK h a = 9
      · rw [evE_i h10] at hg
        exact va_alen hx hb hK hP a 0 hg rfl rfl hd k1
      · have hk10 : 10 ≤ evK h a := by omega
        rw [evE_r hk10] at hg
        obtain ⟨rr, ht, -⟩ := evTys_r dA hk10 hk13
        exact va_alen hx hb hK hP a _ hg ht rfl hd k1
  | new n =>
    obtain rfl : len = 3 := by simpa [evLenOk] using hlen
    simp only [evStep] at he
    replace he := evB_of he
    obtain ⟨q, hq, he⟩ := he
    replace he := evIf_of he
    obtain ⟨hn9', he⟩ := he
    cases he
    obtain ⟨z, hz2, hp, rfl⟩ := ev_find hq
    obtain ⟨h1, h2⟩ := ev_two hp
    have hk := List.all_eq_true.mp evWT_ok z hz2
    obtain ⟨o, i, ci, p1, p2, p3⟩ := z
    cases h1; cases h2
    simp only [evWokB] at hk
    split at hk
    · cases hk
    · rename_i C T N hc
      simp only [Bool.and_eq_true, decide_eq_true_eq] at hk
      obtain ⟨⟨hk1, hk2⟩, hk3⟩ := hk
      have h9 := evCls_8 _ _ hc
      have hN : N = evFN ci := (evCls_n _ _ hc).1
      have hKn := hK.1 ci _ hc
      have eN : evN (evNew h ci (evFN ci)) = evN h + 1 := rfl
      have eS : evSl (evNew h ci (evFN ci)) = evSl h + evFN ci := rfl
      dsimp only at hC hR k
      rw [eN] at hC
      rw [eS] at hR
      have hph : evPh B S (evN h) = H.size := by rw [evPh_in hn9', hz]
      refine W.newcK hx hb hown (hts _ (evTb_in (List.mem_of_getElem? hk1) rfl)) (hts _ (evTb_in (List.mem_of_getElem? hk2) rfl)) (hts _ (evTb_in (List.mem_of_getElem? hk3) rfl)) rfl hd (by omega) (by omega) hKn.2.1 rfl fun H1 kC hkC e1 z1 o1 => ?_
      have k1 := k H1 locs ls ⟨evW_new (h' := evNew h ci (evFN ci)) (mi' := evNewM h mi) hP hz rfl (fun b hb' => evE_new hb') o1 ?_, by rw [z1, hz]; rfl, hn9', hsp⟩ ⟨Nat.le_trans hS.1 (by omega), fun x g1 g2 => (o1 x (Nat.lt_of_lt_of_le g1 hS.1)).trans (hS.2.1 x g1 g2), hS.2.2⟩ hl
      · rw [eN, eS] at k1
        have a1 : evN h - n0 + 1 = evN h + 1 - n0 := by omega
        have a2 : evSl h - s0 + N = evSl h + evFN ci - s0 := by omega
        rw [a1, a2, ← hph]
        exact k1
      · have hkn : evK (evNew h ci (evFN ci)) (evN h) = ci := by
          show (if evN h = h.1 then (ci, evFN ci) else _).1 = ci
          rw [if_pos (show evN h = h.1 from rfl)]
        rw [evE_o hkn h9]
        refine ⟨_, hc, (u_born (evTy ci) hts (evCls_in _ _ hc) hKn hkC e1 (evCls_ty _ _ hc)).to fun j hj => ?_⟩
        have hj' : j < evFN ci := by rw [← hN]; exact hj
        have hg := evFs_get (B := B) (S := S) (h := evNew h ci (evFN ci)) (mi := evNewM h mi) (k := ci) (a := evN h) hj'
        have hr0 : evR (evNew h ci (evFN ci)) (evN h) j = none := by
          show (if evN h = h.1 then none else _) = none
          rw [if_pos (show evN h = h.1 from rfl)]
        have hm0 : evNewM h mi (evN h) j = 0 := by
          show (if evN h = h.1 then 0 else _) = (0 : Int32)
          rw [if_pos (show evN h = h.1 from rfl)]
        rw [hr0, hm0] at hg
        show defaultValue (evTy ci j) = (evFs B S _ _ ci (evN h)).getD j .null
        rw [List.getD_eq_getElem?_getD, hg]
        exact ev_deflt h9 hj'
  | newarray t =>
    obtain rfl : len = 2 := by simpa [evLenOk] using hlen
    cases t with
    | int =>
      simp only [evStep] at he
      replace he := evPi_of he
      obtain ⟨n, r, rfl, he⟩ := he
      replace he := evIf_of he
      obtain ⟨⟨hn9', hn0', hnb⟩, he⟩ := he
      cases he
      have eN : evN (evNew h 9 n.toNatClampNeg) = evN h + 1 := rfl
      have eS : evSl (evNew h 9 n.toNatClampNeg) = evSl h + n.toNatClampNeg := rfl
      dsimp only at hC hR k
      rw [eN] at hC
      rw [eS] at hR
      have hph : evPh B S (evN h) = H.size := by rw [evPh_in hn9', hz]
      refine va_newaK (atype := .int) hx hb (hts _ (evTb_in evArrI rfl)) rfl hd rfl hn0' rfl (by show _ * 4 ≤ _; omega) (by omega) (by omega) rfl fun H1 cA e1 z1 o1 hAr hfc => ?_
      have hcA : cA = dA 0 := by
        have := (hK.2 0 (dA 0, .int) rfl).2
        exact Option.some.inj (hfc.symm.trans this)
      subst hcA
      have k1 := k H1 locs ls ⟨evW_new (h' := evNew h 9 n.toNatClampNeg) (mi' := evNewM h mi) hP hz rfl (fun b hb' => evE_new hb') o1 ?_, by rw [z1, hz]; rfl, hn9', hsp⟩ ⟨Nat.le_trans hS.1 (by omega), fun x g1 g2 => (o1 x (Nat.lt_of_lt_of_le g1 hS.1)).trans (hS.2.1 x g1 g2), hS.2.2⟩ hl
      · rw [eN, eS] at k1
        have a1 : evN h - n0 + 1 = evN h + 1 - n0 := by omega
        have a2 : evSl h - s0 + n.toNatClampNeg = evSl h + n.toNatClampNeg - s0 := by omega
        rw [a1, a2, ← hph]
        exact k1
      · have hkn : evK (evNew h 9 n.toNatClampNeg) (evN h) = 9 := by
          show (if evN h = h.1 then (9, n.toNatClampNeg) else _).1 = 9
          rw [if_pos (show evN h = h.1 from rfl)]
        rw [evE_i hkn]
        have hln : evLen (evNew h 9 n.toNatClampNeg) (evN h) = n.toNatClampNeg := by
          show (if evN h = h.1 then (9, n.toNatClampNeg) else _).2 = _
          rw [if_pos (show evN h = h.1 from rfl)]
        have hm0 : evNewM h mi (evN h) = fun _ => 0 := by
          funext j
          show (if evN h = h.1 then 0 else _) = (0 : Int32)
          rw [if_pos (show evN h = h.1 from rfl)]
        rw [hln, hm0]
        exact e1
    | _ => cases he
  | anewarray n =>
    obtain rfl : len = 3 := by simpa [evLenOk] using hlen
    simp only [evStep] at he
    replace he := evB_of he
    obtain ⟨q, hq, he⟩ := he
    replace he := evPi_of he
    obtain ⟨w, r, rfl, he⟩ := he
    replace he := evIf_of he
    obtain ⟨⟨hn9', hn0', hnb⟩, he⟩ := he
    cases he
    obtain ⟨z, hz2, hp, rfl⟩ := ev_find hq
    obtain ⟨h1, h2⟩ := ev_two hp
    have hk := List.all_eq_true.mp evAT_ok z hz2
    obtain ⟨o, i, kd, p1, p2⟩ := z
    cases h1; cases h2
    simp only [evAokB] at hk
    split at hk
    · cases hk
    · rename_i C T N hc
      simp only [Bool.and_eq_true, decide_eq_true_eq] at hk
      obtain ⟨⟨⟨hk10, hk13⟩, hk1⟩, hk2⟩ := hk
      obtain ⟨rr, ht, hrr⟩ := evTys_r dA hk10 hk13
      have hr' : rr = (C, T, N) := Option.some.inj (hrr.symm.trans hc)
      subst hr'
      have eN : evN (evNew h kd w.toNatClampNeg) = evN h + 1 := rfl
      have eS : evSl (evNew h kd w.toNatClampNeg) = evSl h + w.toNatClampNeg := rfl
      dsimp only at hC hR k
      rw [eN] at hC
      rw [eS] at hR
      have hph : evPh B S (evN h) = H.size := by rw [evPh_in hn9', hz]
      refine W.anew hx hb hown (hts _ (evTb_in (List.mem_of_getElem? hk1) rfl)) (va_AO.use (hNW.2.2 _ (List.mem_of_getElem? hk2))) rfl hd rfl hn0' (by omega) (by omega) (by omega) fun cA kA comp f1 f2 f3 f4 => ?_
      generalize hH1 : H.push ({ cls := cA, slots := Array.replicate w.toNatClampNeg .null, vm := .none } : Cell) = H1
      have z1 : H1.size = H.size + 1 := by rw [← hH1, Array.size_push]
      have e1 : H1[H.size]? = some (arrV cA w.toNatClampNeg (fun _ => .null)) := by rw [← hH1, Array.getElem?_push_size, ← arrV_new]
      have o1 : ∀ q : Nat, q < H.size → H1[q]? = H[q]? := fun q hq => by rw [← hH1, Array.getElem?_push, if_neg (Nat.ne_of_lt hq)]
      have hcA : cA = dA (kd - 9) := by
        obtain ⟨_, _, _, _, _, g4⟩ := (hK.2 _ _ ht).2
        exact Option.some.inj (f1.symm.trans g4)
      subst hcA
      have k1 := k H1 locs ls ⟨evW_new (h' := evNew h kd w.toNatClampNeg) (mi' := evNewM h mi) hP hz rfl (fun b hb' => evE_new hb') o1 ?_, by rw [z1, hz]; rfl, hn9', hsp⟩ ⟨Nat.le_trans hS.1 (by omega), fun x g1 g2 => (o1 x (Nat.lt_of_lt_of_le g1 hS.1)).trans (hS.2.1 x g1 g2), hS.2.2⟩ hl
      · rw [eN, eS] at k1
        have a1 : evN h - n0 + 1 = evN h + 1 - n0 := by omega
        have a2 : evSl h - s0 + w.toNatClampNeg = evSl h + w.toNatClampNeg - s0 := by omega
        rw [a1, a2, ← hph]
        exact k1
      · have hkn : evK (evNew h kd w.toNatClampNeg) (evN h) = kd := by
          show (if evN h = h.1 then (kd, w.toNatClampNeg) else _).1 = kd
          rw [if_pos (show evN h = h.1 from rfl)]
        rw [evE_r (by rw [hkn]; exact hk10), hkn]
        have hln : evLen (evNew h kd w.toNatClampNeg) (evN h) = w.toNatClampNeg := by
          show (if evN h = h.1 then (kd, w.toNatClampNeg) else _).2 = _
          rw [if_pos (show evN h = h.1 from rfl)]
        have hr0 : (fun j => (evR (evNew h kd w.toNatClampNeg) (evN h) j).map (evPh B S)) = fun _ => none := by
          funext j
          show ((if evN h = h.1 then none else _) : Option Nat).map _ = none
          rw [if_pos (show evN h = h.1 from rfl)]
          rfl
        rw [hln, hr0]
        show H1[H.size]? = some (vp_cell _ _)
        rw [vp_cell_q]
        exact e1
  | invokestatic n =>
    obtain rfl : len = 3 := by simpa [evLenOk] using hlen
    simp only [evStep] at he
    replace he := evB_of he
    obtain ⟨q, hq, he⟩ := he
    replace he := evIf_of he
    obtain ⟨⟨hf1, hl26⟩, he⟩ := he
    obtain ⟨z, hz2, hp, rfl⟩ := ev_find hq
    obtain ⟨h1, h2⟩ := ev_two hp
    have hk := List.all_eq_true.mp evNT_ok z hz2
    obtain ⟨o, i, kd, p1, p2, p3, p4⟩ := z
    cases h1; cases h2
    have hmls : c.maxLocals = ls.size := hml.trans hl.1.symm
    match kd, hk, he with
    | 0, hk, hf =>
      simp only [evNokB, Nat.reduceEqDiff, if_false, if_true, Bool.and_eq_true, decide_eq_true_eq] at hk
      obtain ⟨⟨⟨g1, g2⟩, g3⟩, g4⟩ := hk
      replace hf := evPi_of hf
      obtain ⟨n, r, rfl, hf⟩ := hf
      replace hf := evPi_of hf
      obtain ⟨dp, r, rfl, hf⟩ := hf
      replace hf := evPr_of hf
      obtain ⟨a, r, rfl, hf⟩ := hf
      replace hf := evPi_of hf
      obtain ⟨sp', r, rfl, hf⟩ := hf
      replace hf := evPr_of hf
      obtain ⟨b, r, rfl, hf⟩ := hf
      replace hf := evIf_of hf
      obtain ⟨⟨ha, hb', hka, hkb, u1, u2, u3, u4, u5, u6⟩, hf⟩ := hf
      cases hf
      have hga := evW_get (B := B) (S := S) (dA := dA) (mi := mi) ha
      rw [evE_i hka] at hga
      have hgb := evW_get (B := B) (S := S) (dA := dA) (mi := mi) hb'
      rw [evE_i hkb] at hgb
      have hpha : evPh B S a = B + a := evPh_in (Nat.lt_of_lt_of_le ha hn9)
      have hphb : evPh B S b = B + b := evPh_in (Nat.lt_of_lt_of_le hb' hn9)
      show W p l e R s m args below meth c H locs _ _ Q (F0 m pc ls (.int n :: .int dp :: .ref (evPh B S a) :: .int sp' :: .ref (evPh B S b) :: r.map (evV B S)))
      rw [hpha, hphb]
      refine evh_copy hx hb hmls hown (hts _ (evTb_in (List.mem_of_getElem? g1) rfl)) (hts _ (evTb_in (List.mem_of_getElem? g2) rfl)) (hts _ (evTb_in (List.mem_of_getElem? g3) rfl)) (hts _ (evTb_in (List.mem_of_getElem? g4) rfl)) hK hP evW_D hS b a 0 0 hgb hga rfl rfl u1 u2 u3 u4 u5 (Nat.le_trans hf1 hfr) ?_ hd (fun H1 locs1 z1 hP1 hS1 => k H1 locs1 ls ⟨?_, z1.trans hz, hn9, hsp⟩ hS1 hl)
      · rw [evCs_map]
        have hw7 : nativeFrameWords "java/lang/System" "arraycopy" 5 = 7 := by decide
        omega
      · have hset : (evW B S dA h mi).set a (B + a, .inl (dA 0, evLen h a, .inl (va_cpy (mi b) (mi a) sp'.toNatClampNeg dp.toNatClampNeg n.toNatClampNeg))) = evW B S dA h (evRowM mi a (va_cpy (mi b) (mi a) sp'.toNatClampNeg dp.toNatClampNeg n.toNatClampNeg)) := by
          refine evW_set rfl ?_ (fun b hb' => evE_same rfl (fun j => rfl) (funext fun i => ?_))
          · rw [evE_i hka]
            congr 4
            funext i
            show (if a = a then _ else _) = _
            rw [if_pos rfl]
          · show (if b = a then _ else _) = _
            rw [if_neg hb']
        rw [hset] at hP1
        exact hP1
    | 1, hk, hf =>
      simp only [evNokB, Nat.reduceEqDiff, if_false, if_true, Bool.and_eq_true, decide_eq_true_eq] at hk
      obtain ⟨⟨⟨g1, g2⟩, g3⟩, g4⟩ := hk
      replace hf := evPf_of hf
      obtain ⟨x, r, rfl, hf⟩ := hf
      replace hf := evIf_of hf
      obtain ⟨u6, hf⟩ := hf
      cases hf
      exact vn_f2i hx hb hmls hown (hts _ (evTb_in (List.mem_of_getElem? g1) rfl)) (hts _ (evTb_in (List.mem_of_getElem? g2) rfl)) (hts _ (evTb_in (List.mem_of_getElem? g3) rfl)) (hts _ (evTb_in (List.mem_of_getElem? g4) rfl)) (Nat.le_trans hf1 hfr) (by rw [evCs_map]; omega) hd (k H locs ls hw hS hl)
    | 2, hk, hf =>
      simp only [evNokB, Nat.reduceEqDiff, if_false, if_true, Bool.and_eq_true, decide_eq_true_eq] at hk
      obtain ⟨⟨⟨g1, g2⟩, g3⟩, g4⟩ := hk
      replace hf := evPd_of hf
      obtain ⟨x, r, rfl, hf⟩ := hf
      replace hf := evIf_of hf
      obtain ⟨u6, hf⟩ := hf
      cases hf
      exact vn_d2l hx hb hmls hown (hts _ (evTb_in (List.mem_of_getElem? g1) rfl)) (hts _ (evTb_in (List.mem_of_getElem? g2) rfl)) (hts _ (evTb_in (List.mem_of_getElem? g3) rfl)) (hts _ (evTb_in (List.mem_of_getElem? g4) rfl)) (Nat.le_trans hf1 hfr) (by rw [evCs_map]; omega) hd (k H locs ls hw hS hl)
    | kd + 3, hk, he => cases he
  | invokespecial n =>
    obtain rfl : len = 3 := by simpa [evLenOk] using hlen
    simp only [evStep] at he
    replace he := evB_of he
    obtain ⟨q, hq, he⟩ := he
    replace he := evIf_of he
    obtain ⟨⟨hq3, hf1, hl20⟩, he⟩ := he
    replace he := evPr_of he
    obtain ⟨a, r, rfl, he⟩ := he
    replace he := evIf_of he
    obtain ⟨u6, he⟩ := he
    cases he
    obtain ⟨z, hz2, hp, rfl⟩ := ev_find hq
    obtain ⟨h1, h2⟩ := ev_two hp
    have hk := List.all_eq_true.mp evNT_ok z hz2
    obtain ⟨o, i, kd, p1, p2, p3, p4⟩ := z
    cases h1; cases h2
    cases hq3
    simp only [evNokB, Nat.reduceEqDiff, if_false, if_true, Bool.and_eq_true, decide_eq_true_eq] at hk
    obtain ⟨⟨g1, g2⟩, -⟩ := hk
    exact W.objInit hx hb hown (hts _ (evTb_in (List.mem_of_getElem? g1) rfl)) (hts _ (evTb_in (List.mem_of_getElem? g2) rfl)) (hts _ (evTb_in evObjCode rfl)) rfl (hl.1.trans hml.symm) rfl hd (Nat.le_trans hf1 hfr) (by have := lv_room (m := m) (pc := pc) (ls := ls) (rest := ([] : List Value)) (st := r.map (evV B S)) (by rw [evCs_map]; exact u6); show 2 * 0 + _ + _ ≤ _; rw [evCs_map]; omega) (k H locs ls hw hS hl)
  | _ => cases he
end EVT
end
section
/-! what the evaluator answers, the machine does -/
set_option maxHeartbeats 1000000 in
theorem ev_mono {y pc : Nat} {i : Instr} {lv : evL} {st : List Value} {h : evH} {mi : evM} {s' : evC} (he : evStep y pc i lv st h mi = some s') : evN h ≤ evN s'.2.2.2.1 ∧ evSl h ≤ evSl s'.2.2.2.1 := by
  cases i <;> simp only [evStep] at he <;> first
    | (cases he; done)
    | (repeat (first
        | (replace he := evPi_of he; obtain ⟨_, _, -, he⟩ := he)
        | (replace he := evPl_of he; obtain ⟨_, _, -, he⟩ := he)
        | (replace he := evPf_of he; obtain ⟨_, _, -, he⟩ := he)
        | (replace he := evPd_of he; obtain ⟨_, _, -, he⟩ := he)
        | (replace he := evPr_of he; obtain ⟨_, _, -, he⟩ := he)
        | (replace he := evPq_of he; obtain ⟨_, _, -, he⟩ := he)
        | (replace he := evPv_of he; obtain ⟨_, _, -, he⟩ := he)
        | (replace he := evIf_of he; obtain ⟨-, he⟩ := he)
        | (replace he := evB_of he; obtain ⟨_, -, he⟩ := he)
        | split at he
        | (cases he; done)
        | (cases he; first | exact ⟨Nat.le_refl _, Nat.le_refl _⟩ | exact ⟨Nat.le_succ _, Nat.le_add_right _ _⟩)))
theorem ev_bind {α β : Type} {x : Option α} {f : α → Option β} {z : β} (h : x.bind f = some z) : ∃ b, x = some b ∧ f b = some z := evB_of h
theorem evRun_mono (n : Nat) : ∀ {y pc : Nat} {lv : evL} {st : List Value} {h : evH} {mi : evM} {o : evO}, evRun n y pc lv st h mi = some o → evN h ≤ evN o.2.1 ∧ evSl h ≤ evSl o.2.1 := by
  induction n with
  | zero => intro y pc lv st h mi o ho; cases ho
  | succ n ih =>
    intro y pc lv st h mi o ho
    unfold evRun at ho
    obtain ⟨q, -, ho⟩ := ev_bind ho
    split at ho
    · cases ho
      exact ⟨Nat.le_refl _, Nat.le_refl _⟩
    · split at ho
      · obtain ⟨o1, h1, ho⟩ := ev_bind ho
        have a := ih h1
        have b := ih ho
        exact ⟨Nat.le_trans a.1 b.1, Nat.le_trans a.2 b.2⟩
      · obtain ⟨s1, h1, ho⟩ := ev_bind ho
        have a := ev_mono h1
        have b := ih ho
        exact ⟨Nat.le_trans a.1 b.1, Nat.le_trans a.2 b.2⟩
/-- more fuel, the same answer -/
theorem evRun_more (n : Nat) : ∀ {y pc : Nat} {lv : evL} {st : List Value} {h : evH} {mi : evM} {o : evO}, evRun n y pc lv st h mi = some o → ∀ k, n ≤ k → evRun k y pc lv st h mi = some o := by
  induction n with
  | zero => intro y pc lv st h mi o ho; cases ho
  | succ n ih =>
    intro y pc lv st h mi o ho k hk
    obtain ⟨k, rfl⟩ : ∃ j, k = j + 1 := ⟨k - 1, by omega⟩
    have hk' : n ≤ k := by omega
    unfold evRun at ho ⊢
    obtain ⟨q, hq, ho⟩ := ev_bind ho
    rw [hq]
    show (match evEnd y q.1 st with | some r => some (r, h, mi) | none => _) = some o
    split at ho
    · rename_i r hr
      rw [hr]
      exact ho
    · rename_i hr
      rw [hr]
      show (match evCall y q.1 st h with | some c => _ | none => _) = some o
      split at ho
      · rename_i c hc
        rw [hc]
        obtain ⟨o1, h1, ho⟩ := ev_bind ho
        show (evRun k c.1 0 (lv_args 0 c.2.1) [] h mi).bind _ = some o
        rw [ih h1 k hk']
        exact ih ho k hk'
      · rename_i hc
        rw [hc]
        obtain ⟨s1, h1, ho⟩ := ev_bind ho
        show (evStep y pc q.1 lv st h mi).bind _ = some o
        rw [h1]
        exact ih ho k hk'
def evWs (y : Nat) : List Cond := Cond.code (evName y) (evCode y) (evML y) (evRet y) :: evTb
def evPc (B : Nat) (S : Nat → Nat) (D : va_G) (dA : Nat → ClassId) (sp : Nat → Nat × (Nat → Int32)) (h : evH) (mi : evM) (As : List Value) : Array Value → State → Prop := fun a U => a = (As.map (evV B S)).toArray ∧ evHW B S D dA sp h mi U.heap ∧ evFx B S D dA sp U U.heap
def evQc (B : Nat) (S : Nat → Nat) (D : va_G) (dA : Nat → ClassId) (sp : Nat → Nat × (Nat → Int32)) (o : evO) : Array Value → State → Outcome → State → Prop := fun _ st oc t => oc = .returned (o.1.map (evV B S)) ∧ evHW B S D dA sp o.2.1 o.2.2 t.heap ∧ evFx B S D dA sp t t.heap ∧ st.heap.size ≤ t.heap.size ∧ ∀ q : Nat, q < st.heap.size → ¬ B ≤ q → t.heap[q]? = st.heap[q]?
theorem evPc_blind {B : Nat} {S : Nat → Nat} {D : va_G} {dA : Nat → ClassId} {sp : Nat → Nat × (Nat → Int32)} {h : evH} {mi : evM} {As : List Value} : FrameBlind (evPc B S D dA sp h mi As) := by
  intro a U g mk hp
  exact ⟨hp.1, hp.2.1, evFx_moved (s := U) (U := U.calling g mk a) hp.2.2 (State.WarmedH.refl U) (Nat.le_refl _) (fun _ _ => rfl)⟩
theorem lg_sl_len (vs : List Value) : (lg_sl vs).length = (vs.map fun v => v.category).sum := by
  induction vs with
  | nil => rfl
  | cons v t ih =>
    have e : lg_sl (v :: t) = (if v.category = 2 then [Slot.val v, .second] else [.val v]) ++ lg_sl t := by
      unfold lg_sl
      rw [List.flatMap_cons]
    rw [e, List.length_append, ih, List.map_cons, List.sum_cons]
    rcases lv_cat v with hc | hc <;> simp [hc]
theorem evArgs_map {B : Nat} {S : Nat → Nat} : ∀ (vs : List Value) (i : Nat), lv_args i (vs.map (evV B S)) = evLm B S (lv_args i vs) := by
  intro vs
  induction vs with
  | nil => intro i; rfl
  | cons v t ih =>
    intro i
    show (i, evV B S v) :: lv_args (if (evV B S v).category = 2 then i + 2 else i + 1) (t.map (evV B S)) = (i, evV B S v) :: evLm B S (lv_args (if v.category = 2 then i + 2 else i + 1) t)
    rw [evV_cat, ih]
set_option maxRecDepth 100000 in
theorem evPlain : ∀ y, y < evLawN → plainFor (evName y) = true := by decide +kernel
theorem evM_at {y : Nat} (hy : y < evLawN) : ∃ q, evMT[y]? = some q ∧ q = (evName y, evCode y, evML y, evRet y, evOw y, evFr y, evLo y) := by
  have hl : y < evMT.length := Nat.lt_of_lt_of_le hy (by decide +kernel)
  refine ⟨evMT[y], List.getElem?_eq_getElem hl, ?_⟩
  have : evMT.getD y evM0 = evMT[y] := by rw [List.getD_eq_getElem?_getD, List.getElem?_eq_getElem hl]; rfl
  unfold evName evCode evML evRet evOw evFr evLo
  rw [this]
theorem evCodeIn {y : Nat} (hy : y < evLawN) : Cond.code (evName y) (evCode y) (evML y) (evRet y) ∈ evTb := by
  obtain ⟨q, hq, rfl⟩ := evM_at hy
  exact evTb_in (evMT_ok y _ hy hq) rfl
theorem evWs_in {y : Nat} (hy : y < evLawN) : ∀ w ∈ evWs y, w ∈ evTb := by
  intro w hw
  rcases List.mem_cons.mp hw with rfl | hw
  · exact evCodeIn hy
  · exact hw
theorem evCl_of {y i : Nat} {q : Nat × Nat × Nat × Bool × Nat × Nat × Nat × Nat} (h : evCl y i = some q) :
    ((q.2.2.2.1 = true ∧ Cond.methodLinkNest (evOs (evOw y)) i (evName q.2.1) "EchoBids" ∈ lw_tbl) ∨ (q.2.2.2.1 = false ∧ Cond.methodLink (evOs (evOw y)) i (evName q.2.1) ∈ lw_tbl)) ∧
    (q.1 = 1 → Cond.static (evName q.2.1) ∈ lw_tbl) ∧ (q.1 ≠ 1 → Cond.instanceMethod (evName q.2.1) ∈ lw_tbl) ∧ (q.1 = 0 → Cond.selects (evName q.2.1).cls (evName q.2.1) (evName q.2.1) ∈ lw_tbl) ∧ Cond.initialized (evName q.2.1).cls ∈ lw_tbl ∧
    ((evName q.2.1).cls ≠ "java/lang/invoke/MethodHandle" ∧ (evName q.2.1).cls ≠ "java/lang/invoke/VarHandle" ∧ (parseMethodDescriptor (evName q.2.1).desc).map (fun d => d.parameters.length) = some q.2.2.1) ∧
    (q.1 = 2 → (evName q.2.1).name = "<init>" ∧ evRet q.2.1 = none) ∧ q.2.1 < evLawN ∧ (evName q.2.1).cls = evOs (evOw q.2.1) := by
  obtain ⟨e, he, hp, rfl⟩ := ev_find h
  obtain ⟨h1, h2⟩ := ev_two hp
  have hk := List.all_eq_true.mp evCT_ok e he
  obtain ⟨o, j, kd, y', n, ne, pl, pb, pc, pd⟩ := e
  dsimp only at h1 h2 ⊢
  subst h1; subst h2
  unfold evCokB at hk
  simp only [Bool.and_eq_true, decide_eq_true_eq] at hk
  obtain ⟨⟨⟨⟨⟨⟨⟨⟨g1, g2⟩, g3⟩, g4⟩, g5⟩, g6⟩, g7⟩, g8⟩, g9⟩ := hk
  refine ⟨?_, fun e1 => ?_, fun e1 => ?_, fun e1 => ?_, List.mem_of_getElem? g4, g5, fun e1 => ?_, g7, g9⟩
  · cases ne with
    | true => exact Or.inl ⟨rfl, List.mem_of_getElem? (of_decide_eq_true g1)⟩
    | false => exact Or.inr ⟨rfl, List.mem_of_getElem? (of_decide_eq_true g1)⟩
  · rw [if_pos e1] at g2
    exact List.mem_of_getElem? (of_decide_eq_true g2)
  · rw [if_neg e1] at g2
    exact List.mem_of_getElem? (of_decide_eq_true g2)
  · rw [if_pos e1] at g3
    exact List.mem_of_getElem? (of_decide_eq_true g3)
  · rw [if_pos e1] at g6
    simpa using g6
end
section
section EVCa
theorem ev_ofW {l : Launch} {y : MethodName} {ws ws' : List Cond} {rm : Room} {Pc : Array Value → State → Prop} {Qc : Array Value → State → Outcome → State → Prop} {mc ms : Nat} {free : Addr → Prop} {cc : ByteArray} {maxL : Nat} {ret : Option FieldType}
    (hy : plainFor y = true) (hw : ws = Cond.code y cc maxL ret :: ws')
    (body : ∀ p e s m args below meth c s₁, BodyLoose p l y (headSpec ws rm) cc maxL ret e s m args below meth c s₁ → c.maxLocals = maxL → Pc args s →
      W p l e (headSpec ws rm).room s m args below meth c s.heap [] 0 0 (MQ below Qc args s mc ms free) (entryFrame m args maxL)) : Met l y ws rm Pc Qc mc ms free := by
  refine MetFree.of_bodySF (code := cc) (maxLocals := maxL) (ret := ret) hy ?_ ?_
  · intro args s m h hn
    obtain ⟨meth, c, h1, h2, h3, h4, h5, h6, -, -⟩ := Cond.code_spec hn (atoms_spec (ws := ws) h _ (by rw [hw]; exact List.mem_cons_self))
    exact ⟨meth, c, h1, h2, h3, h4, h5, h6⟩
  · intro p e s m args below meth c s₁ B hml hP _
    have hh0 : s₁.heap = s.heap := by rw [B.state]; rfl
    obtain ⟨t, a1, o, b1, b2, b3⟩ := body p e s m args below meth c s₁ B hml hP s₁ hh0 (Stand.of_body B)
    exact ⟨t, o, a1, b1, b2, ⟨b3.1, b3.2⟩⟩
/-- what a run of n steps promises of the machine -/
def evGood (l : Launch) (n : Nat) : Prop := ∀ {y pc : Nat} {lv : evL} {st : List Value} {h : evH} {mi : evM} {o : evO}, evRun n y pc lv st h mi = some o →
  ∀ {p : Program} {e : Env} {R : Room} {s : State} {m : MethodId} {args : Array Value} {below : List Frame} {meth : Method} {c : Code} {Q : State → Prop} {B : Nat} {S : Nat → Nat} {D : va_G} {dA : Nat → ClassId} {sp : Nat → Nat × (Nat → Int32)} {n0 s0 : Nat} {H : Heap} {locs : List Loc} {ls : Array Slot},
  evOK p R s m args meth c y → evFx B S D dA sp s s.heap → evHW B S D dA sp h mi H → va_S (fun q => B ≤ q) s.heap H locs → lv_has ls (evML y) (evLm B S lv) → n0 ≤ evN h → s0 ≤ evSl h → evN o.2.1 - n0 ≤ R.cells → evSl o.2.1 - s0 ≤ R.slots →
  (∀ (pc' : Nat) (i' : Instr) (st' : List Value) (H' : Heap) (locs' : List Loc) (ls' : Array Slot), decode (evCode y) pc' = .ok (i', 1) → evEnd y i' st' = some o.1 → evHW B S D dA sp o.2.1 o.2.2 H' → va_S (fun q => B ≤ q) s.heap H' locs' →
    W p l e R s m args below meth c H' locs' (evN o.2.1 - n0) (evSl o.2.1 - s0) Q (F0 m pc' ls' (st'.map (evV B S)))) →
  W p l e R s m args below meth c H locs (evN h - n0) (evSl h - s0) Q (F0 m pc ls (st.map (evV B S)))
theorem evEnd_len {y len : Nat} {i : Instr} {st : List Value} {r : Option Value} (he : evEnd y i st = some r) (hl : evLenOk i len = true) : len = 1 := by
  cases i <;> first | (cases he; done) | (simpa [evLenOk] using hl)
set_option maxHeartbeats 1000000 in
set_option maxRecDepth 100000 in
theorem ev_met {l : Launch} {n : Nat} (G : evGood l n) {y : Nat} {h : evH} {mi : evM} {o : evO} {As : List Value} {B : Nat} {S : Nat → Nat} {D : va_G} {dA : Nat → ClassId} {sp : Nat → Nat × (Nat → Int32)} (hy : y < evLawN) (hr : evRun n y 0 (lv_args 0 As) [] h mi = some o) (hA : evCs As ≤ evML y) :
    Met l (evName y) (evWs y) ({ frames := evFr y, cells := evN o.2.1 - evN h, slots := evSl o.2.1 - evSl h, locals := evLo y } : Room) (evPc B S D dA sp h mi As) (evQc B S D dA sp o) (evN o.2.1 - evN h) (evSl o.2.1 - evSl h) (fun q => B ≤ q) := by
  refine ev_ofW (evPlain y hy) rfl ?_
  intro p e s m args below meth c s₁ Bd hml hv
  obtain ⟨rfl, hw, fx⟩ := hv
  have hts : ∀ w ∈ evWs y, w.before _ s = true := atoms_spec (ws := evWs y) Bd.pre
  have hown : s.vm.findClass (evName y).cls = some m.cls := findClass_of_methodNamed Bd.named
  rw [evOw_ok y hy] at hown
  have hnm := (name_of_methodNamed Bd.named Bd.method).1
  have ok : evOK p ({ frames := evFr y, cells := evN o.2.1 - evN h, slots := evSl o.2.1 - evSl h, locals := evLo y } : Room) s m _ meth c y := ⟨Bd.exec, Bd.bytes, hml, hown, fun w hw => hts w (List.mem_cons_of_mem _ hw), fun e1 => hnm.trans e1, Nat.le_refl _, Nat.le_refl _⟩
  have hl := lv_entry (As.map (evV B S)) (n := evML y) (by rw [lg_sl_len, evCs_map]; exact hA)
  rw [evArgs_map] at hl
  rw [lg_entry_eq]
  generalize (lg_sl (As.map (evV B S)) ++ List.replicate (evML y - (lg_sl (As.map (evV B S))).length) Slot.unset).toArray = ls at hl ⊢
  have key := G hr (n0 := evN h) (s0 := evSl h) (Q := MQ below (evQc B S D dA sp o) (As.map (evV B S)).toArray s (evN o.2.1 - evN h) (evSl o.2.1 - evSl h) (fun q => B ≤ q)) ok fx hw (va_S.rf (A := fun q => B ≤ q)) hl (Nat.le_refl _) (Nat.le_refl _) (Nat.le_refl _) (Nat.le_refl _) ?_ (p := p) (e := e) (below := below)
  · rw [Nat.sub_self, Nat.sub_self] at key
    exact key
  · intro pc' i' st' H' locs' ls' hd he hw' hS'
    have hq : ∀ t : State, t.heap = H' → s.WarmedH t.vm → evQc B S D dA sp o (As.map (evV B S)).toArray s (.returned (o.1.map (evV B S))) t := by
      intro t ht hW
      refine ⟨rfl, by rw [ht]; exact hw', ?_, by rw [ht]; exact hS'.1, fun q h1 h2 => by rw [ht]; exact hS'.2.1 q h1 h2⟩
      rw [ht]
      exact evFx_moved fx hW hS'.1 (fun q hq => hS'.2.1 q (Nat.lt_of_lt_of_le hq fx.2.1) (Nat.not_le.mpr hq))
    have hx := Bd.exec
    have hb := Bd.bytes
    have hrt := Bd.returns
    have hlk := Bd.notSynchronized
    cases i' with
    | return_ =>
      simp only [evEnd] at he
      split at he
      · replace he := evIf_of he
        obtain ⟨h1, he⟩ := he
        cases he' : o.1 with
        | some z => rw [he'] at he; cases he
        | none =>
          rw [he'] at hq
          exact W.vret hx hb (by rw [hrt]; exact h1) hq hS'.2.2 hd hlk
      · cases he
    | ireturn =>
      simp only [evEnd] at he
      split at he
      · rename_i x t h1
        replace he := evIf_of he
        obtain ⟨h2, he⟩ := he
        have he' : o.1 = some (.int x) := (Option.some.inj he).symm
        rw [he'] at hq
        exact W.zret hx hb (by rw [hrt]; exact h1) h2 hq hS'.2.2 hd hlk
      · cases he
    | lreturn =>
      simp only [evEnd] at he
      split at he
      · rename_i x
        replace he := evIf_of he
        obtain ⟨h2, he⟩ := he
        have he' : o.1 = some (.long x) := (Option.some.inj he).symm
        rw [he'] at hq
        exact W.lret hx hb (by rw [hrt]; exact h2) hq hS'.2.2 hd hlk
      · cases he
    | areturn =>
      simp only [evEnd] at he
      split at he
      · rename_i a q0 h1
        have he' : o.1 = some (.ref a) := (Option.some.inj he).symm
        rw [he'] at hq
        exact W.aret hx hb (by rw [hrt]; exact h1) (Or.inl ⟨_, rfl⟩) (Or.inr ⟨_, rfl⟩) hq hS'.2.2 hd hlk
      · rename_i q0 h1
        have he' : o.1 = some .null := (Option.some.inj he).symm
        rw [he'] at hq
        exact W.aret hx hb (by rw [hrt]; exact h1) (Or.inl ⟨_, rfl⟩) (Or.inl rfl) hq hS'.2.2 hd hlk
      · cases he
    | _ => cases he
end EVCa
end
section
section EVRun
theorem ev_toL {B : Nat} {S : Nat → Nat} (r : Option Value) (rest : List Value) : (r.toList ++ rest).map (evV B S) = (r.map (evV B S)).toList ++ rest.map (evV B S) := by
  cases r <;> rfl
set_option maxHeartbeats 4000000 in
set_option maxRecDepth 100000 in
theorem ev_sound (l : Launch) : ∀ n, evGood l n := by
  intro n
  induction n with
  | zero => intro y pc lv st h mi o ho; cases ho
  | succ n G =>
    intro y pc lv st h mi o ho p e R s m args below meth c Q B S D dA sp n0 s0 H locs ls ok fx hw hS hl hn0 hs0 hC hR END
    unfold evRun at ho
    obtain ⟨⟨i, len⟩, hins, ho⟩ := ev_bind ho
    obtain ⟨hd, hlen⟩ := evIns_dec hins
    dsimp only at hd hlen ho
    split at ho
    · rename_i r hr
      cases ho
      obtain rfl := evEnd_len hr hlen
      exact END pc i st H locs ls hd hr hw hS
    · split at ho
      · rename_i cc hcc
        obtain ⟨o1, h1, ho⟩ := ev_bind ho
        obtain ⟨hx, hb, hml, hown, hts, hinit, hfr, hlo⟩ := id ok
        obtain ⟨hK, hBz, hX, hZ, hNW⟩ := id fx
        obtain ⟨hP, hz, hn9, hsp⟩ := id hw
        have mo1 := evRun_mono n h1
        have mo2 := evRun_mono n ho
        -- behind the call
        have after : ∀ {aa : Array Value}, va_Run p l e R s m args below meth c H locs (evN h - n0) (evSl h - s0) (evN o1.2.1 - evN h) (evSl o1.2.1 - evSl h) (F0 m pc ls (st.map (evV B S))) (cc.2.2.map (evV B S)) (evQc B S D dA sp o1 aa) (fun q => B ≤ q) → W p l e R s m args below meth c H locs (evN h - n0) (evSl h - s0) Q (F0 m pc ls (st.map (evV B S))) := by
          intro aa hr T hT X
          obtain ⟨v, st₀, t, T', L, h0, X', hL, e1, e2, ⟨hv, hw1, fx1, hz1, hk1⟩, stp⟩ := hr T hT X
          have hv : v = o1.1.map (evV B S) := by cases hv; rfl
          subst hv
          have hS1 : va_S (fun q => B ≤ q) s.heap T'.heap (locs ++ L) := by
            rw [h0] at hz1 hk1
            refine ⟨Nat.le_trans hS.1 (by rw [e1]; exact hz1), fun q g1 g2 => ?_, fun q hq => ?_⟩
            · rw [e1, hk1 q (Nat.lt_of_lt_of_le g1 hS.1) g2]
              exact hS.2.1 q g1 g2
            · rcases List.mem_append.mp hq with hq | hq
              · exact hS.2.2 q hq
              · exact hL q hq
          have K := G ho ok fx (H := T'.heap) (by rw [e1]; exact hw1) hS1 hl (Nat.le_trans hn0 mo1.1) (Nat.le_trans hs0 mo1.2) hC hR END
          have a1 : evN h - n0 + (evN o1.2.1 - evN h) = evN o1.2.1 - n0 := by omega
          have a2 : evSl h - s0 + (evSl o1.2.1 - evSl h) = evSl o1.2.1 - s0 := by omega
          rw [a1, a2] at X'
          obtain ⟨t2, b1, b2⟩ := K T' rfl X'
          rw [ev_toL] at b1
          exact ⟨t2, stp t2 b1, b2⟩
        have hroom : evN h - n0 + (evN o1.2.1 - evN h) ≤ R.cells ∧ evSl h - s0 + (evSl o1.2.1 - evSl h) ≤ R.slots := by omega
        -- what every call needs
        have base : ∀ (y' k : Nat), y' < evLawN → evFr y' + 1 ≤ evFr y → 19 + evML y' + evLo y' ≤ evLo y →
            (evFr y' + 1 ≤ R.frames ∧ 8 + (evML y' + 11) + evLo y' ≤ R.locals ∧ (∀ w ∈ evWs y', ∀ (a' : Array Value) (U : State), s.WarmedH U.vm → w.before a' U = true) ∧ Cond.code (evName y') (evCode y') (evML y') (evRet y') ∈ evWs y' ∧ (Cond.code (evName y') (evCode y') (evML y') (evRet y')).before args s = true) := by
          intro y' k hyl hf hlw
          refine ⟨by omega, by omega, fun w hw a' U hW => word_at hW (good_of_word (List.mem_filter.mp (evWs_in hyl w hw)).2) (hts w (evWs_in hyl w hw)), List.mem_cons_self, hts _ (evCodeIn hyl)⟩
        have preS : ∀ As : List Value, PreS s H (evPc B S D dA sp h mi As) (As.map (evV B S)) := fun As => ⟨evPc_blind, fun U hU hW => ⟨rfl, by rw [hU]; exact hw, by
          rw [hU]
          exact evFx_moved fx hW hS.1 (fun q hq => hS.2.1 q (Nat.lt_of_lt_of_le hq fx.2.1) (Nat.not_le.mpr hq))⟩⟩
        have par : ∀ {d : String} {k : Nat}, (parseMethodDescriptor d).map (fun d => d.parameters.length) = some k → ∀ sig, parseMethodDescriptor d = some sig → k = sig.parameters.length := by
          intro d k hp sig hs
          rw [hs] at hp
          exact (Option.some.inj hp).symm
        have CF : CallFix p m c (evCode y) (evML y) s args evTb (evOs (evOw y)) := ⟨hx, hb, hml, hown, hts⟩
        cases i with
        | invokevirtual k =>
          obtain rfl : len = 3 := by simpa [evLenOk] using hlen
          simp only [evCall] at hcc
          obtain ⟨q, hq, hcc⟩ := ev_bind hcc
          replace hcc := evIf_of hcc
          obtain ⟨⟨hq0, hf, hlw, hkl⟩, hcc⟩ := hcc
          replace hcc := evPr_of hcc
          obtain ⟨a, r, hdr, hcc⟩ := hcc
          replace hcc := evIf_of hcc
          obtain ⟨⟨ha, hka, h9, hrs, hA⟩, hcc⟩ := hcc
          cases hcc
          obtain ⟨hlk, -, hin, hsel, hini, ⟨hc1, hc2, hpar⟩, -, hyl, hcls⟩ := evCl_of hq
          obtain ⟨b1, b2, b3, b4, b5⟩ := base q.2.1 q.2.2.1 hyl hf hlw
          have hM := ev_met G hyl h1 (B := B) (S := S) (D := D) (dA := dA) (sp := sp) (l := l) (by show (evCs (Value.ref a :: (List.take q.2.2.1 st).reverse)) ≤ _; unfold evCs at hA ⊢; rw [List.map_cons, List.sum_cons, List.map_reverse, List.sum_reverse]; exact hA)
          have hstk : st.map (evV B S) = (((st.take q.2.2.1).reverse).map (evV B S)).reverse ++ .ref (evPh B S a) :: r.map (evV B S) := by
            rw [List.map_reverse, List.reverse_reverse]
            conv => lhs; rw [← List.take_append_drop q.2.2.1 st, hdr, List.map_append, List.map_cons]
            rfl
          have hln : ((st.take q.2.2.1).reverse.map (evV B S)).length = q.2.2.1 := by
            rw [List.length_map, List.length_reverse, List.length_take]; omega
          have hph : evPh B S a = B + a := evPh_in (Nat.lt_of_lt_of_le ha hn9)
          obtain ⟨rr, hrr⟩ : ∃ r, vwCl[evOw q.2.1]? = some r := ⟨vwCl[evOw q.2.1]'h9, List.getElem?_eq_getElem h9⟩
          have hg := evW_get (B := B) (S := S) (dA := dA) (mi := mi) ha
          rw [evE_o hka h9] at hg
          have hrec := va_recv hK hP hrr hg
          rw [(evCls_n _ _ hrr).2, ← hcls, ← hph] at hrec
          have pv : PreV s H (evName q.2.1).cls (evPh B S a) (evPc B S D dA sp h mi (.ref a :: (st.take q.2.2.1).reverse)) ((st.take q.2.2.1).reverse.map (evV B S)) := ⟨evPc_blind, hrec, (preS _).2⟩
          have hR8 := lv_room (m := m) (pc := pc) (ls := ls) (rest := st.map (evV B S)) (st := r.map (evV B S)) (by rw [evCs_map]; exact hrs)
          rcases hlk with ⟨-, hlk⟩ | ⟨-, hlk⟩
          · exact after (va_runVN (As := (st.take q.2.2.1).reverse.map (evV B S)) (rest := r.map (evV B S)) (n := q.2.2.1) (host := "EchoBids") CF hM ⟨⟨⟨rfl, rfl, b1, b2, b3, b4⟩, b5, hts _ (evTb_in hini rfl), ⟨hc1, hc2⟩, par hpar, va_Nw.use rfl (hNW.2.1 _ _ _ hlk)⟩, hts _ (evTb_in (hin (by rw [hq0]; decide)) rfl), hts _ (evTb_in (hsel hq0) rfl)⟩ pv rfl hln hl.1 hstk hR8 hd hroom)
          · exact after (va_runV (As := (st.take q.2.2.1).reverse.map (evV B S)) (rest := r.map (evV B S)) (n := q.2.2.1) CF hM ⟨⟨rfl, rfl, b1, b2, b3, b4, b5, hts _ (evTb_in hini rfl), ⟨hc1, hc2⟩, par hpar, hts _ (evTb_in hlk rfl)⟩, hts _ (evTb_in (hin (by rw [hq0]; decide)) rfl), hts _ (evTb_in (hsel hq0) rfl)⟩ pv rfl hln hl.1 hstk hR8 hd hroom)
        | invokestatic k =>
          obtain rfl : len = 3 := by simpa [evLenOk] using hlen
          simp only [evCall] at hcc
          obtain ⟨q, hq, hcc⟩ := ev_bind hcc
          replace hcc := evIf_of hcc
          obtain ⟨⟨hq0, hf, hlw, hkl, hrs, hA⟩, hcc⟩ := hcc
          cases hcc
          obtain ⟨hlk, hst, -, -, hini, ⟨hc1, hc2, hpar⟩, -, hyl, hcls⟩ := evCl_of hq
          obtain ⟨b1, b2, b3, b4, b5⟩ := base q.2.1 q.2.2.1 hyl hf hlw
          have hM := ev_met G hyl h1 (B := B) (S := S) (D := D) (dA := dA) (sp := sp) (l := l) (by show (evCs ((List.take q.2.2.1 st).reverse)) ≤ _; unfold evCs at hA ⊢; rw [List.map_reverse, List.sum_reverse]; exact hA)
          have hstk : st.map (evV B S) = (((st.take q.2.2.1).reverse).map (evV B S)).reverse ++ (st.drop q.2.2.1).map (evV B S) := by
            rw [List.map_reverse, List.reverse_reverse]
            conv => lhs; rw [← List.take_append_drop q.2.2.1 st, List.map_append]
          have hln : ((st.take q.2.2.1).reverse.map (evV B S)).length = q.2.2.1 := by
            rw [List.length_map, List.length_reverse, List.length_take]; omega
          have hR8 := lv_room (m := m) (pc := pc) (ls := ls) (rest := st.map (evV B S)) (st := (st.drop q.2.2.1).map (evV B S)) (by rw [evCs_map]; exact hrs)
          rcases hlk with ⟨-, hlk⟩ | ⟨-, hlk⟩
          · exact after (va_runSN (As := (st.take q.2.2.1).reverse.map (evV B S)) (rest := (st.drop q.2.2.1).map (evV B S)) (n := q.2.2.1) (host := "EchoBids") CF hM ⟨⟨⟨rfl, rfl, b1, b2, b3, b4⟩, b5, hts _ (evTb_in hini rfl), ⟨hc1, hc2⟩, par hpar, va_Nw.use rfl (hNW.2.1 _ _ _ hlk)⟩, hts _ (evTb_in (hst hq0) rfl), trivial⟩ (preS _) rfl hln hl.1 hstk hR8 hd hroom)
          · exact after (va_runS (As := (st.take q.2.2.1).reverse.map (evV B S)) (rest := (st.drop q.2.2.1).map (evV B S)) (n := q.2.2.1) CF hM ⟨⟨rfl, rfl, b1, b2, b3, b4, b5, hts _ (evTb_in hini rfl), ⟨hc1, hc2⟩, par hpar, hts _ (evTb_in hlk rfl)⟩, hts _ (evTb_in (hst hq0) rfl)⟩ (preS _) rfl hln hl.1 hstk hR8 hd hroom)
        | invokespecial k =>
          obtain rfl : len = 3 := by simpa [evLenOk] using hlen
          simp only [evCall] at hcc
          obtain ⟨q, hq, hcc⟩ := ev_bind hcc
          replace hcc := evIf_of hcc
          obtain ⟨⟨hq0, hf, hlw, hkl⟩, hcc⟩ := hcc
          replace hcc := evPr_of hcc
          obtain ⟨a, r, hdr, hcc⟩ := hcc
          replace hcc := evIf_of hcc
          obtain ⟨⟨hrs, hA⟩, hcc⟩ := hcc
          cases hcc
          obtain ⟨hlk, -, hin, -, hini, ⟨hc1, hc2, hpar⟩, hnm, hyl, hcls⟩ := evCl_of hq
          obtain ⟨hnm, hrt⟩ := hnm hq0
          obtain ⟨b1, b2, b3, b4, b5⟩ := base q.2.1 q.2.2.1 hyl hf hlw
          rw [hrt] at b4 b5
          have hM := ev_met G hyl h1 (B := B) (S := S) (D := D) (dA := dA) (sp := sp) (l := l) (by show (evCs (Value.ref a :: (List.take q.2.2.1 st).reverse)) ≤ _; unfold evCs at hA ⊢; rw [List.map_cons, List.sum_cons, List.map_reverse, List.sum_reverse]; exact hA)
          have hstk : st.map (evV B S) = (((st.take q.2.2.1).reverse).map (evV B S)).reverse ++ .ref (evPh B S a) :: r.map (evV B S) := by
            rw [List.map_reverse, List.reverse_reverse]
            conv => lhs; rw [← List.take_append_drop q.2.2.1 st, hdr, List.map_append, List.map_cons]
            rfl
          have hln : ((st.take q.2.2.1).reverse.map (evV B S)).length = q.2.2.1 := by
            rw [List.length_map, List.length_reverse, List.length_take]; omega
          have ps : PreS s H (evPc B S D dA sp h mi (.ref a :: (st.take q.2.2.1).reverse)) (.ref (evPh B S a) :: (st.take q.2.2.1).reverse.map (evV B S)) := preS _
          have hR8 := lv_room (m := m) (pc := pc) (ls := ls) (rest := st.map (evV B S)) (st := r.map (evV B S)) (by rw [evCs_map]; exact hrs)
          rcases hlk with ⟨-, hlk⟩ | ⟨-, hlk⟩
          · exact after (va_runIN (As := (st.take q.2.2.1).reverse.map (evV B S)) (rest := r.map (evV B S)) (n := q.2.2.1) (host := "EchoBids") CF hM ⟨⟨⟨rfl, rfl, b1, b2, b3, b4⟩, b5, hts _ (evTb_in hini rfl), ⟨hc1, hc2⟩, par hpar, va_Nw.use rfl (hNW.2.1 _ _ _ hlk)⟩, hnm, hts _ (evTb_in (hin (by rw [hq0]; decide)) rfl)⟩ ps rfl hln hl.1 hstk hR8 hd hroom)
          · exact after (va_runI (As := (st.take q.2.2.1).reverse.map (evV B S)) (rest := r.map (evV B S)) (n := q.2.2.1) CF hM ⟨⟨rfl, rfl, b1, b2, b3, b4, b5, hts _ (evTb_in hini rfl), ⟨hc1, hc2⟩, par hpar, hts _ (evTb_in hlk rfl)⟩, hnm, hts _ (evTb_in (hin (by rw [hq0]; decide)) rfl)⟩ ps rfl hln hl.1 hstk hR8 hd hroom)
        | _ => cases hcc
      · obtain ⟨s1, h1, ho⟩ := ev_bind ho
        have mo1 := ev_mono h1
        have mo2 := evRun_mono n ho
        refine ev_step ok fx hd hlen h1 hw hS hl hn0 hs0 (by omega) (by omega) (fun H' locs' ls' hw' hS' hl' => ?_)
        exact G ho ok fx hw' hS' hl' (Nat.le_trans hn0 mo1.1) (Nat.le_trans hs0 mo1.2) hC hR END
end EVRun
end
section
/-! THE CLAIM OUT OF ONE WALK OF THE LAW'S BODY. Your part is whole_start (and what it stands on); all else here is the same for every law, but numbers. -/
def R_law : String := "EchoBidsLaw"
def lw_P (b : Addr) (xs : List Int32) (args : Array Value) (s : State) : Prop := args = #[.ref b] ∧ s.IntsAt b xs ∧ xs.length ≤ 1536 ∧ (Jvm.Cond.and given_1 narrow_1).before args s = true
/-- what a walk over the start with the record d0 says of its end, said of the start itself -/
theorem lw_closed {s t : State} {o : Outcome} {d0 : Drawn} {L : List Loc} {k n : Nat} (hd0 : s.drawn.sameBut d0 lw_cs) (hv : ∃ v, o = .returned v) (hW : (s.setDrawn d0).WarmedH t.vm) (hs : (s.setDrawn d0).sameButNew ({ t with vm := s.vm } : State) L k n) : State.butDraws s t lw_cs (fun t1 => Framed s o t1 L k n) := by
  have h2 : t.drawn = d0 := congrArg State.drawn hs.1
  refine ⟨⟨hv, hW, State.sameButNew.setDrawn hs s.drawn⟩, ?_, by decide⟩
  rw [h2]
  exact hd0
def lw_Q (_ : Array Value) (s : State) (o : Outcome) (t : State) : Prop := o = .returned (some (.int 1)) ∧ State.butDraws s t lw_cs (fun t1 => Framed s o t1 [] 600000 7302250)
def lw_Z (below : List Frame) (a : Array Value) (s : State) : State → Prop := fun t => ∃ o, t.status = .running ∧ Ended t below o ∧ lw_Q a s o t
/-- the law's own end, with 1 on the stack, nothing written that was there before, its room as the claim has it; d0: the record of draws at this point (at the entry s.drawn: begin with 'refine W.base ?_' and 'have hd0 := Drawn.sameBut.refl s.drawn lw_cs') -/
theorem lw_ret {p : Program} {l : Launch} {e : Env} {s : State} {m : MethodId} {below : List Frame} {meth : Method} {c : Code} {b : Nat} {d0 : Drawn} (hd0 : s.drawn.sameBut d0 lw_cs) (hx : p.tables.exec = Jvm.exec) (hb : c.code = code) (hr : meth.sig.returnType = ret) (hlocks : meth.locks = false) {pc : Nat} {H : Heap} {ls : Array Slot} (hdg : decode code pc = .ok (.ireturn, 1)) : W p l e room_1 (s.setDrawn d0) m #[Value.ref b] below meth c H [] 600000 7302250 (lw_Z below #[Value.ref b] s) (F0 m pc ls [.int 1]) := by
  intro T hT X
  obtain ⟨fs, hret, hrun, hended, hW, hframe⟩ := X.leave (v := some (.int 1)) (hlocks := hlocks) (fun h => by rw [hr] at h; cases h)
  have hmeth' : T.vm.method? m = some meth := X.method'
  refine ⟨T.setFrames fs, ?_, .returned (some (.int 1)), hrun, hended, rfl, lw_closed hd0 ⟨_, rfl⟩ hW hframe⟩
  jvm_step X.here [X.here.top, hx, hb, hdg, hmeth', hr, ret, narrow_b1]
  (try refine ⟨rfl, ?_⟩); (try refine ⟨rfl, ?_⟩)
  first | (intro acts; rw [hret _ acts rfl rfl rfl]) | rw [hret _ _ rfl rfl rfl]
  exact Steps.refl _
/-- what holds at the law's entry: the machine, the code, the tables' words (any of lw_tbl by 'hts w (by decide +kernel)'), the script of L ints xs at the cell b, what the Statement gives of the start (any of its parts by flat_of_before) -/
def lw_At (p : Program) (s : State) (m : MethodId) (meth : Method) (c : Code) (b L : Nat) (xs : Nat → Int32) : Prop :=
  p.tables.exec = Jvm.exec ∧ c.code = code ∧ meth.sig.returnType = ret ∧ c.maxLocals = 4 ∧ s.vm.findClass R_law = some m.cls ∧ (∀ w ∈ lw_tbl, w.before #[Value.ref b] s = true) ∧ va_X b L xs s s.heap ∧ b < s.heap.size ∧ meth.locks = false ∧ (Jvm.Cond.and given_1 narrow_1).before #[Value.ref b] s = true
end
section
/-! from a run of the evaluator to the law's walk -/
def evSp0 (L : Nat) (xs : Nat → Int32) : Nat → Nat × (Nat → Int32) := fun k => match k with
  | 0 => (4, evGv 0)
  | 1 => (4, evGv 1)
  | _ => (L, xs)
/-- the world at the law's entry: no cell -/
def evH0 (L : Nat) (xs : Nat → Int32) : evH := (0, 0, (fun _ => (0, 0)), (fun _ _ => none), evSp0 L xs)
/-- the law's run, as the evaluator does it: it answers 1 -/
def evLaw (L : Nat) (xs : Nat → Int32) : Prop := ∃ (n : Nat) (o : evO), evRun n evLawN 0 [(0, .ref (evO9 + 2))] [] (evH0 L xs) (fun _ _ => 0) = some o ∧ o.1 = some (.int 1) ∧ evN o.2.1 ≤ 600000 ∧ evSl o.2.1 ≤ 7302250
theorem ev_eqt {args : Array Value} {s : State} {tm : Term} {z : Int32} (h : (Cond.eq tm (.int z)).before args s = true) : tm.eval args s none [] s = some (.int z) := by
  obtain ⟨w, h1, h2⟩ := Cond.eq_one (show (Cond.eq tm (.int z)).holds args s none s [] = true from h)
  cases h2
  exact h1
theorem ev_static {args : Array Value} {s : State} {n : String} {f : Nat → Int32} (hl : (Cond.laysStatic "EchoBids" n "[I").before args s = true) (hini : (Cond.initialized "EchoBids").before args s = true) (harr : (Cond.arrayOf (.static "EchoBids" n "[I") .int).before args s = true) (hlen : (Cond.eq (.length (.static "EchoBids" n "[I")) (.int 4)).before args s = true)
    (h0 : (Cond.eq (.elem (.static "EchoBids" n "[I") (.int 0)) (.int (f 0))).before args s = true) (h1 : (Cond.eq (.elem (.static "EchoBids" n "[I") (.int 1)) (.int (f 1))).before args s = true) (h2 : (Cond.eq (.elem (.static "EchoBids" n "[I") (.int 2)) (.int (f 2))).before args s = true) (h3 : (Cond.eq (.elem (.static "EchoBids" n "[I") (.int 3)) (.int (f 3))).before args s = true) :
    ∃ t : Nat, va_T .int t 4 (fun j => .int (f j)) (fun q => s.heap.size ≤ q) s s.heap ∧ va_Z "EchoBids" n "[I" (.ref t) (fun q => s.heap.size ≤ q) s s.heap := by
  have hA : ∀ a : Nat, a < s.heap.size → ¬ s.heap.size ≤ a := fun a h => Nat.not_le.mpr h
  obtain ⟨t, e1, e2⟩ := va_Tof (ty := .int) (N := 4) (f := fun j => .int (f j)) (A := fun q => s.heap.size ≤ q) (by decide) harr (ev_eqt hlen) (fun j hj => by
    rcases (show j = 0 ∨ j = 1 ∨ j = 2 ∨ j = 3 by omega) with rfl | rfl | rfl | rfl
    · exact ev_eqt h0
    · exact ev_eqt h1
    · exact ev_eqt h2
    · exact ev_eqt h3) hA
  exact ⟨t, e2, va_Zof hl hini e1 hA⟩
def evNstB (w : Cond) : Bool := match w with
  | .fieldLinkNest .. => true
  | .methodLinkNest .. => true
  | .arrayOver _ => true
  | _ => false
set_option maxHeartbeats 4000000 in
set_option maxRecDepth 100000 in
theorem ev_start (hrun : ∀ (L : Nat) (xs : Nat → Int32), L ≤ 1536 → evLaw L xs) {p : Program} {e : Env} {s : State} {m : MethodId} {below : List Frame} {meth : Method} {c : Code} (l : Launch) {b L : Nat} {xs : Nat → Int32} (hL : L ≤ 1536) (C0 : lw_At p s m meth c b L xs) : W p l e room_1 s m #[Value.ref b] below meth c s.heap [] 0 0 (lw_Z below #[Value.ref b] s) (entryFrame m ([Value.ref b] : List Value).toArray 4) := by
  obtain ⟨hx, hb, hr, hml, hown, hts, hX, hbl, hlocks, hgv⟩ := id C0
  have hs := flat_of_before _ hgv
  have tb : ∀ {w : Cond} (i : Nat), lw_tbl[i]? = some w → w.before #[Value.ref b] s = true := fun i h => hts _ (List.mem_of_getElem? h)
  -- the classes
  have kn : ∀ (ci : Nat), ∃ (cC : ClassId) (iS : Nat → Nat), ∀ q, vwCl[ci]? = some q → u_Kn s q.1 q.2.1 q.2.2 cC iS := by
    intro ci
    cases hq : vwCl[ci]? with
    | none => exact ⟨0, fun _ => 0, fun q h => by cases h⟩
    | some q =>
      have hin : ∀ w ∈ u_ws q.1 q.2.1 q.2.2, w ∈ lw_tbl := fun w hw => (List.mem_filter.mp (evCls_in ci q hq w hw)).1
      have hi : (Cond.instantiable q.1 q.2.2).before #[Value.ref b] s = true := by
        have h9 := evCls_8 ci q hq
        have h1 : Cond.instantiable q.1 q.2.2 ∈ lw_tbl := by
          match ci, hq with
          | 0, hq => cases hq; decide +kernel
          | 1, hq => cases hq; decide +kernel
          | 2, hq => cases hq; decide +kernel
          | 3, hq => cases hq; decide +kernel
          | 4, hq => cases hq; decide +kernel
          | 5, hq => cases hq; decide +kernel
          | 6, hq => cases hq; decide +kernel
          | 7, hq => cases hq; decide +kernel
          | 8, hq => cases hq; decide +kernel
          | n + 9, hq => omega
        exact hts _ h1
      obtain ⟨cC, iS, h⟩ := u_known hts hin hi
      exact ⟨cC, iS, fun q' h' => by cases h'; exact h⟩
  have ar : ∀ (k : Nat), ∃ cA : ClassId, ∀ ty, (evTys (fun _ => 0))[k]? = some (0, ty) → ArrOfT s cA ty ∧ va_RA s cA ty := by
    intro k
    match k with
    | 0 =>
      obtain ⟨cA, kA, comp, f1, f2, f3⟩ := Cond.arrayClass_spec (show (Cond.arrayClass .int).holds #[Value.ref b] s none s [] = true from hts _ evArrI)
      exact ⟨cA, fun ty h => by cases h; exact ⟨fun N z => ⟨(fun k h => by cases h), kA, f2, comp, f3⟩, f1⟩⟩
    | 1 =>
      obtain ⟨comp, cA, kA, g1, -, g3, g4, g5⟩ := Cond.arrayOver_spec (show (Cond.arrayOver (.object RX0)).holds #[Value.ref b] s none s [] = true from hts _ (by decide +kernel))
      exact ⟨cA, fun ty h => by cases h; exact ⟨fun N z => ⟨(fun k h => by cases h), kA, g3, comp, g4⟩, kA, comp, g3, g4, g1, g5⟩⟩
    | 2 =>
      obtain ⟨comp, cA, kA, g1, -, g3, g4, g5⟩ := Cond.arrayOver_spec (show (Cond.arrayOver (.object RX1)).holds #[Value.ref b] s none s [] = true from hts _ (by decide +kernel))
      exact ⟨cA, fun ty h => by cases h; exact ⟨fun N z => ⟨(fun k h => by cases h), kA, g3, comp, g4⟩, kA, comp, g3, g4, g1, g5⟩⟩
    | 3 =>
      obtain ⟨comp, cA, kA, g1, -, g3, g4, g5⟩ := Cond.arrayOver_spec (show (Cond.arrayOver (.object RX2)).holds #[Value.ref b] s none s [] = true from hts _ (by decide +kernel))
      exact ⟨cA, fun ty h => by cases h; exact ⟨fun N z => ⟨(fun k h => by cases h), kA, g3, comp, g4⟩, kA, comp, g3, g4, g1, g5⟩⟩
    | 4 =>
      obtain ⟨comp, cA, kA, g1, -, g3, g4, g5⟩ := Cond.arrayOver_spec (show (Cond.arrayOver (.object RX4)).holds #[Value.ref b] s none s [] = true from hts _ (by decide +kernel))
      exact ⟨cA, fun ty h => by cases h; exact ⟨fun N z => ⟨(fun k h => by cases h), kA, g3, comp, g4⟩, kA, comp, g3, g4, g1, g5⟩⟩
    | n + 5 => exact ⟨0, fun ty h => by simp [evTys] at h⟩
  let D : va_G := (fun ci => Classical.choose (kn ci), fun ci => Classical.choose (Classical.choose_spec (kn ci)))
  let dA : Nat → ClassId := fun k => Classical.choose (ar k)
  have hK : va_K D vwCl (evTys dA) s := by
    refine ⟨fun ci q hq => Classical.choose_spec (Classical.choose_spec (kn ci)) q hq, fun k q hq => ?_⟩
    have h := Classical.choose_spec (ar k)
    match k, hq, h with
    | 0, hq, h => cases hq; exact h _ rfl
    | 1, hq, h => cases hq; exact h _ rfl
    | 2, hq, h => cases hq; exact h _ rfl
    | 3, hq, h => cases hq; exact h _ rfl
    | 4, hq, h => cases hq; exact h _ rfl
    | n + 5, hq, h => simp [evTys] at hq
  have hini : (Cond.initialized "EchoBids").before #[Value.ref b] s = true := hts _ (by decide +kernel)
  obtain ⟨t0, a0, z0⟩ := ev_static (n := "LEAST") (f := evGv 0) (hts _ (by decide +kernel)) hini (hs _ (by decide +kernel)) (hs _ (by decide +kernel)) (hs _ (by decide +kernel)) (hs _ (by decide +kernel)) (hs _ (by decide +kernel)) (hs _ (by decide +kernel))
  obtain ⟨t1, a1, z1⟩ := ev_static (n := "GREATEST") (f := evGv 1) (hts _ (by decide +kernel)) hini (hs _ (by decide +kernel)) (hs _ (by decide +kernel)) (hs _ (by decide +kernel)) (hs _ (by decide +kernel)) (hs _ (by decide +kernel)) (hs _ (by decide +kernel))
  have a2 : va_T .int b L (fun j => .int (xs j)) (fun q => s.heap.size ≤ q) s s.heap := by
    obtain ⟨scr, g1, g2, g3, g4, g5⟩ := hX
    exact ⟨scr, g1, g2, g3, by omega, by rw [g4], g5, Nat.not_le.mpr hbl⟩
  let S : Nat → Nat := fun k => match k with
    | 0 => t0
    | 1 => t1
    | _ => b
  have fx : evFx s.heap.size S D dA (evSp0 L xs) s s.heap := by
    refine ⟨hK, Nat.le_refl _, fun k hk => ?_, fun k hk => ?_, fun a i b' n d hm => va_Nw.of rfl (hts _ hm), fun a i x hm => va_Nw.of rfl (hts _ hm), fun C hC => va_AO.of (hts _ hC)⟩
    · rcases (show k = 0 ∨ k = 1 ∨ k = 2 by omega) with rfl | rfl | rfl
      · exact a0
      · exact a1
      · exact a2
    · rcases (show k = 0 ∨ k = 1 by omega) with rfl | rfl
      · exact z0
      · exact z1
  obtain ⟨n, o, hn, ho, hc1, hc2⟩ := hrun L xs hL
  have ok : evOK p room_1 s m #[Value.ref b] meth c evLawN := ⟨hx, hb, hml, hown, fun w hw => hts w (List.mem_filter.mp hw).1, fun h => absurd h (by decide +kernel), Nat.le_of_ble_eq_true rfl, Nat.le_of_ble_eq_true rfl⟩
  have hw : evHW s.heap.size S D dA (evSp0 L xs) (evH0 L xs) (fun _ _ => 0) s.heap := ⟨fun k q h => by
      obtain ⟨hk, -⟩ := evW_of h
      exact absurd hk (Nat.not_lt_zero k), rfl, Nat.zero_le _, rfl⟩
  have hl := lv_entry ([.ref b]) (n := 4) (Nat.le_of_ble_eq_true rfl)
  rw [lg_entry_eq]
  generalize (lg_sl ([.ref b]) ++ List.replicate (4 - (lg_sl ([.ref b])).length) Slot.unset).toArray = ls at hl ⊢
  have hl : lv_has ls (evML evLawN) (evLm s.heap.size S [(0, .ref (evO9 + 2))]) := by
    have e1 : evLm s.heap.size S [(0, .ref (evO9 + 2))] = [(0, .ref b)] := by
      show [(0, Value.ref (evPh s.heap.size S (evO9 + 2)))] = _
      rw [evPh_out]
      rfl
    rw [e1]
    exact hl
  have key := ev_sound l n hn (n0 := 0) (s0 := 0) (Q := lw_Z below #[Value.ref b] s) (below := below) (e := e) ok fx hw (va_S.rf (A := fun q => s.heap.size ≤ q)) hl (Nat.zero_le _) (Nat.zero_le _) hc1 hc2 ?_
  · exact key
  · intro pc' i' st' H' locs' ls' hd he hw' hS'
    rw [ho] at he
    have hi : i' = .ireturn ∧ st' = [.int 1] := by
      cases i' <;> simp only [evEnd] at he <;> first
        | (cases he; done)
        | (split at he <;> first
            | (cases he; done)
            | (replace he := evIf_of he; obtain ⟨-, he⟩ := he; first | (cases he; done) | (cases he; exact ⟨rfl, rfl⟩)))
    obtain ⟨rfl, rfl⟩ := hi
    refine va_forget hS'.2.2 ?_
    refine W.widen (k := 600000) (n := 7302250) (by omega) (by omega) ?_
    refine W.base ?_
    exact lw_ret (Drawn.sameBut.refl s.drawn lw_cs) hx hb hr hlocks hd
end
section
/-! the evaluator's answer as an Option, and an equation an instruction -/
noncomputable def evX (y pc : Nat) (lv : evL) (st : List Value) (h : evH) (mi : evM) : Option evO :=
  @dite (Option evO) (∃ (o : evO) (n : Nat), evRun n y pc lv st h mi = some o) (Classical.propDecidable _) (fun hx => some (Classical.choose hx)) (fun _ => none)
theorem evX_iff {y pc : Nat} {lv : evL} {st : List Value} {h : evH} {mi : evM} {o : evO} : evX y pc lv st h mi = some o ↔ ∃ n, evRun n y pc lv st h mi = some o := by
  unfold evX
  by_cases hx : ∃ (o : evO) (n : Nat), evRun n y pc lv st h mi = some o
  · rw [dif_pos hx]
    obtain ⟨n1, h1⟩ := Classical.choose_spec hx
    constructor
    · intro he
      rw [← Option.some.inj he]
      exact ⟨n1, h1⟩
    · rintro ⟨n2, h2⟩
      have a1 := evRun_more n1 h1 (max n1 n2) (Nat.le_max_left _ _)
      have a2 := evRun_more n2 h2 (max n1 n2) (Nat.le_max_right _ _)
      exact a1.symm.trans a2
  · rw [dif_neg hx]
    constructor
    · intro he; cases he
    · rintro ⟨n2, h2⟩
      exact absurd ⟨o, n2, h2⟩ hx
theorem evX_ext {y pc : Nat} {lv : evL} {st : List Value} {h : evH} {mi : evM} {z : Option evO} (hz : ∀ o, (∃ n, evRun n y pc lv st h mi = some o) ↔ z = some o) : evX y pc lv st h mi = z := by
  apply Option.ext
  intro o
  exact evX_iff.trans (hz o)
theorem evX_end {y pc len : Nat} {i : Instr} {lv : evL} {st : List Value} {h : evH} {mi : evM} {r : Option Value} (hi : evIns y pc = some (i, len)) (he : evEnd y i st = some r) : evX y pc lv st h mi = some (r, h, mi) := by
  refine evX_iff.mpr ⟨1, ?_⟩
  unfold evRun
  rw [hi]
  show (match evEnd y i st with | some r => some (r, h, mi) | none => _) = _
  rw [he]
theorem evX_step {y pc len : Nat} {i : Instr} {lv : evL} {st : List Value} {h : evH} {mi : evM} (hi : evIns y pc = some (i, len)) (he : evEnd y i st = none) (hc : evCall y i st h = none) : evX y pc lv st h mi = (evStep y pc i lv st h mi).bind fun s => evX y s.1 s.2.1 s.2.2.1 s.2.2.2.1 s.2.2.2.2 := by
  have e : ∀ n, evRun (n + 1) y pc lv st h mi = (evStep y pc i lv st h mi).bind fun s => evRun n y s.1 s.2.1 s.2.2.1 s.2.2.2.1 s.2.2.2.2 := by
    intro n
    conv => lhs; unfold evRun
    rw [hi]
    show (match evEnd y i st with | some r => some (r, h, mi) | none => _) = _
    rw [he]
    show (match evCall y i st h with | some c => _ | none => _) = _
    rw [hc]
  refine evX_ext fun o => ⟨?_, ?_⟩
  · rintro ⟨n, hn⟩
    cases n with
    | zero => cases hn
    | succ n =>
      rw [e] at hn
      obtain ⟨s, h1, h2⟩ := ev_bind hn
      rw [h1]
      exact evX_iff.mpr ⟨n, h2⟩
  · intro hz
    obtain ⟨s, h1, h2⟩ := ev_bind hz
    obtain ⟨n, hn⟩ := evX_iff.mp h2
    refine ⟨n + 1, ?_⟩
    rw [e, h1]
    exact hn
def evBd (x : Option evO) (f : Option Value → evH → evM → Option evO) : Option evO := match x with
  | some o => f o.1 o.2.1 o.2.2
  | none => none
theorem evBd_some (r : Option Value) (h : evH) (mi : evM) (f : Option Value → evH → evM → Option evO) : evBd (some (r, h, mi)) f = f r h mi := rfl
theorem evX_call {y pc len : Nat} {i : Instr} {lv : evL} {st : List Value} {h : evH} {mi : evM} {c : Nat × List Value × List Value} (hi : evIns y pc = some (i, len)) (he : evEnd y i st = none) (hc : evCall y i st h = some c) : evX y pc lv st h mi = evBd (evX c.1 0 (lv_args 0 c.2.1) [] h mi) fun r h' mi' => evX y (pc + 3) lv (r.toList ++ c.2.2) h' mi' := by
  have e : ∀ n, evRun (n + 1) y pc lv st h mi = (evRun n c.1 0 (lv_args 0 c.2.1) [] h mi).bind fun o => evRun n y (pc + 3) lv (o.1.toList ++ c.2.2) o.2.1 o.2.2 := by
    intro n
    conv => lhs; unfold evRun
    rw [hi]
    show (match evEnd y i st with | some r => some (r, h, mi) | none => _) = _
    rw [he]
    show (match evCall y i st h with | some c => _ | none => _) = _
    rw [hc]
  refine evX_ext fun o => ⟨?_, ?_⟩
  · rintro ⟨n, hn⟩
    cases n with
    | zero => cases hn
    | succ n =>
      rw [e] at hn
      obtain ⟨s, h1, h2⟩ := ev_bind hn
      rw [evX_iff.mpr ⟨n, h1⟩]
      exact evX_iff.mpr ⟨n, h2⟩
  · intro hz
    cases hx : evX c.1 0 (lv_args 0 c.2.1) [] h mi with
    | none => rw [hx] at hz; cases hz
    | some s =>
      rw [hx] at hz
      obtain ⟨n1, h1⟩ := evX_iff.mp hx
      obtain ⟨n2, h2⟩ := evX_iff.mp (show evX y (pc + 3) lv (s.1.toList ++ c.2.2) s.2.1 s.2.2 = some o from hz)
      refine ⟨max n1 n2 + 1, ?_⟩
      rw [e, evRun_more n1 h1 _ (Nat.le_max_left _ _)]
      exact evRun_more n2 h2 _ (Nat.le_max_right _ _)
/-- a cell of the world, of kind k -/
def evAt (h : evH) (a k : Nat) : Prop := a < evN h ∧ a < evO9 ∧ evK h a = k
def evI (v : Option Value) (f : Int32 → Option evO) : Option evO := match v with
  | some (.int x) => f x
  | _ => none
def evJl (v : Option Value) (f : Int64 → Option evO) : Option evO := match v with
  | some (.long x) => f x
  | _ => none
def evJf (v : Option Value) (f : UInt32 → Option evO) : Option evO := match v with
  | some (.float x) => f x
  | _ => none
def evJd (v : Option Value) (f : UInt64 → Option evO) : Option evO := match v with
  | some (.double x) => f x
  | _ => none
def evA (v : Option Value) (f : Value → Option evO) : Option evO := match v with
  | some (.ref a) => f (.ref a)
  | some .null => f .null
  | _ => none
theorem evI_i (x : Int32) (f : Int32 → Option evO) : evI (some (.int x)) f = f x := rfl
theorem evJl_i (x : Int64) (f : Int64 → Option evO) : evJl (some (.long x)) f = f x := rfl
theorem evJf_i (x : UInt32) (f : UInt32 → Option evO) : evJf (some (.float x)) f = f x := rfl
theorem evJd_i (x : UInt64) (f : UInt64 → Option evO) : evJd (some (.double x)) f = f x := rfl
theorem evA_r (a : Nat) (f : Value → Option evO) : evA (some (.ref a)) f = f (.ref a) := rfl
theorem evA_n (f : Value → Option evO) : evA (some .null) f = f .null := rfl
theorem evA_q (q : Option Nat) (f : Value → Option evO) : evA (some (va_rf q)) f = f (va_rf q) := by cases q <;> rfl
theorem evLk_c (i j : Nat) (v : Value) (t : evL) : evLk i ((j, v) :: t) = if j = i then some v else evLk i t := rfl
section EVEq
theorem X_iload {y pc : Nat} {lv : evL} {st : List Value} {h : evH} {mi : evM} {k : Nat} (hi : evIns y pc = some (.iload k, 2)) : evX y pc lv st h mi = evI (evLk k lv) fun x => evX y (pc + 2) lv (.int x :: st) h mi := by
  rw [evX_step hi rfl rfl]
  cases hv : evLk k lv with
  | none => simp only [evStep, hv]; rfl
  | some v => cases v <;> (simp only [evStep, hv]; rfl)
theorem X_iload_n {y pc : Nat} {lv : evL} {st : List Value} {h : evH} {mi : evM} {k : Fin 4} (hi : evIns y pc = some (.iload_n k, 1)) : evX y pc lv st h mi = evI (evLk k.val lv) fun x => evX y (pc + 1) lv (.int x :: st) h mi := by
  rw [evX_step hi rfl rfl]
  cases hv : evLk k.val lv with
  | none => simp only [evStep, hv]; rfl
  | some v => cases v <;> (simp only [evStep, hv]; rfl)
theorem X_lload {y pc : Nat} {lv : evL} {st : List Value} {h : evH} {mi : evM} {k : Nat} (hi : evIns y pc = some (.lload k, 2)) : evX y pc lv st h mi = evJl (evLk k lv) fun x => evX y (pc + 2) lv (.long x :: st) h mi := by
  rw [evX_step hi rfl rfl]
  cases hv : evLk k lv with
  | none => simp only [evStep, hv]; rfl
  | some v => cases v <;> (simp only [evStep, hv]; rfl)
theorem X_lload_n {y pc : Nat} {lv : evL} {st : List Value} {h : evH} {mi : evM} {k : Fin 4} (hi : evIns y pc = some (.lload_n k, 1)) : evX y pc lv st h mi = evJl (evLk k.val lv) fun x => evX y (pc + 1) lv (.long x :: st) h mi := by
  rw [evX_step hi rfl rfl]
  cases hv : evLk k.val lv with
  | none => simp only [evStep, hv]; rfl
  | some v => cases v <;> (simp only [evStep, hv]; rfl)
theorem X_fload_n {y pc : Nat} {lv : evL} {st : List Value} {h : evH} {mi : evM} {k : Fin 4} (hi : evIns y pc = some (.fload_n k, 1)) : evX y pc lv st h mi = evJf (evLk k.val lv) fun x => evX y (pc + 1) lv (.float x :: st) h mi := by
  rw [evX_step hi rfl rfl]
  cases hv : evLk k.val lv with
  | none => simp only [evStep, hv]; rfl
  | some v => cases v <;> (simp only [evStep, hv]; rfl)
theorem X_dload_n {y pc : Nat} {lv : evL} {st : List Value} {h : evH} {mi : evM} {k : Fin 4} (hi : evIns y pc = some (.dload_n k, 1)) : evX y pc lv st h mi = evJd (evLk k.val lv) fun x => evX y (pc + 1) lv (.double x :: st) h mi := by
  rw [evX_step hi rfl rfl]
  cases hv : evLk k.val lv with
  | none => simp only [evStep, hv]; rfl
  | some v => cases v <;> (simp only [evStep, hv]; rfl)
theorem X_aload {y pc : Nat} {lv : evL} {st : List Value} {h : evH} {mi : evM} {k : Nat} (hi : evIns y pc = some (.aload k, 2)) : evX y pc lv st h mi = evA (evLk k lv) fun x => evX y (pc + 2) lv (x :: st) h mi := by
  rw [evX_step hi rfl rfl]
  cases hv : evLk k lv with
  | none => simp only [evStep, hv]; rfl
  | some v => cases v <;> (simp only [evStep, hv]; rfl)
theorem X_aload_n {y pc : Nat} {lv : evL} {st : List Value} {h : evH} {mi : evM} {k : Fin 4} (hi : evIns y pc = some (.aload_n k, 1)) : evX y pc lv st h mi = evA (evLk k.val lv) fun x => evX y (pc + 1) lv (x :: st) h mi := by
  rw [evX_step hi rfl rfl]
  cases hv : evLk k.val lv with
  | none => simp only [evStep, hv]; rfl
  | some v => cases v <;> (simp only [evStep, hv]; rfl)
theorem X_istore {y pc : Nat} {lv : evL} {st : List Value} {h : evH} {mi : evM} {k : Nat} {x : Int32} (hi : evIns y pc = some (.istore k, 2)) (hk : k < evML y) : evX y pc lv (.int x :: st) h mi = evX y (pc + 2) (evS1 k (.int x) lv) st h mi := by
  rw [evX_step hi rfl rfl]
  simp only [evStep, evPi, evIf, hk, if_true]
  rfl
theorem X_istore_n {y pc : Nat} {lv : evL} {st : List Value} {h : evH} {mi : evM} {k : Fin 4} {x : Int32} (hi : evIns y pc = some (.istore_n k, 1)) (hk : k.val < evML y) : evX y pc lv (.int x :: st) h mi = evX y (pc + 1) (evS1 k.val (.int x) lv) st h mi := by
  rw [evX_step hi rfl rfl]
  simp only [evStep, evPi, evIf, hk, if_true]
  rfl
theorem X_lstore {y pc : Nat} {lv : evL} {st : List Value} {h : evH} {mi : evM} {k : Nat} {x : Int64} (hi : evIns y pc = some (.lstore k, 2)) (hk : k + 1 < evML y) : evX y pc lv (.long x :: st) h mi = evX y (pc + 2) (evS2 k (.long x) lv) st h mi := by
  rw [evX_step hi rfl rfl]
  simp only [evStep, evPl, evIf, hk, if_true]
  rfl
theorem X_lstore_n {y pc : Nat} {lv : evL} {st : List Value} {h : evH} {mi : evM} {k : Fin 4} {x : Int64} (hi : evIns y pc = some (.lstore_n k, 1)) (hk : k.val + 1 < evML y) : evX y pc lv (.long x :: st) h mi = evX y (pc + 1) (evS2 k.val (.long x) lv) st h mi := by
  rw [evX_step hi rfl rfl]
  simp only [evStep, evPl, evIf, hk, if_true]
  rfl
theorem X_fstore_n {y pc : Nat} {lv : evL} {st : List Value} {h : evH} {mi : evM} {k : Fin 4} {x : UInt32} (hi : evIns y pc = some (.fstore_n k, 1)) (hk : k.val < evML y) : evX y pc lv (.float x :: st) h mi = evX y (pc + 1) (evS1 k.val (.float x) lv) st h mi := by
  rw [evX_step hi rfl rfl]
  simp only [evStep, evPf, evIf, hk, if_true]
  rfl
theorem X_dstore_n {y pc : Nat} {lv : evL} {st : List Value} {h : evH} {mi : evM} {k : Fin 4} {x : UInt64} (hi : evIns y pc = some (.dstore_n k, 1)) (hk : k.val + 1 < evML y) : evX y pc lv (.double x :: st) h mi = evX y (pc + 1) (evS2 k.val (.double x) lv) st h mi := by
  rw [evX_step hi rfl rfl]
  simp only [evStep, evPd, evIf, hk, if_true]
  rfl
theorem X_astore {y pc : Nat} {lv : evL} {st : List Value} {h : evH} {mi : evM} {k : Nat} {q : Option Nat} (hi : evIns y pc = some (.astore k, 2)) (hk : k < evML y) : evX y pc lv (va_rf q :: st) h mi = evX y (pc + 2) (evS1 k (va_rf q) lv) st h mi := by
  rw [evX_step hi rfl rfl]
  cases q <;> (simp only [evStep, va_rf, evPq, evIf, hk, if_true]; rfl)
theorem X_astore_r {y pc : Nat} {lv : evL} {st : List Value} {h : evH} {mi : evM} {k : Nat} {a : Nat} (hi : evIns y pc = some (.astore k, 2)) (hk : k < evML y) : evX y pc lv (.ref a :: st) h mi = evX y (pc + 2) (evS1 k (.ref a) lv) st h mi := by
  rw [evX_step hi rfl rfl]
  simp only [evStep, evPq, evIf, hk, if_true]
  rfl
theorem X_astore_0 {y pc : Nat} {lv : evL} {st : List Value} {h : evH} {mi : evM} {k : Nat} (hi : evIns y pc = some (.astore k, 2)) (hk : k < evML y) : evX y pc lv (.null :: st) h mi = evX y (pc + 2) (evS1 k .null lv) st h mi := by
  rw [evX_step hi rfl rfl]
  simp only [evStep, evPq, evIf, hk, if_true]
  rfl
theorem X_astore_n {y pc : Nat} {lv : evL} {st : List Value} {h : evH} {mi : evM} {k : Fin 4} {q : Option Nat} (hi : evIns y pc = some (.astore_n k, 1)) (hk : k.val < evML y) : evX y pc lv (va_rf q :: st) h mi = evX y (pc + 1) (evS1 k.val (va_rf q) lv) st h mi := by
  rw [evX_step hi rfl rfl]
  cases q <;> (simp only [evStep, va_rf, evPq, evIf, hk, if_true]; rfl)
theorem X_astore_n_r {y pc : Nat} {lv : evL} {st : List Value} {h : evH} {mi : evM} {k : Fin 4} {a : Nat} (hi : evIns y pc = some (.astore_n k, 1)) (hk : k.val < evML y) : evX y pc lv (.ref a :: st) h mi = evX y (pc + 1) (evS1 k.val (.ref a) lv) st h mi := by
  rw [evX_step hi rfl rfl]
  simp only [evStep, evPq, evIf, hk, if_true]
  rfl
theorem X_astore_n_0 {y pc : Nat} {lv : evL} {st : List Value} {h : evH} {mi : evM} {k : Fin 4} (hi : evIns y pc = some (.astore_n k, 1)) (hk : k.val < evML y) : evX y pc lv (.null :: st) h mi = evX y (pc + 1) (evS1 k.val .null lv) st h mi := by
  rw [evX_step hi rfl rfl]
  simp only [evStep, evPq, evIf, hk, if_true]
  rfl
theorem X_iinc {y pc : Nat} {lv : evL} {st : List Value} {h : evH} {mi : evM} {k : Nat} {n : Int} (hi : evIns y pc = some (.iinc k n, 3)) (hk : k < evML y) : evX y pc lv st h mi = evI (evLk k lv) fun x => evX y (pc + 3) (evS1 k (.int (x + Int32.ofInt n)) lv) st h mi := by
  rw [evX_step hi rfl rfl]
  cases hv : evLk k lv with
  | none => simp only [evStep, hv]; rfl
  | some v => cases v <;> (simp only [evStep, hv, evPi, evIf, hk, if_true, Option.bind]; rfl)
theorem X_iconst {y pc : Nat} {lv : evL} {st : List Value} {h : evH} {mi : evM} {n : Int} (hi : evIns y pc = some (.iconst n, 1)) : evX y pc lv st h mi = evX y (pc + 1) lv (.int (Int32.ofInt n) :: st) h mi := by
  rw [evX_step hi rfl rfl]
  rfl
theorem X_bipush {y pc : Nat} {lv : evL} {st : List Value} {h : evH} {mi : evM} {n : Int} (hi : evIns y pc = some (.bipush n, 2)) : evX y pc lv st h mi = evX y (pc + 2) lv (.int (Int8.ofInt n).toInt32 :: st) h mi := by
  rw [evX_step hi rfl rfl]
  rfl
theorem X_sipush {y pc : Nat} {lv : evL} {st : List Value} {h : evH} {mi : evM} {n : Int} (hi : evIns y pc = some (.sipush n, 3)) : evX y pc lv st h mi = evX y (pc + 3) lv (.int (Int16.ofInt n).toInt32 :: st) h mi := by
  rw [evX_step hi rfl rfl]
  rfl
theorem X_lconst {y pc : Nat} {lv : evL} {st : List Value} {h : evH} {mi : evM} {n : Fin 2} (hi : evIns y pc = some (.lconst n, 1)) : evX y pc lv st h mi = evX y (pc + 1) lv (.long (Int64.ofNat (n : Nat)) :: st) h mi := by
  rw [evX_step hi rfl rfl]
  rfl
theorem X_fconst0 {y pc : Nat} {lv : evL} {st : List Value} {h : evH} {mi : evM} (hi : evIns y pc = some (.fconst 0, 1)) : evX y pc lv st h mi = evX y (pc + 1) lv (.float FP.fconst0 :: st) h mi := by
  rw [evX_step hi rfl rfl]
  rfl
theorem X_fconst1 {y pc : Nat} {lv : evL} {st : List Value} {h : evH} {mi : evM} (hi : evIns y pc = some (.fconst 1, 1)) : evX y pc lv st h mi = evX y (pc + 1) lv (.float FP.fconst1 :: st) h mi := by
  rw [evX_step hi rfl rfl]
  rfl
theorem X_fconst2 {y pc : Nat} {lv : evL} {st : List Value} {h : evH} {mi : evM} (hi : evIns y pc = some (.fconst 2, 1)) : evX y pc lv st h mi = evX y (pc + 1) lv (.float FP.fconst2 :: st) h mi := by
  rw [evX_step hi rfl rfl]
  rfl
theorem X_dconst0 {y pc : Nat} {lv : evL} {st : List Value} {h : evH} {mi : evM} (hi : evIns y pc = some (.dconst 0, 1)) : evX y pc lv st h mi = evX y (pc + 1) lv (.double FP.dconst0 :: st) h mi := by
  rw [evX_step hi rfl rfl]
  rfl
theorem X_dconst1 {y pc : Nat} {lv : evL} {st : List Value} {h : evH} {mi : evM} (hi : evIns y pc = some (.dconst 1, 1)) : evX y pc lv st h mi = evX y (pc + 1) lv (.double FP.dconst1 :: st) h mi := by
  rw [evX_step hi rfl rfl]
  rfl
theorem X_null {y pc : Nat} {lv : evL} {st : List Value} {h : evH} {mi : evM} (hi : evIns y pc = some (.aconst_null, 1)) : evX y pc lv st h mi = evX y (pc + 1) lv (.null :: st) h mi := by
  rw [evX_step hi rfl rfl]
  rfl
theorem X_ldc_int {y pc : Nat} {lv : evL} {st : List Value} {h : evH} {mi : evM} {k p : Nat} {v : Int32} (hi : evIns y pc = some (.ldc k, 2)) (hq : evLd y k = some (.int v, p)) : evX y pc lv st h mi = evX y (pc + 2) lv (.int v :: st) h mi := by
  rw [evX_step hi rfl rfl]
  simp only [evStep, hq, Option.bind]
theorem X_ldc_float {y pc : Nat} {lv : evL} {st : List Value} {h : evH} {mi : evM} {k p : Nat} {v : UInt32} (hi : evIns y pc = some (.ldc k, 2)) (hq : evLd y k = some (.float v, p)) : evX y pc lv st h mi = evX y (pc + 2) lv (.float v :: st) h mi := by
  rw [evX_step hi rfl rfl]
  simp only [evStep, hq, Option.bind]
theorem X_ldc2_w_long {y pc : Nat} {lv : evL} {st : List Value} {h : evH} {mi : evM} {k p : Nat} {v : Int64} (hi : evIns y pc = some (.ldc2_w k, 3)) (hq : evLd y k = some (.long v, p)) : evX y pc lv st h mi = evX y (pc + 3) lv (.long v :: st) h mi := by
  rw [evX_step hi rfl rfl]
  simp only [evStep, hq, Option.bind]
theorem X_ldc2_w_double {y pc : Nat} {lv : evL} {st : List Value} {h : evH} {mi : evM} {k p : Nat} {v : UInt64} (hi : evIns y pc = some (.ldc2_w k, 3)) (hq : evLd y k = some (.double v, p)) : evX y pc lv st h mi = evX y (pc + 3) lv (.double v :: st) h mi := by
  rw [evX_step hi rfl rfl]
  simp only [evStep, hq, Option.bind]
theorem X_iadd {y pc : Nat} {lv : evL} {st : List Value} {h : evH} {mi : evM} {a b : Int32} (hi : evIns y pc = some (.iadd, 1)) : evX y pc lv (.int b :: .int a :: st) h mi = evX y (pc + 1) lv (.int (a + b) :: st) h mi := by
  rw [evX_step hi rfl rfl]
  rfl
theorem X_isub {y pc : Nat} {lv : evL} {st : List Value} {h : evH} {mi : evM} {a b : Int32} (hi : evIns y pc = some (.isub, 1)) : evX y pc lv (.int b :: .int a :: st) h mi = evX y (pc + 1) lv (.int (a - b) :: st) h mi := by
  rw [evX_step hi rfl rfl]
  rfl
theorem X_imul {y pc : Nat} {lv : evL} {st : List Value} {h : evH} {mi : evM} {a b : Int32} (hi : evIns y pc = some (.imul, 1)) : evX y pc lv (.int b :: .int a :: st) h mi = evX y (pc + 1) lv (.int (a * b) :: st) h mi := by
  rw [evX_step hi rfl rfl]
  rfl
theorem X_iand {y pc : Nat} {lv : evL} {st : List Value} {h : evH} {mi : evM} {a b : Int32} (hi : evIns y pc = some (.iand, 1)) : evX y pc lv (.int b :: .int a :: st) h mi = evX y (pc + 1) lv (.int (a &&& b) :: st) h mi := by
  rw [evX_step hi rfl rfl]
  rfl
theorem X_ior {y pc : Nat} {lv : evL} {st : List Value} {h : evH} {mi : evM} {a b : Int32} (hi : evIns y pc = some (.ior, 1)) : evX y pc lv (.int b :: .int a :: st) h mi = evX y (pc + 1) lv (.int (a ||| b) :: st) h mi := by
  rw [evX_step hi rfl rfl]
  rfl
theorem X_ixor {y pc : Nat} {lv : evL} {st : List Value} {h : evH} {mi : evM} {a b : Int32} (hi : evIns y pc = some (.ixor, 1)) : evX y pc lv (.int b :: .int a :: st) h mi = evX y (pc + 1) lv (.int (a ^^^ b) :: st) h mi := by
  rw [evX_step hi rfl rfl]
  rfl
theorem X_ishl {y pc : Nat} {lv : evL} {st : List Value} {h : evH} {mi : evM} {a b : Int32} (hi : evIns y pc = some (.ishl, 1)) : evX y pc lv (.int b :: .int a :: st) h mi = evX y (pc + 1) lv (.int (a <<< (b &&& 31)) :: st) h mi := by
  rw [evX_step hi rfl rfl]
  rfl
theorem X_idiv {y pc : Nat} {lv : evL} {st : List Value} {h : evH} {mi : evM} {a b : Int32} (hi : evIns y pc = some (.idiv, 1)) (hb : ¬ b = 0) : evX y pc lv (.int b :: .int a :: st) h mi = evX y (pc + 1) lv (.int (a / b) :: st) h mi := by
  rw [evX_step hi rfl rfl]
  simp only [evStep, evPi, evIf, hb, not_false_eq_true, if_true]
  rfl
theorem X_irem {y pc : Nat} {lv : evL} {st : List Value} {h : evH} {mi : evM} {a b : Int32} (hi : evIns y pc = some (.irem, 1)) (hb : ¬ b = 0) : evX y pc lv (.int b :: .int a :: st) h mi = evX y (pc + 1) lv (.int (a - a / b * b) :: st) h mi := by
  rw [evX_step hi rfl rfl]
  simp only [evStep, evPi, evIf, hb, not_false_eq_true, if_true]
  rfl
theorem X_ineg {y pc : Nat} {lv : evL} {st : List Value} {h : evH} {mi : evM} {a : Int32} (hi : evIns y pc = some (.ineg, 1)) : evX y pc lv (.int a :: st) h mi = evX y (pc + 1) lv (.int (-a) :: st) h mi := by
  rw [evX_step hi rfl rfl]
  rfl
theorem X_ladd {y pc : Nat} {lv : evL} {st : List Value} {h : evH} {mi : evM} {a b : Int64} (hi : evIns y pc = some (.ladd, 1)) : evX y pc lv (.long b :: .long a :: st) h mi = evX y (pc + 1) lv (.long (a + b) :: st) h mi := by
  rw [evX_step hi rfl rfl]
  rfl
theorem X_lsub {y pc : Nat} {lv : evL} {st : List Value} {h : evH} {mi : evM} {a b : Int64} (hi : evIns y pc = some (.lsub, 1)) : evX y pc lv (.long b :: .long a :: st) h mi = evX y (pc + 1) lv (.long (a - b) :: st) h mi := by
  rw [evX_step hi rfl rfl]
  rfl
theorem X_land {y pc : Nat} {lv : evL} {st : List Value} {h : evH} {mi : evM} {a b : Int64} (hi : evIns y pc = some (.land, 1)) : evX y pc lv (.long b :: .long a :: st) h mi = evX y (pc + 1) lv (.long (a &&& b) :: st) h mi := by
  rw [evX_step hi rfl rfl]
  rfl
theorem X_lor {y pc : Nat} {lv : evL} {st : List Value} {h : evH} {mi : evM} {a b : Int64} (hi : evIns y pc = some (.lor, 1)) : evX y pc lv (.long b :: .long a :: st) h mi = evX y (pc + 1) lv (.long (a ||| b) :: st) h mi := by
  rw [evX_step hi rfl rfl]
  rfl
theorem X_lcmp {y pc : Nat} {lv : evL} {st : List Value} {h : evH} {mi : evM} {a b : Int64} (hi : evIns y pc = some (.lcmp, 1)) : evX y pc lv (.long b :: .long a :: st) h mi = evX y (pc + 1) lv (.int (lg_cmp a b) :: st) h mi := by
  rw [evX_step hi rfl rfl]
  rfl
theorem X_lshl {y pc : Nat} {lv : evL} {st : List Value} {h : evH} {mi : evM} {a : Int64} {b : Int32} (hi : evIns y pc = some (.lshl, 1)) : evX y pc lv (.int b :: .long a :: st) h mi = evX y (pc + 1) lv (.long (a <<< (b.toInt64 &&& 63)) :: st) h mi := by
  rw [evX_step hi rfl rfl]
  rfl
theorem X_lushr {y pc : Nat} {lv : evL} {st : List Value} {h : evH} {mi : evM} {a : Int64} {b : Int32} (hi : evIns y pc = some (.lushr, 1)) : evX y pc lv (.int b :: .long a :: st) h mi = evX y (pc + 1) lv (.long (a.toUInt64 >>> (b.toInt64.toUInt64 &&& Int64.toUInt64 63)).toInt64 :: st) h mi := by
  rw [evX_step hi rfl rfl]
  rfl
theorem X_i2l {y pc : Nat} {lv : evL} {st : List Value} {h : evH} {mi : evM} {a : Int32} (hi : evIns y pc = some (.i2l, 1)) : evX y pc lv (.int a :: st) h mi = evX y (pc + 1) lv (.long a.toInt64 :: st) h mi := by
  rw [evX_step hi rfl rfl]
  rfl
theorem X_l2i {y pc : Nat} {lv : evL} {st : List Value} {h : evH} {mi : evM} {a : Int64} (hi : evIns y pc = some (.l2i, 1)) : evX y pc lv (.long a :: st) h mi = evX y (pc + 1) lv (.int a.toInt32 :: st) h mi := by
  rw [evX_step hi rfl rfl]
  rfl
theorem X_i2f {y pc : Nat} {lv : evL} {st : List Value} {h : evH} {mi : evM} {a : Int32} (hi : evIns y pc = some (.i2f, 1)) : evX y pc lv (.int a :: st) h mi = evX y (pc + 1) lv (.float (FP.i2f a) :: st) h mi := by
  rw [evX_step hi rfl rfl]
  rfl
theorem X_i2d {y pc : Nat} {lv : evL} {st : List Value} {h : evH} {mi : evM} {a : Int32} (hi : evIns y pc = some (.i2d, 1)) : evX y pc lv (.int a :: st) h mi = evX y (pc + 1) lv (.double (FP.i2d a) :: st) h mi := by
  rw [evX_step hi rfl rfl]
  rfl
theorem X_f2i {y pc : Nat} {lv : evL} {st : List Value} {h : evH} {mi : evM} {a : UInt32} (hi : evIns y pc = some (.f2i, 1)) : evX y pc lv (.float a :: st) h mi = evX y (pc + 1) lv (.int (FP.f2i a) :: st) h mi := by
  rw [evX_step hi rfl rfl]
  rfl
theorem X_d2l {y pc : Nat} {lv : evL} {st : List Value} {h : evH} {mi : evM} {a : UInt64} (hi : evIns y pc = some (.d2l, 1)) : evX y pc lv (.double a :: st) h mi = evX y (pc + 1) lv (.long (FP.d2l a) :: st) h mi := by
  rw [evX_step hi rfl rfl]
  rfl
theorem X_fmul {y pc : Nat} {lv : evL} {st : List Value} {h : evH} {mi : evM} {a b : UInt32} (hi : evIns y pc = some (.fmul, 1)) (hn : FP.fmul a b &&& 0x7fffffff ≤ 0x7f800000) : evX y pc lv (.float b :: .float a :: st) h mi = evX y (pc + 1) lv (.float (FP.fmul a b) :: st) h mi := by
  rw [evX_step hi rfl rfl]
  simp only [evStep, evPf, evIf, hn, if_true]
  rfl
theorem X_fdiv {y pc : Nat} {lv : evL} {st : List Value} {h : evH} {mi : evM} {a b : UInt32} (hi : evIns y pc = some (.fdiv, 1)) (hn : FP.fdiv a b &&& 0x7fffffff ≤ 0x7f800000) : evX y pc lv (.float b :: .float a :: st) h mi = evX y (pc + 1) lv (.float (FP.fdiv a b) :: st) h mi := by
  rw [evX_step hi rfl rfl]
  simp only [evStep, evPf, evIf, hn, if_true]
  rfl
theorem X_dmul {y pc : Nat} {lv : evL} {st : List Value} {h : evH} {mi : evM} {a b : UInt64} (hi : evIns y pc = some (.dmul, 1)) (hn : FP.dmul a b &&& 0x7fffffffffffffff ≤ 0x7ff0000000000000) : evX y pc lv (.double b :: .double a :: st) h mi = evX y (pc + 1) lv (.double (FP.dmul a b) :: st) h mi := by
  rw [evX_step hi rfl rfl]
  simp only [evStep, evPd, evIf, hn, if_true]
  rfl
theorem X_ddiv {y pc : Nat} {lv : evL} {st : List Value} {h : evH} {mi : evM} {a b : UInt64} (hi : evIns y pc = some (.ddiv, 1)) (hn : FP.ddiv a b &&& 0x7fffffffffffffff ≤ 0x7ff0000000000000) : evX y pc lv (.double b :: .double a :: st) h mi = evX y (pc + 1) lv (.double (FP.ddiv a b) :: st) h mi := by
  rw [evX_step hi rfl rfl]
  simp only [evStep, evPd, evIf, hn, if_true]
  rfl
theorem X_fcmp {y pc : Nat} {lv : evL} {st : List Value} {h : evH} {mi : evM} {a b : UInt32} {op : CmpOp} (hi : evIns y pc = some (.fcmp op, 1)) : evX y pc lv (.float b :: .float a :: st) h mi = evX y (pc + 1) lv (.int (Op.cmpValue (FP.fcmp a b) op) :: st) h mi := by
  rw [evX_step hi rfl rfl]
  rfl
theorem X_dcmp {y pc : Nat} {lv : evL} {st : List Value} {h : evH} {mi : evM} {a b : UInt64} {op : CmpOp} (hi : evIns y pc = some (.dcmp op, 1)) : evX y pc lv (.double b :: .double a :: st) h mi = evX y (pc + 1) lv (.int (Op.cmpValue (FP.dcmp a b) op) :: st) h mi := by
  rw [evX_step hi rfl rfl]
  rfl
theorem X_dup {y pc : Nat} {lv : evL} {st : List Value} {h : evH} {mi : evM} {v : Value} (hi : evIns y pc = some (.dup, 1)) (hv : v.category = 1) : evX y pc lv (v :: st) h mi = evX y (pc + 1) lv (v :: v :: st) h mi := by
  rw [evX_step hi rfl rfl]
  simp only [evStep, evPv, evIf, hv, if_true]
  rfl
theorem X_pop {y pc : Nat} {lv : evL} {st : List Value} {h : evH} {mi : evM} {v : Value} (hi : evIns y pc = some (.pop, 1)) (hv : v.category = 1) : evX y pc lv (v :: st) h mi = evX y (pc + 1) lv (st) h mi := by
  rw [evX_step hi rfl rfl]
  simp only [evStep, evPv, evIf, hv, if_true]
  rfl
theorem X_dup2 {y pc : Nat} {lv : evL} {st : List Value} {h : evH} {mi : evM} {v u : Value} (hi : evIns y pc = some (.dup2, 1)) (hv : v.category = 1) (hu : u.category = 1) : evX y pc lv (v :: u :: st) h mi = evX y (pc + 1) lv (v :: u :: v :: u :: st) h mi := by
  rw [evX_step hi rfl rfl]
  simp only [evStep, evPv, evIf, hv, hu, and_self, if_true]
  rfl
theorem X_goto {y pc : Nat} {lv : evL} {st : List Value} {h : evH} {mi : evM} {off : Int} {t : Nat} (hi : evIns y pc = some (.goto off, 3)) (ht : evJ pc off = some t) : evX y pc lv st h mi = evX y t lv st h mi := by
  rw [evX_step hi rfl rfl]
  simp only [evStep, ht, Option.bind]
theorem X_icmp_eq {y pc : Nat} {lv : evL} {st : List Value} {h : evH} {mi : evM} {a b : Int32} {off : Int} {t : Nat} (hi : evIns y pc = some (.if_icmp .eq off, 3)) (ht : evJ pc off = some t) : evX y pc lv (.int b :: .int a :: st) h mi = if a = b then evX y t lv st h mi else evX y (pc + 3) lv st h mi := by
  rw [evX_step hi rfl rfl]
  simp only [evStep, evPi, ht, Option.bind]
  by_cases hc : a = b <;> simp [evIc, hc]
theorem X_if_eq {y pc : Nat} {lv : evL} {st : List Value} {h : evH} {mi : evM} {a : Int32} {off : Int} {t : Nat} (hi : evIns y pc = some (.ifCond .eq off, 3)) (ht : evJ pc off = some t) : evX y pc lv (.int a :: st) h mi = if a = 0 then evX y t lv st h mi else evX y (pc + 3) lv st h mi := by
  rw [evX_step hi rfl rfl]
  simp only [evStep, evPi, ht, Option.bind]
  by_cases hc : a = 0 <;> simp [evIc, hc]
theorem X_icmp_ne {y pc : Nat} {lv : evL} {st : List Value} {h : evH} {mi : evM} {a b : Int32} {off : Int} {t : Nat} (hi : evIns y pc = some (.if_icmp .ne off, 3)) (ht : evJ pc off = some t) : evX y pc lv (.int b :: .int a :: st) h mi = if ¬ a = b then evX y t lv st h mi else evX y (pc + 3) lv st h mi := by
  rw [evX_step hi rfl rfl]
  simp only [evStep, evPi, ht, Option.bind]
  by_cases hc : ¬ a = b <;> simp [evIc, hc]
theorem X_if_ne {y pc : Nat} {lv : evL} {st : List Value} {h : evH} {mi : evM} {a : Int32} {off : Int} {t : Nat} (hi : evIns y pc = some (.ifCond .ne off, 3)) (ht : evJ pc off = some t) : evX y pc lv (.int a :: st) h mi = if ¬ a = 0 then evX y t lv st h mi else evX y (pc + 3) lv st h mi := by
  rw [evX_step hi rfl rfl]
  simp only [evStep, evPi, ht, Option.bind]
  by_cases hc : ¬ a = 0 <;> simp [evIc, hc]
theorem X_icmp_lt {y pc : Nat} {lv : evL} {st : List Value} {h : evH} {mi : evM} {a b : Int32} {off : Int} {t : Nat} (hi : evIns y pc = some (.if_icmp .lt off, 3)) (ht : evJ pc off = some t) : evX y pc lv (.int b :: .int a :: st) h mi = if a < b then evX y t lv st h mi else evX y (pc + 3) lv st h mi := by
  rw [evX_step hi rfl rfl]
  simp only [evStep, evPi, ht, Option.bind]
  by_cases hc : a < b <;> simp [evIc, hc]
theorem X_if_lt {y pc : Nat} {lv : evL} {st : List Value} {h : evH} {mi : evM} {a : Int32} {off : Int} {t : Nat} (hi : evIns y pc = some (.ifCond .lt off, 3)) (ht : evJ pc off = some t) : evX y pc lv (.int a :: st) h mi = if a < 0 then evX y t lv st h mi else evX y (pc + 3) lv st h mi := by
  rw [evX_step hi rfl rfl]
  simp only [evStep, evPi, ht, Option.bind]
  by_cases hc : a < 0 <;> simp [evIc, hc]
theorem X_icmp_ge {y pc : Nat} {lv : evL} {st : List Value} {h : evH} {mi : evM} {a b : Int32} {off : Int} {t : Nat} (hi : evIns y pc = some (.if_icmp .ge off, 3)) (ht : evJ pc off = some t) : evX y pc lv (.int b :: .int a :: st) h mi = if b ≤ a then evX y t lv st h mi else evX y (pc + 3) lv st h mi := by
  rw [evX_step hi rfl rfl]
  simp only [evStep, evPi, ht, Option.bind]
  by_cases hc : b ≤ a <;> simp [evIc, hc]
theorem X_if_ge {y pc : Nat} {lv : evL} {st : List Value} {h : evH} {mi : evM} {a : Int32} {off : Int} {t : Nat} (hi : evIns y pc = some (.ifCond .ge off, 3)) (ht : evJ pc off = some t) : evX y pc lv (.int a :: st) h mi = if 0 ≤ a then evX y t lv st h mi else evX y (pc + 3) lv st h mi := by
  rw [evX_step hi rfl rfl]
  simp only [evStep, evPi, ht, Option.bind]
  by_cases hc : 0 ≤ a <;> simp [evIc, hc]
theorem X_icmp_gt {y pc : Nat} {lv : evL} {st : List Value} {h : evH} {mi : evM} {a b : Int32} {off : Int} {t : Nat} (hi : evIns y pc = some (.if_icmp .gt off, 3)) (ht : evJ pc off = some t) : evX y pc lv (.int b :: .int a :: st) h mi = if b < a then evX y t lv st h mi else evX y (pc + 3) lv st h mi := by
  rw [evX_step hi rfl rfl]
  simp only [evStep, evPi, ht, Option.bind]
  by_cases hc : b < a <;> simp [evIc, hc]
theorem X_if_gt {y pc : Nat} {lv : evL} {st : List Value} {h : evH} {mi : evM} {a : Int32} {off : Int} {t : Nat} (hi : evIns y pc = some (.ifCond .gt off, 3)) (ht : evJ pc off = some t) : evX y pc lv (.int a :: st) h mi = if 0 < a then evX y t lv st h mi else evX y (pc + 3) lv st h mi := by
  rw [evX_step hi rfl rfl]
  simp only [evStep, evPi, ht, Option.bind]
  by_cases hc : 0 < a <;> simp [evIc, hc]
theorem X_icmp_le {y pc : Nat} {lv : evL} {st : List Value} {h : evH} {mi : evM} {a b : Int32} {off : Int} {t : Nat} (hi : evIns y pc = some (.if_icmp .le off, 3)) (ht : evJ pc off = some t) : evX y pc lv (.int b :: .int a :: st) h mi = if a ≤ b then evX y t lv st h mi else evX y (pc + 3) lv st h mi := by
  rw [evX_step hi rfl rfl]
  simp only [evStep, evPi, ht, Option.bind]
  by_cases hc : a ≤ b <;> simp [evIc, hc]
theorem X_if_le {y pc : Nat} {lv : evL} {st : List Value} {h : evH} {mi : evM} {a : Int32} {off : Int} {t : Nat} (hi : evIns y pc = some (.ifCond .le off, 3)) (ht : evJ pc off = some t) : evX y pc lv (.int a :: st) h mi = if a ≤ 0 then evX y t lv st h mi else evX y (pc + 3) lv st h mi := by
  rw [evX_step hi rfl rfl]
  simp only [evStep, evPi, ht, Option.bind]
  by_cases hc : a ≤ 0 <;> simp [evIc, hc]
theorem X_ifnull_0 {y pc : Nat} {lv : evL} {st : List Value} {h : evH} {mi : evM} {off : Int} {t : Nat} (hi : evIns y pc = some (.ifnull off, 3)) (ht : evJ pc off = some t) : evX y pc lv (.null :: st) h mi = evX y t lv st h mi := by
  rw [evX_step hi rfl rfl]
  simp only [evStep, evPq, ht, Option.bind]
  rfl
theorem X_ifnull_r {y pc : Nat} {lv : evL} {st : List Value} {h : evH} {mi : evM} {a : Nat} {off : Int} {t : Nat} (hi : evIns y pc = some (.ifnull off, 3)) (ht : evJ pc off = some t) : evX y pc lv (.ref a :: st) h mi = evX y (pc + 3) lv st h mi := by
  rw [evX_step hi rfl rfl]
  simp only [evStep, evPq, ht, Option.bind]
  rfl
theorem X_ifnull_q {y pc : Nat} {lv : evL} {st : List Value} {h : evH} {mi : evM} {q : Option Nat} {off : Int} {t : Nat} (hi : evIns y pc = some (.ifnull off, 3)) (ht : evJ pc off = some t) : evX y pc lv (va_rf q :: st) h mi = if q = none then evX y t lv st h mi else evX y (pc + 3) lv st h mi := by
  rw [evX_step hi rfl rfl]
  cases q <;> (simp only [evStep, va_rf, evPq, ht, Option.bind]; rfl)
theorem X_ifnonnull_0 {y pc : Nat} {lv : evL} {st : List Value} {h : evH} {mi : evM} {off : Int} {t : Nat} (hi : evIns y pc = some (.ifnonnull off, 3)) (ht : evJ pc off = some t) : evX y pc lv (.null :: st) h mi = evX y (pc + 3) lv st h mi := by
  rw [evX_step hi rfl rfl]
  simp only [evStep, evPq, ht, Option.bind]
  rfl
theorem X_ifnonnull_r {y pc : Nat} {lv : evL} {st : List Value} {h : evH} {mi : evM} {a : Nat} {off : Int} {t : Nat} (hi : evIns y pc = some (.ifnonnull off, 3)) (ht : evJ pc off = some t) : evX y pc lv (.ref a :: st) h mi = evX y t lv st h mi := by
  rw [evX_step hi rfl rfl]
  simp only [evStep, evPq, ht, Option.bind]
  rfl
theorem X_ifnonnull_q {y pc : Nat} {lv : evL} {st : List Value} {h : evH} {mi : evM} {q : Option Nat} {off : Int} {t : Nat} (hi : evIns y pc = some (.ifnonnull off, 3)) (ht : evJ pc off = some t) : evX y pc lv (va_rf q :: st) h mi = if q = none then evX y (pc + 3) lv st h mi else evX y t lv st h mi := by
  rw [evX_step hi rfl rfl]
  cases q <;> (simp only [evStep, va_rf, evPq, ht, Option.bind]; rfl)
def evSw : List (Int32 × Nat) → Nat → Int32 → Nat
  | [], d, _ => d
  | q :: r, d, x => if x = q.1 then q.2 else evSw r d x
theorem evSw_out {L : List (Int32 × Nat)} {d : Nat} {x : Int32} (h : ∀ q ∈ L, x ≠ q.1) : evSw L d x = d := by
  induction L with
  | nil => rfl
  | cons q r ih =>
    unfold evSw
    rw [if_neg (h q List.mem_cons_self)]
    exact ih (fun z hz => h z (List.mem_cons_of_mem _ hz))
theorem X_tsw {y pc len n d : Nat} {lv : evL} {st : List Value} {h : evH} {mi : evM} {x : Int32} {dflt lo hi : Int} {offs : Array Int} {L : List (Int32 × Nat)} (hi0 : evIns y pc = some (.tableswitch dflt lo hi offs, len)) (hd : evJ pc dflt = some d) (hn : hi = lo + n - 1)
    (hc : ∀ j, j < n → (offs[j]?).bind (fun off => evJ pc off) = some (evSw L d (Int32.ofInt (lo + j)))) (ho : ∀ q ∈ L, lo ≤ q.1.toInt ∧ q.1.toInt ≤ hi) : evX y pc lv (.int x :: st) h mi = evX y (evSw L d x) lv st h mi := by
  rw [evX_step hi0 rfl rfl]
  simp only [evStep, evPi]
  by_cases hx : x.toInt < lo ∨ hi < x.toInt
  · rw [if_pos hx, hd, evSw_out (fun q hq e => by have := ho q hq; rw [← e] at this; omega)]
    rfl
  · rw [if_neg hx]
    have hj : (x.toInt - lo).toNat < n := by omega
    have h1 := hc _ hj
    have h2 : lo + ((x.toInt - lo).toNat : Int) = x.toInt := by omega
    rw [h2, Int32.ofInt_toInt] at h1
    cases ho1 : offs[(x.toInt - lo).toNat]? with
    | none => rw [ho1] at h1; cases h1
    | some off =>
      rw [ho1] at h1
      have h3 : evJ pc off = some (evSw L d x) := h1
      simp only [Option.bind_some, h3]
theorem evLo_sw {ps : List (Int × Int)} {dflt : Int} {pc : Nat} {L : List (Int32 × Nat)} {d : Nat} (hd : evJ pc dflt = some d) : L.map (fun q => (some q.1.toInt, some q.2)) = ps.map (fun q => (some q.1, evJ pc q.2)) → ∀ x : Int32, evJ pc (Op.lookupswitch.offset ps dflt x.toInt) = some (evSw L d x) := by
  induction ps generalizing L with
  | nil =>
    intro hL x
    cases L with
    | nil => exact hd
    | cons q r => cases hL
  | cons q r ih =>
    intro hL x
    cases L with
    | nil => cases hL
    | cons z w =>
      simp only [List.map_cons, List.cons.injEq, Prod.mk.injEq, Option.some.injEq] at hL
      obtain ⟨⟨h1, h2⟩, h3⟩ := hL
      rw [show q :: r = (q.1, q.2) :: r from rfl, Op.lookupswitch.offset_cons]
      unfold evSw
      by_cases hx : x = z.1
      · rw [if_pos hx, if_pos (by rw [hx, h1]), ← h2]
      · rw [if_neg hx, if_neg (fun e => hx (Int32.toInt_inj.mp (by rw [h1, e])))]
        exact ih h3 x
theorem X_lsw {y pc len d : Nat} {lv : evL} {st : List Value} {h : evH} {mi : evM} {x : Int32} {dflt : Int} {ps : Array (Int × Int)} {L : List (Int32 × Nat)} (hi0 : evIns y pc = some (.lookupswitch dflt ps, len)) (hd : evJ pc dflt = some d) (hs : (ps.toList.zip (ps.toList.drop 1)).all (fun (a, next) => a.1 < next.1) = true)
    (hL : L.map (fun q => (some q.1.toInt, some q.2)) = ps.toList.map (fun q => (some q.1, evJ pc q.2))) : evX y pc lv (.int x :: st) h mi = evX y (evSw L d x) lv st h mi := by
  rw [evX_step hi0 rfl rfl]
  simp only [evStep, evPi, evIf, hs, if_true, evLo_sw hd hL x, Option.bind_some]
theorem evAt_2 {h : evH} {a k : Nat} (ha : evAt h a k) : a < evN h ∧ evK h a = k := ⟨ha.1, ha.2.2⟩
theorem X_getI {y pc : Nat} {lv : evL} {st : List Value} {h : evH} {mi : evM} {k a ci j p : Nat} {ne : Bool} (hi : evIns y pc = some (.getfield k, 3)) (hq : evF y k = some (ci, j, ne, p)) (hr : evIsR ci j = false) (ha : evAt h a ci) : evX y pc lv (.ref a :: st) h mi = evX y (pc + 3) lv (.int (mi a j) :: st) h mi := by
  rw [evX_step hi rfl rfl]
  simp only [evStep, hq, evPr, evIf, ha.1, ha.2.2, and_self, if_true, Option.bind, hr, Bool.false_eq_true, if_false]
theorem X_getR {y pc : Nat} {lv : evL} {st : List Value} {h : evH} {mi : evM} {k a ci j p : Nat} {ne : Bool} (hi : evIns y pc = some (.getfield k, 3)) (hq : evF y k = some (ci, j, ne, p)) (hr : evIsR ci j = true) (ha : evAt h a ci) : evX y pc lv (.ref a :: st) h mi = evX y (pc + 3) lv (va_rf (evR h a j) :: st) h mi := by
  rw [evX_step hi rfl rfl]
  simp only [evStep, hq, evPr, evIf, ha.1, ha.2.2, and_self, if_true, Option.bind, hr]
theorem X_putI {y pc : Nat} {lv : evL} {st : List Value} {h : evH} {mi : evM} {k a ci j p : Nat} {ne : Bool} {x : Int32} (hi : evIns y pc = some (.putfield k, 3)) (hq : evF y k = some (ci, j, ne, p)) (hr : evIsR ci j = false) (hm : evMay y ci j ne = true) (hf : evFit ci j x = true) (ha : evAt h a ci) : evX y pc lv (.int x :: .ref a :: st) h mi = evX y (pc + 3) lv st h (evSetM mi a j x) := by
  rw [evX_step hi rfl rfl]
  simp only [evStep, hq, evPi, evPr, evIf, ha.1, ha.2.2, hm, hf, and_self, if_true, Option.bind, hr, Bool.false_eq_true, if_false]
theorem X_putR {y pc : Nat} {lv : evL} {st : List Value} {h : evH} {mi : evM} {k a ci j p : Nat} {ne : Bool} {q : Option Nat} (hi : evIns y pc = some (.putfield k, 3)) (hq : evF y k = some (ci, j, ne, p)) (hr : evIsR ci j = true) (hm : evMay y ci j ne = true) (ha : evAt h a ci) : evX y pc lv (va_rf q :: .ref a :: st) h mi = evX y (pc + 3) lv st (evSetR h a j q) mi := by
  rw [evX_step hi rfl rfl]
  cases q <;> simp only [evStep, va_rf, hq, evPq, evPr, evIf, ha.1, ha.2.2, hm, and_self, if_true, Option.bind, hr]
theorem X_getS {y pc : Nat} {lv : evL} {st : List Value} {h : evH} {mi : evM} {k j p : Nat} (hi : evIns y pc = some (.getstatic k, 3)) (hq : evSt y k = some (j, p)) : evX y pc lv st h mi = evX y (pc + 3) lv (.ref (evO9 + j) :: st) h mi := by
  rw [evX_step hi rfl rfl]
  simp only [evStep, hq, Option.bind]
theorem X_iaload {y pc : Nat} {lv : evL} {st : List Value} {h : evH} {mi : evM} {a : Nat} {j : Int32} (hi : evIns y pc = some (.iaload, 1)) (ha : evAt h a 9) (h0 : ¬ j < 0) (hl : j.toNatClampNeg < evLen h a) : evX y pc lv (.int j :: .ref a :: st) h mi = evX y (pc + 1) lv (.int (mi a j.toNatClampNeg) :: st) h mi := by
  rw [evX_step hi rfl rfl]
  simp only [evStep, evPi, evPr, evRow, Nat.not_le.mpr ha.2.1, if_false, evIf, ha.1, ha.2.2, and_self, if_true, Option.bind, h0, not_false_eq_true, hl]
theorem X_ialoadS {y pc : Nat} {lv : evL} {st : List Value} {h : evH} {mi : evM} {a : Nat} {j : Int32} (hi : evIns y pc = some (.iaload, 1)) (ha : a < 3) (h0 : ¬ j < 0) (hl : j.toNatClampNeg < (evSp h a).1) : evX y pc lv (.int j :: .ref (evO9 + a) :: st) h mi = evX y (pc + 1) lv (.int ((evSp h a).2 j.toNatClampNeg) :: st) h mi := by
  rw [evX_step hi rfl rfl]
  simp only [evStep, evPi, evPr, evRow, Nat.le_add_right, Nat.add_lt_add_iff_left, Nat.add_sub_cancel_left, evIf, ha, if_true, Option.bind, h0, not_false_eq_true, hl, and_self]
theorem X_iastore {y pc : Nat} {lv : evL} {st : List Value} {h : evH} {mi : evM} {a : Nat} {j x : Int32} (hi : evIns y pc = some (.iastore, 1)) (ha : evAt h a 9) (h0 : ¬ j < 0) (hl : j.toNatClampNeg < evLen h a) : evX y pc lv (.int x :: .int j :: .ref a :: st) h mi = evX y (pc + 1) lv st h (evSetM mi a j.toNatClampNeg x) := by
  rw [evX_step hi rfl rfl]
  simp only [evStep, evPi, evPr, evIf, ha.1, ha.2.2, h0, not_false_eq_true, hl, and_self, if_true, Option.bind]
theorem X_alen {y pc : Nat} {lv : evL} {st : List Value} {h : evH} {mi : evM} {a k : Nat} (hi : evIns y pc = some (.arraylength, 1)) (ha : evAt h a k) (h1 : 9 ≤ k) (h2 : k ≤ 13) : evX y pc lv (.ref a :: st) h mi = evX y (pc + 1) lv (.int (Int32.ofNat (evLen h a)) :: st) h mi := by
  rw [evX_step hi rfl rfl]
  simp only [evStep, evPr, evALen, Nat.not_le.mpr ha.2.1, if_false, evIf, ha.1, ha.2.2, h1, h2, and_self, if_true, Option.bind]
theorem X_alenS {y pc : Nat} {lv : evL} {st : List Value} {h : evH} {mi : evM} {a : Nat} (hi : evIns y pc = some (.arraylength, 1)) (ha : a < 3) : evX y pc lv (.ref (evO9 + a) :: st) h mi = evX y (pc + 1) lv (.int (Int32.ofNat (evSp h a).1) :: st) h mi := by
  rw [evX_step hi rfl rfl]
  simp only [evStep, evPr, evALen, Nat.le_add_right, Nat.add_lt_add_iff_left, Nat.add_sub_cancel_left, evIf, ha, if_true, Option.bind]
theorem X_aaload {y pc : Nat} {lv : evL} {st : List Value} {h : evH} {mi : evM} {a k : Nat} {j : Int32} (hi : evIns y pc = some (.aaload, 1)) (ha : evAt h a k) (h1 : 10 ≤ k) (h2 : k ≤ 13) (h0 : ¬ j < 0) (hl : j.toNatClampNeg < evLen h a) : evX y pc lv (.int j :: .ref a :: st) h mi = evX y (pc + 1) lv (va_rf (evR h a j.toNatClampNeg) :: st) h mi := by
  rw [evX_step hi rfl rfl]
  simp only [evStep, evPi, evPr, evIf, ha.1, ha.2.2, h1, h2, h0, not_false_eq_true, hl, and_self, if_true, Option.bind]
theorem X_aastore {y pc : Nat} {lv : evL} {st : List Value} {h : evH} {mi : evM} {a k v : Nat} {j : Int32} (hi : evIns y pc = some (.aastore, 1)) (ha : evAt h a k) (h1 : 10 ≤ k) (h2 : k ≤ 13) (hv : evAt h v (evEl k)) (h0 : ¬ j < 0) (hl : j.toNatClampNeg < evLen h a) : evX y pc lv (.ref v :: .int j :: .ref a :: st) h mi = evX y (pc + 1) lv st (evSetR h a j.toNatClampNeg (some v)) mi := by
  rw [evX_step hi rfl rfl]
  simp only [evStep, evPi, evPr, evIf, ha.1, ha.2.2, hv.1, hv.2.2, h1, h2, h0, not_false_eq_true, hl, and_self, if_true, Option.bind]
theorem X_new {y pc : Nat} {lv : evL} {st : List Value} {h : evH} {mi : evM} {k ci p1 p2 p3 : Nat} (hi : evIns y pc = some (.new k, 3)) (hq : evWn y k = some (ci, p1, p2, p3)) (hn : evN h < evO9) : evX y pc lv st h mi = evX y (pc + 3) lv (.ref (evN h) :: st) (evNew h ci (evFN ci)) (evNewM h mi) := by
  rw [evX_step hi rfl rfl]
  simp only [evStep, hq, evIf, hn, if_true, Option.bind]
theorem X_newI {y pc : Nat} {lv : evL} {st : List Value} {h : evH} {mi : evM} {n : Int32} (hi : evIns y pc = some (.newarray .int, 2)) (hn : evN h < evO9) (h0 : ¬ n < 0) (hl : n.toNatClampNeg ≤ 100000000) : evX y pc lv (.int n :: st) h mi = evX y (pc + 2) lv (.ref (evN h) :: st) (evNew h 9 n.toNatClampNeg) (evNewM h mi) := by
  rw [evX_step hi rfl rfl]
  simp only [evStep, evPi, evIf, hn, h0, not_false_eq_true, hl, and_self, if_true, Option.bind]
theorem X_newA {y pc : Nat} {lv : evL} {st : List Value} {h : evH} {mi : evM} {k ci p1 p2 : Nat} {n : Int32} (hi : evIns y pc = some (.anewarray k, 3)) (hq : evAn y k = some (ci, p1, p2)) (hn : evN h < evO9) (h0 : ¬ n < 0) (hl : n.toNatClampNeg ≤ 100000000) : evX y pc lv (.int n :: st) h mi = evX y (pc + 3) lv (.ref (evN h) :: st) (evNew h ci n.toNatClampNeg) (evNewM h mi) := by
  rw [evX_step hi rfl rfl]
  simp only [evStep, hq, evPi, evIf, hn, h0, not_false_eq_true, hl, and_self, if_true, Option.bind]
theorem X_copy {y pc : Nat} {lv : evL} {st : List Value} {h : evH} {mi : evM} {k a b p1 p2 p3 p4 : Nat} {sp dp n : Int32} (hi : evIns y pc = some (.invokestatic k, 3)) (hcn : evCl y k = none) (hq : evNa y k = some (0, p1, p2, p3, p4)) (hr : 1 ≤ evFr y) (hr2 : 26 ≤ evLo y) (ha : evAt h a 9) (hb : evAt h b 9) (h1 : ¬ sp < 0) (h2 : ¬ dp < 0) (h3 : ¬ n < 0) (h4 : sp.toNatClampNeg + n.toNatClampNeg ≤ evLen h b) (h5 : dp.toNatClampNeg + n.toNatClampNeg ≤ evLen h a) (h6 : evCs st ≤ 8) : evX y pc lv (.int n :: .int dp :: .ref a :: .int sp :: .ref b :: st) h mi = evX y (pc + 3) lv st h (evRowM mi a (va_cpy (mi b) (mi a) sp.toNatClampNeg dp.toNatClampNeg n.toNatClampNeg)) := by
  rw [evX_step hi rfl (by simp only [evCall, hcn]; rfl)]
  simp only [evStep, hq, evPi, evPr, evIf, hr, hr2, ha.1, ha.2.2, hb.1, hb.2.2, h1, h2, h3, not_false_eq_true, h4, h5, h6, and_self, if_true, Option.bind]
theorem X_f2raw {y pc : Nat} {lv : evL} {st : List Value} {h : evH} {mi : evM} {k p1 p2 p3 p4 : Nat} {x : UInt32} (hi : evIns y pc = some (.invokestatic k, 3)) (hcn : evCl y k = none) (hq : evNa y k = some (1, p1, p2, p3, p4)) (hr : 1 ≤ evFr y) (hr2 : 26 ≤ evLo y) (h6 : evCs st ≤ 8) : evX y pc lv (.float x :: st) h mi = evX y (pc + 3) lv (.int x.toInt32 :: st) h mi := by
  rw [evX_step hi rfl (by simp only [evCall, hcn]; rfl)]
  simp only [evStep, hq, evPf, evIf, hr, hr2, h6, and_self, if_true, Option.bind]
theorem X_d2raw {y pc : Nat} {lv : evL} {st : List Value} {h : evH} {mi : evM} {k p1 p2 p3 p4 : Nat} {x : UInt64} (hi : evIns y pc = some (.invokestatic k, 3)) (hcn : evCl y k = none) (hq : evNa y k = some (2, p1, p2, p3, p4)) (hr : 1 ≤ evFr y) (hr2 : 26 ≤ evLo y) (h6 : evCs st ≤ 8) : evX y pc lv (.double x :: st) h mi = evX y (pc + 3) lv (.long x.toInt64 :: st) h mi := by
  rw [evX_step hi rfl (by simp only [evCall, hcn]; rfl)]
  simp only [evStep, hq, evPd, evIf, hr, hr2, h6, and_self, if_true, Option.bind]
theorem X_obj {y pc : Nat} {lv : evL} {st : List Value} {h : evH} {mi : evM} {k a p1 p2 p3 p4 : Nat} (hi : evIns y pc = some (.invokespecial k, 3)) (hcn : evCl y k = none) (hq : evNa y k = some (3, p1, p2, p3, p4)) (hr : 1 ≤ evFr y) (hr2 : 20 ≤ evLo y) (h6 : evCs st ≤ 8) : evX y pc lv (.ref a :: st) h mi = evX y (pc + 3) lv st h mi := by
  rw [evX_step hi rfl (by simp only [evCall, hcn]; rfl)]
  simp only [evStep, hq, evPr, evIf, hr, hr2, h6, and_self, if_true, Option.bind]
theorem X_ret {y pc : Nat} {lv : evL} {h : evH} {mi : evM} (hi : evIns y pc = some (.return_, 1)) (hr : evRet y = none) : evX y pc lv [] h mi = some (none, h, mi) := by
  refine evX_end hi ?_
  simp only [evEnd, evIf, hr, if_true]
theorem X_iret {y pc : Nat} {lv : evL} {h : evH} {mi : evM} {x : Int32} (hi : evIns y pc = some (.ireturn, 1)) (hr : evRet y = some .int) : evX y pc lv [.int x] h mi = some (some (.int x), h, mi) := by
  refine evX_end hi ?_
  simp only [evEnd, hr, evIf]
  exact if_pos rfl
theorem X_zret {y pc : Nat} {lv : evL} {h : evH} {mi : evM} {x : Int32} (hi : evIns y pc = some (.ireturn, 1)) (hr : evRet y = some .boolean) (hx : x &&& 1 = x) : evX y pc lv [.int x] h mi = some (some (.int x), h, mi) := by
  refine evX_end hi ?_
  simp only [evEnd, hr, evIf]
  exact if_pos (by show Value.int (x &&& 1) = _; rw [hx])
theorem X_lret {y pc : Nat} {lv : evL} {h : evH} {mi : evM} {x : Int64} (hi : evIns y pc = some (.lreturn, 1)) (hr : evRet y = some .long) : evX y pc lv [.long x] h mi = some (some (.long x), h, mi) := by
  refine evX_end hi ?_
  simp only [evEnd, evIf, hr, if_true]
theorem X_aret {y pc : Nat} {lv : evL} {h : evH} {mi : evM} {q : Option Nat} {C : String} (hi : evIns y pc = some (.areturn, 1)) (hr : evRet y = some (.object C)) : evX y pc lv [va_rf q] h mi = some (some (va_rf q), h, mi) := by
  refine evX_end hi ?_
  cases q <;> simp only [evEnd, va_rf, hr]
theorem X_callV {y pc : Nat} {lv : evL} {st As : List Value} {h : evH} {mi : evM} {k y' n a ci : Nat} {q : Bool × Nat × Nat × Nat × Nat} (hi : evIns y pc = some (.invokevirtual k, 3)) (hq : evCl y k = some (0, y', n, q)) (h1 : evFr y' + 1 ≤ evFr y) (h2 : 19 + evML y' + evLo y' ≤ evLo y) (h3 : As.length = n) (hci : evOw y' = ci) (h9 : ci < 9) (h8 : evCs st ≤ 8) (h7 : 1 + evCs As ≤ evML y') (ha : evAt h a ci) :
    evX y pc lv (As ++ .ref a :: st) h mi = evBd (evX y' 0 (lv_args 0 (.ref a :: As.reverse)) [] h mi) fun r h' mi' => evX y (pc + 3) lv (r.toList ++ st) h' mi' := by
  subst h3; subst hci
  refine evX_call (c := (y', .ref a :: As.reverse, st)) hi rfl ?_
  have e1 : (As ++ .ref a :: st).drop As.length = .ref a :: st := List.drop_left
  have e2 : (As ++ .ref a :: st).take As.length = As := List.take_left
  have e3 : As.length ≤ (As ++ Value.ref a :: st).length := by rw [List.length_append]; omega
  simp only [evCall, hq, Option.bind, evIf, h1, h2, e1, e2, e3, evPr, ha.1, ha.2.2, h9, h8, h7, and_self, if_true]
theorem X_callS {y pc : Nat} {lv : evL} {st As : List Value} {h : evH} {mi : evM} {k y' n : Nat} {q : Bool × Nat × Nat × Nat × Nat} (hi : evIns y pc = some (.invokestatic k, 3)) (hq : evCl y k = some (1, y', n, q)) (h1 : evFr y' + 1 ≤ evFr y) (h2 : 19 + evML y' + evLo y' ≤ evLo y) (h3 : As.length = n) (h8 : evCs st ≤ 8) (h7 : evCs As ≤ evML y') :
    evX y pc lv (As ++ st) h mi = evBd (evX y' 0 (lv_args 0 As.reverse) [] h mi) fun r h' mi' => evX y (pc + 3) lv (r.toList ++ st) h' mi' := by
  subst h3
  refine evX_call (c := (y', As.reverse, st)) hi rfl ?_
  have e1 : (As ++ st).drop As.length = st := List.drop_left
  have e2 : (As ++ st).take As.length = As := List.take_left
  have e3 : As.length ≤ (As ++ st).length := by rw [List.length_append]; omega
  simp only [evCall, hq, Option.bind, evIf, h1, h2, e1, e2, e3, h8, h7, and_self, if_true]
theorem X_callI {y pc : Nat} {lv : evL} {st As : List Value} {h : evH} {mi : evM} {k y' n a : Nat} {q : Bool × Nat × Nat × Nat × Nat} (hi : evIns y pc = some (.invokespecial k, 3)) (hq : evCl y k = some (2, y', n, q)) (h1 : evFr y' + 1 ≤ evFr y) (h2 : 19 + evML y' + evLo y' ≤ evLo y) (h3 : As.length = n) (h8 : evCs st ≤ 8) (h7 : 1 + evCs As ≤ evML y') :
    evX y pc lv (As ++ .ref a :: st) h mi = evBd (evX y' 0 (lv_args 0 (.ref a :: As.reverse)) [] h mi) fun r h' mi' => evX y (pc + 3) lv (r.toList ++ st) h' mi' := by
  subst h3
  refine evX_call (c := (y', .ref a :: As.reverse, st)) hi rfl ?_
  have e1 : (As ++ .ref a :: st).drop As.length = .ref a :: st := List.drop_left
  have e2 : (As ++ .ref a :: st).take As.length = As := List.take_left
  have e3 : As.length ≤ (As ++ Value.ref a :: st).length := by rw [List.length_append]; omega
  simp only [evCall, hq, Option.bind, evIf, h1, h2, e1, e2, e3, evPr, h8, h7, and_self, if_true]
end EVEq
/-- a loop whose index goes up: every round goes on to the next -/
theorem loop_up {α : Type} {G : Nat → α} {n : Nat} (hs : ∀ k, k < n → G k = G (k + 1)) : G 0 = G n := by
  have : ∀ j, j ≤ n → G 0 = G j := by
    intro j
    induction j with
    | zero => intro _; rfl
    | succ j ih => intro hj; rw [ih (by omega), hs j (by omega)]
  exact this n (Nat.le_refl n)
end
