section
-- ===== PART A: goes FIRST, ahead of the names: the tables' words, and 'selects' of the private methods out of them =====
/-- a private method of a class that the tables say can be made, by its rows of tables_1 -/
def lw_okq (q : MethodName × Nat) : Prop := (q.1.cls ≠ "java/lang/invoke/MethodHandle" ∧ q.1.cls ≠ "java/lang/invoke/VarHandle") ∧ Cond.instantiable q.1.cls q.2 ∈ tables_1 ∧ Cond.privateMethod q.1 ∈ tables_1 ∧ Cond.instanceMethod q.1 ∈ tables_1
theorem lw_p0 : lw_okq (⟨"TreeOdds$Pasts", "lookAhead", "()V"⟩, 9) := ⟨⟨by decide +kernel, by decide +kernel⟩, List.mem_of_getElem? (i := 27) (by decide +kernel), List.mem_of_getElem? (i := 45) (by decide +kernel), List.mem_of_getElem? (i := 46) (by decide +kernel)⟩
theorem lw_p1 : lw_okq (⟨"TreeOdds$Pasts", "mix", "(II)I"⟩, 9) := ⟨⟨by decide +kernel, by decide +kernel⟩, List.mem_of_getElem? (i := 27) (by decide +kernel), List.mem_of_getElem? (i := 57) (by decide +kernel), List.mem_of_getElem? (i := 58) (by decide +kernel)⟩
theorem lw_p2 : lw_okq (⟨"TreeOdds", "refuse", "(I)I"⟩, 10) := ⟨⟨by decide +kernel, by decide +kernel⟩, List.mem_of_getElem? (i := 13) (by decide +kernel), List.mem_of_getElem? (i := 326) (by decide +kernel), List.mem_of_getElem? (i := 327) (by decide +kernel)⟩
theorem lw_p3 : lw_okq (⟨"TreeOdds", "hasRoom", "(I)Z"⟩, 10) := ⟨⟨by decide +kernel, by decide +kernel⟩, List.mem_of_getElem? (i := 13) (by decide +kernel), List.mem_of_getElem? (i := 330) (by decide +kernel), List.mem_of_getElem? (i := 331) (by decide +kernel)⟩
theorem lw_p4 : lw_okq (⟨"TreeOdds$Pasts", "weighAnew", "(III)V"⟩, 9) := ⟨⟨by decide +kernel, by decide +kernel⟩, List.mem_of_getElem? (i := 27) (by decide +kernel), List.mem_of_getElem? (i := 367) (by decide +kernel), List.mem_of_getElem? (i := 368) (by decide +kernel)⟩
theorem lw_p5 : lw_okq (⟨"TreeOdds$Pasts", "tally", "(II)V"⟩, 9) := ⟨⟨by decide +kernel, by decide +kernel⟩, List.mem_of_getElem? (i := 27) (by decide +kernel), List.mem_of_getElem? (i := 373) (by decide +kernel), List.mem_of_getElem? (i := 374) (by decide +kernel)⟩
theorem lw_p6 : lw_okq (⟨"TreeOdds$Contest", "isJudged", "(LTreeOdds$Row;)Z"⟩, 5) := ⟨⟨by decide +kernel, by decide +kernel⟩, List.mem_of_getElem? (i := 139) (by decide +kernel), List.mem_of_getElem? (i := 457) (by decide +kernel), List.mem_of_getElem? (i := 458) (by decide +kernel)⟩
theorem lw_p7 : lw_okq (⟨"TreeOdds$BestTree", "weigh", "(LTreeOdds$Pasts;II)V"⟩, 4) := ⟨⟨by decide +kernel, by decide +kernel⟩, List.mem_of_getElem? (i := 164) (by decide +kernel), List.mem_of_getElem? (i := 476) (by decide +kernel), List.mem_of_getElem? (i := 477) (by decide +kernel)⟩
theorem lw_p8 : lw_okq (⟨"TreeOdds$BestTree", "settle", "(II)V"⟩, 4) := ⟨⟨by decide +kernel, by decide +kernel⟩, List.mem_of_getElem? (i := 164) (by decide +kernel), List.mem_of_getElem? (i := 481) (by decide +kernel), List.mem_of_getElem? (i := 482) (by decide +kernel)⟩
theorem lw_p9 : lw_okq (⟨"TreeOdds$Writing", "writeSign", "(II)V"⟩, 6) := ⟨⟨by decide +kernel, by decide +kernel⟩, List.mem_of_getElem? (i := 186) (by decide +kernel), List.mem_of_getElem? (i := 501) (by decide +kernel), List.mem_of_getElem? (i := 502) (by decide +kernel)⟩
theorem lw_p10 : lw_okq (⟨"TreeOdds$Writing", "partOfOne", "(I)J"⟩, 6) := ⟨⟨by decide +kernel, by decide +kernel⟩, List.mem_of_getElem? (i := 186) (by decide +kernel), List.mem_of_getElem? (i := 505) (by decide +kernel), List.mem_of_getElem? (i := 506) (by decide +kernel)⟩
theorem lw_p11 : lw_okq (⟨"TreeOdds$Writing", "sendByte", "()V"⟩, 6) := ⟨⟨by decide +kernel, by decide +kernel⟩, List.mem_of_getElem? (i := 186) (by decide +kernel), List.mem_of_getElem? (i := 511) (by decide +kernel), List.mem_of_getElem? (i := 512) (by decide +kernel)⟩
theorem lw_p12 : lw_okq (⟨"TreeOdds$Writing", "carry", "()V"⟩, 6) := ⟨⟨by decide +kernel, by decide +kernel⟩, List.mem_of_getElem? (i := 186) (by decide +kernel), List.mem_of_getElem? (i := 516) (by decide +kernel), List.mem_of_getElem? (i := 517) (by decide +kernel)⟩
theorem lw_p13 : lw_okq (⟨"TreeOdds$Writing", "fetchByte", "()V"⟩, 6) := ⟨⟨by decide +kernel, by decide +kernel⟩, List.mem_of_getElem? (i := 186) (by decide +kernel), List.mem_of_getElem? (i := 539) (by decide +kernel), List.mem_of_getElem? (i := 540) (by decide +kernel)⟩
theorem lw_p14 : lw_okq (⟨"TreeOdds$Writing", "readSign", "(I)I"⟩, 6) := ⟨⟨by decide +kernel, by decide +kernel⟩, List.mem_of_getElem? (i := 186) (by decide +kernel), List.mem_of_getElem? (i := 545) (by decide +kernel), List.mem_of_getElem? (i := 546) (by decide +kernel)⟩
theorem lw_p15 : lw_okq (⟨"TreeOdds$Text", "skipBlanks", "()V"⟩, 8) := ⟨⟨by decide +kernel, by decide +kernel⟩, List.mem_of_getElem? (i := 213) (by decide +kernel), List.mem_of_getElem? (i := 572) (by decide +kernel), List.mem_of_getElem? (i := 573) (by decide +kernel)⟩
def lw_privs_1 : List (MethodName × Nat) := [(⟨"TreeOdds$Pasts", "lookAhead", "()V"⟩, 9), (⟨"TreeOdds$Pasts", "mix", "(II)I"⟩, 9), (⟨"TreeOdds", "refuse", "(I)I"⟩, 10), (⟨"TreeOdds", "hasRoom", "(I)Z"⟩, 10), (⟨"TreeOdds$Pasts", "weighAnew", "(III)V"⟩, 9), (⟨"TreeOdds$Pasts", "tally", "(II)V"⟩, 9), (⟨"TreeOdds$Contest", "isJudged", "(LTreeOdds$Row;)Z"⟩, 5), (⟨"TreeOdds$BestTree", "weigh", "(LTreeOdds$Pasts;II)V"⟩, 4), (⟨"TreeOdds$BestTree", "settle", "(II)V"⟩, 4), (⟨"TreeOdds$Writing", "writeSign", "(II)V"⟩, 6), (⟨"TreeOdds$Writing", "partOfOne", "(I)J"⟩, 6), (⟨"TreeOdds$Writing", "sendByte", "()V"⟩, 6), (⟨"TreeOdds$Writing", "carry", "()V"⟩, 6), (⟨"TreeOdds$Writing", "fetchByte", "()V"⟩, 6), (⟨"TreeOdds$Writing", "readSign", "(I)I"⟩, 6), (⟨"TreeOdds$Text", "skipBlanks", "()V"⟩, 8)]
theorem lw_r1 : ∀ q ∈ lw_privs_1, lw_okq q := List.forall_mem_cons.mpr ⟨lw_p0, List.forall_mem_cons.mpr ⟨lw_p1, List.forall_mem_cons.mpr ⟨lw_p2, List.forall_mem_cons.mpr ⟨lw_p3, List.forall_mem_cons.mpr ⟨lw_p4, List.forall_mem_cons.mpr ⟨lw_p5, List.forall_mem_cons.mpr ⟨lw_p6, List.forall_mem_cons.mpr ⟨lw_p7, List.forall_mem_cons.mpr ⟨lw_p8, List.forall_mem_cons.mpr ⟨lw_p9, List.forall_mem_cons.mpr ⟨lw_p10, List.forall_mem_cons.mpr ⟨lw_p11, List.forall_mem_cons.mpr ⟨lw_p12, List.forall_mem_cons.mpr ⟨lw_p13, List.forall_mem_cons.mpr ⟨lw_p14, List.forall_mem_cons.mpr ⟨lw_p15, fun _ h => absurd h List.not_mem_nil⟩⟩⟩⟩⟩⟩⟩⟩⟩⟩⟩⟩⟩⟩⟩⟩
theorem lw_p16 : lw_okq (⟨"TreeOdds$Text", "here", "()I"⟩, 8) := ⟨⟨by decide +kernel, by decide +kernel⟩, List.mem_of_getElem? (i := 213) (by decide +kernel), List.mem_of_getElem? (i := 576) (by decide +kernel), List.mem_of_getElem? (i := 577) (by decide +kernel)⟩
theorem lw_p17 : lw_okq (⟨"TreeOdds$Text", "readPiece", "()V"⟩, 8) := ⟨⟨by decide +kernel, by decide +kernel⟩, List.mem_of_getElem? (i := 213) (by decide +kernel), List.mem_of_getElem? (i := 580) (by decide +kernel), List.mem_of_getElem? (i := 581) (by decide +kernel)⟩
theorem lw_p18 : lw_okq (⟨"TreeOdds$Text", "readSigns", "(I)V"⟩, 8) := ⟨⟨by decide +kernel, by decide +kernel⟩, List.mem_of_getElem? (i := 213) (by decide +kernel), List.mem_of_getElem? (i := 584) (by decide +kernel), List.mem_of_getElem? (i := 585) (by decide +kernel)⟩
theorem lw_p19 : lw_okq (⟨"TreeOdds$Text", "readTimes", "()I"⟩, 8) := ⟨⟨by decide +kernel, by decide +kernel⟩, List.mem_of_getElem? (i := 213) (by decide +kernel), List.mem_of_getElem? (i := 588) (by decide +kernel), List.mem_of_getElem? (i := 589) (by decide +kernel)⟩
theorem lw_p20 : lw_okq (⟨"TreeOdds$Text", "addSign", "(I)V"⟩, 8) := ⟨⟨by decide +kernel, by decide +kernel⟩, List.mem_of_getElem? (i := 213) (by decide +kernel), List.mem_of_getElem? (i := 593) (by decide +kernel), List.mem_of_getElem? (i := 594) (by decide +kernel)⟩
theorem lw_p21 : lw_okq (⟨"TreeOdds$Text", "readGroupEnd", "()V"⟩, 8) := ⟨⟨by decide +kernel, by decide +kernel⟩, List.mem_of_getElem? (i := 213) (by decide +kernel), List.mem_of_getElem? (i := 597) (by decide +kernel), List.mem_of_getElem? (i := 598) (by decide +kernel)⟩
theorem lw_p22 : lw_okq (⟨"TreeOdds$Text", "signAt", "(I)I"⟩, 8) := ⟨⟨by decide +kernel, by decide +kernel⟩, List.mem_of_getElem? (i := 213) (by decide +kernel), List.mem_of_getElem? (i := 604) (by decide +kernel), List.mem_of_getElem? (i := 605) (by decide +kernel)⟩
theorem lw_p23 : lw_okq (⟨"TreeOddsModel", "bad", "(I)I"⟩, 27) := ⟨⟨by decide +kernel, by decide +kernel⟩, List.mem_of_getElem? (i := 635) (by decide +kernel), List.mem_of_getElem? (i := 731) (by decide +kernel), List.mem_of_getElem? (i := 732) (by decide +kernel)⟩
theorem lw_p24 : lw_okq (⟨"TreeOddsModel", "many", "()I"⟩, 27) := ⟨⟨by decide +kernel, by decide +kernel⟩, List.mem_of_getElem? (i := 635) (by decide +kernel), List.mem_of_getElem? (i := 735) (by decide +kernel), List.mem_of_getElem? (i := 736) (by decide +kernel)⟩
theorem lw_p25 : lw_okq (⟨"TreeOddsModel", "full", "()I"⟩, 27) := ⟨⟨by decide +kernel, by decide +kernel⟩, List.mem_of_getElem? (i := 635) (by decide +kernel), List.mem_of_getElem? (i := 739) (by decide +kernel), List.mem_of_getElem? (i := 740) (by decide +kernel)⟩
theorem lw_p26 : lw_okq (⟨"TreeOddsModel", "keep", "()V"⟩, 27) := ⟨⟨by decide +kernel, by decide +kernel⟩, List.mem_of_getElem? (i := 635) (by decide +kernel), List.mem_of_getElem? (i := 743) (by decide +kernel), List.mem_of_getElem? (i := 744) (by decide +kernel)⟩
theorem lw_p27 : lw_okq (⟨"TreeOddsModel", "adds", "(I)V"⟩, 27) := ⟨⟨by decide +kernel, by decide +kernel⟩, List.mem_of_getElem? (i := 635) (by decide +kernel), List.mem_of_getElem? (i := 747) (by decide +kernel), List.mem_of_getElem? (i := 748) (by decide +kernel)⟩
theorem lw_p28 : lw_okq (⟨"TreeOddsModel", "costFrom", "(I)I"⟩, 27) := ⟨⟨by decide +kernel, by decide +kernel⟩, List.mem_of_getElem? (i := 635) (by decide +kernel), List.mem_of_getElem? (i := 751) (by decide +kernel), List.mem_of_getElem? (i := 752) (by decide +kernel)⟩
theorem lw_p29 : lw_okq (⟨"TreeOddsModel", "goesNow", "()I"⟩, 27) := ⟨⟨by decide +kernel, by decide +kernel⟩, List.mem_of_getElem? (i := 635) (by decide +kernel), List.mem_of_getElem? (i := 755) (by decide +kernel), List.mem_of_getElem? (i := 756) (by decide +kernel)⟩
theorem lw_p30 : lw_okq (⟨"TreeOddsModel", "depth", "()I"⟩, 27) := ⟨⟨by decide +kernel, by decide +kernel⟩, List.mem_of_getElem? (i := 635) (by decide +kernel), List.mem_of_getElem? (i := 759) (by decide +kernel), List.mem_of_getElem? (i := 760) (by decide +kernel)⟩
theorem lw_p31 : lw_okq (⟨"TreeOddsModel", "guesser", "()I"⟩, 27) := ⟨⟨by decide +kernel, by decide +kernel⟩, List.mem_of_getElem? (i := 635) (by decide +kernel), List.mem_of_getElem? (i := 763) (by decide +kernel), List.mem_of_getElem? (i := 764) (by decide +kernel)⟩
def lw_privs_2 : List (MethodName × Nat) := [(⟨"TreeOdds$Text", "here", "()I"⟩, 8), (⟨"TreeOdds$Text", "readPiece", "()V"⟩, 8), (⟨"TreeOdds$Text", "readSigns", "(I)V"⟩, 8), (⟨"TreeOdds$Text", "readTimes", "()I"⟩, 8), (⟨"TreeOdds$Text", "addSign", "(I)V"⟩, 8), (⟨"TreeOdds$Text", "readGroupEnd", "()V"⟩, 8), (⟨"TreeOdds$Text", "signAt", "(I)I"⟩, 8), (⟨"TreeOddsModel", "bad", "(I)I"⟩, 27), (⟨"TreeOddsModel", "many", "()I"⟩, 27), (⟨"TreeOddsModel", "full", "()I"⟩, 27), (⟨"TreeOddsModel", "keep", "()V"⟩, 27), (⟨"TreeOddsModel", "adds", "(I)V"⟩, 27), (⟨"TreeOddsModel", "costFrom", "(I)I"⟩, 27), (⟨"TreeOddsModel", "goesNow", "()I"⟩, 27), (⟨"TreeOddsModel", "depth", "()I"⟩, 27), (⟨"TreeOddsModel", "guesser", "()I"⟩, 27)]
theorem lw_r2 : ∀ q ∈ lw_privs_2, lw_okq q := List.forall_mem_cons.mpr ⟨lw_p16, List.forall_mem_cons.mpr ⟨lw_p17, List.forall_mem_cons.mpr ⟨lw_p18, List.forall_mem_cons.mpr ⟨lw_p19, List.forall_mem_cons.mpr ⟨lw_p20, List.forall_mem_cons.mpr ⟨lw_p21, List.forall_mem_cons.mpr ⟨lw_p22, List.forall_mem_cons.mpr ⟨lw_p23, List.forall_mem_cons.mpr ⟨lw_p24, List.forall_mem_cons.mpr ⟨lw_p25, List.forall_mem_cons.mpr ⟨lw_p26, List.forall_mem_cons.mpr ⟨lw_p27, List.forall_mem_cons.mpr ⟨lw_p28, List.forall_mem_cons.mpr ⟨lw_p29, List.forall_mem_cons.mpr ⟨lw_p30, List.forall_mem_cons.mpr ⟨lw_p31, fun _ h => absurd h List.not_mem_nil⟩⟩⟩⟩⟩⟩⟩⟩⟩⟩⟩⟩⟩⟩⟩⟩
theorem lw_p32 : lw_okq (⟨"TreeOddsModel", "goes", "(II)I"⟩, 27) := ⟨⟨by decide +kernel, by decide +kernel⟩, List.mem_of_getElem? (i := 635) (by decide +kernel), List.mem_of_getElem? (i := 767) (by decide +kernel), List.mem_of_getElem? (i := 768) (by decide +kernel)⟩
theorem lw_p33 : lw_okq (⟨"TreeOddsModel", "begins", "(II)V"⟩, 27) := ⟨⟨by decide +kernel, by decide +kernel⟩, List.mem_of_getElem? (i := 635) (by decide +kernel), List.mem_of_getElem? (i := 771) (by decide +kernel), List.mem_of_getElem? (i := 772) (by decide +kernel)⟩
theorem lw_p34 : lw_okq (⟨"TreeOddsModel", "guesses", "()I"⟩, 27) := ⟨⟨by decide +kernel, by decide +kernel⟩, List.mem_of_getElem? (i := 635) (by decide +kernel), List.mem_of_getElem? (i := 776) (by decide +kernel), List.mem_of_getElem? (i := 777) (by decide +kernel)⟩
theorem lw_p35 : lw_okq (⟨"TreeOddsModel", "ownOf", "(I)I"⟩, 27) := ⟨⟨by decide +kernel, by decide +kernel⟩, List.mem_of_getElem? (i := 635) (by decide +kernel), List.mem_of_getElem? (i := 783) (by decide +kernel), List.mem_of_getElem? (i := 784) (by decide +kernel)⟩
theorem lw_p36 : lw_okq (⟨"TreeOddsModel", "comes", "(I)V"⟩, 27) := ⟨⟨by decide +kernel, by decide +kernel⟩, List.mem_of_getElem? (i := 635) (by decide +kernel), List.mem_of_getElem? (i := 800) (by decide +kernel), List.mem_of_getElem? (i := 801) (by decide +kernel)⟩
theorem lw_p37 : lw_okq (⟨"TreeOddsModel", "costAt", "(I)I"⟩, 27) := ⟨⟨by decide +kernel, by decide +kernel⟩, List.mem_of_getElem? (i := 635) (by decide +kernel), List.mem_of_getElem? (i := 807) (by decide +kernel), List.mem_of_getElem? (i := 808) (by decide +kernel)⟩
theorem lw_p38 : lw_okq (⟨"TreeOddsModel", "no", "()I"⟩, 27) := ⟨⟨by decide +kernel, by decide +kernel⟩, List.mem_of_getElem? (i := 635) (by decide +kernel), List.mem_of_getElem? (i := 838) (by decide +kernel), List.mem_of_getElem? (i := 839) (by decide +kernel)⟩
theorem lw_p39 : lw_okq (⟨"TreeOddsModel", "guessNow", "()I"⟩, 27) := ⟨⟨by decide +kernel, by decide +kernel⟩, List.mem_of_getElem? (i := 635) (by decide +kernel), List.mem_of_getElem? (i := 850) (by decide +kernel), List.mem_of_getElem? (i := 851) (by decide +kernel)⟩
theorem lw_p40 : lw_okq (⟨"TreeOddsModel", "isNode", "(II)Z"⟩, 27) := ⟨⟨by decide +kernel, by decide +kernel⟩, List.mem_of_getElem? (i := 635) (by decide +kernel), List.mem_of_getElem? (i := 862) (by decide +kernel), List.mem_of_getElem? (i := 863) (by decide +kernel)⟩
theorem lw_p41 : lw_okq (⟨"TreeOddsModel", "treeOf", "(I)I"⟩, 27) := ⟨⟨by decide +kernel, by decide +kernel⟩, List.mem_of_getElem? (i := 635) (by decide +kernel), List.mem_of_getElem? (i := 888) (by decide +kernel), List.mem_of_getElem? (i := 889) (by decide +kernel)⟩
theorem lw_p42 : lw_okq (⟨"TreeOddsModel", "plants", "()V"⟩, 27) := ⟨⟨by decide +kernel, by decide +kernel⟩, List.mem_of_getElem? (i := 635) (by decide +kernel), List.mem_of_getElem? (i := 892) (by decide +kernel), List.mem_of_getElem? (i := 893) (by decide +kernel)⟩
theorem lw_p43 : lw_okq (⟨"TreeOddsModel", "leaves", "(Z)I"⟩, 27) := ⟨⟨by decide +kernel, by decide +kernel⟩, List.mem_of_getElem? (i := 635) (by decide +kernel), List.mem_of_getElem? (i := 896) (by decide +kernel), List.mem_of_getElem? (i := 897) (by decide +kernel)⟩
theorem lw_p44 : lw_okq (⟨"TreeOddsModel", "writes", "()V"⟩, 27) := ⟨⟨by decide +kernel, by decide +kernel⟩, List.mem_of_getElem? (i := 635) (by decide +kernel), List.mem_of_getElem? (i := 908) (by decide +kernel), List.mem_of_getElem? (i := 909) (by decide +kernel)⟩
theorem lw_p45 : lw_okq (⟨"TreeOddsModel", "goesOut", "()V"⟩, 27) := ⟨⟨by decide +kernel, by decide +kernel⟩, List.mem_of_getElem? (i := 635) (by decide +kernel), List.mem_of_getElem? (i := 914) (by decide +kernel), List.mem_of_getElem? (i := 915) (by decide +kernel)⟩
theorem lw_p46 : lw_okq (⟨"TreeOddsModel", "byteAt", "(I)I"⟩, 27) := ⟨⟨by decide +kernel, by decide +kernel⟩, List.mem_of_getElem? (i := 635) (by decide +kernel), List.mem_of_getElem? (i := 925) (by decide +kernel), List.mem_of_getElem? (i := 926) (by decide +kernel)⟩
theorem lw_p47 : lw_okq (⟨"TreeOddsModel", "here", "()I"⟩, 27) := ⟨⟨by decide +kernel, by decide +kernel⟩, List.mem_of_getElem? (i := 635) (by decide +kernel), List.mem_of_getElem? (i := 942) (by decide +kernel), List.mem_of_getElem? (i := 943) (by decide +kernel)⟩
def lw_privs_3 : List (MethodName × Nat) := [(⟨"TreeOddsModel", "goes", "(II)I"⟩, 27), (⟨"TreeOddsModel", "begins", "(II)V"⟩, 27), (⟨"TreeOddsModel", "guesses", "()I"⟩, 27), (⟨"TreeOddsModel", "ownOf", "(I)I"⟩, 27), (⟨"TreeOddsModel", "comes", "(I)V"⟩, 27), (⟨"TreeOddsModel", "costAt", "(I)I"⟩, 27), (⟨"TreeOddsModel", "no", "()I"⟩, 27), (⟨"TreeOddsModel", "guessNow", "()I"⟩, 27), (⟨"TreeOddsModel", "isNode", "(II)Z"⟩, 27), (⟨"TreeOddsModel", "treeOf", "(I)I"⟩, 27), (⟨"TreeOddsModel", "plants", "()V"⟩, 27), (⟨"TreeOddsModel", "leaves", "(Z)I"⟩, 27), (⟨"TreeOddsModel", "writes", "()V"⟩, 27), (⟨"TreeOddsModel", "goesOut", "()V"⟩, 27), (⟨"TreeOddsModel", "byteAt", "(I)I"⟩, 27), (⟨"TreeOddsModel", "here", "()I"⟩, 27)]
theorem lw_r3 : ∀ q ∈ lw_privs_3, lw_okq q := List.forall_mem_cons.mpr ⟨lw_p32, List.forall_mem_cons.mpr ⟨lw_p33, List.forall_mem_cons.mpr ⟨lw_p34, List.forall_mem_cons.mpr ⟨lw_p35, List.forall_mem_cons.mpr ⟨lw_p36, List.forall_mem_cons.mpr ⟨lw_p37, List.forall_mem_cons.mpr ⟨lw_p38, List.forall_mem_cons.mpr ⟨lw_p39, List.forall_mem_cons.mpr ⟨lw_p40, List.forall_mem_cons.mpr ⟨lw_p41, List.forall_mem_cons.mpr ⟨lw_p42, List.forall_mem_cons.mpr ⟨lw_p43, List.forall_mem_cons.mpr ⟨lw_p44, List.forall_mem_cons.mpr ⟨lw_p45, List.forall_mem_cons.mpr ⟨lw_p46, List.forall_mem_cons.mpr ⟨lw_p47, fun _ h => absurd h List.not_mem_nil⟩⟩⟩⟩⟩⟩⟩⟩⟩⟩⟩⟩⟩⟩⟩⟩
theorem lw_p48 : lw_okq (⟨"TreeOddsModel", "readsMany", "()Z"⟩, 27) := ⟨⟨by decide +kernel, by decide +kernel⟩, List.mem_of_getElem? (i := 635) (by decide +kernel), List.mem_of_getElem? (i := 946) (by decide +kernel), List.mem_of_getElem? (i := 947) (by decide +kernel)⟩
theorem lw_p49 : lw_okq (⟨"TreeOddsModel", "readsSign", "()Z"⟩, 27) := ⟨⟨by decide +kernel, by decide +kernel⟩, List.mem_of_getElem? (i := 635) (by decide +kernel), List.mem_of_getElem? (i := 950) (by decide +kernel), List.mem_of_getElem? (i := 951) (by decide +kernel)⟩
theorem lw_p50 : lw_okq (⟨"TreeOddsModel", "times", "()I"⟩, 27) := ⟨⟨by decide +kernel, by decide +kernel⟩, List.mem_of_getElem? (i := 635) (by decide +kernel), List.mem_of_getElem? (i := 954) (by decide +kernel), List.mem_of_getElem? (i := 955) (by decide +kernel)⟩
theorem lw_p51 : lw_okq (⟨"TreeOddsModel", "isFigure", "(I)Z"⟩, 27) := ⟨⟨by decide +kernel, by decide +kernel⟩, List.mem_of_getElem? (i := 635) (by decide +kernel), List.mem_of_getElem? (i := 958) (by decide +kernel), List.mem_of_getElem? (i := 959) (by decide +kernel)⟩
theorem lw_p52 : lw_okq (⟨"TreeOddsModel", "counted", "(I)I"⟩, 27) := ⟨⟨by decide +kernel, by decide +kernel⟩, List.mem_of_getElem? (i := 635) (by decide +kernel), List.mem_of_getElem? (i := 973) (by decide +kernel), List.mem_of_getElem? (i := 974) (by decide +kernel)⟩
def lw_privs_4 : List (MethodName × Nat) := [(⟨"TreeOddsModel", "readsMany", "()Z"⟩, 27), (⟨"TreeOddsModel", "readsSign", "()Z"⟩, 27), (⟨"TreeOddsModel", "times", "()I"⟩, 27), (⟨"TreeOddsModel", "isFigure", "(I)Z"⟩, 27), (⟨"TreeOddsModel", "counted", "(I)I"⟩, 27)]
theorem lw_r4 : ∀ q ∈ lw_privs_4, lw_okq q := List.forall_mem_cons.mpr ⟨lw_p48, List.forall_mem_cons.mpr ⟨lw_p49, List.forall_mem_cons.mpr ⟨lw_p50, List.forall_mem_cons.mpr ⟨lw_p51, List.forall_mem_cons.mpr ⟨lw_p52, fun _ h => absurd h List.not_mem_nil⟩⟩⟩⟩⟩
def lw_privs : List (MethodName × Nat) := lw_privs_1 ++ (lw_privs_2 ++ (lw_privs_3 ++ (lw_privs_4)))
def lw_tbl : List Cond := k2_sels lw_privs ++ tables_1
theorem lw_privs_ok : ∀ q ∈ lw_privs, lw_okq q := by
  show ∀ q ∈ lw_privs_1 ++ (lw_privs_2 ++ (lw_privs_3 ++ (lw_privs_4))), lw_okq q
  exact List.forall_mem_append.mpr ⟨lw_r1, List.forall_mem_append.mpr ⟨lw_r2, List.forall_mem_append.mpr ⟨lw_r3, lw_r4⟩⟩⟩
end
section
/-! ===== BEGIN words of one list among another's, by their places ===== -/
theorem goodIn_r {big : List Cond} (ws : List Cond) (ps : List Nat) (hp : ws = ps.filterMap (fun i => big[i]?)) (h : ws.all goodWord = true) : GoodIn big ws := by
  intro w hw
  have h1 := List.all_eq_true.mp h w hw
  rw [hp] at hw
  obtain ⟨i, -, hi⟩ := List.mem_filterMap.mp hw
  have hm : w ∈ big := by first | exact List.mem_of_getElem? hi | exact List.getElem?_mem hi
  exact ⟨hm, good_of_word h1⟩
theorem goodIn_app {big a b : List Cond} (ha : GoodIn big a) (hb : GoodIn big b) : GoodIn big (a ++ b) := fun w h => (List.mem_append.mp h).elim (ha w) (hb w)
theorem goodIn_ca {big a b : List Cond} {c : Cond} (ha : GoodIn big (c :: a)) (hb : GoodIn big b) : GoodIn big (c :: (a ++ b)) := fun w h => (List.mem_cons.mp h).elim (fun e => ha w (List.mem_cons.mpr (Or.inl e))) (fun h => (List.mem_append.mp h).elim (fun h => ha w (List.mem_cons.mpr (Or.inr h))) (hb w))
theorem goodIn_sub {big ws : List Cond} (hm : ∀ w ∈ ws, w ∈ big) (h : ws.all goodWord = true) : GoodIn big ws := fun w hw => ⟨hm w hw, good_of_word (List.all_eq_true.mp h w hw)⟩
/-! ===== END ===== -/

/-! ===== BEGIN printed: names, fields, word lists, decode rows ===== -/
def RX0 : String := "TreeOdds$BestTree"
def TX0 : u_T := fun k => match k with
  | 0 => ("TreeOdds$BestTree", "prices", "[I", true)
  | 1 => ("TreeOdds$BestTree", "kinds", "[I", true)
  | 2 => ("TreeOdds$BestTree", "leaves", "I", false)
  | _ => ("TreeOdds$BestTree", "deepest", "I", false)
def tyX0 : Nat → FieldType := fun k => match k with
  | 0 => .array .int
  | 1 => .array .int
  | 2 => .int
  | _ => .int
abbrev wsX00 : List Cond := u_ws RX0 TX0 4
theorem nmX0 : ∀ a, a < 4 → ∀ b, b < 4 → a ≠ b → (TX0 a).2.1 ≠ (TX0 b).2.1 := by decide +kernel
theorem tyX0_ok : ∀ k, k < 4 → parseFieldDescriptor (TX0 k).2.2.1 = some (tyX0 k) := by decide +kernel
abbrev cX0_init : ByteArray := prog_2_method_1_code
def yX0_init : MethodName := ⟨RX0, "<init>", "()V"⟩
abbrev cX0_grow : ByteArray := prog_2_method_2_code
def yX0_grow : MethodName := ⟨RX0, "grow", "(LTreeOdds$Pasts;)V"⟩
abbrev cX0_price : ByteArray := prog_2_method_3_code
def yX0_price : MethodName := ⟨RX0, "price", "()I"⟩
abbrev cX0_weigh : ByteArray := prog_2_method_4_code
def yX0_weigh : MethodName := ⟨RX0, "weigh", "(LTreeOdds$Pasts;II)V"⟩
abbrev cX0_settle : ByteArray := prog_2_method_5_code
def yX0_settle : MethodName := ⟨RX0, "settle", "(II)V"⟩
def RX1 : String := "TreeOdds$Contest"
def TX1 : u_T := fun k => match k with
  | 0 => ("TreeOdds$Contest", "judged", "[I", true)
  | 1 => ("TreeOdds$Contest", "length", "I", false)
  | 2 => ("TreeOdds$Contest", "depth", "I", false)
  | 3 => ("TreeOdds$Contest", "guesser", "I", false)
  | _ => ("TreeOdds$Contest", "price", "I", false)
def tyX1 : Nat → FieldType := fun k => match k with
  | 0 => .array .int
  | 1 => .int
  | 2 => .int
  | 3 => .int
  | _ => .int
abbrev wsX10 : List Cond := u_ws RX1 TX1 5
theorem nmX1 : ∀ a, a < 5 → ∀ b, b < 5 → a ≠ b → (TX1 a).2.1 ≠ (TX1 b).2.1 := by decide +kernel
theorem tyX1_ok : ∀ k, k < 5 → parseFieldDescriptor (TX1 k).2.2.1 = some (tyX1 k) := by decide +kernel
abbrev cX1_init : ByteArray := prog_3_method_1_code
def yX1_init : MethodName := ⟨RX1, "<init>", "()V"⟩
abbrev cX1_judge : ByteArray := prog_3_method_2_code
def yX1_judge : MethodName := ⟨RX1, "judge", "(LTreeOdds$Row;LTreeOdds$Pasts;)V"⟩
abbrev cX1_isJudged : ByteArray := prog_3_method_3_code
def yX1_isJudged : MethodName := ⟨RX1, "isJudged", "(LTreeOdds$Row;)Z"⟩
def RX2 : String := "TreeOdds$Pasts"
def TX2 : u_T := fun k => match k with
  | 0 => ("TreeOdds$Pasts", "zeros", "[I", true)
  | 1 => ("TreeOdds$Pasts", "ones", "[I", true)
  | 2 => ("TreeOdds$Pasts", "weights", "[I", true)
  | 3 => ("TreeOdds$Pasts", "paidAlone", "[I", true)
  | 4 => ("TreeOdds$Pasts", "owns", "[I", true)
  | 5 => ("TreeOdds$Pasts", "guesses", "[I", true)
  | 6 => ("TreeOdds$Pasts", "depth", "I", false)
  | 7 => ("TreeOdds$Pasts", "guesser", "I", false)
  | _ => ("TreeOdds$Pasts", "past", "I", false)
def tyX2 : Nat → FieldType := fun k => match k with
  | 0 => .array .int
  | 1 => .array .int
  | 2 => .array .int
  | 3 => .array .int
  | 4 => .array .int
  | 5 => .array .int
  | 6 => .int
  | 7 => .int
  | _ => .int
abbrev wsX20 : List Cond := u_ws RX2 TX2 9
theorem nmX2 : ∀ a, a < 9 → ∀ b, b < 9 → a ≠ b → (TX2 a).2.1 ≠ (TX2 b).2.1 := by decide +kernel
theorem tyX2_ok : ∀ k, k < 9 → parseFieldDescriptor (TX2 k).2.2.1 = some (tyX2 k) := by decide +kernel
abbrev cX2_init : ByteArray := prog_4_method_1_code
def yX2_init : MethodName := ⟨RX2, "<init>", "()V"⟩
abbrev cX2_begin : ByteArray := prog_4_method_2_code
def yX2_begin : MethodName := ⟨RX2, "begin", "(II)V"⟩
abbrev cX2_has : ByteArray := prog_4_method_3_code
def yX2_has : MethodName := ⟨RX2, "has", "(II)Z"⟩
abbrev cX2_next : ByteArray := prog_4_method_4_code
def yX2_next : MethodName := ⟨RX2, "next", "()I"⟩
abbrev cX2_take : ByteArray := prog_4_method_5_code
def yX2_take : MethodName := ⟨RX2, "take", "(I)V"⟩
abbrev cX2_lookAhead : ByteArray := prog_4_method_6_code
def yX2_lookAhead : MethodName := ⟨RX2, "lookAhead", "()V"⟩
abbrev cX2_mix : ByteArray := prog_4_method_7_code
def yX2_mix : MethodName := ⟨RX2, "mix", "(II)I"⟩
abbrev cX2_weighAnew : ByteArray := prog_4_method_8_code
def yX2_weighAnew : MethodName := ⟨RX2, "weighAnew", "(III)V"⟩
abbrev cX2_tally : ByteArray := prog_4_method_9_code
def yX2_tally : MethodName := ⟨RX2, "tally", "(II)V"⟩
def RX3 : String := "TreeOdds$Row"
def TX3 : u_T := fun k => match k with
  | 0 => ("TreeOdds$Row", "signs", "[I", true)
  | 1 => ("TreeOdds$Row", "foretold", "[I", true)
  | 2 => ("TreeOdds$Row", "paid", "[I", true)
  | 3 => ("TreeOdds$Row", "pasts", "LTreeOdds$Pasts;", true)
  | 4 => ("TreeOdds$Row", "length", "I", false)
  | _ => ("TreeOdds$Row", "paidInAll", "I", false)
def tyX3 : Nat → FieldType := fun k => match k with
  | 0 => .array .int
  | 1 => .array .int
  | 2 => .array .int
  | 3 => .object "TreeOdds$Pasts"
  | 4 => .int
  | _ => .int
abbrev wsX30 : List Cond := u_ws RX3 TX3 6
theorem nmX3 : ∀ a, a < 6 → ∀ b, b < 6 → a ≠ b → (TX3 a).2.1 ≠ (TX3 b).2.1 := by decide +kernel
theorem tyX3_ok : ∀ k, k < 6 → parseFieldDescriptor (TX3 k).2.2.1 = some (tyX3 k) := by decide +kernel
abbrev cX3_init : ByteArray := prog_5_method_1_code
def yX3_init : MethodName := ⟨RX3, "<init>", "()V"⟩
abbrev cX3_has : ByteArray := prog_5_method_2_code
def yX3_has : MethodName := ⟨RX3, "has", "(I)Z"⟩
abbrev cX3_put : ByteArray := prog_5_method_3_code
def yX3_put : MethodName := ⟨RX3, "put", "(I)I"⟩
abbrev cX3_comeAnew : ByteArray := prog_5_method_4_code
def yX3_comeAnew : MethodName := ⟨RX3, "comeAnew", "(III)V"⟩
abbrev cX3_priceBy : ByteArray := prog_5_method_5_code
def yX3_priceBy : MethodName := ⟨RX3, "priceBy", "(LTreeOdds$Pasts;II)I"⟩
def RX4 : String := "TreeOdds$State"
def TX4 : u_T := fun k => match k with
  | 0 => ("TreeOdds$State", "signs", "[I", true)
  | 1 => ("TreeOdds$State", "length", "I", false)
  | 2 => ("TreeOdds$State", "depth", "I", false)
  | _ => ("TreeOdds$State", "guesser", "I", false)
def tyX4 : Nat → FieldType := fun k => match k with
  | 0 => .array .int
  | 1 => .int
  | 2 => .int
  | _ => .int
abbrev wsX40 : List Cond := u_ws RX4 TX4 4
theorem nmX4 : ∀ a, a < 4 → ∀ b, b < 4 → a ≠ b → (TX4 a).2.1 ≠ (TX4 b).2.1 := by decide +kernel
theorem tyX4_ok : ∀ k, k < 4 → parseFieldDescriptor (TX4 k).2.2.1 = some (tyX4 k) := by decide +kernel
abbrev cX4_init : ByteArray := prog_6_method_1_code
def yX4_init : MethodName := ⟨RX4, "<init>", "()V"⟩
abbrev cX4_copyFrom : ByteArray := prog_6_method_2_code
def yX4_copyFrom : MethodName := ⟨RX4, "copyFrom", "(LTreeOdds$Row;)V"⟩
abbrev cX4_copySignsTo : ByteArray := prog_6_method_3_code
def yX4_copySignsTo : MethodName := ⟨RX4, "copySignsTo", "(LTreeOdds$Row;)V"⟩
def RX5 : String := "TreeOdds$States"
def TX5 : u_T := fun k => match k with
  | 0 => ("TreeOdds$States", "ring", "[LTreeOdds$State;", true)
  | 1 => ("TreeOdds$States", "size", "I", false)
  | _ => ("TreeOdds$States", "top", "I", false)
def tyX5 : Nat → FieldType := fun k => match k with
  | 0 => .array (.object "TreeOdds$State")
  | 1 => .int
  | _ => .int
abbrev wsX50 : List Cond := u_ws RX5 TX5 3
theorem nmX5 : ∀ a, a < 3 → ∀ b, b < 3 → a ≠ b → (TX5 a).2.1 ≠ (TX5 b).2.1 := by decide +kernel
theorem tyX5_ok : ∀ k, k < 3 → parseFieldDescriptor (TX5 k).2.2.1 = some (tyX5 k) := by decide +kernel
abbrev cX5_init : ByteArray := prog_7_method_1_code
def yX5_init : MethodName := ⟨RX5, "<init>", "()V"⟩
abbrev cX5_keep : ByteArray := prog_7_method_2_code
def yX5_keep : MethodName := ⟨RX5, "keep", "(LTreeOdds$Row;)V"⟩
abbrev cX5_release : ByteArray := prog_7_method_3_code
def yX5_release : MethodName := ⟨RX5, "release", "()LTreeOdds$State;"⟩
def RX6 : String := "TreeOdds$Text"
def TX6 : u_T := fun k => match k with
  | 0 => ("TreeOdds$Text", "bytes", "[I", true)
  | 1 => ("TreeOdds$Text", "signs", "[I", true)
  | 2 => ("TreeOdds$Text", "length", "I", false)
  | 3 => ("TreeOdds$Text", "found", "I", false)
  | 4 => ("TreeOdds$Text", "fault", "I", false)
  | 5 => ("TreeOdds$Text", "room", "I", false)
  | 6 => ("TreeOdds$Text", "cursor", "I", false)
  | _ => ("TreeOdds$Text", "groupStart", "I", false)
def tyX6 : Nat → FieldType := fun k => match k with
  | 0 => .array .int
  | 1 => .array .int
  | 2 => .int
  | 3 => .int
  | 4 => .int
  | 5 => .int
  | 6 => .int
  | _ => .int
abbrev wsX60 : List Cond := u_ws RX6 TX6 8
theorem nmX6 : ∀ a, a < 8 → ∀ b, b < 8 → a ≠ b → (TX6 a).2.1 ≠ (TX6 b).2.1 := by decide +kernel
theorem tyX6_ok : ∀ k, k < 8 → parseFieldDescriptor (TX6 k).2.2.1 = some (tyX6 k) := by decide +kernel
abbrev cX6_init : ByteArray := prog_8_method_1_code
def yX6_init : MethodName := ⟨RX6, "<init>", "()V"⟩
abbrev cX6_append : ByteArray := prog_8_method_2_code
def yX6_append : MethodName := ⟨RX6, "append", "(I)I"⟩
abbrev cX6_read : ByteArray := prog_8_method_3_code
def yX6_read : MethodName := ⟨RX6, "read", "(I)V"⟩
abbrev cX6_readPiece : ByteArray := prog_8_method_4_code
def yX6_readPiece : MethodName := ⟨RX6, "readPiece", "()V"⟩
abbrev cX6_readSigns : ByteArray := prog_8_method_5_code
def yX6_readSigns : MethodName := ⟨RX6, "readSigns", "(I)V"⟩
abbrev cX6_readGroupEnd : ByteArray := prog_8_method_6_code
def yX6_readGroupEnd : MethodName := ⟨RX6, "readGroupEnd", "()V"⟩
abbrev cX6_readTimes : ByteArray := prog_8_method_7_code
def yX6_readTimes : MethodName := ⟨RX6, "readTimes", "()I"⟩
abbrev cX6_skipBlanks : ByteArray := prog_8_method_8_code
def yX6_skipBlanks : MethodName := ⟨RX6, "skipBlanks", "()V"⟩
abbrev cX6_here : ByteArray := prog_8_method_9_code
def yX6_here : MethodName := ⟨RX6, "here", "()I"⟩
abbrev cX6_signAt : ByteArray := prog_8_method_10_code
def yX6_signAt : MethodName := ⟨RX6, "signAt", "(I)I"⟩
abbrev cX6_addSign : ByteArray := prog_8_method_11_code
def yX6_addSign : MethodName := ⟨RX6, "addSign", "(I)V"⟩
def RX7 : String := "TreeOdds$Writing"
def TX7 : u_T := fun k => match k with
  | 0 => ("TreeOdds$Writing", "bytes", "[I", true)
  | 1 => ("TreeOdds$Writing", "length", "I", false)
  | 2 => ("TreeOdds$Writing", "low", "J", false)
  | 3 => ("TreeOdds$Writing", "range", "J", false)
  | 4 => ("TreeOdds$Writing", "code", "J", false)
  | _ => ("TreeOdds$Writing", "nextByte", "I", false)
def tyX7 : Nat → FieldType := fun k => match k with
  | 0 => .array .int
  | 1 => .int
  | 2 => .long
  | 3 => .long
  | 4 => .long
  | _ => .int
abbrev wsX70 : List Cond := u_ws RX7 TX7 6
theorem nmX7 : ∀ a, a < 6 → ∀ b, b < 6 → a ≠ b → (TX7 a).2.1 ≠ (TX7 b).2.1 := by decide +kernel
theorem tyX7_ok : ∀ k, k < 6 → parseFieldDescriptor (TX7 k).2.2.1 = some (tyX7 k) := by decide +kernel
abbrev cX7_init : ByteArray := prog_9_method_1_code
def yX7_init : MethodName := ⟨RX7, "<init>", "()V"⟩
abbrev cX7_write : ByteArray := prog_9_method_2_code
def yX7_write : MethodName := ⟨RX7, "write", "(LTreeOdds$Row;)V"⟩
abbrev cX7_byteAt : ByteArray := prog_9_method_3_code
def yX7_byteAt : MethodName := ⟨RX7, "byteAt", "(I)I"⟩
abbrev cX7_spoil : ByteArray := prog_9_method_4_code
def yX7_spoil : MethodName := ⟨RX7, "spoil", "(II)V"⟩
abbrev cX7_readAgain : ByteArray := prog_9_method_5_code
def yX7_readAgain : MethodName := ⟨RX7, "readAgain", "(LTreeOdds$Row;LTreeOdds$Pasts;)I"⟩
abbrev cX7_writeSign : ByteArray := prog_9_method_6_code
def yX7_writeSign : MethodName := ⟨RX7, "writeSign", "(II)V"⟩
abbrev cX7_readSign : ByteArray := prog_9_method_7_code
def yX7_readSign : MethodName := ⟨RX7, "readSign", "(I)I"⟩
abbrev cX7_partOfOne : ByteArray := prog_9_method_8_code
def yX7_partOfOne : MethodName := ⟨RX7, "partOfOne", "(I)J"⟩
abbrev cX7_sendByte : ByteArray := prog_9_method_9_code
def yX7_sendByte : MethodName := ⟨RX7, "sendByte", "()V"⟩
abbrev cX7_carry : ByteArray := prog_9_method_10_code
def yX7_carry : MethodName := ⟨RX7, "carry", "()V"⟩
abbrev cX7_fetchByte : ByteArray := prog_9_method_11_code
def yX7_fetchByte : MethodName := ⟨RX7, "fetchByte", "()V"⟩
def RX8 : String := "TreeOdds"
def TX8 : u_T := fun k => match k with
  | 0 => ("TreeOdds", "row", "LTreeOdds$Row;", true)
  | 1 => ("TreeOdds", "spare", "LTreeOdds$Pasts;", true)
  | 2 => ("TreeOdds", "contest", "LTreeOdds$Contest;", true)
  | 3 => ("TreeOdds", "bestTree", "LTreeOdds$BestTree;", true)
  | 4 => ("TreeOdds", "writing", "LTreeOdds$Writing;", true)
  | 5 => ("TreeOdds", "text", "LTreeOdds$Text;", true)
  | 6 => ("TreeOdds", "states", "LTreeOdds$States;", true)
  | 7 => ("TreeOdds", "timesBad", "I", false)
  | 8 => ("TreeOdds", "timesNo", "I", false)
  | _ => ("TreeOdds", "timesFull", "I", false)
def tyX8 : Nat → FieldType := fun k => match k with
  | 0 => .object "TreeOdds$Row"
  | 1 => .object "TreeOdds$Pasts"
  | 2 => .object "TreeOdds$Contest"
  | 3 => .object "TreeOdds$BestTree"
  | 4 => .object "TreeOdds$Writing"
  | 5 => .object "TreeOdds$Text"
  | 6 => .object "TreeOdds$States"
  | 7 => .int
  | 8 => .int
  | _ => .int
abbrev wsX80 : List Cond := u_ws RX8 TX8 10
theorem nmX8 : ∀ a, a < 10 → ∀ b, b < 10 → a ≠ b → (TX8 a).2.1 ≠ (TX8 b).2.1 := by decide +kernel
theorem tyX8_ok : ∀ k, k < 10 → parseFieldDescriptor (TX8 k).2.2.1 = some (tyX8 k) := by decide +kernel
abbrev cX8_init : ByteArray := prog_1_method_1_code
def yX8_init : MethodName := ⟨RX8, "<init>", "()V"⟩
abbrev cX8_sign : ByteArray := prog_1_method_2_code
def yX8_sign : MethodName := ⟨RX8, "sign", "(I)I"⟩
abbrev cX8_signs : ByteArray := prog_1_method_3_code
def yX8_signs : MethodName := ⟨RX8, "signs", "(JI)I"⟩
abbrev cX8_draw : ByteArray := prog_1_method_4_code
def yX8_draw : MethodName := ⟨RX8, "draw", "(III)I"⟩
abbrev cX8_sets : ByteArray := prog_1_method_5_code
def yX8_sets : MethodName := ⟨RX8, "sets", "(II)I"⟩
abbrev cX8_empties : ByteArray := prog_1_method_6_code
def yX8_empties : MethodName := ⟨RX8, "empties", "()I"⟩
abbrev cX8_drop : ByteArray := prog_1_method_7_code
def yX8_drop : MethodName := ⟨RX8, "drop", "()I"⟩
abbrev cX8_at : ByteArray := prog_1_method_8_code
def yX8_at : MethodName := ⟨RX8, "at", "(I)I"⟩
abbrev cX8_guess : ByteArray := prog_1_method_9_code
def yX8_guess : MethodName := ⟨RX8, "guess", "()I"⟩
abbrev cX8_was : ByteArray := prog_1_method_10_code
def yX8_was : MethodName := ⟨RX8, "was", "(II)I"⟩
abbrev cX8_node : ByteArray := prog_1_method_11_code
def yX8_node : MethodName := ⟨RX8, "node", "(III)I"⟩
abbrev cX8_cost : ByteArray := prog_1_method_12_code
def yX8_cost : MethodName := ⟨RX8, "cost", "()I"⟩
abbrev cX8_costBy : ByteArray := prog_1_method_13_code
def yX8_costBy : MethodName := ⟨RX8, "costBy", "(II)I"⟩
abbrev cX8_best : ByteArray := prog_1_method_14_code
def yX8_best : MethodName := ⟨RX8, "best", "(I)I"⟩
abbrev cX8_follows : ByteArray := prog_1_method_15_code
def yX8_follows : MethodName := ⟨RX8, "follows", "(I)I"⟩
abbrev cX8_tree : ByteArray := prog_1_method_16_code
def yX8_tree : MethodName := ⟨RX8, "tree", "(I)I"⟩
abbrev cX8_leaf : ByteArray := prog_1_method_17_code
def yX8_leaf : MethodName := ⟨RX8, "leaf", "(II)I"⟩
abbrev cX8_written : ByteArray := prog_1_method_18_code
def yX8_written : MethodName := ⟨RX8, "written", "(I)I"⟩
abbrev cX8_reads : ByteArray := prog_1_method_19_code
def yX8_reads : MethodName := ⟨RX8, "reads", "(II)I"⟩
abbrev cX8_type : ByteArray := prog_1_method_20_code
def yX8_type : MethodName := ⟨RX8, "type", "(I)I"⟩
abbrev cX8_clear : ByteArray := prog_1_method_21_code
def yX8_clear : MethodName := ⟨RX8, "clear", "()I"⟩
abbrev cX8_told : ByteArray := prog_1_method_22_code
def yX8_told : MethodName := ⟨RX8, "told", "()I"⟩
abbrev cX8_back : ByteArray := prog_1_method_23_code
def yX8_back : MethodName := ⟨RX8, "back", "()I"⟩
abbrev cX8_count : ByteArray := prog_1_method_24_code
def yX8_count : MethodName := ⟨RX8, "count", "(I)I"⟩
abbrev cX8_digest : ByteArray := prog_1_method_25_code
def yX8_digest : MethodName := ⟨RX8, "digest", "()J"⟩
abbrev cX8_refuse : ByteArray := prog_1_method_26_code
def yX8_refuse : MethodName := ⟨RX8, "refuse", "(I)I"⟩
abbrev cX8_hasRoom : ByteArray := prog_1_method_27_code
def yX8_hasRoom : MethodName := ⟨RX8, "hasRoom", "(I)Z"⟩
abbrev cX8_within : ByteArray := prog_1_method_28_code
def yX8_within : MethodName := ⟨RX8, "within", "(III)Z"⟩
abbrev cX8_kept : ByteArray := prog_1_method_29_code
def yX8_kept : MethodName := ⟨RX8, "kept", "(JII)I"⟩
abbrev cX8_nodeOf : ByteArray := prog_1_method_30_code
def yX8_nodeOf : MethodName := ⟨RX8, "nodeOf", "(II)I"⟩
abbrev cX8_quotient : ByteArray := prog_1_method_31_code
def yX8_quotient : MethodName := ⟨RX8, "quotient", "(JJ)J"⟩
abbrev cX8_opinion : ByteArray := prog_1_method_32_code
def yX8_opinion : MethodName := ⟨RX8, "opinion", "(III)I"⟩
abbrev cX8_ofSign : ByteArray := prog_1_method_33_code
def yX8_ofSign : MethodName := ⟨RX8, "ofSign", "(II)I"⟩
abbrev cX8_bitsOf : ByteArray := prog_1_method_34_code
def yX8_bitsOf : MethodName := ⟨RX8, "bitsOf", "(I)I"⟩
def RX9 : String := "TreeOddsModel"
def TX9 : u_T := fun k => match k with
  | 0 => ("TreeOddsModel", "now", "[I", true)
  | 1 => ("TreeOddsModel", "past", "[I", true)
  | 2 => ("TreeOddsModel", "states", "I", false)
  | 3 => ("TreeOddsModel", "refused", "[I", true)
  | 4 => ("TreeOddsModel", "line", "[I", true)
  | 5 => ("TreeOddsModel", "came", "I", false)
  | 6 => ("TreeOddsModel", "byDepth", "I", false)
  | 7 => ("TreeOddsModel", "byGuesser", "I", false)
  | 8 => ("TreeOddsModel", "noughts", "[I", true)
  | 9 => ("TreeOddsModel", "ones", "[I", true)
  | 10 => ("TreeOddsModel", "weights", "[I", true)
  | 11 => ("TreeOddsModel", "ownCost", "[I", true)
  | 12 => ("TreeOddsModel", "way", "[I", true)
  | 13 => ("TreeOddsModel", "own", "[I", true)
  | 14 => ("TreeOddsModel", "mixed", "[I", true)
  | 15 => ("TreeOddsModel", "guessAt", "[I", true)
  | 16 => ("TreeOddsModel", "treeCost", "[I", true)
  | 17 => ("TreeOddsModel", "isLeaf", "[Z", true)
  | 18 => ("TreeOddsModel", "inTree", "[I", true)
  | 19 => ("TreeOddsModel", "out", "[I", true)
  | 20 => ("TreeOddsModel", "outLong", "I", false)
  | 21 => ("TreeOddsModel", "low", "J", false)
  | 22 => ("TreeOddsModel", "text", "[I", true)
  | 23 => ("TreeOddsModel", "textLong", "I", false)
  | 24 => ("TreeOddsModel", "place", "I", false)
  | 25 => ("TreeOddsModel", "read", "[I", true)
  | _ => ("TreeOddsModel", "readLong", "I", false)
def tyX9 : Nat → FieldType := fun k => match k with
  | 0 => .array .int
  | 1 => .array .int
  | 2 => .int
  | 3 => .array .int
  | 4 => .array .int
  | 5 => .int
  | 6 => .int
  | 7 => .int
  | 8 => .array .int
  | 9 => .array .int
  | 10 => .array .int
  | 11 => .array .int
  | 12 => .array .int
  | 13 => .array .int
  | 14 => .array .int
  | 15 => .array .int
  | 16 => .array .int
  | 17 => .array .boolean
  | 18 => .array .int
  | 19 => .array .int
  | 20 => .int
  | 21 => .long
  | 22 => .array .int
  | 23 => .int
  | 24 => .int
  | 25 => .array .int
  | _ => .int
abbrev wsX90 : List Cond := u_ws RX9 TX9 27
theorem nmX9 : ∀ a, a < 27 → ∀ b, b < 27 → a ≠ b → (TX9 a).2.1 ≠ (TX9 b).2.1 := by decide +kernel
theorem tyX9_ok : ∀ k, k < 27 → parseFieldDescriptor (TX9 k).2.2.1 = some (tyX9 k) := by decide +kernel
abbrev cX9_init : ByteArray := prog_11_method_1_code
def yX9_init : MethodName := ⟨RX9, "<init>", "()V"⟩
abbrev cX9_in : ByteArray := prog_11_method_3_code
def yX9_in : MethodName := ⟨RX9, "in", "(JJJ)Z"⟩
abbrev cX9_bad : ByteArray := prog_11_method_4_code
def yX9_bad : MethodName := ⟨RX9, "bad", "(I)I"⟩
abbrev cX9_no : ByteArray := prog_11_method_5_code
def yX9_no : MethodName := ⟨RX9, "no", "()I"⟩
abbrev cX9_full : ByteArray := prog_11_method_6_code
def yX9_full : MethodName := ⟨RX9, "full", "()I"⟩
abbrev cX9_many : ByteArray := prog_11_method_7_code
def yX9_many : MethodName := ⟨RX9, "many", "()I"⟩
abbrev cX9_depth : ByteArray := prog_11_method_8_code
def yX9_depth : MethodName := ⟨RX9, "depth", "()I"⟩
abbrev cX9_guesser : ByteArray := prog_11_method_9_code
def yX9_guesser : MethodName := ⟨RX9, "guesser", "()I"⟩
abbrev cX9_keep : ByteArray := prog_11_method_10_code
def yX9_keep : MethodName := ⟨RX9, "keep", "()V"⟩
abbrev cX9_begins : ByteArray := prog_11_method_11_code
def yX9_begins : MethodName := ⟨RX9, "begins", "(II)V"⟩
abbrev cX9_held : ByteArray := prog_11_method_12_code
def yX9_held : MethodName := ⟨RX9, "held", "(J)I"⟩
abbrev cX9_ownOf : ByteArray := prog_11_method_13_code
def yX9_ownOf : MethodName := ⟨RX9, "ownOf", "(I)I"⟩
abbrev cX9_nodeOf : ByteArray := prog_11_method_14_code
def yX9_nodeOf : MethodName := ⟨RX9, "nodeOf", "(II)I"⟩
abbrev cX9_guesses : ByteArray := prog_11_method_15_code
def yX9_guesses : MethodName := ⟨RX9, "guesses", "()I"⟩
abbrev cX9_odds : ByteArray := prog_11_method_16_code
def yX9_odds : MethodName := ⟨RX9, "odds", "(II)I"⟩
abbrev cX9_bitsOf : ByteArray := prog_11_method_17_code
def yX9_bitsOf : MethodName := ⟨RX9, "bitsOf", "(I)I"⟩
abbrev cX9_comes : ByteArray := prog_11_method_18_code
def yX9_comes : MethodName := ⟨RX9, "comes", "(I)V"⟩
abbrev cX9_goes : ByteArray := prog_11_method_19_code
def yX9_goes : MethodName := ⟨RX9, "goes", "(II)I"⟩
abbrev cX9_goesNow : ByteArray := prog_11_method_20_code
def yX9_goesNow : MethodName := ⟨RX9, "goesNow", "()I"⟩
abbrev cX9_costAt : ByteArray := prog_11_method_21_code
def yX9_costAt : MethodName := ⟨RX9, "costAt", "(I)I"⟩
abbrev cX9_adds : ByteArray := prog_11_method_22_code
def yX9_adds : MethodName := ⟨RX9, "adds", "(I)V"⟩
abbrev cX9_costFrom : ByteArray := prog_11_method_23_code
def yX9_costFrom : MethodName := ⟨RX9, "costFrom", "(I)I"⟩
abbrev cX9_sign : ByteArray := prog_11_method_24_code
def yX9_sign : MethodName := ⟨RX9, "sign", "(I)I"⟩
abbrev cX9_signs : ByteArray := prog_11_method_25_code
def yX9_signs : MethodName := ⟨RX9, "signs", "(JI)I"⟩
abbrev cX9_draw : ByteArray := prog_11_method_26_code
def yX9_draw : MethodName := ⟨RX9, "draw", "(III)I"⟩
abbrev cX9_sets : ByteArray := prog_11_method_27_code
def yX9_sets : MethodName := ⟨RX9, "sets", "(II)I"⟩
abbrev cX9_empties : ByteArray := prog_11_method_28_code
def yX9_empties : MethodName := ⟨RX9, "empties", "()I"⟩
abbrev cX9_drop : ByteArray := prog_11_method_29_code
def yX9_drop : MethodName := ⟨RX9, "drop", "()I"⟩
abbrev cX9_at : ByteArray := prog_11_method_30_code
def yX9_at : MethodName := ⟨RX9, "at", "(I)I"⟩
abbrev cX9_guessNow : ByteArray := prog_11_method_31_code
def yX9_guessNow : MethodName := ⟨RX9, "guessNow", "()I"⟩
abbrev cX9_guess : ByteArray := prog_11_method_32_code
def yX9_guess : MethodName := ⟨RX9, "guess", "()I"⟩
abbrev cX9_was : ByteArray := prog_11_method_33_code
def yX9_was : MethodName := ⟨RX9, "was", "(II)I"⟩
abbrev cX9_isNode : ByteArray := prog_11_method_34_code
def yX9_isNode : MethodName := ⟨RX9, "isNode", "(II)Z"⟩
abbrev cX9_node : ByteArray := prog_11_method_35_code
def yX9_node : MethodName := ⟨RX9, "node", "(III)I"⟩
abbrev cX9_cost : ByteArray := prog_11_method_36_code
def yX9_cost : MethodName := ⟨RX9, "cost", "()I"⟩
abbrev cX9_costBy : ByteArray := prog_11_method_37_code
def yX9_costBy : MethodName := ⟨RX9, "costBy", "(II)I"⟩
abbrev cX9_best : ByteArray := prog_11_method_38_code
def yX9_best : MethodName := ⟨RX9, "best", "(I)I"⟩
abbrev cX9_follows : ByteArray := prog_11_method_39_code
def yX9_follows : MethodName := ⟨RX9, "follows", "(I)I"⟩
abbrev cX9_plants : ByteArray := prog_11_method_40_code
def yX9_plants : MethodName := ⟨RX9, "plants", "()V"⟩
abbrev cX9_leaves : ByteArray := prog_11_method_41_code
def yX9_leaves : MethodName := ⟨RX9, "leaves", "(Z)I"⟩
abbrev cX9_treeOf : ByteArray := prog_11_method_42_code
def yX9_treeOf : MethodName := ⟨RX9, "treeOf", "(I)I"⟩
abbrev cX9_tree : ByteArray := prog_11_method_43_code
def yX9_tree : MethodName := ⟨RX9, "tree", "(I)I"⟩
abbrev cX9_leaf : ByteArray := prog_11_method_44_code
def yX9_leaf : MethodName := ⟨RX9, "leaf", "(II)I"⟩
abbrev cX9_goesOut : ByteArray := prog_11_method_45_code
def yX9_goesOut : MethodName := ⟨RX9, "goesOut", "()V"⟩
abbrev cX9_writes : ByteArray := prog_11_method_46_code
def yX9_writes : MethodName := ⟨RX9, "writes", "()V"⟩
abbrev cX9_written : ByteArray := prog_11_method_47_code
def yX9_written : MethodName := ⟨RX9, "written", "(I)I"⟩
abbrev cX9_byteAt : ByteArray := prog_11_method_48_code
def yX9_byteAt : MethodName := ⟨RX9, "byteAt", "(I)I"⟩
abbrev cX9_reads : ByteArray := prog_11_method_49_code
def yX9_reads : MethodName := ⟨RX9, "reads", "(II)I"⟩
abbrev cX9_type : ByteArray := prog_11_method_50_code
def yX9_type : MethodName := ⟨RX9, "type", "(I)I"⟩
abbrev cX9_clear : ByteArray := prog_11_method_51_code
def yX9_clear : MethodName := ⟨RX9, "clear", "()I"⟩
abbrev cX9_here : ByteArray := prog_11_method_52_code
def yX9_here : MethodName := ⟨RX9, "here", "()I"⟩
abbrev cX9_isFigure : ByteArray := prog_11_method_53_code
def yX9_isFigure : MethodName := ⟨RX9, "isFigure", "(I)Z"⟩
abbrev cX9_times : ByteArray := prog_11_method_54_code
def yX9_times : MethodName := ⟨RX9, "times", "()I"⟩
abbrev cX9_readsSign : ByteArray := prog_11_method_55_code
def yX9_readsSign : MethodName := ⟨RX9, "readsSign", "()Z"⟩
abbrev cX9_readsMany : ByteArray := prog_11_method_56_code
def yX9_readsMany : MethodName := ⟨RX9, "readsMany", "()Z"⟩
abbrev cX9_told : ByteArray := prog_11_method_57_code
def yX9_told : MethodName := ⟨RX9, "told", "()I"⟩
abbrev cX9_back : ByteArray := prog_11_method_58_code
def yX9_back : MethodName := ⟨RX9, "back", "()I"⟩
abbrev cX9_counted : ByteArray := prog_11_method_59_code
def yX9_counted : MethodName := ⟨RX9, "counted", "(I)I"⟩
abbrev cX9_count : ByteArray := prog_11_method_60_code
def yX9_count : MethodName := ⟨RX9, "count", "(I)I"⟩
abbrev cX9_digest : ByteArray := prog_11_method_61_code
def yX9_digest : MethodName := ⟨RX9, "digest", "()J"⟩
def RJ9 : String := "java/lang/Math"
def TJ9 : u_T := fun k => match k with
  | _ => ("", "", "", false)
def tyJ9 : Nat → FieldType := fun k => match k with
  | _ => .int
abbrev wsJ90 : List Cond := u_ws RJ9 TJ9 0
theorem nmJ9 : ∀ a, a < 0 → ∀ b, b < 0 → a ≠ b → (TJ9 a).2.1 ≠ (TJ9 b).2.1 := by decide +kernel
theorem tyJ9_ok : ∀ k, k < 0 → parseFieldDescriptor (TJ9 k).2.2.1 = some (tyJ9 k) := by decide +kernel
abbrev cJ9_max_7cf53 : ByteArray := prog_12_method_65_code
def yJ9_max_7cf53 : MethodName := ⟨RJ9, "max", "(II)I"⟩
abbrev cJ9_min_7cf53 : ByteArray := prog_12_method_69_code
def yJ9_min_7cf53 : MethodName := ⟨RJ9, "min", "(II)I"⟩
def RL : String := "TreeOddsLaw"
abbrev cL_law : ByteArray := code
def yL_law : MethodName := ⟨RL, "law", "([I)Z"⟩
end
section
def wsL_law_r1 : List Cond := [Cond.classLink RL 7 RX8, Cond.instantiable RX8 10, Cond.initialized RX8, Cond.classLink RL 10 RX9, Cond.instantiable RX9 27, Cond.initialized RX9, Cond.constantLong RL 18 (4294967295), Cond.methodLink RL 9 yX8_init, Cond.instanceMethod yX8_init, Cond.code yX8_init cX8_init 1 none, Cond.methodLink RX8 3 objectInit, Cond.instanceMethod objectInit, Cond.code objectInit ⟨#[0xb1]⟩ 1 none, Cond.classLink RX8 9 RX3, Cond.instantiable RX3 6, Cond.initialized RX3, Cond.fieldLink RX8 12 "TreeOdds" "row" "LTreeOdds$Row;", Cond.classLink RX8 16 RX2, Cond.instantiable RX2 9, Cond.initialized RX2, Cond.fieldLink RX8 19 "TreeOdds" "spare" "LTreeOdds$Pasts;", Cond.classLink RX8 23 RX1, Cond.instantiable RX1 5, Cond.initialized RX1]
def wsL_law_r2 : List Cond := [Cond.fieldLink RX8 26 "TreeOdds" "contest" "LTreeOdds$Contest;", Cond.classLink RX8 30 RX0, Cond.instantiable RX0 4, Cond.initialized RX0, Cond.fieldLink RX8 33 "TreeOdds" "bestTree" "LTreeOdds$BestTree;", Cond.classLink RX8 37 RX7, Cond.instantiable RX7 6, Cond.initialized RX7, Cond.fieldLink RX8 40 "TreeOdds" "writing" "LTreeOdds$Writing;", Cond.classLink RX8 44 RX6, Cond.instantiable RX6 8, Cond.initialized RX6, Cond.fieldLink RX8 47 "TreeOdds" "text" "LTreeOdds$Text;", Cond.classLink RX8 51 RX5, Cond.instantiable RX5 3, Cond.initialized RX5, Cond.fieldLink RX8 54 "TreeOdds" "states" "LTreeOdds$States;", Cond.fieldLink RX8 58 "TreeOdds" "timesBad" "I", Cond.fieldLink RX8 62 "TreeOdds" "timesNo" "I", Cond.fieldLink RX8 65 "TreeOdds" "timesFull" "I", Cond.instanceMethod yX3_init, Cond.code yX3_init cX3_init 1 none, Cond.methodLink RX3 3 objectInit, Cond.arrayClass .int]
def wsL_law_r3 : List Cond := [Cond.fieldLink RX3 9 "TreeOdds$Row" "signs" "[I", Cond.fieldLink RX3 15 "TreeOdds$Row" "foretold" "[I", Cond.fieldLink RX3 18 "TreeOdds$Row" "paid" "[I", Cond.classLink RX3 21 RX2, Cond.fieldLink RX3 24 "TreeOdds$Row" "pasts" "LTreeOdds$Pasts;", Cond.fieldLink RX3 28 "TreeOdds$Row" "length" "I", Cond.fieldLink RX3 32 "TreeOdds$Row" "paidInAll" "I", Cond.methodLink RX3 23 yX2_init, Cond.instanceMethod yX2_init, Cond.code yX2_init cX2_init 1 none, Cond.methodLink RX2 3 objectInit, Cond.fieldLink RX2 9 "TreeOdds$Pasts" "zeros" "[I", Cond.fieldLink RX2 15 "TreeOdds$Pasts" "ones" "[I", Cond.fieldLink RX2 18 "TreeOdds$Pasts" "weights" "[I", Cond.fieldLink RX2 21 "TreeOdds$Pasts" "paidAlone" "[I", Cond.fieldLink RX2 24 "TreeOdds$Pasts" "owns" "[I", Cond.fieldLink RX2 27 "TreeOdds$Pasts" "guesses" "[I", Cond.fieldLink RX2 30 "TreeOdds$Pasts" "depth" "I", Cond.fieldLink RX2 34 "TreeOdds$Pasts" "guesser" "I", Cond.fieldLink RX2 37 "TreeOdds$Pasts" "past" "I", Cond.methodLink RX2 40 yX2_begin, Cond.instanceMethod yX2_begin, Cond.selects RX2 yX2_begin yX2_begin, Cond.code yX2_begin cX2_begin 4 none]
def wsL_law_r4 : List Cond := [Cond.constant RX2 52 (32768), Cond.static yX8_kept, Cond.code yX8_kept cX8_kept 4 (some .int), Cond.static yX8_nodeOf, Cond.code yX8_nodeOf cX8_nodeOf 3 (some .int), Cond.methodLink RX8 248 yX8_kept, Cond.methodLink RX2 53 yX2_lookAhead, Cond.instanceMethod yX2_lookAhead, Cond.selects RX2 yX2_lookAhead yX2_lookAhead, Cond.code yX2_lookAhead cX2_lookAhead 3 none, Cond.static yX8_opinion, Cond.code yX8_opinion cX8_opinion 7 (some .int), Cond.constantLong RX8 94 (65536), Cond.constant RX8 256 (65535), Cond.methodLink RX8 252 yX8_quotient, Cond.static yX8_quotient, Cond.code yX8_quotient cX8_quotient 4 (some .long), Cond.methodLink RX2 78 yX2_mix, Cond.instanceMethod yX2_mix, Cond.selects RX2 yX2_mix yX2_mix, Cond.code yX2_mix cX2_mix 7 (some .int), Cond.constantLong RX2 81 (65536), Cond.constant RX2 83 (65535), Cond.methodLink RX8 18 yX2_init]
def wsL_law_r5 : List Cond := [Cond.instanceMethod yX1_init, Cond.code yX1_init cX1_init 1 none, Cond.methodLink RX1 3 objectInit, Cond.fieldLink RX1 9 "TreeOdds$Contest" "judged" "[I", Cond.fieldLink RX1 15 "TreeOdds$Contest" "length" "I", Cond.fieldLink RX1 19 "TreeOdds$Contest" "depth" "I", Cond.fieldLink RX1 22 "TreeOdds$Contest" "guesser" "I", Cond.fieldLink RX1 25 "TreeOdds$Contest" "price" "I", Cond.instanceMethod yX0_init, Cond.code yX0_init cX0_init 1 none, Cond.methodLink RX0 3 objectInit, Cond.fieldLink RX0 9 "TreeOdds$BestTree" "prices" "[I", Cond.fieldLink RX0 15 "TreeOdds$BestTree" "kinds" "[I", Cond.fieldLink RX0 18 "TreeOdds$BestTree" "leaves" "I", Cond.fieldLink RX0 22 "TreeOdds$BestTree" "deepest" "I", Cond.instanceMethod yX7_init, Cond.code yX7_init cX7_init 1 none, Cond.methodLink RX7 3 objectInit, Cond.fieldLink RX7 9 "TreeOdds$Writing" "bytes" "[I", Cond.fieldLink RX7 15 "TreeOdds$Writing" "length" "I", Cond.fieldLink RX7 19 "TreeOdds$Writing" "low" "J", Cond.constantLong RX7 23 (4294967296), Cond.fieldLink RX7 25 "TreeOdds$Writing" "range" "J", Cond.fieldLink RX7 28 "TreeOdds$Writing" "code" "J"]
def wsL_law_r6 : List Cond := [Cond.fieldLink RX7 31 "TreeOdds$Writing" "nextByte" "I", Cond.instanceMethod yX6_init, Cond.code yX6_init cX6_init 1 none, Cond.methodLink RX6 3 objectInit, Cond.fieldLink RX6 9 "TreeOdds$Text" "bytes" "[I", Cond.fieldLink RX6 15 "TreeOdds$Text" "signs" "[I", Cond.fieldLink RX6 18 "TreeOdds$Text" "length" "I", Cond.fieldLink RX6 22 "TreeOdds$Text" "found" "I", Cond.fieldLink RX6 25 "TreeOdds$Text" "fault" "I", Cond.fieldLink RX6 28 "TreeOdds$Text" "room" "I", Cond.fieldLink RX6 31 "TreeOdds$Text" "cursor" "I", Cond.fieldLink RX6 34 "TreeOdds$Text" "groupStart" "I", Cond.methodLink RX8 53 yX5_init, Cond.instanceMethod yX5_init, Cond.code yX5_init cX5_init 2 none, Cond.methodLink RX5 3 objectInit, Cond.classLink RX5 9 RX4, Cond.fieldLink RX5 11 "TreeOdds$States" "ring" "[LTreeOdds$State;", Cond.fieldLink RX5 17 "TreeOdds$States" "size" "I", Cond.fieldLink RX5 21 "TreeOdds$States" "top" "I", Cond.instantiable RX4 4, Cond.initialized RX4, Cond.instanceMethod yX4_init, Cond.code yX4_init cX4_init 1 none]
def wsL_law_r7 : List Cond := [Cond.methodLink RX4 3 objectInit, Cond.fieldLink RX4 9 "TreeOdds$State" "signs" "[I", Cond.fieldLink RX4 15 "TreeOdds$State" "length" "I", Cond.fieldLink RX4 19 "TreeOdds$State" "depth" "I", Cond.fieldLink RX4 22 "TreeOdds$State" "guesser" "I", Cond.methodLink RL 12 yX9_init, Cond.instanceMethod yX9_init, Cond.code yX9_init cX9_init 1 none, Cond.methodLink RX9 1 objectInit, Cond.fieldLink RX9 7 "TreeOddsModel" "now" "[I", Cond.fieldLink RX9 13 "TreeOddsModel" "past" "[I", Cond.fieldLink RX9 16 "TreeOddsModel" "refused" "[I", Cond.fieldLink RX9 19 "TreeOddsModel" "line" "[I", Cond.fieldLink RX9 22 "TreeOddsModel" "noughts" "[I", Cond.fieldLink RX9 25 "TreeOddsModel" "ones" "[I", Cond.fieldLink RX9 28 "TreeOddsModel" "weights" "[I", Cond.fieldLink RX9 31 "TreeOddsModel" "ownCost" "[I", Cond.fieldLink RX9 34 "TreeOddsModel" "way" "[I", Cond.fieldLink RX9 37 "TreeOddsModel" "own" "[I", Cond.fieldLink RX9 40 "TreeOddsModel" "mixed" "[I", Cond.fieldLink RX9 43 "TreeOddsModel" "guessAt" "[I", Cond.fieldLink RX9 46 "TreeOddsModel" "treeCost" "[I", Cond.arrayClass .boolean, Cond.fieldLink RX9 49 "TreeOddsModel" "isLeaf" "[Z"]
def wsL_law_r8 : List Cond := [Cond.fieldLink RX9 53 "TreeOddsModel" "inTree" "[I", Cond.fieldLink RX9 56 "TreeOddsModel" "out" "[I", Cond.fieldLink RX9 59 "TreeOddsModel" "text" "[I", Cond.fieldLink RX9 62 "TreeOddsModel" "read" "[I", Cond.methodLink RL 13 yX8_sign, Cond.instanceMethod yX8_sign, Cond.selects RX8 yX8_sign yX8_sign, Cond.code yX8_sign cX8_sign 2 (some .int), Cond.methodLink RX8 68 yX8_within, Cond.static yX8_within, Cond.code yX8_within cX8_within 3 (some .boolean), Cond.methodLink RX8 72 yX8_refuse, Cond.instanceMethod yX8_refuse, Cond.selects RX8 yX8_refuse yX8_refuse, Cond.code yX8_refuse cX8_refuse 2 (some .int), Cond.methodLink RX8 76 yX8_hasRoom, Cond.instanceMethod yX8_hasRoom, Cond.selects RX8 yX8_hasRoom yX8_hasRoom, Cond.code yX8_hasRoom cX8_hasRoom 2 (some .boolean), Cond.fieldLink RX8 107 "TreeOdds$Row" "length" "I", Cond.methodLink RX8 80 yX5_keep, Cond.instanceMethod yX5_keep, Cond.selects RX5 yX5_keep yX5_keep, Cond.code yX5_keep cX5_keep 2 none]
def wsL_law_r9 : List Cond := [Cond.methodLink RX5 25 Lib.Math.min.name, Cond.static Lib.Math.min.name, Cond.initialized "java/lang/Math", Cond.code Lib.Math.min.name Lib.Math.min.code 2 (some .int), Cond.methodLink RX5 31 yX4_copyFrom, Cond.instanceMethod yX4_copyFrom, Cond.selects RX4 yX4_copyFrom yX4_copyFrom, Cond.code yX4_copyFrom cX4_copyFrom 3 none, Cond.fieldLink RX4 25 "TreeOdds$Row" "length" "I", Cond.fieldLink RX4 28 "TreeOdds$Row" "pasts" "LTreeOdds$Pasts;", Cond.fieldLink RX4 32 "TreeOdds$Pasts" "depth" "I", Cond.fieldLink RX4 35 "TreeOdds$Pasts" "guesser" "I", Cond.fieldLink RX4 36 "TreeOdds$Row" "signs" "[I", Cond.methodLink RX8 84 yX3_put, Cond.instanceMethod yX3_put, Cond.selects RX3 yX3_put yX3_put, Cond.code yX3_put cX3_put 2 (some .int), Cond.methodLink RX3 39 yX2_next, Cond.instanceMethod yX2_next, Cond.selects RX2 yX2_next yX2_next, Cond.code yX2_next cX2_next 1 (some .int), Cond.static yX8_ofSign, Cond.code yX8_ofSign cX8_ofSign 2 (some .int), Cond.constant RX8 148 (65536)]
def wsL_law_r10 : List Cond := [Cond.static yX8_bitsOf, Cond.code yX8_bitsOf cX8_bitsOf 3 (some .int), Cond.methodLink RX3 51 yX2_take, Cond.instanceMethod yX2_take, Cond.selects RX2 yX2_take yX2_take, Cond.code yX2_take cX2_take 4 none, Cond.methodLink RX2 67 yX2_weighAnew, Cond.instanceMethod yX2_weighAnew, Cond.selects RX2 yX2_weighAnew yX2_weighAnew, Cond.code yX2_weighAnew cX2_weighAnew 10 none, Cond.constant RX2 88 (65472), Cond.methodLink RX2 71 yX2_tally, Cond.instanceMethod yX2_tally, Cond.selects RX2 yX2_tally yX2_tally, Cond.code yX2_tally cX2_tally 3 none, Cond.methodLink RL 17 yX9_sign, Cond.instanceMethod yX9_sign, Cond.selects RX9 yX9_sign yX9_sign, Cond.code yX9_sign cX9_sign 2 (some .int), Cond.methodLink RX9 138 yX9_in, Cond.static yX9_in, Cond.code yX9_in cX9_in 6 (some .boolean), Cond.methodLink RX9 142 yX9_bad, Cond.instanceMethod yX9_bad]
def wsL_law_r11 : List Cond := [Cond.selects RX9 yX9_bad yX9_bad, Cond.code yX9_bad cX9_bad 2 (some .int), Cond.methodLink RX9 112 yX9_many, Cond.instanceMethod yX9_many, Cond.selects RX9 yX9_many yX9_many, Cond.code yX9_many cX9_many 1 (some .int), Cond.methodLink RX9 145 yX9_full, Cond.instanceMethod yX9_full, Cond.selects RX9 yX9_full yX9_full, Cond.code yX9_full cX9_full 1 (some .int), Cond.methodLink RX9 148 yX9_keep, Cond.instanceMethod yX9_keep, Cond.selects RX9 yX9_keep yX9_keep, Cond.code yX9_keep cX9_keep 2 none, Cond.fieldLink RX9 65 "TreeOddsModel" "states" "I", Cond.methodLink RX9 151 yX9_adds, Cond.instanceMethod yX9_adds, Cond.selects RX9 yX9_adds yX9_adds, Cond.code yX9_adds cX9_adds 2 none, Cond.methodLink RX9 154 yX9_costFrom, Cond.instanceMethod yX9_costFrom, Cond.selects RX9 yX9_costFrom yX9_costFrom, Cond.code yX9_costFrom cX9_costFrom 5 (some .int), Cond.methodLink RX9 132 yX9_goesNow]
def wsL_law_r12 : List Cond := [Cond.instanceMethod yX9_goesNow, Cond.selects RX9 yX9_goesNow yX9_goesNow, Cond.code yX9_goesNow cX9_goesNow 1 (some .int), Cond.methodLink RX9 123 yX9_depth, Cond.instanceMethod yX9_depth, Cond.selects RX9 yX9_depth yX9_depth, Cond.code yX9_depth cX9_depth 1 (some .int), Cond.methodLink RX9 126 yX9_guesser, Cond.instanceMethod yX9_guesser, Cond.selects RX9 yX9_guesser yX9_guesser, Cond.code yX9_guesser cX9_guesser 1 (some .int), Cond.methodLink RX9 129 yX9_goes, Cond.instanceMethod yX9_goes, Cond.selects RX9 yX9_goes yX9_goes, Cond.code yX9_goes cX9_goes 5 (some .int), Cond.methodLink RX9 108 yX9_begins, Cond.instanceMethod yX9_begins, Cond.selects RX9 yX9_begins yX9_begins, Cond.code yX9_begins cX9_begins 4 none, Cond.fieldLink RX9 69 "TreeOddsModel" "came" "I", Cond.fieldLink RX9 72 "TreeOddsModel" "byDepth" "I", Cond.fieldLink RX9 75 "TreeOddsModel" "byGuesser" "I", Cond.constant RX9 78 (32768), Cond.methodLink RX9 116 yX9_guesses]
def wsL_law_r13 : List Cond := [Cond.instanceMethod yX9_guesses, Cond.selects RX9 yX9_guesses yX9_guesses, Cond.code yX9_guesses cX9_guesses 5 (some .int), Cond.constantLong RX9 82 (65536), Cond.methodLink RX9 88 yX9_nodeOf, Cond.static yX9_nodeOf, Cond.code yX9_nodeOf cX9_nodeOf 2 (some .int), Cond.methodLink RX9 92 yX9_ownOf, Cond.instanceMethod yX9_ownOf, Cond.selects RX9 yX9_ownOf yX9_ownOf, Cond.code yX9_ownOf cX9_ownOf 6 (some .int), Cond.methodLink RX9 84 yX9_held, Cond.static yX9_held, Cond.code yX9_held cX9_held 2 (some .int), Cond.constantLong RX9 79 (65535), Cond.constant RX9 81 (65535), Cond.methodLink RX9 97 yX9_odds, Cond.static yX9_odds, Cond.code yX9_odds cX9_odds 2 (some .int), Cond.constant RX9 96 (65536), Cond.methodLink RX9 105 yX9_bitsOf, Cond.static yX9_bitsOf, Cond.code yX9_bitsOf cX9_bitsOf 4 (some .int), Cond.methodLink RX9 119 yX9_comes]
def wsL_law_r14 : List Cond := [Cond.instanceMethod yX9_comes, Cond.selects RX9 yX9_comes yX9_comes, Cond.code yX9_comes cX9_comes 11 none, Cond.constantLong RX9 100 (64), Cond.constantLong RX9 102 (65472), Cond.constant RX9 104 (65472), Cond.methodLink RX9 135 yX9_costAt, Cond.instanceMethod yX9_costAt, Cond.selects RX9 yX9_costAt yX9_costAt, Cond.code yX9_costAt cX9_costAt 2 (some .int), Cond.methodLink RL 20 yX8_signs, Cond.instanceMethod yX8_signs, Cond.selects RX8 yX8_signs yX8_signs, Cond.code yX8_signs cX8_signs 6 (some .int), Cond.methodLink RL 24 yX9_signs, Cond.instanceMethod yX9_signs, Cond.selects RX9 yX9_signs yX9_signs, Cond.code yX9_signs cX9_signs 6 (some .int), Cond.methodLink RL 25 yX8_draw, Cond.instanceMethod yX8_draw, Cond.selects RX8 yX8_draw yX8_draw, Cond.code yX8_draw cX8_draw 9 (some .int), Cond.constant RX8 87 (999999), Cond.constantLong RX8 88 (1103515245)]
def wsL_law_r15 : List Cond := [Cond.constantLong RX8 90 (12345), Cond.constantLong RX8 92 (2147483648), Cond.constantLong RX8 96 (100), Cond.methodLink RL 29 yX9_draw, Cond.instanceMethod yX9_draw, Cond.selects RX9 yX9_draw yX9_draw, Cond.code yX9_draw cX9_draw 9 (some .int), Cond.constantLong RX9 157 (999999), Cond.constantLong RX9 159 (100), Cond.constantLong RX9 161 (1103515245), Cond.constantLong RX9 163 (12345), Cond.constantLong RX9 165 (2147483648), Cond.methodLink RL 30 yX8_sets, Cond.instanceMethod yX8_sets, Cond.selects RX8 yX8_sets yX8_sets, Cond.code yX8_sets cX8_sets 5 (some .int), Cond.fieldLink RX8 98 "TreeOdds$Row" "pasts" "LTreeOdds$Pasts;", Cond.fieldLink RX8 101 "TreeOdds$Pasts" "depth" "I", Cond.fieldLink RX8 104 "TreeOdds$Pasts" "guesser" "I", Cond.methodLink RX8 110 yX3_comeAnew, Cond.instanceMethod yX3_comeAnew, Cond.selects RX3 yX3_comeAnew yX3_comeAnew, Cond.code yX3_comeAnew cX3_comeAnew 6 none, Cond.methodLink RX3 59 yX2_begin]
def wsL_law_r16 : List Cond := [Cond.methodLink RX3 63 yX3_put, Cond.methodLink RL 34 yX9_sets, Cond.instanceMethod yX9_sets, Cond.selects RX9 yX9_sets yX9_sets, Cond.code yX9_sets cX9_sets 4 (some .int), Cond.constantLong RX9 167 (6), Cond.constantLong RX9 169 (3), Cond.methodLink RL 35 yX8_empties, Cond.instanceMethod yX8_empties, Cond.selects RX8 yX8_empties yX8_empties, Cond.code yX8_empties cX8_empties 2 (some .int), Cond.methodLink RL 39 yX9_empties, Cond.instanceMethod yX9_empties, Cond.selects RX9 yX9_empties yX9_empties, Cond.code yX9_empties cX9_empties 2 (some .int), Cond.methodLink RL 40 yX8_drop, Cond.instanceMethod yX8_drop, Cond.selects RX8 yX8_drop yX8_drop, Cond.code yX8_drop cX8_drop 1 (some .int), Cond.methodLink RL 43 yX9_drop, Cond.instanceMethod yX9_drop, Cond.selects RX9 yX9_drop yX9_drop, Cond.code yX9_drop cX9_drop 1 (some .int), Cond.methodLink RX9 171 yX9_no]
def wsL_law_r17 : List Cond := [Cond.instanceMethod yX9_no, Cond.selects RX9 yX9_no yX9_no, Cond.code yX9_no cX9_no 1 (some .int), Cond.methodLink RL 44 yX8_at, Cond.instanceMethod yX8_at, Cond.selects RX8 yX8_at yX8_at, Cond.code yX8_at cX8_at 2 (some .int), Cond.fieldLink RX8 117 "TreeOdds$Row" "signs" "[I", Cond.methodLink RX8 114 yX3_has, Cond.instanceMethod yX3_has, Cond.selects RX3 yX3_has yX3_has, Cond.code yX3_has cX3_has 2 (some .boolean), Cond.methodLink RL 47 yX9_at, Cond.instanceMethod yX9_at, Cond.selects RX9 yX9_at yX9_at, Cond.code yX9_at cX9_at 2 (some .int), Cond.methodLink RL 48 yX8_guess, Cond.instanceMethod yX8_guess, Cond.selects RX8 yX8_guess yX8_guess, Cond.code yX8_guess cX8_guess 1 (some .int), Cond.methodLink RX8 121 yX2_next, Cond.methodLink RL 51 yX9_guess, Cond.instanceMethod yX9_guess, Cond.selects RX9 yX9_guess yX9_guess]
def wsL_law_r18 : List Cond := [Cond.code yX9_guess cX9_guess 1 (some .int), Cond.methodLink RX9 174 yX9_guessNow, Cond.instanceMethod yX9_guessNow, Cond.selects RX9 yX9_guessNow yX9_guessNow, Cond.code yX9_guessNow cX9_guessNow 2 (some .int), Cond.methodLink RL 52 yX8_was, Cond.instanceMethod yX8_was, Cond.selects RX8 yX8_was yX8_was, Cond.code yX8_was cX8_was 3 (some .int), Cond.fieldLink RX8 125 "TreeOdds$Row" "foretold" "[I", Cond.fieldLink RX8 128 "TreeOdds$Row" "paid" "[I", Cond.methodLink RL 55 yX9_was, Cond.instanceMethod yX9_was, Cond.selects RX9 yX9_was yX9_was, Cond.code yX9_was cX9_was 4 (some .int), Cond.methodLink RL 56 yX8_node, Cond.instanceMethod yX8_node, Cond.selects RX8 yX8_node yX8_node, Cond.code yX8_node cX8_node 5 (some .int), Cond.fieldLink RX8 138 "TreeOdds$Pasts" "zeros" "[I", Cond.fieldLink RX8 141 "TreeOdds$Pasts" "ones" "[I", Cond.fieldLink RX8 149 "TreeOdds$Pasts" "weights" "[I", Cond.methodLink RX8 131 yX2_has, Cond.instanceMethod yX2_has]
def wsL_law_r19 : List Cond := [Cond.selects RX2 yX2_has yX2_has, Cond.code yX2_has cX2_has 3 (some .boolean), Cond.methodLink RX8 134 yX8_nodeOf, Cond.methodLink RX8 144 yX8_opinion, Cond.methodLink RL 59 yX9_node, Cond.instanceMethod yX9_node, Cond.selects RX9 yX9_node yX9_node, Cond.code yX9_node cX9_node 6 (some .int), Cond.methodLink RX9 177 yX9_isNode, Cond.instanceMethod yX9_isNode, Cond.selects RX9 yX9_isNode yX9_isNode, Cond.code yX9_isNode cX9_isNode 3 (some .boolean), Cond.methodLink RL 60 yX8_cost, Cond.instanceMethod yX8_cost, Cond.selects RX8 yX8_cost yX8_cost, Cond.code yX8_cost cX8_cost 1 (some .int), Cond.fieldLink RX8 152 "TreeOdds$Row" "paidInAll" "I", Cond.methodLink RL 63 yX9_cost, Cond.instanceMethod yX9_cost, Cond.selects RX9 yX9_cost yX9_cost, Cond.code yX9_cost cX9_cost 1 (some .int), Cond.methodLink RL 64 yX8_costBy, Cond.instanceMethod yX8_costBy, Cond.selects RX8 yX8_costBy yX8_costBy]
def wsL_law_r20 : List Cond := [Cond.code yX8_costBy cX8_costBy 3 (some .int), Cond.methodLink RX8 155 yX3_priceBy, Cond.instanceMethod yX3_priceBy, Cond.selects RX3 yX3_priceBy yX3_priceBy, Cond.code yX3_priceBy cX3_priceBy 6 (some .int), Cond.methodLink RL 67 yX9_costBy, Cond.instanceMethod yX9_costBy, Cond.selects RX9 yX9_costBy yX9_costBy, Cond.code yX9_costBy cX9_costBy 3 (some .int), Cond.methodLink RL 68 yX8_best, Cond.instanceMethod yX8_best, Cond.selects RX8 yX8_best yX8_best, Cond.code yX8_best cX8_best 2 (some .int), Cond.fieldLink RX8 163 "TreeOdds$Contest" "depth" "I", Cond.fieldLink RX8 164 "TreeOdds$Contest" "guesser" "I", Cond.fieldLink RX8 165 "TreeOdds$Contest" "price" "I", Cond.methodLink RX8 159 yX1_judge, Cond.instanceMethod yX1_judge, Cond.selects RX1 yX1_judge yX1_judge, Cond.code yX1_judge cX1_judge 6 none, Cond.fieldLink RX1 38 "TreeOdds$Row" "length" "I", Cond.fieldLink RX1 39 "TreeOdds$Row" "signs" "[I", Cond.methodLink RX1 28 yX1_isJudged, Cond.instanceMethod yX1_isJudged]
def wsL_law_r21 : List Cond := [Cond.selects RX1 yX1_isJudged yX1_isJudged, Cond.code yX1_isJudged cX1_isJudged 3 (some .boolean), Cond.methodLink RX1 32 yX3_priceBy, Cond.methodLink RL 71 yX9_best, Cond.instanceMethod yX9_best, Cond.selects RX9 yX9_best yX9_best, Cond.code yX9_best cX9_best 6 (some .int), Cond.constantLong RX9 181 (2), Cond.methodLink RL 72 yX8_follows, Cond.instanceMethod yX8_follows, Cond.selects RX8 yX8_follows yX8_follows, Cond.code yX8_follows cX8_follows 5 (some .int), Cond.constant RX8 168 (32768), Cond.methodLink RX8 169 yX2_take, Cond.methodLink RL 75 yX9_follows, Cond.instanceMethod yX9_follows, Cond.selects RX9 yX9_follows yX9_follows, Cond.code yX9_follows cX9_follows 6 (some .int), Cond.constantLong RX9 183 (16), Cond.methodLink RL 76 yX8_tree, Cond.instanceMethod yX8_tree, Cond.selects RX8 yX8_tree yX8_tree, Cond.code yX8_tree cX8_tree 2 (some .int), Cond.fieldLink RX8 179 "TreeOdds$BestTree" "leaves" "I"]
def wsL_law_r22 : List Cond := [Cond.fieldLink RX8 182 "TreeOdds$BestTree" "deepest" "I", Cond.methodLink RX8 173 yX0_grow, Cond.instanceMethod yX0_grow, Cond.selects RX0 yX0_grow yX0_grow, Cond.code yX0_grow cX0_grow 4 none, Cond.fieldLink RX0 25 "TreeOdds$Pasts" "depth" "I", Cond.methodLink RX0 30 yX0_weigh, Cond.instanceMethod yX0_weigh, Cond.selects RX0 yX0_weigh yX0_weigh, Cond.code yX0_weigh cX0_weigh 6 none, Cond.fieldLink RX0 42 "TreeOdds$Pasts" "paidAlone" "[I", Cond.methodLink RX0 34 yX0_settle, Cond.instanceMethod yX0_settle, Cond.selects RX0 yX0_settle yX0_settle, Cond.code yX0_settle cX0_settle 4 none, Cond.methodLink RX8 177 yX0_price, Cond.instanceMethod yX0_price, Cond.selects RX0 yX0_price yX0_price, Cond.code yX0_price cX0_price 1 (some .int), Cond.methodLink RL 79 yX9_tree, Cond.instanceMethod yX9_tree, Cond.selects RX9 yX9_tree yX9_tree, Cond.code yX9_tree cX9_tree 2 (some .int), Cond.methodLink RX9 192 yX9_treeOf]
def wsL_law_r23 : List Cond := [Cond.instanceMethod yX9_treeOf, Cond.selects RX9 yX9_treeOf yX9_treeOf, Cond.code yX9_treeOf cX9_treeOf 2 (some .int), Cond.methodLink RX9 185 yX9_plants, Cond.instanceMethod yX9_plants, Cond.selects RX9 yX9_plants yX9_plants, Cond.code yX9_plants cX9_plants 7 none, Cond.methodLink RX9 188 yX9_leaves, Cond.instanceMethod yX9_leaves, Cond.selects RX9 yX9_leaves yX9_leaves, Cond.code yX9_leaves cX9_leaves 7 (some .int), Cond.methodLink RL 80 yX8_leaf, Cond.instanceMethod yX8_leaf, Cond.selects RX8 yX8_leaf yX8_leaf, Cond.code yX8_leaf cX8_leaf 3 (some .int), Cond.fieldLink RX8 185 "TreeOdds$BestTree" "kinds" "[I", Cond.methodLink RL 83 yX9_leaf, Cond.instanceMethod yX9_leaf, Cond.selects RX9 yX9_leaf yX9_leaf, Cond.code yX9_leaf cX9_leaf 3 (some .int), Cond.methodLink RL 84 yX8_written, Cond.instanceMethod yX8_written, Cond.selects RX8 yX8_written yX8_written, Cond.code yX8_written cX8_written 2 (some .int)]
def wsL_law_r24 : List Cond := [Cond.fieldLink RX8 191 "TreeOdds$Writing" "length" "I", Cond.methodLink RX8 188 yX7_write, Cond.instanceMethod yX7_write, Cond.selects RX7 yX7_write yX7_write, Cond.code yX7_write cX7_write 3 none, Cond.fieldLink RX7 34 "TreeOdds$Row" "length" "I", Cond.fieldLink RX7 37 "TreeOdds$Row" "signs" "[I", Cond.fieldLink RX7 40 "TreeOdds$Row" "foretold" "[I", Cond.methodLink RX7 43 yX7_writeSign, Cond.instanceMethod yX7_writeSign, Cond.selects RX7 yX7_writeSign yX7_writeSign, Cond.code yX7_writeSign cX7_writeSign 6 none, Cond.constantLong RX7 88 (16777216), Cond.constantLong RX7 90 (256), Cond.methodLink RX7 84 yX7_partOfOne, Cond.instanceMethod yX7_partOfOne, Cond.selects RX7 yX7_partOfOne yX7_partOfOne, Cond.code yX7_partOfOne cX7_partOfOne 2 (some .long), Cond.constantLong RX7 92 (65536), Cond.methodLink RX7 47 yX7_sendByte, Cond.instanceMethod yX7_sendByte, Cond.selects RX7 yX7_sendByte yX7_sendByte, Cond.code yX7_sendByte cX7_sendByte 3 none, Cond.constantLong RX7 94 (255)]
def wsL_law_r25 : List Cond := [Cond.methodLink RX7 96 yX7_carry, Cond.instanceMethod yX7_carry, Cond.selects RX7 yX7_carry yX7_carry, Cond.code yX7_carry cX7_carry 2 none, Cond.methodLink RX8 192 yX7_byteAt, Cond.instanceMethod yX7_byteAt, Cond.selects RX7 yX7_byteAt yX7_byteAt, Cond.code yX7_byteAt cX7_byteAt 2 (some .int), Cond.methodLink RL 87 yX9_written, Cond.instanceMethod yX9_written, Cond.selects RX9 yX9_written yX9_written, Cond.code yX9_written cX9_written 2 (some .int), Cond.fieldLink RX9 203 "TreeOddsModel" "outLong" "I", Cond.methodLink RX9 213 yX9_writes, Cond.instanceMethod yX9_writes, Cond.selects RX9 yX9_writes yX9_writes, Cond.code yX9_writes cX9_writes 7 none, Cond.constantLong RX9 208 (4294967296), Cond.fieldLink RX9 195 "TreeOddsModel" "low" "J", Cond.constantLong RX9 199 (16777216), Cond.constantLong RX9 206 (256), Cond.methodLink RX9 210 yX9_goesOut, Cond.instanceMethod yX9_goesOut, Cond.selects RX9 yX9_goesOut yX9_goesOut]
def wsL_law_r26 : List Cond := [Cond.code yX9_goesOut cX9_goesOut 4 none, Cond.constantLong RX9 201 (255), Cond.methodLink RL 88 yX8_reads, Cond.instanceMethod yX8_reads, Cond.selects RX8 yX8_reads yX8_reads, Cond.code yX8_reads cX8_reads 3 (some .int), Cond.methodLink RX8 195 yX7_spoil, Cond.instanceMethod yX7_spoil, Cond.selects RX7 yX7_spoil yX7_spoil, Cond.code yX7_spoil cX7_spoil 3 none, Cond.methodLink RX8 199 yX7_readAgain, Cond.instanceMethod yX7_readAgain, Cond.selects RX7 yX7_readAgain yX7_readAgain, Cond.code yX7_readAgain cX7_readAgain 6 (some .int), Cond.fieldLink RX7 54 "TreeOdds$Row" "pasts" "LTreeOdds$Pasts;", Cond.fieldLink RX7 58 "TreeOdds$Pasts" "depth" "I", Cond.fieldLink RX7 63 "TreeOdds$Pasts" "guesser" "I", Cond.methodLink RX7 66 yX2_begin, Cond.methodLink RX7 69 yX7_fetchByte, Cond.instanceMethod yX7_fetchByte, Cond.selects RX7 yX7_fetchByte yX7_fetchByte, Cond.code yX7_fetchByte cX7_fetchByte 1 none, Cond.methodLink RX7 99 yX7_byteAt, Cond.methodLink RX7 72 yX2_next]
def wsL_law_r27 : List Cond := [Cond.methodLink RX7 76 yX7_readSign, Cond.instanceMethod yX7_readSign, Cond.selects RX7 yX7_readSign yX7_readSign, Cond.code yX7_readSign cX7_readSign 6 (some .int), Cond.methodLink RX7 80 yX2_take, Cond.methodLink RL 91 yX9_reads, Cond.instanceMethod yX9_reads, Cond.selects RX9 yX9_reads yX9_reads, Cond.code yX9_reads cX9_reads 13 (some .int), Cond.constantLong RX9 216 (-1), Cond.methodLink RX9 218 yX9_byteAt, Cond.instanceMethod yX9_byteAt, Cond.selects RX9 yX9_byteAt yX9_byteAt, Cond.code yX9_byteAt cX9_byteAt 2 (some .int), Cond.methodLink RL 92 yX8_type, Cond.instanceMethod yX8_type, Cond.selects RX8 yX8_type yX8_type, Cond.code yX8_type cX8_type 2 (some .int), Cond.fieldLink RX8 203 "TreeOdds$Text" "length" "I", Cond.methodLink RX8 204 yX6_append, Cond.instanceMethod yX6_append, Cond.selects RX6 yX6_append yX6_append, Cond.code yX6_append cX6_append 2 (some .int), Cond.methodLink RL 95 yX9_type]
def wsL_law_r28 : List Cond := [Cond.instanceMethod yX9_type, Cond.selects RX9 yX9_type yX9_type, Cond.code yX9_type cX9_type 2 (some .int), Cond.constantLong RX9 221 (127), Cond.fieldLink RX9 223 "TreeOddsModel" "textLong" "I", Cond.methodLink RL 96 yX8_clear, Cond.instanceMethod yX8_clear, Cond.selects RX8 yX8_clear yX8_clear, Cond.code yX8_clear cX8_clear 2 (some .int), Cond.methodLink RL 99 yX9_clear, Cond.instanceMethod yX9_clear, Cond.selects RX9 yX9_clear yX9_clear, Cond.code yX9_clear cX9_clear 2 (some .int), Cond.methodLink RL 100 yX8_told, Cond.instanceMethod yX8_told, Cond.selects RX8 yX8_told yX8_told, Cond.code yX8_told cX8_told 2 (some .int), Cond.fieldLink RX8 210 "TreeOdds$Text" "fault" "I", Cond.fieldLink RX8 213 "TreeOdds$Text" "found" "I", Cond.fieldLink RX8 216 "TreeOdds$Text" "signs" "[I", Cond.methodLink RX8 207 yX6_read, Cond.instanceMethod yX6_read, Cond.selects RX6 yX6_read yX6_read, Cond.code yX6_read cX6_read 3 none]
def wsL_law_r29 : List Cond := [Cond.methodLink RX6 45 yX6_skipBlanks, Cond.instanceMethod yX6_skipBlanks, Cond.selects RX6 yX6_skipBlanks yX6_skipBlanks, Cond.code yX6_skipBlanks cX6_skipBlanks 2 none, Cond.methodLink RX6 51 yX6_here, Cond.instanceMethod yX6_here, Cond.selects RX6 yX6_here yX6_here, Cond.code yX6_here cX6_here 1 (some .int), Cond.methodLink RX6 48 yX6_readPiece, Cond.instanceMethod yX6_readPiece, Cond.selects RX6 yX6_readPiece yX6_readPiece, Cond.code yX6_readPiece cX6_readPiece 2 none, Cond.methodLink RX6 55 yX6_readSigns, Cond.instanceMethod yX6_readSigns, Cond.selects RX6 yX6_readSigns yX6_readSigns, Cond.code yX6_readSigns cX6_readSigns 5 none, Cond.methodLink RX6 62 yX6_readTimes, Cond.instanceMethod yX6_readTimes, Cond.selects RX6 yX6_readTimes yX6_readTimes, Cond.code yX6_readTimes cX6_readTimes 4 (some .int), Cond.methodLink RX6 78 Lib.Math.min.name, Cond.methodLink RX6 65 yX6_addSign, Cond.instanceMethod yX6_addSign, Cond.selects RX6 yX6_addSign yX6_addSign]
def wsL_law_r30 : List Cond := [Cond.code yX6_addSign cX6_addSign 2 none, Cond.methodLink RX6 59 yX6_readGroupEnd, Cond.instanceMethod yX6_readGroupEnd, Cond.selects RX6 yX6_readGroupEnd yX6_readGroupEnd, Cond.code yX6_readGroupEnd cX6_readGroupEnd 6 none, Cond.methodLink RX6 68 Lib.Math.max.name, Cond.static Lib.Math.max.name, Cond.code Lib.Math.max.name Lib.Math.max.code 2 (some .int), Cond.methodLink RX6 74 yX6_signAt, Cond.instanceMethod yX6_signAt, Cond.selects RX6 yX6_signAt yX6_signAt, Cond.code yX6_signAt cX6_signAt 2 (some .int), Cond.methodLink RL 103 yX9_told, Cond.instanceMethod yX9_told, Cond.selects RX9 yX9_told yX9_told, Cond.code yX9_told cX9_told 3 (some .int), Cond.fieldLink RX9 226 "TreeOddsModel" "place" "I", Cond.fieldLink RX9 240 "TreeOddsModel" "readLong" "I", Cond.methodLink RX9 233 yX9_here, Cond.instanceMethod yX9_here, Cond.selects RX9 yX9_here yX9_here, Cond.code yX9_here cX9_here 1 (some .int), Cond.methodLink RX9 250 yX9_readsMany, Cond.instanceMethod yX9_readsMany]
def wsL_law_r31 : List Cond := [Cond.selects RX9 yX9_readsMany yX9_readsMany, Cond.code yX9_readsMany cX9_readsMany 6 (some .boolean), Cond.methodLink RX9 246 yX9_readsSign, Cond.instanceMethod yX9_readsSign, Cond.selects RX9 yX9_readsSign yX9_readsSign, Cond.code yX9_readsSign cX9_readsSign 5 (some .boolean), Cond.methodLink RX9 243 yX9_times, Cond.instanceMethod yX9_times, Cond.selects RX9 yX9_times yX9_times, Cond.code yX9_times cX9_times 5 (some .int), Cond.methodLink RX9 236 yX9_isFigure, Cond.instanceMethod yX9_isFigure, Cond.selects RX9 yX9_isFigure yX9_isFigure, Cond.code yX9_isFigure cX9_isFigure 2 (some .boolean), Cond.constantLong RX9 229 (48), Cond.constantLong RX9 231 (57), Cond.methodLink RL 104 yX8_back, Cond.instanceMethod yX8_back, Cond.selects RX8 yX8_back yX8_back, Cond.code yX8_back cX8_back 2 (some .int), Cond.fieldLink RX8 217 "TreeOdds$States" "size" "I", Cond.fieldLink RX8 229 "TreeOdds$State" "length" "I", Cond.fieldLink RX8 230 "TreeOdds$State" "depth" "I", Cond.fieldLink RX8 231 "TreeOdds$State" "guesser" "I"]
def wsL_law_r32 : List Cond := [Cond.methodLink RX8 220 yX5_release, Cond.instanceMethod yX5_release, Cond.selects RX5 yX5_release yX5_release, Cond.code yX5_release cX5_release 2 (some (.object "TreeOdds$State")), Cond.methodLink RX5 35 Lib.Math.max.name, Cond.methodLink RX8 224 yX4_copySignsTo, Cond.instanceMethod yX4_copySignsTo, Cond.selects RX4 yX4_copySignsTo yX4_copySignsTo, Cond.code yX4_copySignsTo cX4_copySignsTo 3 none, Cond.methodLink RL 107 yX9_back, Cond.instanceMethod yX9_back, Cond.selects RX9 yX9_back yX9_back, Cond.code yX9_back cX9_back 2 (some .int), Cond.methodLink RL 108 yX8_count, Cond.instanceMethod yX8_count, Cond.selects RX8 yX8_count yX8_count, Cond.code yX8_count cX8_count 2 (some .int), Cond.methodLink RL 111 yX9_count, Cond.instanceMethod yX9_count, Cond.selects RX9 yX9_count yX9_count, Cond.code yX9_count cX9_count 2 (some .int), Cond.constantLong RX9 253 (7), Cond.methodLink RX9 255 yX9_counted, Cond.instanceMethod yX9_counted]
def wsL_law_r33 : List Cond := [Cond.selects RX9 yX9_counted yX9_counted, Cond.code yX9_counted cX9_counted 2 (some .int), Cond.methodLink RL 112 yX8_digest, Cond.instanceMethod yX8_digest, Cond.selects RX8 yX8_digest yX8_digest, Cond.code yX8_digest cX8_digest 4 (some .long), Cond.constantLong RX8 232 (2113), Cond.constantLong RX8 234 (31), Cond.methodLink RX8 236 yX8_count, Cond.methodLink RX8 239 yX8_guess, Cond.methodLink RX8 242 yX8_cost, Cond.methodLink RX8 245 yX8_tree, Cond.methodLink RL 116 yX9_digest, Cond.instanceMethod yX9_digest, Cond.selects RX9 yX9_digest yX9_digest, Cond.code yX9_digest cX9_digest 4 (some .long), Cond.constantLong RX9 258 (2113), Cond.constantLong RX9 260 (31)]
def wsL_law : List Cond := (wsL_law_r1 ++ (wsL_law_r2 ++ (wsL_law_r3 ++ (wsL_law_r4 ++ (wsL_law_r5 ++ (wsL_law_r6 ++ (wsL_law_r7 ++ (wsL_law_r8 ++ (wsL_law_r9 ++ (wsL_law_r10 ++ (wsL_law_r11 ++ (wsL_law_r12 ++ (wsL_law_r13 ++ (wsL_law_r14 ++ (wsL_law_r15 ++ (wsL_law_r16 ++ (wsL_law_r17 ++ (wsL_law_r18 ++ (wsL_law_r19 ++ (wsL_law_r20 ++ (wsL_law_r21 ++ (wsL_law_r22 ++ (wsL_law_r23 ++ (wsL_law_r24 ++ (wsL_law_r25 ++ (wsL_law_r26 ++ (wsL_law_r27 ++ (wsL_law_r28 ++ (wsL_law_r29 ++ (wsL_law_r30 ++ (wsL_law_r31 ++ (wsL_law_r32 ++ wsL_law_r33)))))))))))))))))))))))))))))))) ++ wsX80 ++ wsX90 ++ wsX30 ++ wsX20 ++ wsX10 ++ wsX00 ++ wsX70 ++ wsX60 ++ wsX50 ++ wsX40 ++ ([] : List Cond)
theorem xr_in1 : ∀ w ∈ wsL_law_r1, w ∈ wsL_law := fun _ h => List.mem_append_left _ (List.mem_append_left _ (List.mem_append_left _ (List.mem_append_left _ (List.mem_append_left _ (List.mem_append_left _ (List.mem_append_left _ (List.mem_append_left _ (List.mem_append_left _ (List.mem_append_left _ (List.mem_append_left _ (List.mem_append_left _ h)))))))))))
theorem kw_1_0 : Cond.classLink RL 7 RX8 ∈ wsL_law := xr_in1 _ (List.mem_of_getElem? (i := 0) rfl)
theorem kw_1_1 : Cond.instantiable RX8 10 ∈ wsL_law := xr_in1 _ (List.mem_of_getElem? (i := 1) rfl)
theorem kw_1_2 : Cond.initialized RX8 ∈ wsL_law := xr_in1 _ (List.mem_of_getElem? (i := 2) rfl)
theorem kw_1_3 : Cond.classLink RL 10 RX9 ∈ wsL_law := xr_in1 _ (List.mem_of_getElem? (i := 3) rfl)
theorem kw_1_4 : Cond.instantiable RX9 27 ∈ wsL_law := xr_in1 _ (List.mem_of_getElem? (i := 4) rfl)
theorem kw_1_5 : Cond.initialized RX9 ∈ wsL_law := xr_in1 _ (List.mem_of_getElem? (i := 5) rfl)
theorem kw_1_6 : Cond.constantLong RL 18 (4294967295) ∈ wsL_law := xr_in1 _ (List.mem_of_getElem? (i := 6) rfl)
theorem kw_1_7 : Cond.methodLink RL 9 yX8_init ∈ wsL_law := xr_in1 _ (List.mem_of_getElem? (i := 7) rfl)
theorem kw_1_8 : Cond.instanceMethod yX8_init ∈ wsL_law := xr_in1 _ (List.mem_of_getElem? (i := 8) rfl)
theorem kw_1_9 : Cond.code yX8_init cX8_init 1 none ∈ wsL_law := xr_in1 _ (List.mem_of_getElem? (i := 9) rfl)
theorem kw_1_10 : Cond.methodLink RX8 3 objectInit ∈ wsL_law := xr_in1 _ (List.mem_of_getElem? (i := 10) rfl)
theorem kw_1_11 : Cond.instanceMethod objectInit ∈ wsL_law := xr_in1 _ (List.mem_of_getElem? (i := 11) rfl)
theorem kw_1_12 : Cond.code objectInit ⟨#[0xb1]⟩ 1 none ∈ wsL_law := xr_in1 _ (List.mem_of_getElem? (i := 12) rfl)
theorem kw_1_13 : Cond.classLink RX8 9 RX3 ∈ wsL_law := xr_in1 _ (List.mem_of_getElem? (i := 13) rfl)
theorem kw_1_14 : Cond.instantiable RX3 6 ∈ wsL_law := xr_in1 _ (List.mem_of_getElem? (i := 14) rfl)
theorem kw_1_15 : Cond.initialized RX3 ∈ wsL_law := xr_in1 _ (List.mem_of_getElem? (i := 15) rfl)
theorem kw_1_16 : Cond.fieldLink RX8 12 "TreeOdds" "row" "LTreeOdds$Row;" ∈ wsL_law := xr_in1 _ (List.mem_of_getElem? (i := 16) rfl)
theorem kw_1_17 : Cond.classLink RX8 16 RX2 ∈ wsL_law := xr_in1 _ (List.mem_of_getElem? (i := 17) rfl)
theorem kw_1_18 : Cond.instantiable RX2 9 ∈ wsL_law := xr_in1 _ (List.mem_of_getElem? (i := 18) rfl)
theorem kw_1_19 : Cond.initialized RX2 ∈ wsL_law := xr_in1 _ (List.mem_of_getElem? (i := 19) rfl)
theorem kw_1_20 : Cond.fieldLink RX8 19 "TreeOdds" "spare" "LTreeOdds$Pasts;" ∈ wsL_law := xr_in1 _ (List.mem_of_getElem? (i := 20) rfl)
theorem kw_1_21 : Cond.classLink RX8 23 RX1 ∈ wsL_law := xr_in1 _ (List.mem_of_getElem? (i := 21) rfl)
theorem kw_1_22 : Cond.instantiable RX1 5 ∈ wsL_law := xr_in1 _ (List.mem_of_getElem? (i := 22) rfl)
theorem kw_1_23 : Cond.initialized RX1 ∈ wsL_law := xr_in1 _ (List.mem_of_getElem? (i := 23) rfl)
theorem xr_in2 : ∀ w ∈ wsL_law_r2, w ∈ wsL_law := fun _ h => List.mem_append_left _ (List.mem_append_left _ (List.mem_append_left _ (List.mem_append_left _ (List.mem_append_left _ (List.mem_append_left _ (List.mem_append_left _ (List.mem_append_left _ (List.mem_append_left _ (List.mem_append_left _ (List.mem_append_left _ (List.mem_append_right _ (List.mem_append_left _ h))))))))))))
theorem kw_2_0 : Cond.fieldLink RX8 26 "TreeOdds" "contest" "LTreeOdds$Contest;" ∈ wsL_law := xr_in2 _ (List.mem_of_getElem? (i := 0) rfl)
theorem kw_2_1 : Cond.classLink RX8 30 RX0 ∈ wsL_law := xr_in2 _ (List.mem_of_getElem? (i := 1) rfl)
theorem kw_2_2 : Cond.instantiable RX0 4 ∈ wsL_law := xr_in2 _ (List.mem_of_getElem? (i := 2) rfl)
theorem kw_2_3 : Cond.initialized RX0 ∈ wsL_law := xr_in2 _ (List.mem_of_getElem? (i := 3) rfl)
theorem kw_2_4 : Cond.fieldLink RX8 33 "TreeOdds" "bestTree" "LTreeOdds$BestTree;" ∈ wsL_law := xr_in2 _ (List.mem_of_getElem? (i := 4) rfl)
theorem kw_2_5 : Cond.classLink RX8 37 RX7 ∈ wsL_law := xr_in2 _ (List.mem_of_getElem? (i := 5) rfl)
theorem kw_2_6 : Cond.instantiable RX7 6 ∈ wsL_law := xr_in2 _ (List.mem_of_getElem? (i := 6) rfl)
theorem kw_2_7 : Cond.initialized RX7 ∈ wsL_law := xr_in2 _ (List.mem_of_getElem? (i := 7) rfl)
theorem kw_2_8 : Cond.fieldLink RX8 40 "TreeOdds" "writing" "LTreeOdds$Writing;" ∈ wsL_law := xr_in2 _ (List.mem_of_getElem? (i := 8) rfl)
theorem kw_2_9 : Cond.classLink RX8 44 RX6 ∈ wsL_law := xr_in2 _ (List.mem_of_getElem? (i := 9) rfl)
theorem kw_2_10 : Cond.instantiable RX6 8 ∈ wsL_law := xr_in2 _ (List.mem_of_getElem? (i := 10) rfl)
theorem kw_2_11 : Cond.initialized RX6 ∈ wsL_law := xr_in2 _ (List.mem_of_getElem? (i := 11) rfl)
theorem kw_2_12 : Cond.fieldLink RX8 47 "TreeOdds" "text" "LTreeOdds$Text;" ∈ wsL_law := xr_in2 _ (List.mem_of_getElem? (i := 12) rfl)
theorem kw_2_13 : Cond.classLink RX8 51 RX5 ∈ wsL_law := xr_in2 _ (List.mem_of_getElem? (i := 13) rfl)
theorem kw_2_14 : Cond.instantiable RX5 3 ∈ wsL_law := xr_in2 _ (List.mem_of_getElem? (i := 14) rfl)
theorem kw_2_15 : Cond.initialized RX5 ∈ wsL_law := xr_in2 _ (List.mem_of_getElem? (i := 15) rfl)
theorem kw_2_16 : Cond.fieldLink RX8 54 "TreeOdds" "states" "LTreeOdds$States;" ∈ wsL_law := xr_in2 _ (List.mem_of_getElem? (i := 16) rfl)
theorem kw_2_17 : Cond.fieldLink RX8 58 "TreeOdds" "timesBad" "I" ∈ wsL_law := xr_in2 _ (List.mem_of_getElem? (i := 17) rfl)
theorem kw_2_18 : Cond.fieldLink RX8 62 "TreeOdds" "timesNo" "I" ∈ wsL_law := xr_in2 _ (List.mem_of_getElem? (i := 18) rfl)
theorem kw_2_19 : Cond.fieldLink RX8 65 "TreeOdds" "timesFull" "I" ∈ wsL_law := xr_in2 _ (List.mem_of_getElem? (i := 19) rfl)
theorem kw_2_20 : Cond.instanceMethod yX3_init ∈ wsL_law := xr_in2 _ (List.mem_of_getElem? (i := 20) rfl)
theorem kw_2_21 : Cond.code yX3_init cX3_init 1 none ∈ wsL_law := xr_in2 _ (List.mem_of_getElem? (i := 21) rfl)
theorem kw_2_22 : Cond.methodLink RX3 3 objectInit ∈ wsL_law := xr_in2 _ (List.mem_of_getElem? (i := 22) rfl)
theorem kw_2_23 : Cond.arrayClass .int ∈ wsL_law := xr_in2 _ (List.mem_of_getElem? (i := 23) rfl)
theorem xr_in3 : ∀ w ∈ wsL_law_r3, w ∈ wsL_law := fun _ h => List.mem_append_left _ (List.mem_append_left _ (List.mem_append_left _ (List.mem_append_left _ (List.mem_append_left _ (List.mem_append_left _ (List.mem_append_left _ (List.mem_append_left _ (List.mem_append_left _ (List.mem_append_left _ (List.mem_append_left _ (List.mem_append_right _ (List.mem_append_right _ (List.mem_append_left _ h)))))))))))))
theorem kw_3_0 : Cond.fieldLink RX3 9 "TreeOdds$Row" "signs" "[I" ∈ wsL_law := xr_in3 _ (List.mem_of_getElem? (i := 0) rfl)
theorem kw_3_1 : Cond.fieldLink RX3 15 "TreeOdds$Row" "foretold" "[I" ∈ wsL_law := xr_in3 _ (List.mem_of_getElem? (i := 1) rfl)
theorem kw_3_2 : Cond.fieldLink RX3 18 "TreeOdds$Row" "paid" "[I" ∈ wsL_law := xr_in3 _ (List.mem_of_getElem? (i := 2) rfl)
theorem kw_3_3 : Cond.classLink RX3 21 RX2 ∈ wsL_law := xr_in3 _ (List.mem_of_getElem? (i := 3) rfl)
theorem kw_3_4 : Cond.fieldLink RX3 24 "TreeOdds$Row" "pasts" "LTreeOdds$Pasts;" ∈ wsL_law := xr_in3 _ (List.mem_of_getElem? (i := 4) rfl)
theorem kw_3_5 : Cond.fieldLink RX3 28 "TreeOdds$Row" "length" "I" ∈ wsL_law := xr_in3 _ (List.mem_of_getElem? (i := 5) rfl)
theorem kw_3_6 : Cond.fieldLink RX3 32 "TreeOdds$Row" "paidInAll" "I" ∈ wsL_law := xr_in3 _ (List.mem_of_getElem? (i := 6) rfl)
theorem kw_3_7 : Cond.methodLink RX3 23 yX2_init ∈ wsL_law := xr_in3 _ (List.mem_of_getElem? (i := 7) rfl)
theorem kw_3_8 : Cond.instanceMethod yX2_init ∈ wsL_law := xr_in3 _ (List.mem_of_getElem? (i := 8) rfl)
theorem kw_3_9 : Cond.code yX2_init cX2_init 1 none ∈ wsL_law := xr_in3 _ (List.mem_of_getElem? (i := 9) rfl)
theorem kw_3_10 : Cond.methodLink RX2 3 objectInit ∈ wsL_law := xr_in3 _ (List.mem_of_getElem? (i := 10) rfl)
theorem kw_3_11 : Cond.fieldLink RX2 9 "TreeOdds$Pasts" "zeros" "[I" ∈ wsL_law := xr_in3 _ (List.mem_of_getElem? (i := 11) rfl)
theorem kw_3_12 : Cond.fieldLink RX2 15 "TreeOdds$Pasts" "ones" "[I" ∈ wsL_law := xr_in3 _ (List.mem_of_getElem? (i := 12) rfl)
theorem kw_3_13 : Cond.fieldLink RX2 18 "TreeOdds$Pasts" "weights" "[I" ∈ wsL_law := xr_in3 _ (List.mem_of_getElem? (i := 13) rfl)
theorem kw_3_14 : Cond.fieldLink RX2 21 "TreeOdds$Pasts" "paidAlone" "[I" ∈ wsL_law := xr_in3 _ (List.mem_of_getElem? (i := 14) rfl)
theorem kw_3_15 : Cond.fieldLink RX2 24 "TreeOdds$Pasts" "owns" "[I" ∈ wsL_law := xr_in3 _ (List.mem_of_getElem? (i := 15) rfl)
theorem kw_3_16 : Cond.fieldLink RX2 27 "TreeOdds$Pasts" "guesses" "[I" ∈ wsL_law := xr_in3 _ (List.mem_of_getElem? (i := 16) rfl)
theorem kw_3_17 : Cond.fieldLink RX2 30 "TreeOdds$Pasts" "depth" "I" ∈ wsL_law := xr_in3 _ (List.mem_of_getElem? (i := 17) rfl)
theorem kw_3_18 : Cond.fieldLink RX2 34 "TreeOdds$Pasts" "guesser" "I" ∈ wsL_law := xr_in3 _ (List.mem_of_getElem? (i := 18) rfl)
theorem kw_3_19 : Cond.fieldLink RX2 37 "TreeOdds$Pasts" "past" "I" ∈ wsL_law := xr_in3 _ (List.mem_of_getElem? (i := 19) rfl)
theorem kw_3_20 : Cond.methodLink RX2 40 yX2_begin ∈ wsL_law := xr_in3 _ (List.mem_of_getElem? (i := 20) rfl)
theorem kw_3_21 : Cond.instanceMethod yX2_begin ∈ wsL_law := xr_in3 _ (List.mem_of_getElem? (i := 21) rfl)
theorem kw_3_22 : Cond.selects RX2 yX2_begin yX2_begin ∈ wsL_law := xr_in3 _ (List.mem_of_getElem? (i := 22) rfl)
theorem kw_3_23 : Cond.code yX2_begin cX2_begin 4 none ∈ wsL_law := xr_in3 _ (List.mem_of_getElem? (i := 23) rfl)
theorem xr_in4 : ∀ w ∈ wsL_law_r4, w ∈ wsL_law := fun _ h => List.mem_append_left _ (List.mem_append_left _ (List.mem_append_left _ (List.mem_append_left _ (List.mem_append_left _ (List.mem_append_left _ (List.mem_append_left _ (List.mem_append_left _ (List.mem_append_left _ (List.mem_append_left _ (List.mem_append_left _ (List.mem_append_right _ (List.mem_append_right _ (List.mem_append_right _ (List.mem_append_left _ h))))))))))))))
theorem kw_4_0 : Cond.constant RX2 52 (32768) ∈ wsL_law := xr_in4 _ (List.mem_of_getElem? (i := 0) rfl)
theorem kw_4_1 : Cond.static yX8_kept ∈ wsL_law := xr_in4 _ (List.mem_of_getElem? (i := 1) rfl)
theorem kw_4_2 : Cond.code yX8_kept cX8_kept 4 (some .int) ∈ wsL_law := xr_in4 _ (List.mem_of_getElem? (i := 2) rfl)
theorem kw_4_3 : Cond.static yX8_nodeOf ∈ wsL_law := xr_in4 _ (List.mem_of_getElem? (i := 3) rfl)
theorem kw_4_4 : Cond.code yX8_nodeOf cX8_nodeOf 3 (some .int) ∈ wsL_law := xr_in4 _ (List.mem_of_getElem? (i := 4) rfl)
theorem kw_4_5 : Cond.methodLink RX8 248 yX8_kept ∈ wsL_law := xr_in4 _ (List.mem_of_getElem? (i := 5) rfl)
theorem kw_4_6 : Cond.methodLink RX2 53 yX2_lookAhead ∈ wsL_law := xr_in4 _ (List.mem_of_getElem? (i := 6) rfl)
theorem kw_4_7 : Cond.instanceMethod yX2_lookAhead ∈ wsL_law := xr_in4 _ (List.mem_of_getElem? (i := 7) rfl)
theorem kw_4_8 : Cond.selects RX2 yX2_lookAhead yX2_lookAhead ∈ wsL_law := xr_in4 _ (List.mem_of_getElem? (i := 8) rfl)
theorem kw_4_9 : Cond.code yX2_lookAhead cX2_lookAhead 3 none ∈ wsL_law := xr_in4 _ (List.mem_of_getElem? (i := 9) rfl)
theorem kw_4_10 : Cond.static yX8_opinion ∈ wsL_law := xr_in4 _ (List.mem_of_getElem? (i := 10) rfl)
theorem kw_4_11 : Cond.code yX8_opinion cX8_opinion 7 (some .int) ∈ wsL_law := xr_in4 _ (List.mem_of_getElem? (i := 11) rfl)
theorem kw_4_12 : Cond.constantLong RX8 94 (65536) ∈ wsL_law := xr_in4 _ (List.mem_of_getElem? (i := 12) rfl)
theorem kw_4_13 : Cond.constant RX8 256 (65535) ∈ wsL_law := xr_in4 _ (List.mem_of_getElem? (i := 13) rfl)
theorem kw_4_14 : Cond.methodLink RX8 252 yX8_quotient ∈ wsL_law := xr_in4 _ (List.mem_of_getElem? (i := 14) rfl)
theorem kw_4_15 : Cond.static yX8_quotient ∈ wsL_law := xr_in4 _ (List.mem_of_getElem? (i := 15) rfl)
theorem kw_4_16 : Cond.code yX8_quotient cX8_quotient 4 (some .long) ∈ wsL_law := xr_in4 _ (List.mem_of_getElem? (i := 16) rfl)
theorem kw_4_17 : Cond.methodLink RX2 78 yX2_mix ∈ wsL_law := xr_in4 _ (List.mem_of_getElem? (i := 17) rfl)
theorem kw_4_18 : Cond.instanceMethod yX2_mix ∈ wsL_law := xr_in4 _ (List.mem_of_getElem? (i := 18) rfl)
theorem kw_4_19 : Cond.selects RX2 yX2_mix yX2_mix ∈ wsL_law := xr_in4 _ (List.mem_of_getElem? (i := 19) rfl)
theorem kw_4_20 : Cond.code yX2_mix cX2_mix 7 (some .int) ∈ wsL_law := xr_in4 _ (List.mem_of_getElem? (i := 20) rfl)
theorem kw_4_21 : Cond.constantLong RX2 81 (65536) ∈ wsL_law := xr_in4 _ (List.mem_of_getElem? (i := 21) rfl)
theorem kw_4_22 : Cond.constant RX2 83 (65535) ∈ wsL_law := xr_in4 _ (List.mem_of_getElem? (i := 22) rfl)
theorem kw_4_23 : Cond.methodLink RX8 18 yX2_init ∈ wsL_law := xr_in4 _ (List.mem_of_getElem? (i := 23) rfl)
theorem xr_in5 : ∀ w ∈ wsL_law_r5, w ∈ wsL_law := fun _ h => List.mem_append_left _ (List.mem_append_left _ (List.mem_append_left _ (List.mem_append_left _ (List.mem_append_left _ (List.mem_append_left _ (List.mem_append_left _ (List.mem_append_left _ (List.mem_append_left _ (List.mem_append_left _ (List.mem_append_left _ (List.mem_append_right _ (List.mem_append_right _ (List.mem_append_right _ (List.mem_append_right _ (List.mem_append_left _ h)))))))))))))))
theorem kw_5_0 : Cond.instanceMethod yX1_init ∈ wsL_law := xr_in5 _ (List.mem_of_getElem? (i := 0) rfl)
theorem kw_5_1 : Cond.code yX1_init cX1_init 1 none ∈ wsL_law := xr_in5 _ (List.mem_of_getElem? (i := 1) rfl)
theorem kw_5_2 : Cond.methodLink RX1 3 objectInit ∈ wsL_law := xr_in5 _ (List.mem_of_getElem? (i := 2) rfl)
theorem kw_5_3 : Cond.fieldLink RX1 9 "TreeOdds$Contest" "judged" "[I" ∈ wsL_law := xr_in5 _ (List.mem_of_getElem? (i := 3) rfl)
theorem kw_5_4 : Cond.fieldLink RX1 15 "TreeOdds$Contest" "length" "I" ∈ wsL_law := xr_in5 _ (List.mem_of_getElem? (i := 4) rfl)
theorem kw_5_5 : Cond.fieldLink RX1 19 "TreeOdds$Contest" "depth" "I" ∈ wsL_law := xr_in5 _ (List.mem_of_getElem? (i := 5) rfl)
theorem kw_5_6 : Cond.fieldLink RX1 22 "TreeOdds$Contest" "guesser" "I" ∈ wsL_law := xr_in5 _ (List.mem_of_getElem? (i := 6) rfl)
theorem kw_5_7 : Cond.fieldLink RX1 25 "TreeOdds$Contest" "price" "I" ∈ wsL_law := xr_in5 _ (List.mem_of_getElem? (i := 7) rfl)
theorem kw_5_8 : Cond.instanceMethod yX0_init ∈ wsL_law := xr_in5 _ (List.mem_of_getElem? (i := 8) rfl)
theorem kw_5_9 : Cond.code yX0_init cX0_init 1 none ∈ wsL_law := xr_in5 _ (List.mem_of_getElem? (i := 9) rfl)
theorem kw_5_10 : Cond.methodLink RX0 3 objectInit ∈ wsL_law := xr_in5 _ (List.mem_of_getElem? (i := 10) rfl)
theorem kw_5_11 : Cond.fieldLink RX0 9 "TreeOdds$BestTree" "prices" "[I" ∈ wsL_law := xr_in5 _ (List.mem_of_getElem? (i := 11) rfl)
theorem kw_5_12 : Cond.fieldLink RX0 15 "TreeOdds$BestTree" "kinds" "[I" ∈ wsL_law := xr_in5 _ (List.mem_of_getElem? (i := 12) rfl)
theorem kw_5_13 : Cond.fieldLink RX0 18 "TreeOdds$BestTree" "leaves" "I" ∈ wsL_law := xr_in5 _ (List.mem_of_getElem? (i := 13) rfl)
theorem kw_5_14 : Cond.fieldLink RX0 22 "TreeOdds$BestTree" "deepest" "I" ∈ wsL_law := xr_in5 _ (List.mem_of_getElem? (i := 14) rfl)
theorem kw_5_15 : Cond.instanceMethod yX7_init ∈ wsL_law := xr_in5 _ (List.mem_of_getElem? (i := 15) rfl)
theorem kw_5_16 : Cond.code yX7_init cX7_init 1 none ∈ wsL_law := xr_in5 _ (List.mem_of_getElem? (i := 16) rfl)
theorem kw_5_17 : Cond.methodLink RX7 3 objectInit ∈ wsL_law := xr_in5 _ (List.mem_of_getElem? (i := 17) rfl)
theorem kw_5_18 : Cond.fieldLink RX7 9 "TreeOdds$Writing" "bytes" "[I" ∈ wsL_law := xr_in5 _ (List.mem_of_getElem? (i := 18) rfl)
theorem kw_5_19 : Cond.fieldLink RX7 15 "TreeOdds$Writing" "length" "I" ∈ wsL_law := xr_in5 _ (List.mem_of_getElem? (i := 19) rfl)
theorem kw_5_20 : Cond.fieldLink RX7 19 "TreeOdds$Writing" "low" "J" ∈ wsL_law := xr_in5 _ (List.mem_of_getElem? (i := 20) rfl)
theorem kw_5_21 : Cond.constantLong RX7 23 (4294967296) ∈ wsL_law := xr_in5 _ (List.mem_of_getElem? (i := 21) rfl)
theorem kw_5_22 : Cond.fieldLink RX7 25 "TreeOdds$Writing" "range" "J" ∈ wsL_law := xr_in5 _ (List.mem_of_getElem? (i := 22) rfl)
theorem kw_5_23 : Cond.fieldLink RX7 28 "TreeOdds$Writing" "code" "J" ∈ wsL_law := xr_in5 _ (List.mem_of_getElem? (i := 23) rfl)
theorem xr_in6 : ∀ w ∈ wsL_law_r6, w ∈ wsL_law := fun _ h => List.mem_append_left _ (List.mem_append_left _ (List.mem_append_left _ (List.mem_append_left _ (List.mem_append_left _ (List.mem_append_left _ (List.mem_append_left _ (List.mem_append_left _ (List.mem_append_left _ (List.mem_append_left _ (List.mem_append_left _ (List.mem_append_right _ (List.mem_append_right _ (List.mem_append_right _ (List.mem_append_right _ (List.mem_append_right _ (List.mem_append_left _ h))))))))))))))))
theorem kw_6_0 : Cond.fieldLink RX7 31 "TreeOdds$Writing" "nextByte" "I" ∈ wsL_law := xr_in6 _ (List.mem_of_getElem? (i := 0) rfl)
theorem kw_6_1 : Cond.instanceMethod yX6_init ∈ wsL_law := xr_in6 _ (List.mem_of_getElem? (i := 1) rfl)
theorem kw_6_2 : Cond.code yX6_init cX6_init 1 none ∈ wsL_law := xr_in6 _ (List.mem_of_getElem? (i := 2) rfl)
theorem kw_6_3 : Cond.methodLink RX6 3 objectInit ∈ wsL_law := xr_in6 _ (List.mem_of_getElem? (i := 3) rfl)
theorem kw_6_4 : Cond.fieldLink RX6 9 "TreeOdds$Text" "bytes" "[I" ∈ wsL_law := xr_in6 _ (List.mem_of_getElem? (i := 4) rfl)
theorem kw_6_5 : Cond.fieldLink RX6 15 "TreeOdds$Text" "signs" "[I" ∈ wsL_law := xr_in6 _ (List.mem_of_getElem? (i := 5) rfl)
theorem kw_6_6 : Cond.fieldLink RX6 18 "TreeOdds$Text" "length" "I" ∈ wsL_law := xr_in6 _ (List.mem_of_getElem? (i := 6) rfl)
theorem kw_6_7 : Cond.fieldLink RX6 22 "TreeOdds$Text" "found" "I" ∈ wsL_law := xr_in6 _ (List.mem_of_getElem? (i := 7) rfl)
theorem kw_6_8 : Cond.fieldLink RX6 25 "TreeOdds$Text" "fault" "I" ∈ wsL_law := xr_in6 _ (List.mem_of_getElem? (i := 8) rfl)
theorem kw_6_9 : Cond.fieldLink RX6 28 "TreeOdds$Text" "room" "I" ∈ wsL_law := xr_in6 _ (List.mem_of_getElem? (i := 9) rfl)
theorem kw_6_10 : Cond.fieldLink RX6 31 "TreeOdds$Text" "cursor" "I" ∈ wsL_law := xr_in6 _ (List.mem_of_getElem? (i := 10) rfl)
theorem kw_6_11 : Cond.fieldLink RX6 34 "TreeOdds$Text" "groupStart" "I" ∈ wsL_law := xr_in6 _ (List.mem_of_getElem? (i := 11) rfl)
theorem kw_6_12 : Cond.methodLink RX8 53 yX5_init ∈ wsL_law := xr_in6 _ (List.mem_of_getElem? (i := 12) rfl)
theorem kw_6_13 : Cond.instanceMethod yX5_init ∈ wsL_law := xr_in6 _ (List.mem_of_getElem? (i := 13) rfl)
theorem kw_6_14 : Cond.code yX5_init cX5_init 2 none ∈ wsL_law := xr_in6 _ (List.mem_of_getElem? (i := 14) rfl)
theorem kw_6_15 : Cond.methodLink RX5 3 objectInit ∈ wsL_law := xr_in6 _ (List.mem_of_getElem? (i := 15) rfl)
theorem kw_6_16 : Cond.classLink RX5 9 RX4 ∈ wsL_law := xr_in6 _ (List.mem_of_getElem? (i := 16) rfl)
theorem kw_6_17 : Cond.fieldLink RX5 11 "TreeOdds$States" "ring" "[LTreeOdds$State;" ∈ wsL_law := xr_in6 _ (List.mem_of_getElem? (i := 17) rfl)
theorem kw_6_18 : Cond.fieldLink RX5 17 "TreeOdds$States" "size" "I" ∈ wsL_law := xr_in6 _ (List.mem_of_getElem? (i := 18) rfl)
theorem kw_6_19 : Cond.fieldLink RX5 21 "TreeOdds$States" "top" "I" ∈ wsL_law := xr_in6 _ (List.mem_of_getElem? (i := 19) rfl)
theorem kw_6_20 : Cond.instantiable RX4 4 ∈ wsL_law := xr_in6 _ (List.mem_of_getElem? (i := 20) rfl)
theorem kw_6_21 : Cond.initialized RX4 ∈ wsL_law := xr_in6 _ (List.mem_of_getElem? (i := 21) rfl)
theorem kw_6_22 : Cond.instanceMethod yX4_init ∈ wsL_law := xr_in6 _ (List.mem_of_getElem? (i := 22) rfl)
theorem kw_6_23 : Cond.code yX4_init cX4_init 1 none ∈ wsL_law := xr_in6 _ (List.mem_of_getElem? (i := 23) rfl)
theorem xr_in7 : ∀ w ∈ wsL_law_r7, w ∈ wsL_law := fun _ h => List.mem_append_left _ (List.mem_append_left _ (List.mem_append_left _ (List.mem_append_left _ (List.mem_append_left _ (List.mem_append_left _ (List.mem_append_left _ (List.mem_append_left _ (List.mem_append_left _ (List.mem_append_left _ (List.mem_append_left _ (List.mem_append_right _ (List.mem_append_right _ (List.mem_append_right _ (List.mem_append_right _ (List.mem_append_right _ (List.mem_append_right _ (List.mem_append_left _ h)))))))))))))))))
theorem kw_7_0 : Cond.methodLink RX4 3 objectInit ∈ wsL_law := xr_in7 _ (List.mem_of_getElem? (i := 0) rfl)
theorem kw_7_1 : Cond.fieldLink RX4 9 "TreeOdds$State" "signs" "[I" ∈ wsL_law := xr_in7 _ (List.mem_of_getElem? (i := 1) rfl)
theorem kw_7_2 : Cond.fieldLink RX4 15 "TreeOdds$State" "length" "I" ∈ wsL_law := xr_in7 _ (List.mem_of_getElem? (i := 2) rfl)
theorem kw_7_3 : Cond.fieldLink RX4 19 "TreeOdds$State" "depth" "I" ∈ wsL_law := xr_in7 _ (List.mem_of_getElem? (i := 3) rfl)
theorem kw_7_4 : Cond.fieldLink RX4 22 "TreeOdds$State" "guesser" "I" ∈ wsL_law := xr_in7 _ (List.mem_of_getElem? (i := 4) rfl)
theorem kw_7_5 : Cond.methodLink RL 12 yX9_init ∈ wsL_law := xr_in7 _ (List.mem_of_getElem? (i := 5) rfl)
theorem kw_7_6 : Cond.instanceMethod yX9_init ∈ wsL_law := xr_in7 _ (List.mem_of_getElem? (i := 6) rfl)
theorem kw_7_7 : Cond.code yX9_init cX9_init 1 none ∈ wsL_law := xr_in7 _ (List.mem_of_getElem? (i := 7) rfl)
theorem kw_7_8 : Cond.methodLink RX9 1 objectInit ∈ wsL_law := xr_in7 _ (List.mem_of_getElem? (i := 8) rfl)
theorem kw_7_9 : Cond.fieldLink RX9 7 "TreeOddsModel" "now" "[I" ∈ wsL_law := xr_in7 _ (List.mem_of_getElem? (i := 9) rfl)
theorem kw_7_10 : Cond.fieldLink RX9 13 "TreeOddsModel" "past" "[I" ∈ wsL_law := xr_in7 _ (List.mem_of_getElem? (i := 10) rfl)
theorem kw_7_11 : Cond.fieldLink RX9 16 "TreeOddsModel" "refused" "[I" ∈ wsL_law := xr_in7 _ (List.mem_of_getElem? (i := 11) rfl)
theorem kw_7_12 : Cond.fieldLink RX9 19 "TreeOddsModel" "line" "[I" ∈ wsL_law := xr_in7 _ (List.mem_of_getElem? (i := 12) rfl)
theorem kw_7_13 : Cond.fieldLink RX9 22 "TreeOddsModel" "noughts" "[I" ∈ wsL_law := xr_in7 _ (List.mem_of_getElem? (i := 13) rfl)
theorem kw_7_14 : Cond.fieldLink RX9 25 "TreeOddsModel" "ones" "[I" ∈ wsL_law := xr_in7 _ (List.mem_of_getElem? (i := 14) rfl)
theorem kw_7_15 : Cond.fieldLink RX9 28 "TreeOddsModel" "weights" "[I" ∈ wsL_law := xr_in7 _ (List.mem_of_getElem? (i := 15) rfl)
theorem kw_7_16 : Cond.fieldLink RX9 31 "TreeOddsModel" "ownCost" "[I" ∈ wsL_law := xr_in7 _ (List.mem_of_getElem? (i := 16) rfl)
theorem kw_7_17 : Cond.fieldLink RX9 34 "TreeOddsModel" "way" "[I" ∈ wsL_law := xr_in7 _ (List.mem_of_getElem? (i := 17) rfl)
theorem kw_7_18 : Cond.fieldLink RX9 37 "TreeOddsModel" "own" "[I" ∈ wsL_law := xr_in7 _ (List.mem_of_getElem? (i := 18) rfl)
theorem kw_7_19 : Cond.fieldLink RX9 40 "TreeOddsModel" "mixed" "[I" ∈ wsL_law := xr_in7 _ (List.mem_of_getElem? (i := 19) rfl)
theorem kw_7_20 : Cond.fieldLink RX9 43 "TreeOddsModel" "guessAt" "[I" ∈ wsL_law := xr_in7 _ (List.mem_of_getElem? (i := 20) rfl)
theorem kw_7_21 : Cond.fieldLink RX9 46 "TreeOddsModel" "treeCost" "[I" ∈ wsL_law := xr_in7 _ (List.mem_of_getElem? (i := 21) rfl)
theorem kw_7_22 : Cond.arrayClass .boolean ∈ wsL_law := xr_in7 _ (List.mem_of_getElem? (i := 22) rfl)
theorem kw_7_23 : Cond.fieldLink RX9 49 "TreeOddsModel" "isLeaf" "[Z" ∈ wsL_law := xr_in7 _ (List.mem_of_getElem? (i := 23) rfl)
theorem xr_in8 : ∀ w ∈ wsL_law_r8, w ∈ wsL_law := fun _ h => List.mem_append_left _ (List.mem_append_left _ (List.mem_append_left _ (List.mem_append_left _ (List.mem_append_left _ (List.mem_append_left _ (List.mem_append_left _ (List.mem_append_left _ (List.mem_append_left _ (List.mem_append_left _ (List.mem_append_left _ (List.mem_append_right _ (List.mem_append_right _ (List.mem_append_right _ (List.mem_append_right _ (List.mem_append_right _ (List.mem_append_right _ (List.mem_append_right _ (List.mem_append_left _ h))))))))))))))))))
theorem kw_8_0 : Cond.fieldLink RX9 53 "TreeOddsModel" "inTree" "[I" ∈ wsL_law := xr_in8 _ (List.mem_of_getElem? (i := 0) rfl)
theorem kw_8_1 : Cond.fieldLink RX9 56 "TreeOddsModel" "out" "[I" ∈ wsL_law := xr_in8 _ (List.mem_of_getElem? (i := 1) rfl)
theorem kw_8_2 : Cond.fieldLink RX9 59 "TreeOddsModel" "text" "[I" ∈ wsL_law := xr_in8 _ (List.mem_of_getElem? (i := 2) rfl)
theorem kw_8_3 : Cond.fieldLink RX9 62 "TreeOddsModel" "read" "[I" ∈ wsL_law := xr_in8 _ (List.mem_of_getElem? (i := 3) rfl)
theorem kw_8_4 : Cond.methodLink RL 13 yX8_sign ∈ wsL_law := xr_in8 _ (List.mem_of_getElem? (i := 4) rfl)
theorem kw_8_5 : Cond.instanceMethod yX8_sign ∈ wsL_law := xr_in8 _ (List.mem_of_getElem? (i := 5) rfl)
theorem kw_8_6 : Cond.selects RX8 yX8_sign yX8_sign ∈ wsL_law := xr_in8 _ (List.mem_of_getElem? (i := 6) rfl)
theorem kw_8_7 : Cond.code yX8_sign cX8_sign 2 (some .int) ∈ wsL_law := xr_in8 _ (List.mem_of_getElem? (i := 7) rfl)
theorem kw_8_8 : Cond.methodLink RX8 68 yX8_within ∈ wsL_law := xr_in8 _ (List.mem_of_getElem? (i := 8) rfl)
theorem kw_8_9 : Cond.static yX8_within ∈ wsL_law := xr_in8 _ (List.mem_of_getElem? (i := 9) rfl)
theorem kw_8_10 : Cond.code yX8_within cX8_within 3 (some .boolean) ∈ wsL_law := xr_in8 _ (List.mem_of_getElem? (i := 10) rfl)
theorem kw_8_11 : Cond.methodLink RX8 72 yX8_refuse ∈ wsL_law := xr_in8 _ (List.mem_of_getElem? (i := 11) rfl)
theorem kw_8_12 : Cond.instanceMethod yX8_refuse ∈ wsL_law := xr_in8 _ (List.mem_of_getElem? (i := 12) rfl)
theorem kw_8_13 : Cond.selects RX8 yX8_refuse yX8_refuse ∈ wsL_law := xr_in8 _ (List.mem_of_getElem? (i := 13) rfl)
theorem kw_8_14 : Cond.code yX8_refuse cX8_refuse 2 (some .int) ∈ wsL_law := xr_in8 _ (List.mem_of_getElem? (i := 14) rfl)
theorem kw_8_15 : Cond.methodLink RX8 76 yX8_hasRoom ∈ wsL_law := xr_in8 _ (List.mem_of_getElem? (i := 15) rfl)
theorem kw_8_16 : Cond.instanceMethod yX8_hasRoom ∈ wsL_law := xr_in8 _ (List.mem_of_getElem? (i := 16) rfl)
theorem kw_8_17 : Cond.selects RX8 yX8_hasRoom yX8_hasRoom ∈ wsL_law := xr_in8 _ (List.mem_of_getElem? (i := 17) rfl)
theorem kw_8_18 : Cond.code yX8_hasRoom cX8_hasRoom 2 (some .boolean) ∈ wsL_law := xr_in8 _ (List.mem_of_getElem? (i := 18) rfl)
theorem kw_8_19 : Cond.fieldLink RX8 107 "TreeOdds$Row" "length" "I" ∈ wsL_law := xr_in8 _ (List.mem_of_getElem? (i := 19) rfl)
theorem kw_8_20 : Cond.methodLink RX8 80 yX5_keep ∈ wsL_law := xr_in8 _ (List.mem_of_getElem? (i := 20) rfl)
theorem kw_8_21 : Cond.instanceMethod yX5_keep ∈ wsL_law := xr_in8 _ (List.mem_of_getElem? (i := 21) rfl)
theorem kw_8_22 : Cond.selects RX5 yX5_keep yX5_keep ∈ wsL_law := xr_in8 _ (List.mem_of_getElem? (i := 22) rfl)
theorem kw_8_23 : Cond.code yX5_keep cX5_keep 2 none ∈ wsL_law := xr_in8 _ (List.mem_of_getElem? (i := 23) rfl)
theorem xr_in9 : ∀ w ∈ wsL_law_r9, w ∈ wsL_law := fun _ h => List.mem_append_left _ (List.mem_append_left _ (List.mem_append_left _ (List.mem_append_left _ (List.mem_append_left _ (List.mem_append_left _ (List.mem_append_left _ (List.mem_append_left _ (List.mem_append_left _ (List.mem_append_left _ (List.mem_append_left _ (List.mem_append_right _ (List.mem_append_right _ (List.mem_append_right _ (List.mem_append_right _ (List.mem_append_right _ (List.mem_append_right _ (List.mem_append_right _ (List.mem_append_right _ (List.mem_append_left _ h)))))))))))))))))))
theorem kw_9_0 : Cond.methodLink RX5 25 Lib.Math.min.name ∈ wsL_law := xr_in9 _ (List.mem_of_getElem? (i := 0) rfl)
theorem kw_9_1 : Cond.static Lib.Math.min.name ∈ wsL_law := xr_in9 _ (List.mem_of_getElem? (i := 1) rfl)
theorem kw_9_2 : Cond.initialized "java/lang/Math" ∈ wsL_law := xr_in9 _ (List.mem_of_getElem? (i := 2) rfl)
theorem kw_9_3 : Cond.code Lib.Math.min.name Lib.Math.min.code 2 (some .int) ∈ wsL_law := xr_in9 _ (List.mem_of_getElem? (i := 3) rfl)
theorem kw_9_4 : Cond.methodLink RX5 31 yX4_copyFrom ∈ wsL_law := xr_in9 _ (List.mem_of_getElem? (i := 4) rfl)
theorem kw_9_5 : Cond.instanceMethod yX4_copyFrom ∈ wsL_law := xr_in9 _ (List.mem_of_getElem? (i := 5) rfl)
theorem kw_9_6 : Cond.selects RX4 yX4_copyFrom yX4_copyFrom ∈ wsL_law := xr_in9 _ (List.mem_of_getElem? (i := 6) rfl)
theorem kw_9_7 : Cond.code yX4_copyFrom cX4_copyFrom 3 none ∈ wsL_law := xr_in9 _ (List.mem_of_getElem? (i := 7) rfl)
theorem kw_9_8 : Cond.fieldLink RX4 25 "TreeOdds$Row" "length" "I" ∈ wsL_law := xr_in9 _ (List.mem_of_getElem? (i := 8) rfl)
theorem kw_9_9 : Cond.fieldLink RX4 28 "TreeOdds$Row" "pasts" "LTreeOdds$Pasts;" ∈ wsL_law := xr_in9 _ (List.mem_of_getElem? (i := 9) rfl)
theorem kw_9_10 : Cond.fieldLink RX4 32 "TreeOdds$Pasts" "depth" "I" ∈ wsL_law := xr_in9 _ (List.mem_of_getElem? (i := 10) rfl)
theorem kw_9_11 : Cond.fieldLink RX4 35 "TreeOdds$Pasts" "guesser" "I" ∈ wsL_law := xr_in9 _ (List.mem_of_getElem? (i := 11) rfl)
theorem kw_9_12 : Cond.fieldLink RX4 36 "TreeOdds$Row" "signs" "[I" ∈ wsL_law := xr_in9 _ (List.mem_of_getElem? (i := 12) rfl)
theorem kw_9_13 : Cond.methodLink RX8 84 yX3_put ∈ wsL_law := xr_in9 _ (List.mem_of_getElem? (i := 13) rfl)
theorem kw_9_14 : Cond.instanceMethod yX3_put ∈ wsL_law := xr_in9 _ (List.mem_of_getElem? (i := 14) rfl)
theorem kw_9_15 : Cond.selects RX3 yX3_put yX3_put ∈ wsL_law := xr_in9 _ (List.mem_of_getElem? (i := 15) rfl)
theorem kw_9_16 : Cond.code yX3_put cX3_put 2 (some .int) ∈ wsL_law := xr_in9 _ (List.mem_of_getElem? (i := 16) rfl)
theorem kw_9_17 : Cond.methodLink RX3 39 yX2_next ∈ wsL_law := xr_in9 _ (List.mem_of_getElem? (i := 17) rfl)
theorem kw_9_18 : Cond.instanceMethod yX2_next ∈ wsL_law := xr_in9 _ (List.mem_of_getElem? (i := 18) rfl)
theorem kw_9_19 : Cond.selects RX2 yX2_next yX2_next ∈ wsL_law := xr_in9 _ (List.mem_of_getElem? (i := 19) rfl)
theorem kw_9_20 : Cond.code yX2_next cX2_next 1 (some .int) ∈ wsL_law := xr_in9 _ (List.mem_of_getElem? (i := 20) rfl)
theorem kw_9_21 : Cond.static yX8_ofSign ∈ wsL_law := xr_in9 _ (List.mem_of_getElem? (i := 21) rfl)
theorem kw_9_22 : Cond.code yX8_ofSign cX8_ofSign 2 (some .int) ∈ wsL_law := xr_in9 _ (List.mem_of_getElem? (i := 22) rfl)
theorem kw_9_23 : Cond.constant RX8 148 (65536) ∈ wsL_law := xr_in9 _ (List.mem_of_getElem? (i := 23) rfl)
theorem xr_in10 : ∀ w ∈ wsL_law_r10, w ∈ wsL_law := fun _ h => List.mem_append_left _ (List.mem_append_left _ (List.mem_append_left _ (List.mem_append_left _ (List.mem_append_left _ (List.mem_append_left _ (List.mem_append_left _ (List.mem_append_left _ (List.mem_append_left _ (List.mem_append_left _ (List.mem_append_left _ (List.mem_append_right _ (List.mem_append_right _ (List.mem_append_right _ (List.mem_append_right _ (List.mem_append_right _ (List.mem_append_right _ (List.mem_append_right _ (List.mem_append_right _ (List.mem_append_right _ (List.mem_append_left _ h))))))))))))))))))))
theorem kw_10_0 : Cond.static yX8_bitsOf ∈ wsL_law := xr_in10 _ (List.mem_of_getElem? (i := 0) rfl)
theorem kw_10_1 : Cond.code yX8_bitsOf cX8_bitsOf 3 (some .int) ∈ wsL_law := xr_in10 _ (List.mem_of_getElem? (i := 1) rfl)
theorem kw_10_2 : Cond.methodLink RX3 51 yX2_take ∈ wsL_law := xr_in10 _ (List.mem_of_getElem? (i := 2) rfl)
theorem kw_10_3 : Cond.instanceMethod yX2_take ∈ wsL_law := xr_in10 _ (List.mem_of_getElem? (i := 3) rfl)
theorem kw_10_4 : Cond.selects RX2 yX2_take yX2_take ∈ wsL_law := xr_in10 _ (List.mem_of_getElem? (i := 4) rfl)
theorem kw_10_5 : Cond.code yX2_take cX2_take 4 none ∈ wsL_law := xr_in10 _ (List.mem_of_getElem? (i := 5) rfl)
theorem kw_10_6 : Cond.methodLink RX2 67 yX2_weighAnew ∈ wsL_law := xr_in10 _ (List.mem_of_getElem? (i := 6) rfl)
theorem kw_10_7 : Cond.instanceMethod yX2_weighAnew ∈ wsL_law := xr_in10 _ (List.mem_of_getElem? (i := 7) rfl)
theorem kw_10_8 : Cond.selects RX2 yX2_weighAnew yX2_weighAnew ∈ wsL_law := xr_in10 _ (List.mem_of_getElem? (i := 8) rfl)
theorem kw_10_9 : Cond.code yX2_weighAnew cX2_weighAnew 10 none ∈ wsL_law := xr_in10 _ (List.mem_of_getElem? (i := 9) rfl)
theorem kw_10_10 : Cond.constant RX2 88 (65472) ∈ wsL_law := xr_in10 _ (List.mem_of_getElem? (i := 10) rfl)
theorem kw_10_11 : Cond.methodLink RX2 71 yX2_tally ∈ wsL_law := xr_in10 _ (List.mem_of_getElem? (i := 11) rfl)
theorem kw_10_12 : Cond.instanceMethod yX2_tally ∈ wsL_law := xr_in10 _ (List.mem_of_getElem? (i := 12) rfl)
theorem kw_10_13 : Cond.selects RX2 yX2_tally yX2_tally ∈ wsL_law := xr_in10 _ (List.mem_of_getElem? (i := 13) rfl)
theorem kw_10_14 : Cond.code yX2_tally cX2_tally 3 none ∈ wsL_law := xr_in10 _ (List.mem_of_getElem? (i := 14) rfl)
theorem kw_10_15 : Cond.methodLink RL 17 yX9_sign ∈ wsL_law := xr_in10 _ (List.mem_of_getElem? (i := 15) rfl)
theorem kw_10_16 : Cond.instanceMethod yX9_sign ∈ wsL_law := xr_in10 _ (List.mem_of_getElem? (i := 16) rfl)
theorem kw_10_17 : Cond.selects RX9 yX9_sign yX9_sign ∈ wsL_law := xr_in10 _ (List.mem_of_getElem? (i := 17) rfl)
theorem kw_10_18 : Cond.code yX9_sign cX9_sign 2 (some .int) ∈ wsL_law := xr_in10 _ (List.mem_of_getElem? (i := 18) rfl)
theorem kw_10_19 : Cond.methodLink RX9 138 yX9_in ∈ wsL_law := xr_in10 _ (List.mem_of_getElem? (i := 19) rfl)
theorem kw_10_20 : Cond.static yX9_in ∈ wsL_law := xr_in10 _ (List.mem_of_getElem? (i := 20) rfl)
theorem kw_10_21 : Cond.code yX9_in cX9_in 6 (some .boolean) ∈ wsL_law := xr_in10 _ (List.mem_of_getElem? (i := 21) rfl)
theorem kw_10_22 : Cond.methodLink RX9 142 yX9_bad ∈ wsL_law := xr_in10 _ (List.mem_of_getElem? (i := 22) rfl)
theorem kw_10_23 : Cond.instanceMethod yX9_bad ∈ wsL_law := xr_in10 _ (List.mem_of_getElem? (i := 23) rfl)
theorem xr_in11 : ∀ w ∈ wsL_law_r11, w ∈ wsL_law := fun _ h => List.mem_append_left _ (List.mem_append_left _ (List.mem_append_left _ (List.mem_append_left _ (List.mem_append_left _ (List.mem_append_left _ (List.mem_append_left _ (List.mem_append_left _ (List.mem_append_left _ (List.mem_append_left _ (List.mem_append_left _ (List.mem_append_right _ (List.mem_append_right _ (List.mem_append_right _ (List.mem_append_right _ (List.mem_append_right _ (List.mem_append_right _ (List.mem_append_right _ (List.mem_append_right _ (List.mem_append_right _ (List.mem_append_right _ (List.mem_append_left _ h)))))))))))))))))))))
theorem kw_11_0 : Cond.selects RX9 yX9_bad yX9_bad ∈ wsL_law := xr_in11 _ (List.mem_of_getElem? (i := 0) rfl)
theorem kw_11_1 : Cond.code yX9_bad cX9_bad 2 (some .int) ∈ wsL_law := xr_in11 _ (List.mem_of_getElem? (i := 1) rfl)
theorem kw_11_2 : Cond.methodLink RX9 112 yX9_many ∈ wsL_law := xr_in11 _ (List.mem_of_getElem? (i := 2) rfl)
theorem kw_11_3 : Cond.instanceMethod yX9_many ∈ wsL_law := xr_in11 _ (List.mem_of_getElem? (i := 3) rfl)
theorem kw_11_4 : Cond.selects RX9 yX9_many yX9_many ∈ wsL_law := xr_in11 _ (List.mem_of_getElem? (i := 4) rfl)
theorem kw_11_5 : Cond.code yX9_many cX9_many 1 (some .int) ∈ wsL_law := xr_in11 _ (List.mem_of_getElem? (i := 5) rfl)
theorem kw_11_6 : Cond.methodLink RX9 145 yX9_full ∈ wsL_law := xr_in11 _ (List.mem_of_getElem? (i := 6) rfl)
theorem kw_11_7 : Cond.instanceMethod yX9_full ∈ wsL_law := xr_in11 _ (List.mem_of_getElem? (i := 7) rfl)
theorem kw_11_8 : Cond.selects RX9 yX9_full yX9_full ∈ wsL_law := xr_in11 _ (List.mem_of_getElem? (i := 8) rfl)
theorem kw_11_9 : Cond.code yX9_full cX9_full 1 (some .int) ∈ wsL_law := xr_in11 _ (List.mem_of_getElem? (i := 9) rfl)
theorem kw_11_10 : Cond.methodLink RX9 148 yX9_keep ∈ wsL_law := xr_in11 _ (List.mem_of_getElem? (i := 10) rfl)
theorem kw_11_11 : Cond.instanceMethod yX9_keep ∈ wsL_law := xr_in11 _ (List.mem_of_getElem? (i := 11) rfl)
theorem kw_11_12 : Cond.selects RX9 yX9_keep yX9_keep ∈ wsL_law := xr_in11 _ (List.mem_of_getElem? (i := 12) rfl)
theorem kw_11_13 : Cond.code yX9_keep cX9_keep 2 none ∈ wsL_law := xr_in11 _ (List.mem_of_getElem? (i := 13) rfl)
theorem kw_11_14 : Cond.fieldLink RX9 65 "TreeOddsModel" "states" "I" ∈ wsL_law := xr_in11 _ (List.mem_of_getElem? (i := 14) rfl)
theorem kw_11_15 : Cond.methodLink RX9 151 yX9_adds ∈ wsL_law := xr_in11 _ (List.mem_of_getElem? (i := 15) rfl)
theorem kw_11_16 : Cond.instanceMethod yX9_adds ∈ wsL_law := xr_in11 _ (List.mem_of_getElem? (i := 16) rfl)
theorem kw_11_17 : Cond.selects RX9 yX9_adds yX9_adds ∈ wsL_law := xr_in11 _ (List.mem_of_getElem? (i := 17) rfl)
theorem kw_11_18 : Cond.code yX9_adds cX9_adds 2 none ∈ wsL_law := xr_in11 _ (List.mem_of_getElem? (i := 18) rfl)
theorem kw_11_19 : Cond.methodLink RX9 154 yX9_costFrom ∈ wsL_law := xr_in11 _ (List.mem_of_getElem? (i := 19) rfl)
theorem kw_11_20 : Cond.instanceMethod yX9_costFrom ∈ wsL_law := xr_in11 _ (List.mem_of_getElem? (i := 20) rfl)
theorem kw_11_21 : Cond.selects RX9 yX9_costFrom yX9_costFrom ∈ wsL_law := xr_in11 _ (List.mem_of_getElem? (i := 21) rfl)
theorem kw_11_22 : Cond.code yX9_costFrom cX9_costFrom 5 (some .int) ∈ wsL_law := xr_in11 _ (List.mem_of_getElem? (i := 22) rfl)
theorem kw_11_23 : Cond.methodLink RX9 132 yX9_goesNow ∈ wsL_law := xr_in11 _ (List.mem_of_getElem? (i := 23) rfl)
theorem xr_in12 : ∀ w ∈ wsL_law_r12, w ∈ wsL_law := fun _ h => List.mem_append_left _ (List.mem_append_left _ (List.mem_append_left _ (List.mem_append_left _ (List.mem_append_left _ (List.mem_append_left _ (List.mem_append_left _ (List.mem_append_left _ (List.mem_append_left _ (List.mem_append_left _ (List.mem_append_left _ (List.mem_append_right _ (List.mem_append_right _ (List.mem_append_right _ (List.mem_append_right _ (List.mem_append_right _ (List.mem_append_right _ (List.mem_append_right _ (List.mem_append_right _ (List.mem_append_right _ (List.mem_append_right _ (List.mem_append_right _ (List.mem_append_left _ h))))))))))))))))))))))
theorem kw_12_0 : Cond.instanceMethod yX9_goesNow ∈ wsL_law := xr_in12 _ (List.mem_of_getElem? (i := 0) rfl)
theorem kw_12_1 : Cond.selects RX9 yX9_goesNow yX9_goesNow ∈ wsL_law := xr_in12 _ (List.mem_of_getElem? (i := 1) rfl)
theorem kw_12_2 : Cond.code yX9_goesNow cX9_goesNow 1 (some .int) ∈ wsL_law := xr_in12 _ (List.mem_of_getElem? (i := 2) rfl)
theorem kw_12_3 : Cond.methodLink RX9 123 yX9_depth ∈ wsL_law := xr_in12 _ (List.mem_of_getElem? (i := 3) rfl)
theorem kw_12_4 : Cond.instanceMethod yX9_depth ∈ wsL_law := xr_in12 _ (List.mem_of_getElem? (i := 4) rfl)
theorem kw_12_5 : Cond.selects RX9 yX9_depth yX9_depth ∈ wsL_law := xr_in12 _ (List.mem_of_getElem? (i := 5) rfl)
theorem kw_12_6 : Cond.code yX9_depth cX9_depth 1 (some .int) ∈ wsL_law := xr_in12 _ (List.mem_of_getElem? (i := 6) rfl)
theorem kw_12_7 : Cond.methodLink RX9 126 yX9_guesser ∈ wsL_law := xr_in12 _ (List.mem_of_getElem? (i := 7) rfl)
theorem kw_12_8 : Cond.instanceMethod yX9_guesser ∈ wsL_law := xr_in12 _ (List.mem_of_getElem? (i := 8) rfl)
theorem kw_12_9 : Cond.selects RX9 yX9_guesser yX9_guesser ∈ wsL_law := xr_in12 _ (List.mem_of_getElem? (i := 9) rfl)
theorem kw_12_10 : Cond.code yX9_guesser cX9_guesser 1 (some .int) ∈ wsL_law := xr_in12 _ (List.mem_of_getElem? (i := 10) rfl)
theorem kw_12_11 : Cond.methodLink RX9 129 yX9_goes ∈ wsL_law := xr_in12 _ (List.mem_of_getElem? (i := 11) rfl)
theorem kw_12_12 : Cond.instanceMethod yX9_goes ∈ wsL_law := xr_in12 _ (List.mem_of_getElem? (i := 12) rfl)
theorem kw_12_13 : Cond.selects RX9 yX9_goes yX9_goes ∈ wsL_law := xr_in12 _ (List.mem_of_getElem? (i := 13) rfl)
theorem kw_12_14 : Cond.code yX9_goes cX9_goes 5 (some .int) ∈ wsL_law := xr_in12 _ (List.mem_of_getElem? (i := 14) rfl)
theorem kw_12_15 : Cond.methodLink RX9 108 yX9_begins ∈ wsL_law := xr_in12 _ (List.mem_of_getElem? (i := 15) rfl)
theorem kw_12_16 : Cond.instanceMethod yX9_begins ∈ wsL_law := xr_in12 _ (List.mem_of_getElem? (i := 16) rfl)
theorem kw_12_17 : Cond.selects RX9 yX9_begins yX9_begins ∈ wsL_law := xr_in12 _ (List.mem_of_getElem? (i := 17) rfl)
theorem kw_12_18 : Cond.code yX9_begins cX9_begins 4 none ∈ wsL_law := xr_in12 _ (List.mem_of_getElem? (i := 18) rfl)
theorem kw_12_19 : Cond.fieldLink RX9 69 "TreeOddsModel" "came" "I" ∈ wsL_law := xr_in12 _ (List.mem_of_getElem? (i := 19) rfl)
theorem kw_12_20 : Cond.fieldLink RX9 72 "TreeOddsModel" "byDepth" "I" ∈ wsL_law := xr_in12 _ (List.mem_of_getElem? (i := 20) rfl)
theorem kw_12_21 : Cond.fieldLink RX9 75 "TreeOddsModel" "byGuesser" "I" ∈ wsL_law := xr_in12 _ (List.mem_of_getElem? (i := 21) rfl)
theorem kw_12_22 : Cond.constant RX9 78 (32768) ∈ wsL_law := xr_in12 _ (List.mem_of_getElem? (i := 22) rfl)
theorem kw_12_23 : Cond.methodLink RX9 116 yX9_guesses ∈ wsL_law := xr_in12 _ (List.mem_of_getElem? (i := 23) rfl)
theorem xr_in13 : ∀ w ∈ wsL_law_r13, w ∈ wsL_law := fun _ h => List.mem_append_left _ (List.mem_append_left _ (List.mem_append_left _ (List.mem_append_left _ (List.mem_append_left _ (List.mem_append_left _ (List.mem_append_left _ (List.mem_append_left _ (List.mem_append_left _ (List.mem_append_left _ (List.mem_append_left _ (List.mem_append_right _ (List.mem_append_right _ (List.mem_append_right _ (List.mem_append_right _ (List.mem_append_right _ (List.mem_append_right _ (List.mem_append_right _ (List.mem_append_right _ (List.mem_append_right _ (List.mem_append_right _ (List.mem_append_right _ (List.mem_append_right _ (List.mem_append_left _ h)))))))))))))))))))))))
theorem kw_13_0 : Cond.instanceMethod yX9_guesses ∈ wsL_law := xr_in13 _ (List.mem_of_getElem? (i := 0) rfl)
theorem kw_13_1 : Cond.selects RX9 yX9_guesses yX9_guesses ∈ wsL_law := xr_in13 _ (List.mem_of_getElem? (i := 1) rfl)
theorem kw_13_2 : Cond.code yX9_guesses cX9_guesses 5 (some .int) ∈ wsL_law := xr_in13 _ (List.mem_of_getElem? (i := 2) rfl)
theorem kw_13_3 : Cond.constantLong RX9 82 (65536) ∈ wsL_law := xr_in13 _ (List.mem_of_getElem? (i := 3) rfl)
theorem kw_13_4 : Cond.methodLink RX9 88 yX9_nodeOf ∈ wsL_law := xr_in13 _ (List.mem_of_getElem? (i := 4) rfl)
theorem kw_13_5 : Cond.static yX9_nodeOf ∈ wsL_law := xr_in13 _ (List.mem_of_getElem? (i := 5) rfl)
theorem kw_13_6 : Cond.code yX9_nodeOf cX9_nodeOf 2 (some .int) ∈ wsL_law := xr_in13 _ (List.mem_of_getElem? (i := 6) rfl)
theorem kw_13_7 : Cond.methodLink RX9 92 yX9_ownOf ∈ wsL_law := xr_in13 _ (List.mem_of_getElem? (i := 7) rfl)
theorem kw_13_8 : Cond.instanceMethod yX9_ownOf ∈ wsL_law := xr_in13 _ (List.mem_of_getElem? (i := 8) rfl)
theorem kw_13_9 : Cond.selects RX9 yX9_ownOf yX9_ownOf ∈ wsL_law := xr_in13 _ (List.mem_of_getElem? (i := 9) rfl)
theorem kw_13_10 : Cond.code yX9_ownOf cX9_ownOf 6 (some .int) ∈ wsL_law := xr_in13 _ (List.mem_of_getElem? (i := 10) rfl)
theorem kw_13_11 : Cond.methodLink RX9 84 yX9_held ∈ wsL_law := xr_in13 _ (List.mem_of_getElem? (i := 11) rfl)
theorem kw_13_12 : Cond.static yX9_held ∈ wsL_law := xr_in13 _ (List.mem_of_getElem? (i := 12) rfl)
theorem kw_13_13 : Cond.code yX9_held cX9_held 2 (some .int) ∈ wsL_law := xr_in13 _ (List.mem_of_getElem? (i := 13) rfl)
theorem kw_13_14 : Cond.constantLong RX9 79 (65535) ∈ wsL_law := xr_in13 _ (List.mem_of_getElem? (i := 14) rfl)
theorem kw_13_15 : Cond.constant RX9 81 (65535) ∈ wsL_law := xr_in13 _ (List.mem_of_getElem? (i := 15) rfl)
theorem kw_13_16 : Cond.methodLink RX9 97 yX9_odds ∈ wsL_law := xr_in13 _ (List.mem_of_getElem? (i := 16) rfl)
theorem kw_13_17 : Cond.static yX9_odds ∈ wsL_law := xr_in13 _ (List.mem_of_getElem? (i := 17) rfl)
theorem kw_13_18 : Cond.code yX9_odds cX9_odds 2 (some .int) ∈ wsL_law := xr_in13 _ (List.mem_of_getElem? (i := 18) rfl)
theorem kw_13_19 : Cond.constant RX9 96 (65536) ∈ wsL_law := xr_in13 _ (List.mem_of_getElem? (i := 19) rfl)
theorem kw_13_20 : Cond.methodLink RX9 105 yX9_bitsOf ∈ wsL_law := xr_in13 _ (List.mem_of_getElem? (i := 20) rfl)
theorem kw_13_21 : Cond.static yX9_bitsOf ∈ wsL_law := xr_in13 _ (List.mem_of_getElem? (i := 21) rfl)
theorem kw_13_22 : Cond.code yX9_bitsOf cX9_bitsOf 4 (some .int) ∈ wsL_law := xr_in13 _ (List.mem_of_getElem? (i := 22) rfl)
theorem kw_13_23 : Cond.methodLink RX9 119 yX9_comes ∈ wsL_law := xr_in13 _ (List.mem_of_getElem? (i := 23) rfl)
theorem xr_in14 : ∀ w ∈ wsL_law_r14, w ∈ wsL_law := fun _ h => List.mem_append_left _ (List.mem_append_left _ (List.mem_append_left _ (List.mem_append_left _ (List.mem_append_left _ (List.mem_append_left _ (List.mem_append_left _ (List.mem_append_left _ (List.mem_append_left _ (List.mem_append_left _ (List.mem_append_left _ (List.mem_append_right _ (List.mem_append_right _ (List.mem_append_right _ (List.mem_append_right _ (List.mem_append_right _ (List.mem_append_right _ (List.mem_append_right _ (List.mem_append_right _ (List.mem_append_right _ (List.mem_append_right _ (List.mem_append_right _ (List.mem_append_right _ (List.mem_append_right _ (List.mem_append_left _ h))))))))))))))))))))))))
theorem kw_14_0 : Cond.instanceMethod yX9_comes ∈ wsL_law := xr_in14 _ (List.mem_of_getElem? (i := 0) rfl)
theorem kw_14_1 : Cond.selects RX9 yX9_comes yX9_comes ∈ wsL_law := xr_in14 _ (List.mem_of_getElem? (i := 1) rfl)
theorem kw_14_2 : Cond.code yX9_comes cX9_comes 11 none ∈ wsL_law := xr_in14 _ (List.mem_of_getElem? (i := 2) rfl)
theorem kw_14_3 : Cond.constantLong RX9 100 (64) ∈ wsL_law := xr_in14 _ (List.mem_of_getElem? (i := 3) rfl)
theorem kw_14_4 : Cond.constantLong RX9 102 (65472) ∈ wsL_law := xr_in14 _ (List.mem_of_getElem? (i := 4) rfl)
theorem kw_14_5 : Cond.constant RX9 104 (65472) ∈ wsL_law := xr_in14 _ (List.mem_of_getElem? (i := 5) rfl)
theorem kw_14_6 : Cond.methodLink RX9 135 yX9_costAt ∈ wsL_law := xr_in14 _ (List.mem_of_getElem? (i := 6) rfl)
theorem kw_14_7 : Cond.instanceMethod yX9_costAt ∈ wsL_law := xr_in14 _ (List.mem_of_getElem? (i := 7) rfl)
theorem kw_14_8 : Cond.selects RX9 yX9_costAt yX9_costAt ∈ wsL_law := xr_in14 _ (List.mem_of_getElem? (i := 8) rfl)
theorem kw_14_9 : Cond.code yX9_costAt cX9_costAt 2 (some .int) ∈ wsL_law := xr_in14 _ (List.mem_of_getElem? (i := 9) rfl)
theorem kw_14_10 : Cond.methodLink RL 20 yX8_signs ∈ wsL_law := xr_in14 _ (List.mem_of_getElem? (i := 10) rfl)
theorem kw_14_11 : Cond.instanceMethod yX8_signs ∈ wsL_law := xr_in14 _ (List.mem_of_getElem? (i := 11) rfl)
theorem kw_14_12 : Cond.selects RX8 yX8_signs yX8_signs ∈ wsL_law := xr_in14 _ (List.mem_of_getElem? (i := 12) rfl)
theorem kw_14_13 : Cond.code yX8_signs cX8_signs 6 (some .int) ∈ wsL_law := xr_in14 _ (List.mem_of_getElem? (i := 13) rfl)
theorem kw_14_14 : Cond.methodLink RL 24 yX9_signs ∈ wsL_law := xr_in14 _ (List.mem_of_getElem? (i := 14) rfl)
theorem kw_14_15 : Cond.instanceMethod yX9_signs ∈ wsL_law := xr_in14 _ (List.mem_of_getElem? (i := 15) rfl)
theorem kw_14_16 : Cond.selects RX9 yX9_signs yX9_signs ∈ wsL_law := xr_in14 _ (List.mem_of_getElem? (i := 16) rfl)
theorem kw_14_17 : Cond.code yX9_signs cX9_signs 6 (some .int) ∈ wsL_law := xr_in14 _ (List.mem_of_getElem? (i := 17) rfl)
theorem kw_14_18 : Cond.methodLink RL 25 yX8_draw ∈ wsL_law := xr_in14 _ (List.mem_of_getElem? (i := 18) rfl)
theorem kw_14_19 : Cond.instanceMethod yX8_draw ∈ wsL_law := xr_in14 _ (List.mem_of_getElem? (i := 19) rfl)
theorem kw_14_20 : Cond.selects RX8 yX8_draw yX8_draw ∈ wsL_law := xr_in14 _ (List.mem_of_getElem? (i := 20) rfl)
theorem kw_14_21 : Cond.code yX8_draw cX8_draw 9 (some .int) ∈ wsL_law := xr_in14 _ (List.mem_of_getElem? (i := 21) rfl)
theorem kw_14_22 : Cond.constant RX8 87 (999999) ∈ wsL_law := xr_in14 _ (List.mem_of_getElem? (i := 22) rfl)
theorem kw_14_23 : Cond.constantLong RX8 88 (1103515245) ∈ wsL_law := xr_in14 _ (List.mem_of_getElem? (i := 23) rfl)
theorem xr_in15 : ∀ w ∈ wsL_law_r15, w ∈ wsL_law := fun _ h => List.mem_append_left _ (List.mem_append_left _ (List.mem_append_left _ (List.mem_append_left _ (List.mem_append_left _ (List.mem_append_left _ (List.mem_append_left _ (List.mem_append_left _ (List.mem_append_left _ (List.mem_append_left _ (List.mem_append_left _ (List.mem_append_right _ (List.mem_append_right _ (List.mem_append_right _ (List.mem_append_right _ (List.mem_append_right _ (List.mem_append_right _ (List.mem_append_right _ (List.mem_append_right _ (List.mem_append_right _ (List.mem_append_right _ (List.mem_append_right _ (List.mem_append_right _ (List.mem_append_right _ (List.mem_append_right _ (List.mem_append_left _ h)))))))))))))))))))))))))
theorem kw_15_0 : Cond.constantLong RX8 90 (12345) ∈ wsL_law := xr_in15 _ (List.mem_of_getElem? (i := 0) rfl)
theorem kw_15_1 : Cond.constantLong RX8 92 (2147483648) ∈ wsL_law := xr_in15 _ (List.mem_of_getElem? (i := 1) rfl)
theorem kw_15_2 : Cond.constantLong RX8 96 (100) ∈ wsL_law := xr_in15 _ (List.mem_of_getElem? (i := 2) rfl)
theorem kw_15_3 : Cond.methodLink RL 29 yX9_draw ∈ wsL_law := xr_in15 _ (List.mem_of_getElem? (i := 3) rfl)
theorem kw_15_4 : Cond.instanceMethod yX9_draw ∈ wsL_law := xr_in15 _ (List.mem_of_getElem? (i := 4) rfl)
theorem kw_15_5 : Cond.selects RX9 yX9_draw yX9_draw ∈ wsL_law := xr_in15 _ (List.mem_of_getElem? (i := 5) rfl)
theorem kw_15_6 : Cond.code yX9_draw cX9_draw 9 (some .int) ∈ wsL_law := xr_in15 _ (List.mem_of_getElem? (i := 6) rfl)
theorem kw_15_7 : Cond.constantLong RX9 157 (999999) ∈ wsL_law := xr_in15 _ (List.mem_of_getElem? (i := 7) rfl)
theorem kw_15_8 : Cond.constantLong RX9 159 (100) ∈ wsL_law := xr_in15 _ (List.mem_of_getElem? (i := 8) rfl)
theorem kw_15_9 : Cond.constantLong RX9 161 (1103515245) ∈ wsL_law := xr_in15 _ (List.mem_of_getElem? (i := 9) rfl)
theorem kw_15_10 : Cond.constantLong RX9 163 (12345) ∈ wsL_law := xr_in15 _ (List.mem_of_getElem? (i := 10) rfl)
theorem kw_15_11 : Cond.constantLong RX9 165 (2147483648) ∈ wsL_law := xr_in15 _ (List.mem_of_getElem? (i := 11) rfl)
theorem kw_15_12 : Cond.methodLink RL 30 yX8_sets ∈ wsL_law := xr_in15 _ (List.mem_of_getElem? (i := 12) rfl)
theorem kw_15_13 : Cond.instanceMethod yX8_sets ∈ wsL_law := xr_in15 _ (List.mem_of_getElem? (i := 13) rfl)
theorem kw_15_14 : Cond.selects RX8 yX8_sets yX8_sets ∈ wsL_law := xr_in15 _ (List.mem_of_getElem? (i := 14) rfl)
theorem kw_15_15 : Cond.code yX8_sets cX8_sets 5 (some .int) ∈ wsL_law := xr_in15 _ (List.mem_of_getElem? (i := 15) rfl)
theorem kw_15_16 : Cond.fieldLink RX8 98 "TreeOdds$Row" "pasts" "LTreeOdds$Pasts;" ∈ wsL_law := xr_in15 _ (List.mem_of_getElem? (i := 16) rfl)
theorem kw_15_17 : Cond.fieldLink RX8 101 "TreeOdds$Pasts" "depth" "I" ∈ wsL_law := xr_in15 _ (List.mem_of_getElem? (i := 17) rfl)
theorem kw_15_18 : Cond.fieldLink RX8 104 "TreeOdds$Pasts" "guesser" "I" ∈ wsL_law := xr_in15 _ (List.mem_of_getElem? (i := 18) rfl)
theorem kw_15_19 : Cond.methodLink RX8 110 yX3_comeAnew ∈ wsL_law := xr_in15 _ (List.mem_of_getElem? (i := 19) rfl)
theorem kw_15_20 : Cond.instanceMethod yX3_comeAnew ∈ wsL_law := xr_in15 _ (List.mem_of_getElem? (i := 20) rfl)
theorem kw_15_21 : Cond.selects RX3 yX3_comeAnew yX3_comeAnew ∈ wsL_law := xr_in15 _ (List.mem_of_getElem? (i := 21) rfl)
theorem kw_15_22 : Cond.code yX3_comeAnew cX3_comeAnew 6 none ∈ wsL_law := xr_in15 _ (List.mem_of_getElem? (i := 22) rfl)
theorem kw_15_23 : Cond.methodLink RX3 59 yX2_begin ∈ wsL_law := xr_in15 _ (List.mem_of_getElem? (i := 23) rfl)
theorem xr_in16 : ∀ w ∈ wsL_law_r16, w ∈ wsL_law := fun _ h => List.mem_append_left _ (List.mem_append_left _ (List.mem_append_left _ (List.mem_append_left _ (List.mem_append_left _ (List.mem_append_left _ (List.mem_append_left _ (List.mem_append_left _ (List.mem_append_left _ (List.mem_append_left _ (List.mem_append_left _ (List.mem_append_right _ (List.mem_append_right _ (List.mem_append_right _ (List.mem_append_right _ (List.mem_append_right _ (List.mem_append_right _ (List.mem_append_right _ (List.mem_append_right _ (List.mem_append_right _ (List.mem_append_right _ (List.mem_append_right _ (List.mem_append_right _ (List.mem_append_right _ (List.mem_append_right _ (List.mem_append_right _ (List.mem_append_left _ h))))))))))))))))))))))))))
theorem kw_16_0 : Cond.methodLink RX3 63 yX3_put ∈ wsL_law := xr_in16 _ (List.mem_of_getElem? (i := 0) rfl)
theorem kw_16_1 : Cond.methodLink RL 34 yX9_sets ∈ wsL_law := xr_in16 _ (List.mem_of_getElem? (i := 1) rfl)
theorem kw_16_2 : Cond.instanceMethod yX9_sets ∈ wsL_law := xr_in16 _ (List.mem_of_getElem? (i := 2) rfl)
theorem kw_16_3 : Cond.selects RX9 yX9_sets yX9_sets ∈ wsL_law := xr_in16 _ (List.mem_of_getElem? (i := 3) rfl)
theorem kw_16_4 : Cond.code yX9_sets cX9_sets 4 (some .int) ∈ wsL_law := xr_in16 _ (List.mem_of_getElem? (i := 4) rfl)
theorem kw_16_5 : Cond.constantLong RX9 167 (6) ∈ wsL_law := xr_in16 _ (List.mem_of_getElem? (i := 5) rfl)
theorem kw_16_6 : Cond.constantLong RX9 169 (3) ∈ wsL_law := xr_in16 _ (List.mem_of_getElem? (i := 6) rfl)
theorem kw_16_7 : Cond.methodLink RL 35 yX8_empties ∈ wsL_law := xr_in16 _ (List.mem_of_getElem? (i := 7) rfl)
theorem kw_16_8 : Cond.instanceMethod yX8_empties ∈ wsL_law := xr_in16 _ (List.mem_of_getElem? (i := 8) rfl)
theorem kw_16_9 : Cond.selects RX8 yX8_empties yX8_empties ∈ wsL_law := xr_in16 _ (List.mem_of_getElem? (i := 9) rfl)
theorem kw_16_10 : Cond.code yX8_empties cX8_empties 2 (some .int) ∈ wsL_law := xr_in16 _ (List.mem_of_getElem? (i := 10) rfl)
theorem kw_16_11 : Cond.methodLink RL 39 yX9_empties ∈ wsL_law := xr_in16 _ (List.mem_of_getElem? (i := 11) rfl)
theorem kw_16_12 : Cond.instanceMethod yX9_empties ∈ wsL_law := xr_in16 _ (List.mem_of_getElem? (i := 12) rfl)
theorem kw_16_13 : Cond.selects RX9 yX9_empties yX9_empties ∈ wsL_law := xr_in16 _ (List.mem_of_getElem? (i := 13) rfl)
theorem kw_16_14 : Cond.code yX9_empties cX9_empties 2 (some .int) ∈ wsL_law := xr_in16 _ (List.mem_of_getElem? (i := 14) rfl)
theorem kw_16_15 : Cond.methodLink RL 40 yX8_drop ∈ wsL_law := xr_in16 _ (List.mem_of_getElem? (i := 15) rfl)
theorem kw_16_16 : Cond.instanceMethod yX8_drop ∈ wsL_law := xr_in16 _ (List.mem_of_getElem? (i := 16) rfl)
theorem kw_16_17 : Cond.selects RX8 yX8_drop yX8_drop ∈ wsL_law := xr_in16 _ (List.mem_of_getElem? (i := 17) rfl)
theorem kw_16_18 : Cond.code yX8_drop cX8_drop 1 (some .int) ∈ wsL_law := xr_in16 _ (List.mem_of_getElem? (i := 18) rfl)
theorem kw_16_19 : Cond.methodLink RL 43 yX9_drop ∈ wsL_law := xr_in16 _ (List.mem_of_getElem? (i := 19) rfl)
theorem kw_16_20 : Cond.instanceMethod yX9_drop ∈ wsL_law := xr_in16 _ (List.mem_of_getElem? (i := 20) rfl)
theorem kw_16_21 : Cond.selects RX9 yX9_drop yX9_drop ∈ wsL_law := xr_in16 _ (List.mem_of_getElem? (i := 21) rfl)
theorem kw_16_22 : Cond.code yX9_drop cX9_drop 1 (some .int) ∈ wsL_law := xr_in16 _ (List.mem_of_getElem? (i := 22) rfl)
theorem kw_16_23 : Cond.methodLink RX9 171 yX9_no ∈ wsL_law := xr_in16 _ (List.mem_of_getElem? (i := 23) rfl)
theorem xr_in17 : ∀ w ∈ wsL_law_r17, w ∈ wsL_law := fun _ h => List.mem_append_left _ (List.mem_append_left _ (List.mem_append_left _ (List.mem_append_left _ (List.mem_append_left _ (List.mem_append_left _ (List.mem_append_left _ (List.mem_append_left _ (List.mem_append_left _ (List.mem_append_left _ (List.mem_append_left _ (List.mem_append_right _ (List.mem_append_right _ (List.mem_append_right _ (List.mem_append_right _ (List.mem_append_right _ (List.mem_append_right _ (List.mem_append_right _ (List.mem_append_right _ (List.mem_append_right _ (List.mem_append_right _ (List.mem_append_right _ (List.mem_append_right _ (List.mem_append_right _ (List.mem_append_right _ (List.mem_append_right _ (List.mem_append_right _ (List.mem_append_left _ h)))))))))))))))))))))))))))
theorem kw_17_0 : Cond.instanceMethod yX9_no ∈ wsL_law := xr_in17 _ (List.mem_of_getElem? (i := 0) rfl)
theorem kw_17_1 : Cond.selects RX9 yX9_no yX9_no ∈ wsL_law := xr_in17 _ (List.mem_of_getElem? (i := 1) rfl)
theorem kw_17_2 : Cond.code yX9_no cX9_no 1 (some .int) ∈ wsL_law := xr_in17 _ (List.mem_of_getElem? (i := 2) rfl)
theorem kw_17_3 : Cond.methodLink RL 44 yX8_at ∈ wsL_law := xr_in17 _ (List.mem_of_getElem? (i := 3) rfl)
theorem kw_17_4 : Cond.instanceMethod yX8_at ∈ wsL_law := xr_in17 _ (List.mem_of_getElem? (i := 4) rfl)
theorem kw_17_5 : Cond.selects RX8 yX8_at yX8_at ∈ wsL_law := xr_in17 _ (List.mem_of_getElem? (i := 5) rfl)
theorem kw_17_6 : Cond.code yX8_at cX8_at 2 (some .int) ∈ wsL_law := xr_in17 _ (List.mem_of_getElem? (i := 6) rfl)
theorem kw_17_7 : Cond.fieldLink RX8 117 "TreeOdds$Row" "signs" "[I" ∈ wsL_law := xr_in17 _ (List.mem_of_getElem? (i := 7) rfl)
theorem kw_17_8 : Cond.methodLink RX8 114 yX3_has ∈ wsL_law := xr_in17 _ (List.mem_of_getElem? (i := 8) rfl)
theorem kw_17_9 : Cond.instanceMethod yX3_has ∈ wsL_law := xr_in17 _ (List.mem_of_getElem? (i := 9) rfl)
theorem kw_17_10 : Cond.selects RX3 yX3_has yX3_has ∈ wsL_law := xr_in17 _ (List.mem_of_getElem? (i := 10) rfl)
theorem kw_17_11 : Cond.code yX3_has cX3_has 2 (some .boolean) ∈ wsL_law := xr_in17 _ (List.mem_of_getElem? (i := 11) rfl)
theorem kw_17_12 : Cond.methodLink RL 47 yX9_at ∈ wsL_law := xr_in17 _ (List.mem_of_getElem? (i := 12) rfl)
theorem kw_17_13 : Cond.instanceMethod yX9_at ∈ wsL_law := xr_in17 _ (List.mem_of_getElem? (i := 13) rfl)
theorem kw_17_14 : Cond.selects RX9 yX9_at yX9_at ∈ wsL_law := xr_in17 _ (List.mem_of_getElem? (i := 14) rfl)
theorem kw_17_15 : Cond.code yX9_at cX9_at 2 (some .int) ∈ wsL_law := xr_in17 _ (List.mem_of_getElem? (i := 15) rfl)
theorem kw_17_16 : Cond.methodLink RL 48 yX8_guess ∈ wsL_law := xr_in17 _ (List.mem_of_getElem? (i := 16) rfl)
theorem kw_17_17 : Cond.instanceMethod yX8_guess ∈ wsL_law := xr_in17 _ (List.mem_of_getElem? (i := 17) rfl)
theorem kw_17_18 : Cond.selects RX8 yX8_guess yX8_guess ∈ wsL_law := xr_in17 _ (List.mem_of_getElem? (i := 18) rfl)
theorem kw_17_19 : Cond.code yX8_guess cX8_guess 1 (some .int) ∈ wsL_law := xr_in17 _ (List.mem_of_getElem? (i := 19) rfl)
theorem kw_17_20 : Cond.methodLink RX8 121 yX2_next ∈ wsL_law := xr_in17 _ (List.mem_of_getElem? (i := 20) rfl)
theorem kw_17_21 : Cond.methodLink RL 51 yX9_guess ∈ wsL_law := xr_in17 _ (List.mem_of_getElem? (i := 21) rfl)
theorem kw_17_22 : Cond.instanceMethod yX9_guess ∈ wsL_law := xr_in17 _ (List.mem_of_getElem? (i := 22) rfl)
theorem kw_17_23 : Cond.selects RX9 yX9_guess yX9_guess ∈ wsL_law := xr_in17 _ (List.mem_of_getElem? (i := 23) rfl)
theorem xr_in18 : ∀ w ∈ wsL_law_r18, w ∈ wsL_law := fun _ h => List.mem_append_left _ (List.mem_append_left _ (List.mem_append_left _ (List.mem_append_left _ (List.mem_append_left _ (List.mem_append_left _ (List.mem_append_left _ (List.mem_append_left _ (List.mem_append_left _ (List.mem_append_left _ (List.mem_append_left _ (List.mem_append_right _ (List.mem_append_right _ (List.mem_append_right _ (List.mem_append_right _ (List.mem_append_right _ (List.mem_append_right _ (List.mem_append_right _ (List.mem_append_right _ (List.mem_append_right _ (List.mem_append_right _ (List.mem_append_right _ (List.mem_append_right _ (List.mem_append_right _ (List.mem_append_right _ (List.mem_append_right _ (List.mem_append_right _ (List.mem_append_right _ (List.mem_append_left _ h))))))))))))))))))))))))))))
theorem kw_18_0 : Cond.code yX9_guess cX9_guess 1 (some .int) ∈ wsL_law := xr_in18 _ (List.mem_of_getElem? (i := 0) rfl)
theorem kw_18_1 : Cond.methodLink RX9 174 yX9_guessNow ∈ wsL_law := xr_in18 _ (List.mem_of_getElem? (i := 1) rfl)
theorem kw_18_2 : Cond.instanceMethod yX9_guessNow ∈ wsL_law := xr_in18 _ (List.mem_of_getElem? (i := 2) rfl)
theorem kw_18_3 : Cond.selects RX9 yX9_guessNow yX9_guessNow ∈ wsL_law := xr_in18 _ (List.mem_of_getElem? (i := 3) rfl)
theorem kw_18_4 : Cond.code yX9_guessNow cX9_guessNow 2 (some .int) ∈ wsL_law := xr_in18 _ (List.mem_of_getElem? (i := 4) rfl)
theorem kw_18_5 : Cond.methodLink RL 52 yX8_was ∈ wsL_law := xr_in18 _ (List.mem_of_getElem? (i := 5) rfl)
theorem kw_18_6 : Cond.instanceMethod yX8_was ∈ wsL_law := xr_in18 _ (List.mem_of_getElem? (i := 6) rfl)
theorem kw_18_7 : Cond.selects RX8 yX8_was yX8_was ∈ wsL_law := xr_in18 _ (List.mem_of_getElem? (i := 7) rfl)
theorem kw_18_8 : Cond.code yX8_was cX8_was 3 (some .int) ∈ wsL_law := xr_in18 _ (List.mem_of_getElem? (i := 8) rfl)
theorem kw_18_9 : Cond.fieldLink RX8 125 "TreeOdds$Row" "foretold" "[I" ∈ wsL_law := xr_in18 _ (List.mem_of_getElem? (i := 9) rfl)
theorem kw_18_10 : Cond.fieldLink RX8 128 "TreeOdds$Row" "paid" "[I" ∈ wsL_law := xr_in18 _ (List.mem_of_getElem? (i := 10) rfl)
theorem kw_18_11 : Cond.methodLink RL 55 yX9_was ∈ wsL_law := xr_in18 _ (List.mem_of_getElem? (i := 11) rfl)
theorem kw_18_12 : Cond.instanceMethod yX9_was ∈ wsL_law := xr_in18 _ (List.mem_of_getElem? (i := 12) rfl)
theorem kw_18_13 : Cond.selects RX9 yX9_was yX9_was ∈ wsL_law := xr_in18 _ (List.mem_of_getElem? (i := 13) rfl)
theorem kw_18_14 : Cond.code yX9_was cX9_was 4 (some .int) ∈ wsL_law := xr_in18 _ (List.mem_of_getElem? (i := 14) rfl)
theorem kw_18_15 : Cond.methodLink RL 56 yX8_node ∈ wsL_law := xr_in18 _ (List.mem_of_getElem? (i := 15) rfl)
theorem kw_18_16 : Cond.instanceMethod yX8_node ∈ wsL_law := xr_in18 _ (List.mem_of_getElem? (i := 16) rfl)
theorem kw_18_17 : Cond.selects RX8 yX8_node yX8_node ∈ wsL_law := xr_in18 _ (List.mem_of_getElem? (i := 17) rfl)
theorem kw_18_18 : Cond.code yX8_node cX8_node 5 (some .int) ∈ wsL_law := xr_in18 _ (List.mem_of_getElem? (i := 18) rfl)
theorem kw_18_19 : Cond.fieldLink RX8 138 "TreeOdds$Pasts" "zeros" "[I" ∈ wsL_law := xr_in18 _ (List.mem_of_getElem? (i := 19) rfl)
theorem kw_18_20 : Cond.fieldLink RX8 141 "TreeOdds$Pasts" "ones" "[I" ∈ wsL_law := xr_in18 _ (List.mem_of_getElem? (i := 20) rfl)
theorem kw_18_21 : Cond.fieldLink RX8 149 "TreeOdds$Pasts" "weights" "[I" ∈ wsL_law := xr_in18 _ (List.mem_of_getElem? (i := 21) rfl)
theorem kw_18_22 : Cond.methodLink RX8 131 yX2_has ∈ wsL_law := xr_in18 _ (List.mem_of_getElem? (i := 22) rfl)
theorem kw_18_23 : Cond.instanceMethod yX2_has ∈ wsL_law := xr_in18 _ (List.mem_of_getElem? (i := 23) rfl)
theorem xr_in19 : ∀ w ∈ wsL_law_r19, w ∈ wsL_law := fun _ h => List.mem_append_left _ (List.mem_append_left _ (List.mem_append_left _ (List.mem_append_left _ (List.mem_append_left _ (List.mem_append_left _ (List.mem_append_left _ (List.mem_append_left _ (List.mem_append_left _ (List.mem_append_left _ (List.mem_append_left _ (List.mem_append_right _ (List.mem_append_right _ (List.mem_append_right _ (List.mem_append_right _ (List.mem_append_right _ (List.mem_append_right _ (List.mem_append_right _ (List.mem_append_right _ (List.mem_append_right _ (List.mem_append_right _ (List.mem_append_right _ (List.mem_append_right _ (List.mem_append_right _ (List.mem_append_right _ (List.mem_append_right _ (List.mem_append_right _ (List.mem_append_right _ (List.mem_append_right _ (List.mem_append_left _ h)))))))))))))))))))))))))))))
theorem kw_19_0 : Cond.selects RX2 yX2_has yX2_has ∈ wsL_law := xr_in19 _ (List.mem_of_getElem? (i := 0) rfl)
theorem kw_19_1 : Cond.code yX2_has cX2_has 3 (some .boolean) ∈ wsL_law := xr_in19 _ (List.mem_of_getElem? (i := 1) rfl)
theorem kw_19_2 : Cond.methodLink RX8 134 yX8_nodeOf ∈ wsL_law := xr_in19 _ (List.mem_of_getElem? (i := 2) rfl)
theorem kw_19_3 : Cond.methodLink RX8 144 yX8_opinion ∈ wsL_law := xr_in19 _ (List.mem_of_getElem? (i := 3) rfl)
theorem kw_19_4 : Cond.methodLink RL 59 yX9_node ∈ wsL_law := xr_in19 _ (List.mem_of_getElem? (i := 4) rfl)
theorem kw_19_5 : Cond.instanceMethod yX9_node ∈ wsL_law := xr_in19 _ (List.mem_of_getElem? (i := 5) rfl)
theorem kw_19_6 : Cond.selects RX9 yX9_node yX9_node ∈ wsL_law := xr_in19 _ (List.mem_of_getElem? (i := 6) rfl)
theorem kw_19_7 : Cond.code yX9_node cX9_node 6 (some .int) ∈ wsL_law := xr_in19 _ (List.mem_of_getElem? (i := 7) rfl)
theorem kw_19_8 : Cond.methodLink RX9 177 yX9_isNode ∈ wsL_law := xr_in19 _ (List.mem_of_getElem? (i := 8) rfl)
theorem kw_19_9 : Cond.instanceMethod yX9_isNode ∈ wsL_law := xr_in19 _ (List.mem_of_getElem? (i := 9) rfl)
theorem kw_19_10 : Cond.selects RX9 yX9_isNode yX9_isNode ∈ wsL_law := xr_in19 _ (List.mem_of_getElem? (i := 10) rfl)
theorem kw_19_11 : Cond.code yX9_isNode cX9_isNode 3 (some .boolean) ∈ wsL_law := xr_in19 _ (List.mem_of_getElem? (i := 11) rfl)
theorem kw_19_12 : Cond.methodLink RL 60 yX8_cost ∈ wsL_law := xr_in19 _ (List.mem_of_getElem? (i := 12) rfl)
theorem kw_19_13 : Cond.instanceMethod yX8_cost ∈ wsL_law := xr_in19 _ (List.mem_of_getElem? (i := 13) rfl)
theorem kw_19_14 : Cond.selects RX8 yX8_cost yX8_cost ∈ wsL_law := xr_in19 _ (List.mem_of_getElem? (i := 14) rfl)
theorem kw_19_15 : Cond.code yX8_cost cX8_cost 1 (some .int) ∈ wsL_law := xr_in19 _ (List.mem_of_getElem? (i := 15) rfl)
theorem kw_19_16 : Cond.fieldLink RX8 152 "TreeOdds$Row" "paidInAll" "I" ∈ wsL_law := xr_in19 _ (List.mem_of_getElem? (i := 16) rfl)
theorem kw_19_17 : Cond.methodLink RL 63 yX9_cost ∈ wsL_law := xr_in19 _ (List.mem_of_getElem? (i := 17) rfl)
theorem kw_19_18 : Cond.instanceMethod yX9_cost ∈ wsL_law := xr_in19 _ (List.mem_of_getElem? (i := 18) rfl)
theorem kw_19_19 : Cond.selects RX9 yX9_cost yX9_cost ∈ wsL_law := xr_in19 _ (List.mem_of_getElem? (i := 19) rfl)
theorem kw_19_20 : Cond.code yX9_cost cX9_cost 1 (some .int) ∈ wsL_law := xr_in19 _ (List.mem_of_getElem? (i := 20) rfl)
theorem kw_19_21 : Cond.methodLink RL 64 yX8_costBy ∈ wsL_law := xr_in19 _ (List.mem_of_getElem? (i := 21) rfl)
theorem kw_19_22 : Cond.instanceMethod yX8_costBy ∈ wsL_law := xr_in19 _ (List.mem_of_getElem? (i := 22) rfl)
theorem kw_19_23 : Cond.selects RX8 yX8_costBy yX8_costBy ∈ wsL_law := xr_in19 _ (List.mem_of_getElem? (i := 23) rfl)
theorem xr_in20 : ∀ w ∈ wsL_law_r20, w ∈ wsL_law := fun _ h => List.mem_append_left _ (List.mem_append_left _ (List.mem_append_left _ (List.mem_append_left _ (List.mem_append_left _ (List.mem_append_left _ (List.mem_append_left _ (List.mem_append_left _ (List.mem_append_left _ (List.mem_append_left _ (List.mem_append_left _ (List.mem_append_right _ (List.mem_append_right _ (List.mem_append_right _ (List.mem_append_right _ (List.mem_append_right _ (List.mem_append_right _ (List.mem_append_right _ (List.mem_append_right _ (List.mem_append_right _ (List.mem_append_right _ (List.mem_append_right _ (List.mem_append_right _ (List.mem_append_right _ (List.mem_append_right _ (List.mem_append_right _ (List.mem_append_right _ (List.mem_append_right _ (List.mem_append_right _ (List.mem_append_right _ (List.mem_append_left _ h))))))))))))))))))))))))))))))
theorem kw_20_0 : Cond.code yX8_costBy cX8_costBy 3 (some .int) ∈ wsL_law := xr_in20 _ (List.mem_of_getElem? (i := 0) rfl)
theorem kw_20_1 : Cond.methodLink RX8 155 yX3_priceBy ∈ wsL_law := xr_in20 _ (List.mem_of_getElem? (i := 1) rfl)
theorem kw_20_2 : Cond.instanceMethod yX3_priceBy ∈ wsL_law := xr_in20 _ (List.mem_of_getElem? (i := 2) rfl)
theorem kw_20_3 : Cond.selects RX3 yX3_priceBy yX3_priceBy ∈ wsL_law := xr_in20 _ (List.mem_of_getElem? (i := 3) rfl)
theorem kw_20_4 : Cond.code yX3_priceBy cX3_priceBy 6 (some .int) ∈ wsL_law := xr_in20 _ (List.mem_of_getElem? (i := 4) rfl)
theorem kw_20_5 : Cond.methodLink RL 67 yX9_costBy ∈ wsL_law := xr_in20 _ (List.mem_of_getElem? (i := 5) rfl)
theorem kw_20_6 : Cond.instanceMethod yX9_costBy ∈ wsL_law := xr_in20 _ (List.mem_of_getElem? (i := 6) rfl)
theorem kw_20_7 : Cond.selects RX9 yX9_costBy yX9_costBy ∈ wsL_law := xr_in20 _ (List.mem_of_getElem? (i := 7) rfl)
theorem kw_20_8 : Cond.code yX9_costBy cX9_costBy 3 (some .int) ∈ wsL_law := xr_in20 _ (List.mem_of_getElem? (i := 8) rfl)
theorem kw_20_9 : Cond.methodLink RL 68 yX8_best ∈ wsL_law := xr_in20 _ (List.mem_of_getElem? (i := 9) rfl)
theorem kw_20_10 : Cond.instanceMethod yX8_best ∈ wsL_law := xr_in20 _ (List.mem_of_getElem? (i := 10) rfl)
theorem kw_20_11 : Cond.selects RX8 yX8_best yX8_best ∈ wsL_law := xr_in20 _ (List.mem_of_getElem? (i := 11) rfl)
theorem kw_20_12 : Cond.code yX8_best cX8_best 2 (some .int) ∈ wsL_law := xr_in20 _ (List.mem_of_getElem? (i := 12) rfl)
theorem kw_20_13 : Cond.fieldLink RX8 163 "TreeOdds$Contest" "depth" "I" ∈ wsL_law := xr_in20 _ (List.mem_of_getElem? (i := 13) rfl)
theorem kw_20_14 : Cond.fieldLink RX8 164 "TreeOdds$Contest" "guesser" "I" ∈ wsL_law := xr_in20 _ (List.mem_of_getElem? (i := 14) rfl)
theorem kw_20_15 : Cond.fieldLink RX8 165 "TreeOdds$Contest" "price" "I" ∈ wsL_law := xr_in20 _ (List.mem_of_getElem? (i := 15) rfl)
theorem kw_20_16 : Cond.methodLink RX8 159 yX1_judge ∈ wsL_law := xr_in20 _ (List.mem_of_getElem? (i := 16) rfl)
theorem kw_20_17 : Cond.instanceMethod yX1_judge ∈ wsL_law := xr_in20 _ (List.mem_of_getElem? (i := 17) rfl)
theorem kw_20_18 : Cond.selects RX1 yX1_judge yX1_judge ∈ wsL_law := xr_in20 _ (List.mem_of_getElem? (i := 18) rfl)
theorem kw_20_19 : Cond.code yX1_judge cX1_judge 6 none ∈ wsL_law := xr_in20 _ (List.mem_of_getElem? (i := 19) rfl)
theorem kw_20_20 : Cond.fieldLink RX1 38 "TreeOdds$Row" "length" "I" ∈ wsL_law := xr_in20 _ (List.mem_of_getElem? (i := 20) rfl)
theorem kw_20_21 : Cond.fieldLink RX1 39 "TreeOdds$Row" "signs" "[I" ∈ wsL_law := xr_in20 _ (List.mem_of_getElem? (i := 21) rfl)
theorem kw_20_22 : Cond.methodLink RX1 28 yX1_isJudged ∈ wsL_law := xr_in20 _ (List.mem_of_getElem? (i := 22) rfl)
theorem kw_20_23 : Cond.instanceMethod yX1_isJudged ∈ wsL_law := xr_in20 _ (List.mem_of_getElem? (i := 23) rfl)
theorem xr_in21 : ∀ w ∈ wsL_law_r21, w ∈ wsL_law := fun _ h => List.mem_append_left _ (List.mem_append_left _ (List.mem_append_left _ (List.mem_append_left _ (List.mem_append_left _ (List.mem_append_left _ (List.mem_append_left _ (List.mem_append_left _ (List.mem_append_left _ (List.mem_append_left _ (List.mem_append_left _ (List.mem_append_right _ (List.mem_append_right _ (List.mem_append_right _ (List.mem_append_right _ (List.mem_append_right _ (List.mem_append_right _ (List.mem_append_right _ (List.mem_append_right _ (List.mem_append_right _ (List.mem_append_right _ (List.mem_append_right _ (List.mem_append_right _ (List.mem_append_right _ (List.mem_append_right _ (List.mem_append_right _ (List.mem_append_right _ (List.mem_append_right _ (List.mem_append_right _ (List.mem_append_right _ (List.mem_append_right _ (List.mem_append_left _ h)))))))))))))))))))))))))))))))
theorem kw_21_0 : Cond.selects RX1 yX1_isJudged yX1_isJudged ∈ wsL_law := xr_in21 _ (List.mem_of_getElem? (i := 0) rfl)
theorem kw_21_1 : Cond.code yX1_isJudged cX1_isJudged 3 (some .boolean) ∈ wsL_law := xr_in21 _ (List.mem_of_getElem? (i := 1) rfl)
theorem kw_21_2 : Cond.methodLink RX1 32 yX3_priceBy ∈ wsL_law := xr_in21 _ (List.mem_of_getElem? (i := 2) rfl)
theorem kw_21_3 : Cond.methodLink RL 71 yX9_best ∈ wsL_law := xr_in21 _ (List.mem_of_getElem? (i := 3) rfl)
theorem kw_21_4 : Cond.instanceMethod yX9_best ∈ wsL_law := xr_in21 _ (List.mem_of_getElem? (i := 4) rfl)
theorem kw_21_5 : Cond.selects RX9 yX9_best yX9_best ∈ wsL_law := xr_in21 _ (List.mem_of_getElem? (i := 5) rfl)
theorem kw_21_6 : Cond.code yX9_best cX9_best 6 (some .int) ∈ wsL_law := xr_in21 _ (List.mem_of_getElem? (i := 6) rfl)
theorem kw_21_7 : Cond.constantLong RX9 181 (2) ∈ wsL_law := xr_in21 _ (List.mem_of_getElem? (i := 7) rfl)
theorem kw_21_8 : Cond.methodLink RL 72 yX8_follows ∈ wsL_law := xr_in21 _ (List.mem_of_getElem? (i := 8) rfl)
theorem kw_21_9 : Cond.instanceMethod yX8_follows ∈ wsL_law := xr_in21 _ (List.mem_of_getElem? (i := 9) rfl)
theorem kw_21_10 : Cond.selects RX8 yX8_follows yX8_follows ∈ wsL_law := xr_in21 _ (List.mem_of_getElem? (i := 10) rfl)
theorem kw_21_11 : Cond.code yX8_follows cX8_follows 5 (some .int) ∈ wsL_law := xr_in21 _ (List.mem_of_getElem? (i := 11) rfl)
theorem kw_21_12 : Cond.constant RX8 168 (32768) ∈ wsL_law := xr_in21 _ (List.mem_of_getElem? (i := 12) rfl)
theorem kw_21_13 : Cond.methodLink RX8 169 yX2_take ∈ wsL_law := xr_in21 _ (List.mem_of_getElem? (i := 13) rfl)
theorem kw_21_14 : Cond.methodLink RL 75 yX9_follows ∈ wsL_law := xr_in21 _ (List.mem_of_getElem? (i := 14) rfl)
theorem kw_21_15 : Cond.instanceMethod yX9_follows ∈ wsL_law := xr_in21 _ (List.mem_of_getElem? (i := 15) rfl)
theorem kw_21_16 : Cond.selects RX9 yX9_follows yX9_follows ∈ wsL_law := xr_in21 _ (List.mem_of_getElem? (i := 16) rfl)
theorem kw_21_17 : Cond.code yX9_follows cX9_follows 6 (some .int) ∈ wsL_law := xr_in21 _ (List.mem_of_getElem? (i := 17) rfl)
theorem kw_21_18 : Cond.constantLong RX9 183 (16) ∈ wsL_law := xr_in21 _ (List.mem_of_getElem? (i := 18) rfl)
theorem kw_21_19 : Cond.methodLink RL 76 yX8_tree ∈ wsL_law := xr_in21 _ (List.mem_of_getElem? (i := 19) rfl)
theorem kw_21_20 : Cond.instanceMethod yX8_tree ∈ wsL_law := xr_in21 _ (List.mem_of_getElem? (i := 20) rfl)
theorem kw_21_21 : Cond.selects RX8 yX8_tree yX8_tree ∈ wsL_law := xr_in21 _ (List.mem_of_getElem? (i := 21) rfl)
theorem kw_21_22 : Cond.code yX8_tree cX8_tree 2 (some .int) ∈ wsL_law := xr_in21 _ (List.mem_of_getElem? (i := 22) rfl)
theorem kw_21_23 : Cond.fieldLink RX8 179 "TreeOdds$BestTree" "leaves" "I" ∈ wsL_law := xr_in21 _ (List.mem_of_getElem? (i := 23) rfl)
theorem xr_in22 : ∀ w ∈ wsL_law_r22, w ∈ wsL_law := fun _ h => List.mem_append_left _ (List.mem_append_left _ (List.mem_append_left _ (List.mem_append_left _ (List.mem_append_left _ (List.mem_append_left _ (List.mem_append_left _ (List.mem_append_left _ (List.mem_append_left _ (List.mem_append_left _ (List.mem_append_left _ (List.mem_append_right _ (List.mem_append_right _ (List.mem_append_right _ (List.mem_append_right _ (List.mem_append_right _ (List.mem_append_right _ (List.mem_append_right _ (List.mem_append_right _ (List.mem_append_right _ (List.mem_append_right _ (List.mem_append_right _ (List.mem_append_right _ (List.mem_append_right _ (List.mem_append_right _ (List.mem_append_right _ (List.mem_append_right _ (List.mem_append_right _ (List.mem_append_right _ (List.mem_append_right _ (List.mem_append_right _ (List.mem_append_right _ (List.mem_append_left _ h))))))))))))))))))))))))))))))))
theorem kw_22_0 : Cond.fieldLink RX8 182 "TreeOdds$BestTree" "deepest" "I" ∈ wsL_law := xr_in22 _ (List.mem_of_getElem? (i := 0) rfl)
theorem kw_22_1 : Cond.methodLink RX8 173 yX0_grow ∈ wsL_law := xr_in22 _ (List.mem_of_getElem? (i := 1) rfl)
theorem kw_22_2 : Cond.instanceMethod yX0_grow ∈ wsL_law := xr_in22 _ (List.mem_of_getElem? (i := 2) rfl)
theorem kw_22_3 : Cond.selects RX0 yX0_grow yX0_grow ∈ wsL_law := xr_in22 _ (List.mem_of_getElem? (i := 3) rfl)
theorem kw_22_4 : Cond.code yX0_grow cX0_grow 4 none ∈ wsL_law := xr_in22 _ (List.mem_of_getElem? (i := 4) rfl)
theorem kw_22_5 : Cond.fieldLink RX0 25 "TreeOdds$Pasts" "depth" "I" ∈ wsL_law := xr_in22 _ (List.mem_of_getElem? (i := 5) rfl)
theorem kw_22_6 : Cond.methodLink RX0 30 yX0_weigh ∈ wsL_law := xr_in22 _ (List.mem_of_getElem? (i := 6) rfl)
theorem kw_22_7 : Cond.instanceMethod yX0_weigh ∈ wsL_law := xr_in22 _ (List.mem_of_getElem? (i := 7) rfl)
theorem kw_22_8 : Cond.selects RX0 yX0_weigh yX0_weigh ∈ wsL_law := xr_in22 _ (List.mem_of_getElem? (i := 8) rfl)
theorem kw_22_9 : Cond.code yX0_weigh cX0_weigh 6 none ∈ wsL_law := xr_in22 _ (List.mem_of_getElem? (i := 9) rfl)
theorem kw_22_10 : Cond.fieldLink RX0 42 "TreeOdds$Pasts" "paidAlone" "[I" ∈ wsL_law := xr_in22 _ (List.mem_of_getElem? (i := 10) rfl)
theorem kw_22_11 : Cond.methodLink RX0 34 yX0_settle ∈ wsL_law := xr_in22 _ (List.mem_of_getElem? (i := 11) rfl)
theorem kw_22_12 : Cond.instanceMethod yX0_settle ∈ wsL_law := xr_in22 _ (List.mem_of_getElem? (i := 12) rfl)
theorem kw_22_13 : Cond.selects RX0 yX0_settle yX0_settle ∈ wsL_law := xr_in22 _ (List.mem_of_getElem? (i := 13) rfl)
theorem kw_22_14 : Cond.code yX0_settle cX0_settle 4 none ∈ wsL_law := xr_in22 _ (List.mem_of_getElem? (i := 14) rfl)
theorem kw_22_15 : Cond.methodLink RX8 177 yX0_price ∈ wsL_law := xr_in22 _ (List.mem_of_getElem? (i := 15) rfl)
theorem kw_22_16 : Cond.instanceMethod yX0_price ∈ wsL_law := xr_in22 _ (List.mem_of_getElem? (i := 16) rfl)
theorem kw_22_17 : Cond.selects RX0 yX0_price yX0_price ∈ wsL_law := xr_in22 _ (List.mem_of_getElem? (i := 17) rfl)
theorem kw_22_18 : Cond.code yX0_price cX0_price 1 (some .int) ∈ wsL_law := xr_in22 _ (List.mem_of_getElem? (i := 18) rfl)
theorem kw_22_19 : Cond.methodLink RL 79 yX9_tree ∈ wsL_law := xr_in22 _ (List.mem_of_getElem? (i := 19) rfl)
theorem kw_22_20 : Cond.instanceMethod yX9_tree ∈ wsL_law := xr_in22 _ (List.mem_of_getElem? (i := 20) rfl)
theorem kw_22_21 : Cond.selects RX9 yX9_tree yX9_tree ∈ wsL_law := xr_in22 _ (List.mem_of_getElem? (i := 21) rfl)
theorem kw_22_22 : Cond.code yX9_tree cX9_tree 2 (some .int) ∈ wsL_law := xr_in22 _ (List.mem_of_getElem? (i := 22) rfl)
theorem kw_22_23 : Cond.methodLink RX9 192 yX9_treeOf ∈ wsL_law := xr_in22 _ (List.mem_of_getElem? (i := 23) rfl)
theorem xr_in23 : ∀ w ∈ wsL_law_r23, w ∈ wsL_law := fun _ h => List.mem_append_left _ (List.mem_append_left _ (List.mem_append_left _ (List.mem_append_left _ (List.mem_append_left _ (List.mem_append_left _ (List.mem_append_left _ (List.mem_append_left _ (List.mem_append_left _ (List.mem_append_left _ (List.mem_append_left _ (List.mem_append_right _ (List.mem_append_right _ (List.mem_append_right _ (List.mem_append_right _ (List.mem_append_right _ (List.mem_append_right _ (List.mem_append_right _ (List.mem_append_right _ (List.mem_append_right _ (List.mem_append_right _ (List.mem_append_right _ (List.mem_append_right _ (List.mem_append_right _ (List.mem_append_right _ (List.mem_append_right _ (List.mem_append_right _ (List.mem_append_right _ (List.mem_append_right _ (List.mem_append_right _ (List.mem_append_right _ (List.mem_append_right _ (List.mem_append_right _ (List.mem_append_left _ h)))))))))))))))))))))))))))))))))
theorem kw_23_0 : Cond.instanceMethod yX9_treeOf ∈ wsL_law := xr_in23 _ (List.mem_of_getElem? (i := 0) rfl)
theorem kw_23_1 : Cond.selects RX9 yX9_treeOf yX9_treeOf ∈ wsL_law := xr_in23 _ (List.mem_of_getElem? (i := 1) rfl)
theorem kw_23_2 : Cond.code yX9_treeOf cX9_treeOf 2 (some .int) ∈ wsL_law := xr_in23 _ (List.mem_of_getElem? (i := 2) rfl)
theorem kw_23_3 : Cond.methodLink RX9 185 yX9_plants ∈ wsL_law := xr_in23 _ (List.mem_of_getElem? (i := 3) rfl)
theorem kw_23_4 : Cond.instanceMethod yX9_plants ∈ wsL_law := xr_in23 _ (List.mem_of_getElem? (i := 4) rfl)
theorem kw_23_5 : Cond.selects RX9 yX9_plants yX9_plants ∈ wsL_law := xr_in23 _ (List.mem_of_getElem? (i := 5) rfl)
theorem kw_23_6 : Cond.code yX9_plants cX9_plants 7 none ∈ wsL_law := xr_in23 _ (List.mem_of_getElem? (i := 6) rfl)
theorem kw_23_7 : Cond.methodLink RX9 188 yX9_leaves ∈ wsL_law := xr_in23 _ (List.mem_of_getElem? (i := 7) rfl)
theorem kw_23_8 : Cond.instanceMethod yX9_leaves ∈ wsL_law := xr_in23 _ (List.mem_of_getElem? (i := 8) rfl)
theorem kw_23_9 : Cond.selects RX9 yX9_leaves yX9_leaves ∈ wsL_law := xr_in23 _ (List.mem_of_getElem? (i := 9) rfl)
theorem kw_23_10 : Cond.code yX9_leaves cX9_leaves 7 (some .int) ∈ wsL_law := xr_in23 _ (List.mem_of_getElem? (i := 10) rfl)
theorem kw_23_11 : Cond.methodLink RL 80 yX8_leaf ∈ wsL_law := xr_in23 _ (List.mem_of_getElem? (i := 11) rfl)
theorem kw_23_12 : Cond.instanceMethod yX8_leaf ∈ wsL_law := xr_in23 _ (List.mem_of_getElem? (i := 12) rfl)
theorem kw_23_13 : Cond.selects RX8 yX8_leaf yX8_leaf ∈ wsL_law := xr_in23 _ (List.mem_of_getElem? (i := 13) rfl)
theorem kw_23_14 : Cond.code yX8_leaf cX8_leaf 3 (some .int) ∈ wsL_law := xr_in23 _ (List.mem_of_getElem? (i := 14) rfl)
theorem kw_23_15 : Cond.fieldLink RX8 185 "TreeOdds$BestTree" "kinds" "[I" ∈ wsL_law := xr_in23 _ (List.mem_of_getElem? (i := 15) rfl)
theorem kw_23_16 : Cond.methodLink RL 83 yX9_leaf ∈ wsL_law := xr_in23 _ (List.mem_of_getElem? (i := 16) rfl)
theorem kw_23_17 : Cond.instanceMethod yX9_leaf ∈ wsL_law := xr_in23 _ (List.mem_of_getElem? (i := 17) rfl)
theorem kw_23_18 : Cond.selects RX9 yX9_leaf yX9_leaf ∈ wsL_law := xr_in23 _ (List.mem_of_getElem? (i := 18) rfl)
theorem kw_23_19 : Cond.code yX9_leaf cX9_leaf 3 (some .int) ∈ wsL_law := xr_in23 _ (List.mem_of_getElem? (i := 19) rfl)
theorem kw_23_20 : Cond.methodLink RL 84 yX8_written ∈ wsL_law := xr_in23 _ (List.mem_of_getElem? (i := 20) rfl)
theorem kw_23_21 : Cond.instanceMethod yX8_written ∈ wsL_law := xr_in23 _ (List.mem_of_getElem? (i := 21) rfl)
theorem kw_23_22 : Cond.selects RX8 yX8_written yX8_written ∈ wsL_law := xr_in23 _ (List.mem_of_getElem? (i := 22) rfl)
theorem kw_23_23 : Cond.code yX8_written cX8_written 2 (some .int) ∈ wsL_law := xr_in23 _ (List.mem_of_getElem? (i := 23) rfl)
theorem xr_in24 : ∀ w ∈ wsL_law_r24, w ∈ wsL_law := fun _ h => List.mem_append_left _ (List.mem_append_left _ (List.mem_append_left _ (List.mem_append_left _ (List.mem_append_left _ (List.mem_append_left _ (List.mem_append_left _ (List.mem_append_left _ (List.mem_append_left _ (List.mem_append_left _ (List.mem_append_left _ (List.mem_append_right _ (List.mem_append_right _ (List.mem_append_right _ (List.mem_append_right _ (List.mem_append_right _ (List.mem_append_right _ (List.mem_append_right _ (List.mem_append_right _ (List.mem_append_right _ (List.mem_append_right _ (List.mem_append_right _ (List.mem_append_right _ (List.mem_append_right _ (List.mem_append_right _ (List.mem_append_right _ (List.mem_append_right _ (List.mem_append_right _ (List.mem_append_right _ (List.mem_append_right _ (List.mem_append_right _ (List.mem_append_right _ (List.mem_append_right _ (List.mem_append_right _ (List.mem_append_left _ h))))))))))))))))))))))))))))))))))
theorem kw_24_0 : Cond.fieldLink RX8 191 "TreeOdds$Writing" "length" "I" ∈ wsL_law := xr_in24 _ (List.mem_of_getElem? (i := 0) rfl)
theorem kw_24_1 : Cond.methodLink RX8 188 yX7_write ∈ wsL_law := xr_in24 _ (List.mem_of_getElem? (i := 1) rfl)
theorem kw_24_2 : Cond.instanceMethod yX7_write ∈ wsL_law := xr_in24 _ (List.mem_of_getElem? (i := 2) rfl)
theorem kw_24_3 : Cond.selects RX7 yX7_write yX7_write ∈ wsL_law := xr_in24 _ (List.mem_of_getElem? (i := 3) rfl)
theorem kw_24_4 : Cond.code yX7_write cX7_write 3 none ∈ wsL_law := xr_in24 _ (List.mem_of_getElem? (i := 4) rfl)
theorem kw_24_5 : Cond.fieldLink RX7 34 "TreeOdds$Row" "length" "I" ∈ wsL_law := xr_in24 _ (List.mem_of_getElem? (i := 5) rfl)
theorem kw_24_6 : Cond.fieldLink RX7 37 "TreeOdds$Row" "signs" "[I" ∈ wsL_law := xr_in24 _ (List.mem_of_getElem? (i := 6) rfl)
theorem kw_24_7 : Cond.fieldLink RX7 40 "TreeOdds$Row" "foretold" "[I" ∈ wsL_law := xr_in24 _ (List.mem_of_getElem? (i := 7) rfl)
theorem kw_24_8 : Cond.methodLink RX7 43 yX7_writeSign ∈ wsL_law := xr_in24 _ (List.mem_of_getElem? (i := 8) rfl)
theorem kw_24_9 : Cond.instanceMethod yX7_writeSign ∈ wsL_law := xr_in24 _ (List.mem_of_getElem? (i := 9) rfl)
theorem kw_24_10 : Cond.selects RX7 yX7_writeSign yX7_writeSign ∈ wsL_law := xr_in24 _ (List.mem_of_getElem? (i := 10) rfl)
theorem kw_24_11 : Cond.code yX7_writeSign cX7_writeSign 6 none ∈ wsL_law := xr_in24 _ (List.mem_of_getElem? (i := 11) rfl)
theorem kw_24_12 : Cond.constantLong RX7 88 (16777216) ∈ wsL_law := xr_in24 _ (List.mem_of_getElem? (i := 12) rfl)
theorem kw_24_13 : Cond.constantLong RX7 90 (256) ∈ wsL_law := xr_in24 _ (List.mem_of_getElem? (i := 13) rfl)
theorem kw_24_14 : Cond.methodLink RX7 84 yX7_partOfOne ∈ wsL_law := xr_in24 _ (List.mem_of_getElem? (i := 14) rfl)
theorem kw_24_15 : Cond.instanceMethod yX7_partOfOne ∈ wsL_law := xr_in24 _ (List.mem_of_getElem? (i := 15) rfl)
theorem kw_24_16 : Cond.selects RX7 yX7_partOfOne yX7_partOfOne ∈ wsL_law := xr_in24 _ (List.mem_of_getElem? (i := 16) rfl)
theorem kw_24_17 : Cond.code yX7_partOfOne cX7_partOfOne 2 (some .long) ∈ wsL_law := xr_in24 _ (List.mem_of_getElem? (i := 17) rfl)
theorem kw_24_18 : Cond.constantLong RX7 92 (65536) ∈ wsL_law := xr_in24 _ (List.mem_of_getElem? (i := 18) rfl)
theorem kw_24_19 : Cond.methodLink RX7 47 yX7_sendByte ∈ wsL_law := xr_in24 _ (List.mem_of_getElem? (i := 19) rfl)
theorem kw_24_20 : Cond.instanceMethod yX7_sendByte ∈ wsL_law := xr_in24 _ (List.mem_of_getElem? (i := 20) rfl)
theorem kw_24_21 : Cond.selects RX7 yX7_sendByte yX7_sendByte ∈ wsL_law := xr_in24 _ (List.mem_of_getElem? (i := 21) rfl)
theorem kw_24_22 : Cond.code yX7_sendByte cX7_sendByte 3 none ∈ wsL_law := xr_in24 _ (List.mem_of_getElem? (i := 22) rfl)
theorem kw_24_23 : Cond.constantLong RX7 94 (255) ∈ wsL_law := xr_in24 _ (List.mem_of_getElem? (i := 23) rfl)
theorem xr_in25 : ∀ w ∈ wsL_law_r25, w ∈ wsL_law := fun _ h => List.mem_append_left _ (List.mem_append_left _ (List.mem_append_left _ (List.mem_append_left _ (List.mem_append_left _ (List.mem_append_left _ (List.mem_append_left _ (List.mem_append_left _ (List.mem_append_left _ (List.mem_append_left _ (List.mem_append_left _ (List.mem_append_right _ (List.mem_append_right _ (List.mem_append_right _ (List.mem_append_right _ (List.mem_append_right _ (List.mem_append_right _ (List.mem_append_right _ (List.mem_append_right _ (List.mem_append_right _ (List.mem_append_right _ (List.mem_append_right _ (List.mem_append_right _ (List.mem_append_right _ (List.mem_append_right _ (List.mem_append_right _ (List.mem_append_right _ (List.mem_append_right _ (List.mem_append_right _ (List.mem_append_right _ (List.mem_append_right _ (List.mem_append_right _ (List.mem_append_right _ (List.mem_append_right _ (List.mem_append_right _ (List.mem_append_left _ h)))))))))))))))))))))))))))))))))))
theorem kw_25_0 : Cond.methodLink RX7 96 yX7_carry ∈ wsL_law := xr_in25 _ (List.mem_of_getElem? (i := 0) rfl)
theorem kw_25_1 : Cond.instanceMethod yX7_carry ∈ wsL_law := xr_in25 _ (List.mem_of_getElem? (i := 1) rfl)
theorem kw_25_2 : Cond.selects RX7 yX7_carry yX7_carry ∈ wsL_law := xr_in25 _ (List.mem_of_getElem? (i := 2) rfl)
theorem kw_25_3 : Cond.code yX7_carry cX7_carry 2 none ∈ wsL_law := xr_in25 _ (List.mem_of_getElem? (i := 3) rfl)
theorem kw_25_4 : Cond.methodLink RX8 192 yX7_byteAt ∈ wsL_law := xr_in25 _ (List.mem_of_getElem? (i := 4) rfl)
theorem kw_25_5 : Cond.instanceMethod yX7_byteAt ∈ wsL_law := xr_in25 _ (List.mem_of_getElem? (i := 5) rfl)
theorem kw_25_6 : Cond.selects RX7 yX7_byteAt yX7_byteAt ∈ wsL_law := xr_in25 _ (List.mem_of_getElem? (i := 6) rfl)
theorem kw_25_7 : Cond.code yX7_byteAt cX7_byteAt 2 (some .int) ∈ wsL_law := xr_in25 _ (List.mem_of_getElem? (i := 7) rfl)
theorem kw_25_8 : Cond.methodLink RL 87 yX9_written ∈ wsL_law := xr_in25 _ (List.mem_of_getElem? (i := 8) rfl)
theorem kw_25_9 : Cond.instanceMethod yX9_written ∈ wsL_law := xr_in25 _ (List.mem_of_getElem? (i := 9) rfl)
theorem kw_25_10 : Cond.selects RX9 yX9_written yX9_written ∈ wsL_law := xr_in25 _ (List.mem_of_getElem? (i := 10) rfl)
theorem kw_25_11 : Cond.code yX9_written cX9_written 2 (some .int) ∈ wsL_law := xr_in25 _ (List.mem_of_getElem? (i := 11) rfl)
theorem kw_25_12 : Cond.fieldLink RX9 203 "TreeOddsModel" "outLong" "I" ∈ wsL_law := xr_in25 _ (List.mem_of_getElem? (i := 12) rfl)
theorem kw_25_13 : Cond.methodLink RX9 213 yX9_writes ∈ wsL_law := xr_in25 _ (List.mem_of_getElem? (i := 13) rfl)
theorem kw_25_14 : Cond.instanceMethod yX9_writes ∈ wsL_law := xr_in25 _ (List.mem_of_getElem? (i := 14) rfl)
theorem kw_25_15 : Cond.selects RX9 yX9_writes yX9_writes ∈ wsL_law := xr_in25 _ (List.mem_of_getElem? (i := 15) rfl)
theorem kw_25_16 : Cond.code yX9_writes cX9_writes 7 none ∈ wsL_law := xr_in25 _ (List.mem_of_getElem? (i := 16) rfl)
theorem kw_25_17 : Cond.constantLong RX9 208 (4294967296) ∈ wsL_law := xr_in25 _ (List.mem_of_getElem? (i := 17) rfl)
theorem kw_25_18 : Cond.fieldLink RX9 195 "TreeOddsModel" "low" "J" ∈ wsL_law := xr_in25 _ (List.mem_of_getElem? (i := 18) rfl)
theorem kw_25_19 : Cond.constantLong RX9 199 (16777216) ∈ wsL_law := xr_in25 _ (List.mem_of_getElem? (i := 19) rfl)
theorem kw_25_20 : Cond.constantLong RX9 206 (256) ∈ wsL_law := xr_in25 _ (List.mem_of_getElem? (i := 20) rfl)
theorem kw_25_21 : Cond.methodLink RX9 210 yX9_goesOut ∈ wsL_law := xr_in25 _ (List.mem_of_getElem? (i := 21) rfl)
theorem kw_25_22 : Cond.instanceMethod yX9_goesOut ∈ wsL_law := xr_in25 _ (List.mem_of_getElem? (i := 22) rfl)
theorem kw_25_23 : Cond.selects RX9 yX9_goesOut yX9_goesOut ∈ wsL_law := xr_in25 _ (List.mem_of_getElem? (i := 23) rfl)
theorem xr_in26 : ∀ w ∈ wsL_law_r26, w ∈ wsL_law := fun _ h => List.mem_append_left _ (List.mem_append_left _ (List.mem_append_left _ (List.mem_append_left _ (List.mem_append_left _ (List.mem_append_left _ (List.mem_append_left _ (List.mem_append_left _ (List.mem_append_left _ (List.mem_append_left _ (List.mem_append_left _ (List.mem_append_right _ (List.mem_append_right _ (List.mem_append_right _ (List.mem_append_right _ (List.mem_append_right _ (List.mem_append_right _ (List.mem_append_right _ (List.mem_append_right _ (List.mem_append_right _ (List.mem_append_right _ (List.mem_append_right _ (List.mem_append_right _ (List.mem_append_right _ (List.mem_append_right _ (List.mem_append_right _ (List.mem_append_right _ (List.mem_append_right _ (List.mem_append_right _ (List.mem_append_right _ (List.mem_append_right _ (List.mem_append_right _ (List.mem_append_right _ (List.mem_append_right _ (List.mem_append_right _ (List.mem_append_right _ (List.mem_append_left _ h))))))))))))))))))))))))))))))))))))
theorem kw_26_0 : Cond.code yX9_goesOut cX9_goesOut 4 none ∈ wsL_law := xr_in26 _ (List.mem_of_getElem? (i := 0) rfl)
theorem kw_26_1 : Cond.constantLong RX9 201 (255) ∈ wsL_law := xr_in26 _ (List.mem_of_getElem? (i := 1) rfl)
theorem kw_26_2 : Cond.methodLink RL 88 yX8_reads ∈ wsL_law := xr_in26 _ (List.mem_of_getElem? (i := 2) rfl)
theorem kw_26_3 : Cond.instanceMethod yX8_reads ∈ wsL_law := xr_in26 _ (List.mem_of_getElem? (i := 3) rfl)
theorem kw_26_4 : Cond.selects RX8 yX8_reads yX8_reads ∈ wsL_law := xr_in26 _ (List.mem_of_getElem? (i := 4) rfl)
theorem kw_26_5 : Cond.code yX8_reads cX8_reads 3 (some .int) ∈ wsL_law := xr_in26 _ (List.mem_of_getElem? (i := 5) rfl)
theorem kw_26_6 : Cond.methodLink RX8 195 yX7_spoil ∈ wsL_law := xr_in26 _ (List.mem_of_getElem? (i := 6) rfl)
theorem kw_26_7 : Cond.instanceMethod yX7_spoil ∈ wsL_law := xr_in26 _ (List.mem_of_getElem? (i := 7) rfl)
theorem kw_26_8 : Cond.selects RX7 yX7_spoil yX7_spoil ∈ wsL_law := xr_in26 _ (List.mem_of_getElem? (i := 8) rfl)
theorem kw_26_9 : Cond.code yX7_spoil cX7_spoil 3 none ∈ wsL_law := xr_in26 _ (List.mem_of_getElem? (i := 9) rfl)
theorem kw_26_10 : Cond.methodLink RX8 199 yX7_readAgain ∈ wsL_law := xr_in26 _ (List.mem_of_getElem? (i := 10) rfl)
theorem kw_26_11 : Cond.instanceMethod yX7_readAgain ∈ wsL_law := xr_in26 _ (List.mem_of_getElem? (i := 11) rfl)
theorem kw_26_12 : Cond.selects RX7 yX7_readAgain yX7_readAgain ∈ wsL_law := xr_in26 _ (List.mem_of_getElem? (i := 12) rfl)
theorem kw_26_13 : Cond.code yX7_readAgain cX7_readAgain 6 (some .int) ∈ wsL_law := xr_in26 _ (List.mem_of_getElem? (i := 13) rfl)
theorem kw_26_14 : Cond.fieldLink RX7 54 "TreeOdds$Row" "pasts" "LTreeOdds$Pasts;" ∈ wsL_law := xr_in26 _ (List.mem_of_getElem? (i := 14) rfl)
theorem kw_26_15 : Cond.fieldLink RX7 58 "TreeOdds$Pasts" "depth" "I" ∈ wsL_law := xr_in26 _ (List.mem_of_getElem? (i := 15) rfl)
theorem kw_26_16 : Cond.fieldLink RX7 63 "TreeOdds$Pasts" "guesser" "I" ∈ wsL_law := xr_in26 _ (List.mem_of_getElem? (i := 16) rfl)
theorem kw_26_17 : Cond.methodLink RX7 66 yX2_begin ∈ wsL_law := xr_in26 _ (List.mem_of_getElem? (i := 17) rfl)
theorem kw_26_18 : Cond.methodLink RX7 69 yX7_fetchByte ∈ wsL_law := xr_in26 _ (List.mem_of_getElem? (i := 18) rfl)
theorem kw_26_19 : Cond.instanceMethod yX7_fetchByte ∈ wsL_law := xr_in26 _ (List.mem_of_getElem? (i := 19) rfl)
theorem kw_26_20 : Cond.selects RX7 yX7_fetchByte yX7_fetchByte ∈ wsL_law := xr_in26 _ (List.mem_of_getElem? (i := 20) rfl)
theorem kw_26_21 : Cond.code yX7_fetchByte cX7_fetchByte 1 none ∈ wsL_law := xr_in26 _ (List.mem_of_getElem? (i := 21) rfl)
theorem kw_26_22 : Cond.methodLink RX7 99 yX7_byteAt ∈ wsL_law := xr_in26 _ (List.mem_of_getElem? (i := 22) rfl)
theorem kw_26_23 : Cond.methodLink RX7 72 yX2_next ∈ wsL_law := xr_in26 _ (List.mem_of_getElem? (i := 23) rfl)
theorem xr_in27 : ∀ w ∈ wsL_law_r27, w ∈ wsL_law := fun _ h => List.mem_append_left _ (List.mem_append_left _ (List.mem_append_left _ (List.mem_append_left _ (List.mem_append_left _ (List.mem_append_left _ (List.mem_append_left _ (List.mem_append_left _ (List.mem_append_left _ (List.mem_append_left _ (List.mem_append_left _ (List.mem_append_right _ (List.mem_append_right _ (List.mem_append_right _ (List.mem_append_right _ (List.mem_append_right _ (List.mem_append_right _ (List.mem_append_right _ (List.mem_append_right _ (List.mem_append_right _ (List.mem_append_right _ (List.mem_append_right _ (List.mem_append_right _ (List.mem_append_right _ (List.mem_append_right _ (List.mem_append_right _ (List.mem_append_right _ (List.mem_append_right _ (List.mem_append_right _ (List.mem_append_right _ (List.mem_append_right _ (List.mem_append_right _ (List.mem_append_right _ (List.mem_append_right _ (List.mem_append_right _ (List.mem_append_right _ (List.mem_append_right _ (List.mem_append_left _ h)))))))))))))))))))))))))))))))))))))
theorem kw_27_0 : Cond.methodLink RX7 76 yX7_readSign ∈ wsL_law := xr_in27 _ (List.mem_of_getElem? (i := 0) rfl)
theorem kw_27_1 : Cond.instanceMethod yX7_readSign ∈ wsL_law := xr_in27 _ (List.mem_of_getElem? (i := 1) rfl)
theorem kw_27_2 : Cond.selects RX7 yX7_readSign yX7_readSign ∈ wsL_law := xr_in27 _ (List.mem_of_getElem? (i := 2) rfl)
theorem kw_27_3 : Cond.code yX7_readSign cX7_readSign 6 (some .int) ∈ wsL_law := xr_in27 _ (List.mem_of_getElem? (i := 3) rfl)
theorem kw_27_4 : Cond.methodLink RX7 80 yX2_take ∈ wsL_law := xr_in27 _ (List.mem_of_getElem? (i := 4) rfl)
theorem kw_27_5 : Cond.methodLink RL 91 yX9_reads ∈ wsL_law := xr_in27 _ (List.mem_of_getElem? (i := 5) rfl)
theorem kw_27_6 : Cond.instanceMethod yX9_reads ∈ wsL_law := xr_in27 _ (List.mem_of_getElem? (i := 6) rfl)
theorem kw_27_7 : Cond.selects RX9 yX9_reads yX9_reads ∈ wsL_law := xr_in27 _ (List.mem_of_getElem? (i := 7) rfl)
theorem kw_27_8 : Cond.code yX9_reads cX9_reads 13 (some .int) ∈ wsL_law := xr_in27 _ (List.mem_of_getElem? (i := 8) rfl)
theorem kw_27_9 : Cond.constantLong RX9 216 (-1) ∈ wsL_law := xr_in27 _ (List.mem_of_getElem? (i := 9) rfl)
theorem kw_27_10 : Cond.methodLink RX9 218 yX9_byteAt ∈ wsL_law := xr_in27 _ (List.mem_of_getElem? (i := 10) rfl)
theorem kw_27_11 : Cond.instanceMethod yX9_byteAt ∈ wsL_law := xr_in27 _ (List.mem_of_getElem? (i := 11) rfl)
theorem kw_27_12 : Cond.selects RX9 yX9_byteAt yX9_byteAt ∈ wsL_law := xr_in27 _ (List.mem_of_getElem? (i := 12) rfl)
theorem kw_27_13 : Cond.code yX9_byteAt cX9_byteAt 2 (some .int) ∈ wsL_law := xr_in27 _ (List.mem_of_getElem? (i := 13) rfl)
theorem kw_27_14 : Cond.methodLink RL 92 yX8_type ∈ wsL_law := xr_in27 _ (List.mem_of_getElem? (i := 14) rfl)
theorem kw_27_15 : Cond.instanceMethod yX8_type ∈ wsL_law := xr_in27 _ (List.mem_of_getElem? (i := 15) rfl)
theorem kw_27_16 : Cond.selects RX8 yX8_type yX8_type ∈ wsL_law := xr_in27 _ (List.mem_of_getElem? (i := 16) rfl)
theorem kw_27_17 : Cond.code yX8_type cX8_type 2 (some .int) ∈ wsL_law := xr_in27 _ (List.mem_of_getElem? (i := 17) rfl)
theorem kw_27_18 : Cond.fieldLink RX8 203 "TreeOdds$Text" "length" "I" ∈ wsL_law := xr_in27 _ (List.mem_of_getElem? (i := 18) rfl)
theorem kw_27_19 : Cond.methodLink RX8 204 yX6_append ∈ wsL_law := xr_in27 _ (List.mem_of_getElem? (i := 19) rfl)
theorem kw_27_20 : Cond.instanceMethod yX6_append ∈ wsL_law := xr_in27 _ (List.mem_of_getElem? (i := 20) rfl)
theorem kw_27_21 : Cond.selects RX6 yX6_append yX6_append ∈ wsL_law := xr_in27 _ (List.mem_of_getElem? (i := 21) rfl)
theorem kw_27_22 : Cond.code yX6_append cX6_append 2 (some .int) ∈ wsL_law := xr_in27 _ (List.mem_of_getElem? (i := 22) rfl)
theorem kw_27_23 : Cond.methodLink RL 95 yX9_type ∈ wsL_law := xr_in27 _ (List.mem_of_getElem? (i := 23) rfl)
theorem xr_in28 : ∀ w ∈ wsL_law_r28, w ∈ wsL_law := fun _ h => List.mem_append_left _ (List.mem_append_left _ (List.mem_append_left _ (List.mem_append_left _ (List.mem_append_left _ (List.mem_append_left _ (List.mem_append_left _ (List.mem_append_left _ (List.mem_append_left _ (List.mem_append_left _ (List.mem_append_left _ (List.mem_append_right _ (List.mem_append_right _ (List.mem_append_right _ (List.mem_append_right _ (List.mem_append_right _ (List.mem_append_right _ (List.mem_append_right _ (List.mem_append_right _ (List.mem_append_right _ (List.mem_append_right _ (List.mem_append_right _ (List.mem_append_right _ (List.mem_append_right _ (List.mem_append_right _ (List.mem_append_right _ (List.mem_append_right _ (List.mem_append_right _ (List.mem_append_right _ (List.mem_append_right _ (List.mem_append_right _ (List.mem_append_right _ (List.mem_append_right _ (List.mem_append_right _ (List.mem_append_right _ (List.mem_append_right _ (List.mem_append_right _ (List.mem_append_right _ (List.mem_append_left _ h))))))))))))))))))))))))))))))))))))))
theorem kw_28_0 : Cond.instanceMethod yX9_type ∈ wsL_law := xr_in28 _ (List.mem_of_getElem? (i := 0) rfl)
theorem kw_28_1 : Cond.selects RX9 yX9_type yX9_type ∈ wsL_law := xr_in28 _ (List.mem_of_getElem? (i := 1) rfl)
theorem kw_28_2 : Cond.code yX9_type cX9_type 2 (some .int) ∈ wsL_law := xr_in28 _ (List.mem_of_getElem? (i := 2) rfl)
theorem kw_28_3 : Cond.constantLong RX9 221 (127) ∈ wsL_law := xr_in28 _ (List.mem_of_getElem? (i := 3) rfl)
theorem kw_28_4 : Cond.fieldLink RX9 223 "TreeOddsModel" "textLong" "I" ∈ wsL_law := xr_in28 _ (List.mem_of_getElem? (i := 4) rfl)
theorem kw_28_5 : Cond.methodLink RL 96 yX8_clear ∈ wsL_law := xr_in28 _ (List.mem_of_getElem? (i := 5) rfl)
theorem kw_28_6 : Cond.instanceMethod yX8_clear ∈ wsL_law := xr_in28 _ (List.mem_of_getElem? (i := 6) rfl)
theorem kw_28_7 : Cond.selects RX8 yX8_clear yX8_clear ∈ wsL_law := xr_in28 _ (List.mem_of_getElem? (i := 7) rfl)
theorem kw_28_8 : Cond.code yX8_clear cX8_clear 2 (some .int) ∈ wsL_law := xr_in28 _ (List.mem_of_getElem? (i := 8) rfl)
theorem kw_28_9 : Cond.methodLink RL 99 yX9_clear ∈ wsL_law := xr_in28 _ (List.mem_of_getElem? (i := 9) rfl)
theorem kw_28_10 : Cond.instanceMethod yX9_clear ∈ wsL_law := xr_in28 _ (List.mem_of_getElem? (i := 10) rfl)
theorem kw_28_11 : Cond.selects RX9 yX9_clear yX9_clear ∈ wsL_law := xr_in28 _ (List.mem_of_getElem? (i := 11) rfl)
theorem kw_28_12 : Cond.code yX9_clear cX9_clear 2 (some .int) ∈ wsL_law := xr_in28 _ (List.mem_of_getElem? (i := 12) rfl)
theorem kw_28_13 : Cond.methodLink RL 100 yX8_told ∈ wsL_law := xr_in28 _ (List.mem_of_getElem? (i := 13) rfl)
theorem kw_28_14 : Cond.instanceMethod yX8_told ∈ wsL_law := xr_in28 _ (List.mem_of_getElem? (i := 14) rfl)
theorem kw_28_15 : Cond.selects RX8 yX8_told yX8_told ∈ wsL_law := xr_in28 _ (List.mem_of_getElem? (i := 15) rfl)
theorem kw_28_16 : Cond.code yX8_told cX8_told 2 (some .int) ∈ wsL_law := xr_in28 _ (List.mem_of_getElem? (i := 16) rfl)
theorem kw_28_17 : Cond.fieldLink RX8 210 "TreeOdds$Text" "fault" "I" ∈ wsL_law := xr_in28 _ (List.mem_of_getElem? (i := 17) rfl)
theorem kw_28_18 : Cond.fieldLink RX8 213 "TreeOdds$Text" "found" "I" ∈ wsL_law := xr_in28 _ (List.mem_of_getElem? (i := 18) rfl)
theorem kw_28_19 : Cond.fieldLink RX8 216 "TreeOdds$Text" "signs" "[I" ∈ wsL_law := xr_in28 _ (List.mem_of_getElem? (i := 19) rfl)
theorem kw_28_20 : Cond.methodLink RX8 207 yX6_read ∈ wsL_law := xr_in28 _ (List.mem_of_getElem? (i := 20) rfl)
theorem kw_28_21 : Cond.instanceMethod yX6_read ∈ wsL_law := xr_in28 _ (List.mem_of_getElem? (i := 21) rfl)
theorem kw_28_22 : Cond.selects RX6 yX6_read yX6_read ∈ wsL_law := xr_in28 _ (List.mem_of_getElem? (i := 22) rfl)
theorem kw_28_23 : Cond.code yX6_read cX6_read 3 none ∈ wsL_law := xr_in28 _ (List.mem_of_getElem? (i := 23) rfl)
theorem xr_in29 : ∀ w ∈ wsL_law_r29, w ∈ wsL_law := fun _ h => List.mem_append_left _ (List.mem_append_left _ (List.mem_append_left _ (List.mem_append_left _ (List.mem_append_left _ (List.mem_append_left _ (List.mem_append_left _ (List.mem_append_left _ (List.mem_append_left _ (List.mem_append_left _ (List.mem_append_left _ (List.mem_append_right _ (List.mem_append_right _ (List.mem_append_right _ (List.mem_append_right _ (List.mem_append_right _ (List.mem_append_right _ (List.mem_append_right _ (List.mem_append_right _ (List.mem_append_right _ (List.mem_append_right _ (List.mem_append_right _ (List.mem_append_right _ (List.mem_append_right _ (List.mem_append_right _ (List.mem_append_right _ (List.mem_append_right _ (List.mem_append_right _ (List.mem_append_right _ (List.mem_append_right _ (List.mem_append_right _ (List.mem_append_right _ (List.mem_append_right _ (List.mem_append_right _ (List.mem_append_right _ (List.mem_append_right _ (List.mem_append_right _ (List.mem_append_right _ (List.mem_append_right _ (List.mem_append_left _ h)))))))))))))))))))))))))))))))))))))))
theorem kw_29_0 : Cond.methodLink RX6 45 yX6_skipBlanks ∈ wsL_law := xr_in29 _ (List.mem_of_getElem? (i := 0) rfl)
theorem kw_29_1 : Cond.instanceMethod yX6_skipBlanks ∈ wsL_law := xr_in29 _ (List.mem_of_getElem? (i := 1) rfl)
theorem kw_29_2 : Cond.selects RX6 yX6_skipBlanks yX6_skipBlanks ∈ wsL_law := xr_in29 _ (List.mem_of_getElem? (i := 2) rfl)
theorem kw_29_3 : Cond.code yX6_skipBlanks cX6_skipBlanks 2 none ∈ wsL_law := xr_in29 _ (List.mem_of_getElem? (i := 3) rfl)
theorem kw_29_4 : Cond.methodLink RX6 51 yX6_here ∈ wsL_law := xr_in29 _ (List.mem_of_getElem? (i := 4) rfl)
theorem kw_29_5 : Cond.instanceMethod yX6_here ∈ wsL_law := xr_in29 _ (List.mem_of_getElem? (i := 5) rfl)
theorem kw_29_6 : Cond.selects RX6 yX6_here yX6_here ∈ wsL_law := xr_in29 _ (List.mem_of_getElem? (i := 6) rfl)
theorem kw_29_7 : Cond.code yX6_here cX6_here 1 (some .int) ∈ wsL_law := xr_in29 _ (List.mem_of_getElem? (i := 7) rfl)
theorem kw_29_8 : Cond.methodLink RX6 48 yX6_readPiece ∈ wsL_law := xr_in29 _ (List.mem_of_getElem? (i := 8) rfl)
theorem kw_29_9 : Cond.instanceMethod yX6_readPiece ∈ wsL_law := xr_in29 _ (List.mem_of_getElem? (i := 9) rfl)
theorem kw_29_10 : Cond.selects RX6 yX6_readPiece yX6_readPiece ∈ wsL_law := xr_in29 _ (List.mem_of_getElem? (i := 10) rfl)
theorem kw_29_11 : Cond.code yX6_readPiece cX6_readPiece 2 none ∈ wsL_law := xr_in29 _ (List.mem_of_getElem? (i := 11) rfl)
theorem kw_29_12 : Cond.methodLink RX6 55 yX6_readSigns ∈ wsL_law := xr_in29 _ (List.mem_of_getElem? (i := 12) rfl)
theorem kw_29_13 : Cond.instanceMethod yX6_readSigns ∈ wsL_law := xr_in29 _ (List.mem_of_getElem? (i := 13) rfl)
theorem kw_29_14 : Cond.selects RX6 yX6_readSigns yX6_readSigns ∈ wsL_law := xr_in29 _ (List.mem_of_getElem? (i := 14) rfl)
theorem kw_29_15 : Cond.code yX6_readSigns cX6_readSigns 5 none ∈ wsL_law := xr_in29 _ (List.mem_of_getElem? (i := 15) rfl)
theorem kw_29_16 : Cond.methodLink RX6 62 yX6_readTimes ∈ wsL_law := xr_in29 _ (List.mem_of_getElem? (i := 16) rfl)
theorem kw_29_17 : Cond.instanceMethod yX6_readTimes ∈ wsL_law := xr_in29 _ (List.mem_of_getElem? (i := 17) rfl)
theorem kw_29_18 : Cond.selects RX6 yX6_readTimes yX6_readTimes ∈ wsL_law := xr_in29 _ (List.mem_of_getElem? (i := 18) rfl)
theorem kw_29_19 : Cond.code yX6_readTimes cX6_readTimes 4 (some .int) ∈ wsL_law := xr_in29 _ (List.mem_of_getElem? (i := 19) rfl)
theorem kw_29_20 : Cond.methodLink RX6 78 Lib.Math.min.name ∈ wsL_law := xr_in29 _ (List.mem_of_getElem? (i := 20) rfl)
theorem kw_29_21 : Cond.methodLink RX6 65 yX6_addSign ∈ wsL_law := xr_in29 _ (List.mem_of_getElem? (i := 21) rfl)
theorem kw_29_22 : Cond.instanceMethod yX6_addSign ∈ wsL_law := xr_in29 _ (List.mem_of_getElem? (i := 22) rfl)
theorem kw_29_23 : Cond.selects RX6 yX6_addSign yX6_addSign ∈ wsL_law := xr_in29 _ (List.mem_of_getElem? (i := 23) rfl)
theorem xr_in30 : ∀ w ∈ wsL_law_r30, w ∈ wsL_law := fun _ h => List.mem_append_left _ (List.mem_append_left _ (List.mem_append_left _ (List.mem_append_left _ (List.mem_append_left _ (List.mem_append_left _ (List.mem_append_left _ (List.mem_append_left _ (List.mem_append_left _ (List.mem_append_left _ (List.mem_append_left _ (List.mem_append_right _ (List.mem_append_right _ (List.mem_append_right _ (List.mem_append_right _ (List.mem_append_right _ (List.mem_append_right _ (List.mem_append_right _ (List.mem_append_right _ (List.mem_append_right _ (List.mem_append_right _ (List.mem_append_right _ (List.mem_append_right _ (List.mem_append_right _ (List.mem_append_right _ (List.mem_append_right _ (List.mem_append_right _ (List.mem_append_right _ (List.mem_append_right _ (List.mem_append_right _ (List.mem_append_right _ (List.mem_append_right _ (List.mem_append_right _ (List.mem_append_right _ (List.mem_append_right _ (List.mem_append_right _ (List.mem_append_right _ (List.mem_append_right _ (List.mem_append_right _ (List.mem_append_right _ (List.mem_append_left _ h))))))))))))))))))))))))))))))))))))))))
theorem kw_30_0 : Cond.code yX6_addSign cX6_addSign 2 none ∈ wsL_law := xr_in30 _ (List.mem_of_getElem? (i := 0) rfl)
theorem kw_30_1 : Cond.methodLink RX6 59 yX6_readGroupEnd ∈ wsL_law := xr_in30 _ (List.mem_of_getElem? (i := 1) rfl)
theorem kw_30_2 : Cond.instanceMethod yX6_readGroupEnd ∈ wsL_law := xr_in30 _ (List.mem_of_getElem? (i := 2) rfl)
theorem kw_30_3 : Cond.selects RX6 yX6_readGroupEnd yX6_readGroupEnd ∈ wsL_law := xr_in30 _ (List.mem_of_getElem? (i := 3) rfl)
theorem kw_30_4 : Cond.code yX6_readGroupEnd cX6_readGroupEnd 6 none ∈ wsL_law := xr_in30 _ (List.mem_of_getElem? (i := 4) rfl)
theorem kw_30_5 : Cond.methodLink RX6 68 Lib.Math.max.name ∈ wsL_law := xr_in30 _ (List.mem_of_getElem? (i := 5) rfl)
theorem kw_30_6 : Cond.static Lib.Math.max.name ∈ wsL_law := xr_in30 _ (List.mem_of_getElem? (i := 6) rfl)
theorem kw_30_7 : Cond.code Lib.Math.max.name Lib.Math.max.code 2 (some .int) ∈ wsL_law := xr_in30 _ (List.mem_of_getElem? (i := 7) rfl)
theorem kw_30_8 : Cond.methodLink RX6 74 yX6_signAt ∈ wsL_law := xr_in30 _ (List.mem_of_getElem? (i := 8) rfl)
theorem kw_30_9 : Cond.instanceMethod yX6_signAt ∈ wsL_law := xr_in30 _ (List.mem_of_getElem? (i := 9) rfl)
theorem kw_30_10 : Cond.selects RX6 yX6_signAt yX6_signAt ∈ wsL_law := xr_in30 _ (List.mem_of_getElem? (i := 10) rfl)
theorem kw_30_11 : Cond.code yX6_signAt cX6_signAt 2 (some .int) ∈ wsL_law := xr_in30 _ (List.mem_of_getElem? (i := 11) rfl)
theorem kw_30_12 : Cond.methodLink RL 103 yX9_told ∈ wsL_law := xr_in30 _ (List.mem_of_getElem? (i := 12) rfl)
theorem kw_30_13 : Cond.instanceMethod yX9_told ∈ wsL_law := xr_in30 _ (List.mem_of_getElem? (i := 13) rfl)
theorem kw_30_14 : Cond.selects RX9 yX9_told yX9_told ∈ wsL_law := xr_in30 _ (List.mem_of_getElem? (i := 14) rfl)
theorem kw_30_15 : Cond.code yX9_told cX9_told 3 (some .int) ∈ wsL_law := xr_in30 _ (List.mem_of_getElem? (i := 15) rfl)
theorem kw_30_16 : Cond.fieldLink RX9 226 "TreeOddsModel" "place" "I" ∈ wsL_law := xr_in30 _ (List.mem_of_getElem? (i := 16) rfl)
theorem kw_30_17 : Cond.fieldLink RX9 240 "TreeOddsModel" "readLong" "I" ∈ wsL_law := xr_in30 _ (List.mem_of_getElem? (i := 17) rfl)
theorem kw_30_18 : Cond.methodLink RX9 233 yX9_here ∈ wsL_law := xr_in30 _ (List.mem_of_getElem? (i := 18) rfl)
theorem kw_30_19 : Cond.instanceMethod yX9_here ∈ wsL_law := xr_in30 _ (List.mem_of_getElem? (i := 19) rfl)
theorem kw_30_20 : Cond.selects RX9 yX9_here yX9_here ∈ wsL_law := xr_in30 _ (List.mem_of_getElem? (i := 20) rfl)
theorem kw_30_21 : Cond.code yX9_here cX9_here 1 (some .int) ∈ wsL_law := xr_in30 _ (List.mem_of_getElem? (i := 21) rfl)
theorem kw_30_22 : Cond.methodLink RX9 250 yX9_readsMany ∈ wsL_law := xr_in30 _ (List.mem_of_getElem? (i := 22) rfl)
theorem kw_30_23 : Cond.instanceMethod yX9_readsMany ∈ wsL_law := xr_in30 _ (List.mem_of_getElem? (i := 23) rfl)
theorem xr_in31 : ∀ w ∈ wsL_law_r31, w ∈ wsL_law := fun _ h => List.mem_append_left _ (List.mem_append_left _ (List.mem_append_left _ (List.mem_append_left _ (List.mem_append_left _ (List.mem_append_left _ (List.mem_append_left _ (List.mem_append_left _ (List.mem_append_left _ (List.mem_append_left _ (List.mem_append_left _ (List.mem_append_right _ (List.mem_append_right _ (List.mem_append_right _ (List.mem_append_right _ (List.mem_append_right _ (List.mem_append_right _ (List.mem_append_right _ (List.mem_append_right _ (List.mem_append_right _ (List.mem_append_right _ (List.mem_append_right _ (List.mem_append_right _ (List.mem_append_right _ (List.mem_append_right _ (List.mem_append_right _ (List.mem_append_right _ (List.mem_append_right _ (List.mem_append_right _ (List.mem_append_right _ (List.mem_append_right _ (List.mem_append_right _ (List.mem_append_right _ (List.mem_append_right _ (List.mem_append_right _ (List.mem_append_right _ (List.mem_append_right _ (List.mem_append_right _ (List.mem_append_right _ (List.mem_append_right _ (List.mem_append_right _ (List.mem_append_left _ h)))))))))))))))))))))))))))))))))))))))))
theorem kw_31_0 : Cond.selects RX9 yX9_readsMany yX9_readsMany ∈ wsL_law := xr_in31 _ (List.mem_of_getElem? (i := 0) rfl)
theorem kw_31_1 : Cond.code yX9_readsMany cX9_readsMany 6 (some .boolean) ∈ wsL_law := xr_in31 _ (List.mem_of_getElem? (i := 1) rfl)
theorem kw_31_2 : Cond.methodLink RX9 246 yX9_readsSign ∈ wsL_law := xr_in31 _ (List.mem_of_getElem? (i := 2) rfl)
theorem kw_31_3 : Cond.instanceMethod yX9_readsSign ∈ wsL_law := xr_in31 _ (List.mem_of_getElem? (i := 3) rfl)
theorem kw_31_4 : Cond.selects RX9 yX9_readsSign yX9_readsSign ∈ wsL_law := xr_in31 _ (List.mem_of_getElem? (i := 4) rfl)
theorem kw_31_5 : Cond.code yX9_readsSign cX9_readsSign 5 (some .boolean) ∈ wsL_law := xr_in31 _ (List.mem_of_getElem? (i := 5) rfl)
theorem kw_31_6 : Cond.methodLink RX9 243 yX9_times ∈ wsL_law := xr_in31 _ (List.mem_of_getElem? (i := 6) rfl)
theorem kw_31_7 : Cond.instanceMethod yX9_times ∈ wsL_law := xr_in31 _ (List.mem_of_getElem? (i := 7) rfl)
theorem kw_31_8 : Cond.selects RX9 yX9_times yX9_times ∈ wsL_law := xr_in31 _ (List.mem_of_getElem? (i := 8) rfl)
theorem kw_31_9 : Cond.code yX9_times cX9_times 5 (some .int) ∈ wsL_law := xr_in31 _ (List.mem_of_getElem? (i := 9) rfl)
theorem kw_31_10 : Cond.methodLink RX9 236 yX9_isFigure ∈ wsL_law := xr_in31 _ (List.mem_of_getElem? (i := 10) rfl)
theorem kw_31_11 : Cond.instanceMethod yX9_isFigure ∈ wsL_law := xr_in31 _ (List.mem_of_getElem? (i := 11) rfl)
theorem kw_31_12 : Cond.selects RX9 yX9_isFigure yX9_isFigure ∈ wsL_law := xr_in31 _ (List.mem_of_getElem? (i := 12) rfl)
theorem kw_31_13 : Cond.code yX9_isFigure cX9_isFigure 2 (some .boolean) ∈ wsL_law := xr_in31 _ (List.mem_of_getElem? (i := 13) rfl)
theorem kw_31_14 : Cond.constantLong RX9 229 (48) ∈ wsL_law := xr_in31 _ (List.mem_of_getElem? (i := 14) rfl)
theorem kw_31_15 : Cond.constantLong RX9 231 (57) ∈ wsL_law := xr_in31 _ (List.mem_of_getElem? (i := 15) rfl)
theorem kw_31_16 : Cond.methodLink RL 104 yX8_back ∈ wsL_law := xr_in31 _ (List.mem_of_getElem? (i := 16) rfl)
theorem kw_31_17 : Cond.instanceMethod yX8_back ∈ wsL_law := xr_in31 _ (List.mem_of_getElem? (i := 17) rfl)
theorem kw_31_18 : Cond.selects RX8 yX8_back yX8_back ∈ wsL_law := xr_in31 _ (List.mem_of_getElem? (i := 18) rfl)
theorem kw_31_19 : Cond.code yX8_back cX8_back 2 (some .int) ∈ wsL_law := xr_in31 _ (List.mem_of_getElem? (i := 19) rfl)
theorem kw_31_20 : Cond.fieldLink RX8 217 "TreeOdds$States" "size" "I" ∈ wsL_law := xr_in31 _ (List.mem_of_getElem? (i := 20) rfl)
theorem kw_31_21 : Cond.fieldLink RX8 229 "TreeOdds$State" "length" "I" ∈ wsL_law := xr_in31 _ (List.mem_of_getElem? (i := 21) rfl)
theorem kw_31_22 : Cond.fieldLink RX8 230 "TreeOdds$State" "depth" "I" ∈ wsL_law := xr_in31 _ (List.mem_of_getElem? (i := 22) rfl)
theorem kw_31_23 : Cond.fieldLink RX8 231 "TreeOdds$State" "guesser" "I" ∈ wsL_law := xr_in31 _ (List.mem_of_getElem? (i := 23) rfl)
theorem xr_in32 : ∀ w ∈ wsL_law_r32, w ∈ wsL_law := fun _ h => List.mem_append_left _ (List.mem_append_left _ (List.mem_append_left _ (List.mem_append_left _ (List.mem_append_left _ (List.mem_append_left _ (List.mem_append_left _ (List.mem_append_left _ (List.mem_append_left _ (List.mem_append_left _ (List.mem_append_left _ (List.mem_append_right _ (List.mem_append_right _ (List.mem_append_right _ (List.mem_append_right _ (List.mem_append_right _ (List.mem_append_right _ (List.mem_append_right _ (List.mem_append_right _ (List.mem_append_right _ (List.mem_append_right _ (List.mem_append_right _ (List.mem_append_right _ (List.mem_append_right _ (List.mem_append_right _ (List.mem_append_right _ (List.mem_append_right _ (List.mem_append_right _ (List.mem_append_right _ (List.mem_append_right _ (List.mem_append_right _ (List.mem_append_right _ (List.mem_append_right _ (List.mem_append_right _ (List.mem_append_right _ (List.mem_append_right _ (List.mem_append_right _ (List.mem_append_right _ (List.mem_append_right _ (List.mem_append_right _ (List.mem_append_right _ (List.mem_append_right _ (List.mem_append_left _ h))))))))))))))))))))))))))))))))))))))))))
theorem kw_32_0 : Cond.methodLink RX8 220 yX5_release ∈ wsL_law := xr_in32 _ (List.mem_of_getElem? (i := 0) rfl)
theorem kw_32_1 : Cond.instanceMethod yX5_release ∈ wsL_law := xr_in32 _ (List.mem_of_getElem? (i := 1) rfl)
theorem kw_32_2 : Cond.selects RX5 yX5_release yX5_release ∈ wsL_law := xr_in32 _ (List.mem_of_getElem? (i := 2) rfl)
theorem kw_32_3 : Cond.code yX5_release cX5_release 2 (some (.object "TreeOdds$State")) ∈ wsL_law := xr_in32 _ (List.mem_of_getElem? (i := 3) rfl)
theorem kw_32_4 : Cond.methodLink RX5 35 Lib.Math.max.name ∈ wsL_law := xr_in32 _ (List.mem_of_getElem? (i := 4) rfl)
theorem kw_32_5 : Cond.methodLink RX8 224 yX4_copySignsTo ∈ wsL_law := xr_in32 _ (List.mem_of_getElem? (i := 5) rfl)
theorem kw_32_6 : Cond.instanceMethod yX4_copySignsTo ∈ wsL_law := xr_in32 _ (List.mem_of_getElem? (i := 6) rfl)
theorem kw_32_7 : Cond.selects RX4 yX4_copySignsTo yX4_copySignsTo ∈ wsL_law := xr_in32 _ (List.mem_of_getElem? (i := 7) rfl)
theorem kw_32_8 : Cond.code yX4_copySignsTo cX4_copySignsTo 3 none ∈ wsL_law := xr_in32 _ (List.mem_of_getElem? (i := 8) rfl)
theorem kw_32_9 : Cond.methodLink RL 107 yX9_back ∈ wsL_law := xr_in32 _ (List.mem_of_getElem? (i := 9) rfl)
theorem kw_32_10 : Cond.instanceMethod yX9_back ∈ wsL_law := xr_in32 _ (List.mem_of_getElem? (i := 10) rfl)
theorem kw_32_11 : Cond.selects RX9 yX9_back yX9_back ∈ wsL_law := xr_in32 _ (List.mem_of_getElem? (i := 11) rfl)
theorem kw_32_12 : Cond.code yX9_back cX9_back 2 (some .int) ∈ wsL_law := xr_in32 _ (List.mem_of_getElem? (i := 12) rfl)
theorem kw_32_13 : Cond.methodLink RL 108 yX8_count ∈ wsL_law := xr_in32 _ (List.mem_of_getElem? (i := 13) rfl)
theorem kw_32_14 : Cond.instanceMethod yX8_count ∈ wsL_law := xr_in32 _ (List.mem_of_getElem? (i := 14) rfl)
theorem kw_32_15 : Cond.selects RX8 yX8_count yX8_count ∈ wsL_law := xr_in32 _ (List.mem_of_getElem? (i := 15) rfl)
theorem kw_32_16 : Cond.code yX8_count cX8_count 2 (some .int) ∈ wsL_law := xr_in32 _ (List.mem_of_getElem? (i := 16) rfl)
theorem kw_32_17 : Cond.methodLink RL 111 yX9_count ∈ wsL_law := xr_in32 _ (List.mem_of_getElem? (i := 17) rfl)
theorem kw_32_18 : Cond.instanceMethod yX9_count ∈ wsL_law := xr_in32 _ (List.mem_of_getElem? (i := 18) rfl)
theorem kw_32_19 : Cond.selects RX9 yX9_count yX9_count ∈ wsL_law := xr_in32 _ (List.mem_of_getElem? (i := 19) rfl)
theorem kw_32_20 : Cond.code yX9_count cX9_count 2 (some .int) ∈ wsL_law := xr_in32 _ (List.mem_of_getElem? (i := 20) rfl)
theorem kw_32_21 : Cond.constantLong RX9 253 (7) ∈ wsL_law := xr_in32 _ (List.mem_of_getElem? (i := 21) rfl)
theorem kw_32_22 : Cond.methodLink RX9 255 yX9_counted ∈ wsL_law := xr_in32 _ (List.mem_of_getElem? (i := 22) rfl)
theorem kw_32_23 : Cond.instanceMethod yX9_counted ∈ wsL_law := xr_in32 _ (List.mem_of_getElem? (i := 23) rfl)
theorem xr_in33 : ∀ w ∈ wsL_law_r33, w ∈ wsL_law := fun _ h => List.mem_append_left _ (List.mem_append_left _ (List.mem_append_left _ (List.mem_append_left _ (List.mem_append_left _ (List.mem_append_left _ (List.mem_append_left _ (List.mem_append_left _ (List.mem_append_left _ (List.mem_append_left _ (List.mem_append_left _ (List.mem_append_right _ (List.mem_append_right _ (List.mem_append_right _ (List.mem_append_right _ (List.mem_append_right _ (List.mem_append_right _ (List.mem_append_right _ (List.mem_append_right _ (List.mem_append_right _ (List.mem_append_right _ (List.mem_append_right _ (List.mem_append_right _ (List.mem_append_right _ (List.mem_append_right _ (List.mem_append_right _ (List.mem_append_right _ (List.mem_append_right _ (List.mem_append_right _ (List.mem_append_right _ (List.mem_append_right _ (List.mem_append_right _ (List.mem_append_right _ (List.mem_append_right _ (List.mem_append_right _ (List.mem_append_right _ (List.mem_append_right _ (List.mem_append_right _ (List.mem_append_right _ (List.mem_append_right _ (List.mem_append_right _ (List.mem_append_right _ (List.mem_append_right _ (h)))))))))))))))))))))))))))))))))))))))))))
theorem kw_33_0 : Cond.selects RX9 yX9_counted yX9_counted ∈ wsL_law := xr_in33 _ (List.mem_of_getElem? (i := 0) rfl)
theorem kw_33_1 : Cond.code yX9_counted cX9_counted 2 (some .int) ∈ wsL_law := xr_in33 _ (List.mem_of_getElem? (i := 1) rfl)
theorem kw_33_2 : Cond.methodLink RL 112 yX8_digest ∈ wsL_law := xr_in33 _ (List.mem_of_getElem? (i := 2) rfl)
theorem kw_33_3 : Cond.instanceMethod yX8_digest ∈ wsL_law := xr_in33 _ (List.mem_of_getElem? (i := 3) rfl)
theorem kw_33_4 : Cond.selects RX8 yX8_digest yX8_digest ∈ wsL_law := xr_in33 _ (List.mem_of_getElem? (i := 4) rfl)
theorem kw_33_5 : Cond.code yX8_digest cX8_digest 4 (some .long) ∈ wsL_law := xr_in33 _ (List.mem_of_getElem? (i := 5) rfl)
theorem kw_33_6 : Cond.constantLong RX8 232 (2113) ∈ wsL_law := xr_in33 _ (List.mem_of_getElem? (i := 6) rfl)
theorem kw_33_7 : Cond.constantLong RX8 234 (31) ∈ wsL_law := xr_in33 _ (List.mem_of_getElem? (i := 7) rfl)
theorem kw_33_8 : Cond.methodLink RX8 236 yX8_count ∈ wsL_law := xr_in33 _ (List.mem_of_getElem? (i := 8) rfl)
theorem kw_33_9 : Cond.methodLink RX8 239 yX8_guess ∈ wsL_law := xr_in33 _ (List.mem_of_getElem? (i := 9) rfl)
theorem kw_33_10 : Cond.methodLink RX8 242 yX8_cost ∈ wsL_law := xr_in33 _ (List.mem_of_getElem? (i := 10) rfl)
theorem kw_33_11 : Cond.methodLink RX8 245 yX8_tree ∈ wsL_law := xr_in33 _ (List.mem_of_getElem? (i := 11) rfl)
theorem kw_33_12 : Cond.methodLink RL 116 yX9_digest ∈ wsL_law := xr_in33 _ (List.mem_of_getElem? (i := 12) rfl)
theorem kw_33_13 : Cond.instanceMethod yX9_digest ∈ wsL_law := xr_in33 _ (List.mem_of_getElem? (i := 13) rfl)
theorem kw_33_14 : Cond.selects RX9 yX9_digest yX9_digest ∈ wsL_law := xr_in33 _ (List.mem_of_getElem? (i := 14) rfl)
theorem kw_33_15 : Cond.code yX9_digest cX9_digest 4 (some .long) ∈ wsL_law := xr_in33 _ (List.mem_of_getElem? (i := 15) rfl)
theorem kw_33_16 : Cond.constantLong RX9 258 (2113) ∈ wsL_law := xr_in33 _ (List.mem_of_getElem? (i := 16) rfl)
theorem kw_33_17 : Cond.constantLong RX9 260 (31) ∈ wsL_law := xr_in33 _ (List.mem_of_getElem? (i := 17) rfl)
theorem inlX0 : ∀ w ∈ wsX00, w ∈ wsL_law := fun _ h => List.mem_append_left _ (List.mem_append_left _ (List.mem_append_left _ (List.mem_append_left _ (List.mem_append_left _ (List.mem_append_right _ h)))))
theorem inlX1 : ∀ w ∈ wsX10, w ∈ wsL_law := fun _ h => List.mem_append_left _ (List.mem_append_left _ (List.mem_append_left _ (List.mem_append_left _ (List.mem_append_left _ (List.mem_append_left _ (List.mem_append_right _ h))))))
theorem inlX2 : ∀ w ∈ wsX20, w ∈ wsL_law := fun _ h => List.mem_append_left _ (List.mem_append_left _ (List.mem_append_left _ (List.mem_append_left _ (List.mem_append_left _ (List.mem_append_left _ (List.mem_append_left _ (List.mem_append_right _ h)))))))
theorem inlX3 : ∀ w ∈ wsX30, w ∈ wsL_law := fun _ h => List.mem_append_left _ (List.mem_append_left _ (List.mem_append_left _ (List.mem_append_left _ (List.mem_append_left _ (List.mem_append_left _ (List.mem_append_left _ (List.mem_append_left _ (List.mem_append_right _ h))))))))
theorem inlX4 : ∀ w ∈ wsX40, w ∈ wsL_law := fun _ h => List.mem_append_left _ (List.mem_append_right _ h)
theorem inlX5 : ∀ w ∈ wsX50, w ∈ wsL_law := fun _ h => List.mem_append_left _ (List.mem_append_left _ (List.mem_append_right _ h))
theorem inlX6 : ∀ w ∈ wsX60, w ∈ wsL_law := fun _ h => List.mem_append_left _ (List.mem_append_left _ (List.mem_append_left _ (List.mem_append_right _ h)))
theorem inlX7 : ∀ w ∈ wsX70, w ∈ wsL_law := fun _ h => List.mem_append_left _ (List.mem_append_left _ (List.mem_append_left _ (List.mem_append_left _ (List.mem_append_right _ h))))
theorem inlX8 : ∀ w ∈ wsX80, w ∈ wsL_law := fun _ h => List.mem_append_left _ (List.mem_append_left _ (List.mem_append_left _ (List.mem_append_left _ (List.mem_append_left _ (List.mem_append_left _ (List.mem_append_left _ (List.mem_append_left _ (List.mem_append_left _ (List.mem_append_left _ (List.mem_append_right _ h))))))))))
theorem inlX9 : ∀ w ∈ wsX90, w ∈ wsL_law := fun _ h => List.mem_append_left _ (List.mem_append_left _ (List.mem_append_left _ (List.mem_append_left _ (List.mem_append_left _ (List.mem_append_left _ (List.mem_append_left _ (List.mem_append_left _ (List.mem_append_left _ (List.mem_append_right _ h)))))))))
abbrev vwCl : List vw_C := [(RX0, TX0, 4), (RX1, TX1, 5), (RX2, TX2, 9), (RX3, TX3, 6), (RX4, TX4, 4), (RX5, TX5, 3), (RX6, TX6, 8), (RX7, TX7, 6), (RX8, TX8, 10), (RX9, TX9, 27)]
end
section
theorem dX0_init_0 : decode cX0_init 0 = .ok (.aload_n 0, 1) := by decide +kernel
theorem dX0_init_1 : decode cX0_init 1 = .ok (.invokespecial 3, 3) := by decide +kernel
theorem dX0_init_4 : decode cX0_init 4 = .ok (.aload_n 0, 1) := by decide +kernel
theorem dX0_init_5 : decode cX0_init 5 = .ok (.sipush 128, 3) := by decide +kernel
theorem dX0_init_8 : decode cX0_init 8 = .ok (.newarray .int, 2) := by decide +kernel
theorem dX0_init_10 : decode cX0_init 10 = .ok (.putfield 9, 3) := by decide +kernel
theorem dX0_init_13 : decode cX0_init 13 = .ok (.aload_n 0, 1) := by decide +kernel
theorem dX0_init_14 : decode cX0_init 14 = .ok (.sipush 128, 3) := by decide +kernel
theorem dX0_init_17 : decode cX0_init 17 = .ok (.newarray .int, 2) := by decide +kernel
theorem dX0_init_19 : decode cX0_init 19 = .ok (.putfield 15, 3) := by decide +kernel
theorem dX0_init_22 : decode cX0_init 22 = .ok (.aload_n 0, 1) := by decide +kernel
theorem dX0_init_23 : decode cX0_init 23 = .ok (.iconst 0, 1) := by decide +kernel
theorem dX0_init_24 : decode cX0_init 24 = .ok (.putfield 18, 3) := by decide +kernel
theorem dX0_init_27 : decode cX0_init 27 = .ok (.aload_n 0, 1) := by decide +kernel
theorem dX0_init_28 : decode cX0_init 28 = .ok (.iconst 0, 1) := by decide +kernel
theorem dX0_init_29 : decode cX0_init 29 = .ok (.putfield 22, 3) := by decide +kernel
theorem dX0_init_32 : decode cX0_init 32 = .ok (.return_, 1) := by decide +kernel
theorem dX0_grow_0 : decode cX0_grow 0 = .ok (.aload_n 1, 1) := by decide +kernel
theorem dX0_grow_1 : decode cX0_grow 1 = .ok (.getfield 25, 3) := by decide +kernel
theorem dX0_grow_4 : decode cX0_grow 4 = .ok (.istore_n 2, 1) := by decide +kernel
theorem dX0_grow_5 : decode cX0_grow 5 = .ok (.iload_n 2, 1) := by decide +kernel
theorem dX0_grow_6 : decode cX0_grow 6 = .ok (.ifCond .lt 31, 3) := by decide +kernel
theorem dX0_grow_9 : decode cX0_grow 9 = .ok (.iconst 0, 1) := by decide +kernel
theorem dX0_grow_10 : decode cX0_grow 10 = .ok (.istore_n 3, 1) := by decide +kernel
theorem dX0_grow_11 : decode cX0_grow 11 = .ok (.iload_n 3, 1) := by decide +kernel
theorem dX0_grow_12 : decode cX0_grow 12 = .ok (.iconst 1, 1) := by decide +kernel
theorem dX0_grow_13 : decode cX0_grow 13 = .ok (.iload_n 2, 1) := by decide +kernel
theorem dX0_grow_14 : decode cX0_grow 14 = .ok (.ishl, 1) := by decide +kernel
theorem dX0_grow_15 : decode cX0_grow 15 = .ok (.if_icmp .ge 16, 3) := by decide +kernel
theorem dX0_grow_18 : decode cX0_grow 18 = .ok (.aload_n 0, 1) := by decide +kernel
theorem dX0_grow_19 : decode cX0_grow 19 = .ok (.aload_n 1, 1) := by decide +kernel
theorem dX0_grow_20 : decode cX0_grow 20 = .ok (.iload_n 2, 1) := by decide +kernel
theorem dX0_grow_21 : decode cX0_grow 21 = .ok (.iload_n 3, 1) := by decide +kernel
theorem dX0_grow_22 : decode cX0_grow 22 = .ok (.invokevirtual 30, 3) := by decide +kernel
theorem dX0_grow_25 : decode cX0_grow 25 = .ok (.iinc 3 1, 3) := by decide +kernel
theorem dX0_grow_28 : decode cX0_grow 28 = .ok (.goto (-17), 3) := by decide +kernel
theorem dX0_grow_31 : decode cX0_grow 31 = .ok (.iinc 2 (-1), 3) := by decide +kernel
theorem dX0_grow_34 : decode cX0_grow 34 = .ok (.goto (-29), 3) := by decide +kernel
theorem dX0_grow_37 : decode cX0_grow 37 = .ok (.aload_n 0, 1) := by decide +kernel
theorem dX0_grow_38 : decode cX0_grow 38 = .ok (.iconst 0, 1) := by decide +kernel
theorem dX0_grow_39 : decode cX0_grow 39 = .ok (.putfield 18, 3) := by decide +kernel
theorem dX0_grow_42 : decode cX0_grow 42 = .ok (.aload_n 0, 1) := by decide +kernel
theorem dX0_grow_43 : decode cX0_grow 43 = .ok (.iconst 0, 1) := by decide +kernel
theorem dX0_grow_44 : decode cX0_grow 44 = .ok (.putfield 22, 3) := by decide +kernel
theorem dX0_grow_47 : decode cX0_grow 47 = .ok (.iconst 0, 1) := by decide +kernel
theorem dX0_grow_48 : decode cX0_grow 48 = .ok (.istore_n 2, 1) := by decide +kernel
theorem dX0_grow_49 : decode cX0_grow 49 = .ok (.iload_n 2, 1) := by decide +kernel
theorem dX0_grow_50 : decode cX0_grow 50 = .ok (.aload_n 1, 1) := by decide +kernel
theorem dX0_grow_51 : decode cX0_grow 51 = .ok (.getfield 25, 3) := by decide +kernel
theorem dX0_grow_54 : decode cX0_grow 54 = .ok (.if_icmp .gt 30, 3) := by decide +kernel
theorem dX0_grow_57 : decode cX0_grow 57 = .ok (.iconst 0, 1) := by decide +kernel
theorem dX0_grow_58 : decode cX0_grow 58 = .ok (.istore_n 3, 1) := by decide +kernel
theorem dX0_grow_59 : decode cX0_grow 59 = .ok (.iload_n 3, 1) := by decide +kernel
theorem dX0_grow_60 : decode cX0_grow 60 = .ok (.iconst 1, 1) := by decide +kernel
theorem dX0_grow_61 : decode cX0_grow 61 = .ok (.iload_n 2, 1) := by decide +kernel
theorem dX0_grow_62 : decode cX0_grow 62 = .ok (.ishl, 1) := by decide +kernel
theorem dX0_grow_63 : decode cX0_grow 63 = .ok (.if_icmp .ge 15, 3) := by decide +kernel
theorem dX0_grow_66 : decode cX0_grow 66 = .ok (.aload_n 0, 1) := by decide +kernel
theorem dX0_grow_67 : decode cX0_grow 67 = .ok (.iload_n 2, 1) := by decide +kernel
theorem dX0_grow_68 : decode cX0_grow 68 = .ok (.iload_n 3, 1) := by decide +kernel
theorem dX0_grow_69 : decode cX0_grow 69 = .ok (.invokevirtual 34, 3) := by decide +kernel
theorem dX0_grow_72 : decode cX0_grow 72 = .ok (.iinc 3 1, 3) := by decide +kernel
theorem dX0_grow_75 : decode cX0_grow 75 = .ok (.goto (-16), 3) := by decide +kernel
theorem dX0_grow_78 : decode cX0_grow 78 = .ok (.iinc 2 1, 3) := by decide +kernel
theorem dX0_grow_81 : decode cX0_grow 81 = .ok (.goto (-32), 3) := by decide +kernel
theorem dX0_grow_84 : decode cX0_grow 84 = .ok (.return_, 1) := by decide +kernel
theorem dX0_price_0 : decode cX0_price 0 = .ok (.aload_n 0, 1) := by decide +kernel
theorem dX0_price_1 : decode cX0_price 1 = .ok (.getfield 9, 3) := by decide +kernel
theorem dX0_price_4 : decode cX0_price 4 = .ok (.iconst 0, 1) := by decide +kernel
theorem dX0_price_5 : decode cX0_price 5 = .ok (.iconst 0, 1) := by decide +kernel
theorem dX0_price_6 : decode cX0_price 6 = .ok (.invokestatic 38, 3) := by decide +kernel
theorem dX0_price_9 : decode cX0_price 9 = .ok (.iaload, 1) := by decide +kernel
theorem dX0_price_10 : decode cX0_price 10 = .ok (.ireturn, 1) := by decide +kernel
theorem dX0_weigh_0 : decode cX0_weigh 0 = .ok (.iload_n 2, 1) := by decide +kernel
theorem dX0_weigh_1 : decode cX0_weigh 1 = .ok (.iload_n 3, 1) := by decide +kernel
theorem dX0_weigh_2 : decode cX0_weigh 2 = .ok (.invokestatic 38, 3) := by decide +kernel
theorem dX0_weigh_5 : decode cX0_weigh 5 = .ok (.istore 4, 2) := by decide +kernel
theorem dX0_weigh_7 : decode cX0_weigh 7 = .ok (.aload_n 0, 1) := by decide +kernel
theorem dX0_weigh_8 : decode cX0_weigh 8 = .ok (.getfield 9, 3) := by decide +kernel
theorem dX0_weigh_11 : decode cX0_weigh 11 = .ok (.iload 4, 2) := by decide +kernel
theorem dX0_weigh_13 : decode cX0_weigh 13 = .ok (.aload_n 1, 1) := by decide +kernel
theorem dX0_weigh_14 : decode cX0_weigh 14 = .ok (.getfield 42, 3) := by decide +kernel
theorem dX0_weigh_17 : decode cX0_weigh 17 = .ok (.iload 4, 2) := by decide +kernel
theorem dX0_weigh_19 : decode cX0_weigh 19 = .ok (.iaload, 1) := by decide +kernel
theorem dX0_weigh_20 : decode cX0_weigh 20 = .ok (.iastore, 1) := by decide +kernel
theorem dX0_weigh_21 : decode cX0_weigh 21 = .ok (.aload_n 0, 1) := by decide +kernel
theorem dX0_weigh_22 : decode cX0_weigh 22 = .ok (.getfield 15, 3) := by decide +kernel
theorem dX0_weigh_25 : decode cX0_weigh 25 = .ok (.iload 4, 2) := by decide +kernel
theorem dX0_weigh_27 : decode cX0_weigh 27 = .ok (.iconst 1, 1) := by decide +kernel
theorem dX0_weigh_28 : decode cX0_weigh 28 = .ok (.iastore, 1) := by decide +kernel
theorem dX0_weigh_29 : decode cX0_weigh 29 = .ok (.iload_n 2, 1) := by decide +kernel
theorem dX0_weigh_30 : decode cX0_weigh 30 = .ok (.aload_n 1, 1) := by decide +kernel
theorem dX0_weigh_31 : decode cX0_weigh 31 = .ok (.getfield 25, 3) := by decide +kernel
theorem dX0_weigh_34 : decode cX0_weigh 34 = .ok (.if_icmp .lt 4, 3) := by decide +kernel
theorem dX0_weigh_37 : decode cX0_weigh 37 = .ok (.return_, 1) := by decide +kernel
theorem dX0_weigh_38 : decode cX0_weigh 38 = .ok (.aload_n 0, 1) := by decide +kernel
theorem dX0_weigh_39 : decode cX0_weigh 39 = .ok (.getfield 9, 3) := by decide +kernel
theorem dX0_weigh_42 : decode cX0_weigh 42 = .ok (.iload_n 2, 1) := by decide +kernel
theorem dX0_weigh_43 : decode cX0_weigh 43 = .ok (.iconst 1, 1) := by decide +kernel
theorem dX0_weigh_44 : decode cX0_weigh 44 = .ok (.iadd, 1) := by decide +kernel
theorem dX0_weigh_45 : decode cX0_weigh 45 = .ok (.iload_n 3, 1) := by decide +kernel
theorem dX0_weigh_46 : decode cX0_weigh 46 = .ok (.invokestatic 38, 3) := by decide +kernel
theorem dX0_weigh_49 : decode cX0_weigh 49 = .ok (.iaload, 1) := by decide +kernel
theorem dX0_weigh_50 : decode cX0_weigh 50 = .ok (.aload_n 0, 1) := by decide +kernel
theorem dX0_weigh_51 : decode cX0_weigh 51 = .ok (.getfield 9, 3) := by decide +kernel
theorem dX0_weigh_54 : decode cX0_weigh 54 = .ok (.iload_n 2, 1) := by decide +kernel
theorem dX0_weigh_55 : decode cX0_weigh 55 = .ok (.iconst 1, 1) := by decide +kernel
theorem dX0_weigh_56 : decode cX0_weigh 56 = .ok (.iadd, 1) := by decide +kernel
theorem dX0_weigh_57 : decode cX0_weigh 57 = .ok (.iload_n 3, 1) := by decide +kernel
theorem dX0_weigh_58 : decode cX0_weigh 58 = .ok (.iconst 1, 1) := by decide +kernel
theorem dX0_weigh_59 : decode cX0_weigh 59 = .ok (.iload_n 2, 1) := by decide +kernel
theorem dX0_weigh_60 : decode cX0_weigh 60 = .ok (.ishl, 1) := by decide +kernel
theorem dX0_weigh_61 : decode cX0_weigh 61 = .ok (.ior, 1) := by decide +kernel
theorem dX0_weigh_62 : decode cX0_weigh 62 = .ok (.invokestatic 38, 3) := by decide +kernel
theorem dX0_weigh_65 : decode cX0_weigh 65 = .ok (.iaload, 1) := by decide +kernel
theorem dX0_weigh_66 : decode cX0_weigh 66 = .ok (.iadd, 1) := by decide +kernel
theorem dX0_weigh_67 : decode cX0_weigh 67 = .ok (.istore 5, 2) := by decide +kernel
theorem dX0_weigh_69 : decode cX0_weigh 69 = .ok (.iload 5, 2) := by decide +kernel
theorem dX0_weigh_71 : decode cX0_weigh 71 = .ok (.aload_n 0, 1) := by decide +kernel
theorem dX0_weigh_72 : decode cX0_weigh 72 = .ok (.getfield 9, 3) := by decide +kernel
theorem dX0_weigh_75 : decode cX0_weigh 75 = .ok (.iload 4, 2) := by decide +kernel
theorem dX0_weigh_77 : decode cX0_weigh 77 = .ok (.iaload, 1) := by decide +kernel
theorem dX0_weigh_78 : decode cX0_weigh 78 = .ok (.if_icmp .ge 20, 3) := by decide +kernel
theorem dX0_weigh_81 : decode cX0_weigh 81 = .ok (.aload_n 0, 1) := by decide +kernel
theorem dX0_weigh_82 : decode cX0_weigh 82 = .ok (.getfield 9, 3) := by decide +kernel
theorem dX0_weigh_85 : decode cX0_weigh 85 = .ok (.iload 4, 2) := by decide +kernel
theorem dX0_weigh_87 : decode cX0_weigh 87 = .ok (.iload 5, 2) := by decide +kernel
theorem dX0_weigh_89 : decode cX0_weigh 89 = .ok (.iastore, 1) := by decide +kernel
theorem dX0_weigh_90 : decode cX0_weigh 90 = .ok (.aload_n 0, 1) := by decide +kernel
theorem dX0_weigh_91 : decode cX0_weigh 91 = .ok (.getfield 15, 3) := by decide +kernel
theorem dX0_weigh_94 : decode cX0_weigh 94 = .ok (.iload 4, 2) := by decide +kernel
theorem dX0_weigh_96 : decode cX0_weigh 96 = .ok (.iconst 2, 1) := by decide +kernel
theorem dX0_weigh_97 : decode cX0_weigh 97 = .ok (.iastore, 1) := by decide +kernel
theorem dX0_weigh_98 : decode cX0_weigh 98 = .ok (.aload_n 0, 1) := by decide +kernel
theorem dX0_weigh_99 : decode cX0_weigh 99 = .ok (.getfield 9, 3) := by decide +kernel
theorem dX0_weigh_102 : decode cX0_weigh 102 = .ok (.iload 4, 2) := by decide +kernel
theorem dX0_weigh_104 : decode cX0_weigh 104 = .ok (.dup2, 1) := by decide +kernel
theorem dX0_weigh_105 : decode cX0_weigh 105 = .ok (.iaload, 1) := by decide +kernel
theorem dX0_weigh_106 : decode cX0_weigh 106 = .ok (.bipush 8, 2) := by decide +kernel
theorem dX0_weigh_108 : decode cX0_weigh 108 = .ok (.iadd, 1) := by decide +kernel
theorem dX0_weigh_109 : decode cX0_weigh 109 = .ok (.iastore, 1) := by decide +kernel
theorem dX0_weigh_110 : decode cX0_weigh 110 = .ok (.return_, 1) := by decide +kernel
theorem dX0_settle_0 : decode cX0_settle 0 = .ok (.iload_n 1, 1) := by decide +kernel
theorem dX0_settle_1 : decode cX0_settle 1 = .ok (.iload_n 2, 1) := by decide +kernel
theorem dX0_settle_2 : decode cX0_settle 2 = .ok (.invokestatic 38, 3) := by decide +kernel
theorem dX0_settle_5 : decode cX0_settle 5 = .ok (.istore_n 3, 1) := by decide +kernel
theorem dX0_settle_6 : decode cX0_settle 6 = .ok (.iload_n 1, 1) := by decide +kernel
theorem dX0_settle_7 : decode cX0_settle 7 = .ok (.ifCond .le 26, 3) := by decide +kernel
theorem dX0_settle_10 : decode cX0_settle 10 = .ok (.aload_n 0, 1) := by decide +kernel
theorem dX0_settle_11 : decode cX0_settle 11 = .ok (.getfield 15, 3) := by decide +kernel
theorem dX0_settle_14 : decode cX0_settle 14 = .ok (.iload_n 1, 1) := by decide +kernel
theorem dX0_settle_15 : decode cX0_settle 15 = .ok (.iconst 1, 1) := by decide +kernel
theorem dX0_settle_16 : decode cX0_settle 16 = .ok (.isub, 1) := by decide +kernel
theorem dX0_settle_17 : decode cX0_settle 17 = .ok (.iload_n 2, 1) := by decide +kernel
theorem dX0_settle_18 : decode cX0_settle 18 = .ok (.invokestatic 38, 3) := by decide +kernel
theorem dX0_settle_21 : decode cX0_settle 21 = .ok (.iaload, 1) := by decide +kernel
theorem dX0_settle_22 : decode cX0_settle 22 = .ok (.iconst 2, 1) := by decide +kernel
theorem dX0_settle_23 : decode cX0_settle 23 = .ok (.if_icmp .eq 10, 3) := by decide +kernel
theorem dX0_settle_26 : decode cX0_settle 26 = .ok (.aload_n 0, 1) := by decide +kernel
theorem dX0_settle_27 : decode cX0_settle 27 = .ok (.getfield 15, 3) := by decide +kernel
theorem dX0_settle_30 : decode cX0_settle 30 = .ok (.iload_n 3, 1) := by decide +kernel
theorem dX0_settle_31 : decode cX0_settle 31 = .ok (.iconst 0, 1) := by decide +kernel
theorem dX0_settle_32 : decode cX0_settle 32 = .ok (.iastore, 1) := by decide +kernel
theorem dX0_settle_33 : decode cX0_settle 33 = .ok (.aload_n 0, 1) := by decide +kernel
theorem dX0_settle_34 : decode cX0_settle 34 = .ok (.getfield 15, 3) := by decide +kernel
theorem dX0_settle_37 : decode cX0_settle 37 = .ok (.iload_n 3, 1) := by decide +kernel
theorem dX0_settle_38 : decode cX0_settle 38 = .ok (.iaload, 1) := by decide +kernel
theorem dX0_settle_39 : decode cX0_settle 39 = .ok (.iconst 1, 1) := by decide +kernel
theorem dX0_settle_40 : decode cX0_settle 40 = .ok (.if_icmp .eq 4, 3) := by decide +kernel
theorem dX0_settle_43 : decode cX0_settle 43 = .ok (.return_, 1) := by decide +kernel
theorem dX0_settle_44 : decode cX0_settle 44 = .ok (.aload_n 0, 1) := by decide +kernel
theorem dX0_settle_45 : decode cX0_settle 45 = .ok (.dup, 1) := by decide +kernel
theorem dX0_settle_46 : decode cX0_settle 46 = .ok (.getfield 18, 3) := by decide +kernel
theorem dX0_settle_49 : decode cX0_settle 49 = .ok (.iconst 1, 1) := by decide +kernel
theorem dX0_settle_50 : decode cX0_settle 50 = .ok (.iadd, 1) := by decide +kernel
theorem dX0_settle_51 : decode cX0_settle 51 = .ok (.putfield 18, 3) := by decide +kernel
theorem dX0_settle_54 : decode cX0_settle 54 = .ok (.aload_n 0, 1) := by decide +kernel
theorem dX0_settle_55 : decode cX0_settle 55 = .ok (.iload_n 1, 1) := by decide +kernel
theorem dX0_settle_56 : decode cX0_settle 56 = .ok (.putfield 22, 3) := by decide +kernel
theorem dX0_settle_59 : decode cX0_settle 59 = .ok (.return_, 1) := by decide +kernel
theorem dX1_init_0 : decode cX1_init 0 = .ok (.aload_n 0, 1) := by decide +kernel
theorem dX1_init_1 : decode cX1_init 1 = .ok (.invokespecial 3, 3) := by decide +kernel
theorem dX1_init_4 : decode cX1_init 4 = .ok (.aload_n 0, 1) := by decide +kernel
theorem dX1_init_5 : decode cX1_init 5 = .ok (.bipush 100, 2) := by decide +kernel
theorem dX1_init_7 : decode cX1_init 7 = .ok (.newarray .int, 2) := by decide +kernel
theorem dX1_init_9 : decode cX1_init 9 = .ok (.putfield 9, 3) := by decide +kernel
theorem dX1_init_12 : decode cX1_init 12 = .ok (.aload_n 0, 1) := by decide +kernel
theorem dX1_init_13 : decode cX1_init 13 = .ok (.iconst 0, 1) := by decide +kernel
theorem dX1_init_14 : decode cX1_init 14 = .ok (.putfield 15, 3) := by decide +kernel
theorem dX1_init_17 : decode cX1_init 17 = .ok (.aload_n 0, 1) := by decide +kernel
theorem dX1_init_18 : decode cX1_init 18 = .ok (.iconst 0, 1) := by decide +kernel
theorem dX1_init_19 : decode cX1_init 19 = .ok (.putfield 19, 3) := by decide +kernel
theorem dX1_init_22 : decode cX1_init 22 = .ok (.aload_n 0, 1) := by decide +kernel
theorem dX1_init_23 : decode cX1_init 23 = .ok (.iconst 0, 1) := by decide +kernel
theorem dX1_init_24 : decode cX1_init 24 = .ok (.putfield 22, 3) := by decide +kernel
theorem dX1_init_27 : decode cX1_init 27 = .ok (.aload_n 0, 1) := by decide +kernel
theorem dX1_init_28 : decode cX1_init 28 = .ok (.iconst 0, 1) := by decide +kernel
theorem dX1_init_29 : decode cX1_init 29 = .ok (.putfield 25, 3) := by decide +kernel
theorem dX1_init_32 : decode cX1_init 32 = .ok (.return_, 1) := by decide +kernel
theorem dX1_judge_0 : decode cX1_judge 0 = .ok (.aload_n 0, 1) := by decide +kernel
theorem dX1_judge_1 : decode cX1_judge 1 = .ok (.aload_n 1, 1) := by decide +kernel
theorem dX1_judge_2 : decode cX1_judge 2 = .ok (.invokevirtual 28, 3) := by decide +kernel
theorem dX1_judge_5 : decode cX1_judge 5 = .ok (.ifCond .eq 4, 3) := by decide +kernel
theorem dX1_judge_8 : decode cX1_judge 8 = .ok (.return_, 1) := by decide +kernel
theorem dX1_judge_9 : decode cX1_judge 9 = .ok (.iconst 0, 1) := by decide +kernel
theorem dX1_judge_10 : decode cX1_judge 10 = .ok (.istore_n 3, 1) := by decide +kernel
theorem dX1_judge_11 : decode cX1_judge 11 = .ok (.iload_n 3, 1) := by decide +kernel
theorem dX1_judge_12 : decode cX1_judge 12 = .ok (.bipush 6, 2) := by decide +kernel
theorem dX1_judge_14 : decode cX1_judge 14 = .ok (.if_icmp .gt 69, 3) := by decide +kernel
theorem dX1_judge_17 : decode cX1_judge 17 = .ok (.iconst 0, 1) := by decide +kernel
theorem dX1_judge_18 : decode cX1_judge 18 = .ok (.istore 4, 2) := by decide +kernel
theorem dX1_judge_20 : decode cX1_judge 20 = .ok (.iload 4, 2) := by decide +kernel
theorem dX1_judge_22 : decode cX1_judge 22 = .ok (.iconst 3, 1) := by decide +kernel
theorem dX1_judge_23 : decode cX1_judge 23 = .ok (.if_icmp .gt 54, 3) := by decide +kernel
theorem dX1_judge_26 : decode cX1_judge 26 = .ok (.aload_n 1, 1) := by decide +kernel
theorem dX1_judge_27 : decode cX1_judge 27 = .ok (.aload_n 2, 1) := by decide +kernel
theorem dX1_judge_28 : decode cX1_judge 28 = .ok (.iload_n 3, 1) := by decide +kernel
theorem dX1_judge_29 : decode cX1_judge 29 = .ok (.iload 4, 2) := by decide +kernel
theorem dX1_judge_31 : decode cX1_judge 31 = .ok (.invokevirtual 32, 3) := by decide +kernel
theorem dX1_judge_34 : decode cX1_judge 34 = .ok (.istore 5, 2) := by decide +kernel
theorem dX1_judge_36 : decode cX1_judge 36 = .ok (.iload_n 3, 1) := by decide +kernel
theorem dX1_judge_37 : decode cX1_judge 37 = .ok (.ifCond .ne 8, 3) := by decide +kernel
theorem dX1_judge_40 : decode cX1_judge 40 = .ok (.iload 4, 2) := by decide +kernel
theorem dX1_judge_42 : decode cX1_judge 42 = .ok (.ifCond .eq 12, 3) := by decide +kernel
theorem dX1_judge_45 : decode cX1_judge 45 = .ok (.iload 5, 2) := by decide +kernel
theorem dX1_judge_47 : decode cX1_judge 47 = .ok (.aload_n 0, 1) := by decide +kernel
theorem dX1_judge_48 : decode cX1_judge 48 = .ok (.getfield 25, 3) := by decide +kernel
theorem dX1_judge_51 : decode cX1_judge 51 = .ok (.if_icmp .ge 20, 3) := by decide +kernel
theorem dX1_judge_54 : decode cX1_judge 54 = .ok (.aload_n 0, 1) := by decide +kernel
theorem dX1_judge_55 : decode cX1_judge 55 = .ok (.iload_n 3, 1) := by decide +kernel
theorem dX1_judge_56 : decode cX1_judge 56 = .ok (.putfield 19, 3) := by decide +kernel
theorem dX1_judge_59 : decode cX1_judge 59 = .ok (.aload_n 0, 1) := by decide +kernel
theorem dX1_judge_60 : decode cX1_judge 60 = .ok (.iload 4, 2) := by decide +kernel
theorem dX1_judge_62 : decode cX1_judge 62 = .ok (.putfield 22, 3) := by decide +kernel
theorem dX1_judge_65 : decode cX1_judge 65 = .ok (.aload_n 0, 1) := by decide +kernel
theorem dX1_judge_66 : decode cX1_judge 66 = .ok (.iload 5, 2) := by decide +kernel
theorem dX1_judge_68 : decode cX1_judge 68 = .ok (.putfield 25, 3) := by decide +kernel
theorem dX1_judge_71 : decode cX1_judge 71 = .ok (.iinc 4 1, 3) := by decide +kernel
theorem dX1_judge_74 : decode cX1_judge 74 = .ok (.goto (-54), 3) := by decide +kernel
theorem dX1_judge_77 : decode cX1_judge 77 = .ok (.iinc 3 1, 3) := by decide +kernel
theorem dX1_judge_80 : decode cX1_judge 80 = .ok (.goto (-69), 3) := by decide +kernel
theorem dX1_judge_83 : decode cX1_judge 83 = .ok (.aload_n 0, 1) := by decide +kernel
theorem dX1_judge_84 : decode cX1_judge 84 = .ok (.aload_n 1, 1) := by decide +kernel
theorem dX1_judge_85 : decode cX1_judge 85 = .ok (.getfield 38, 3) := by decide +kernel
theorem dX1_judge_88 : decode cX1_judge 88 = .ok (.putfield 15, 3) := by decide +kernel
theorem dX1_judge_91 : decode cX1_judge 91 = .ok (.iconst 0, 1) := by decide +kernel
theorem dX1_judge_92 : decode cX1_judge 92 = .ok (.istore_n 3, 1) := by decide +kernel
theorem dX1_judge_93 : decode cX1_judge 93 = .ok (.iload_n 3, 1) := by decide +kernel
theorem dX1_judge_94 : decode cX1_judge 94 = .ok (.aload_n 0, 1) := by decide +kernel
theorem dX1_judge_95 : decode cX1_judge 95 = .ok (.getfield 15, 3) := by decide +kernel
theorem dX1_judge_98 : decode cX1_judge 98 = .ok (.if_icmp .ge 21, 3) := by decide +kernel
theorem dX1_judge_101 : decode cX1_judge 101 = .ok (.aload_n 0, 1) := by decide +kernel
theorem dX1_judge_102 : decode cX1_judge 102 = .ok (.getfield 9, 3) := by decide +kernel
theorem dX1_judge_105 : decode cX1_judge 105 = .ok (.iload_n 3, 1) := by decide +kernel
theorem dX1_judge_106 : decode cX1_judge 106 = .ok (.aload_n 1, 1) := by decide +kernel
theorem dX1_judge_107 : decode cX1_judge 107 = .ok (.getfield 39, 3) := by decide +kernel
theorem dX1_judge_110 : decode cX1_judge 110 = .ok (.iload_n 3, 1) := by decide +kernel
theorem dX1_judge_111 : decode cX1_judge 111 = .ok (.iaload, 1) := by decide +kernel
theorem dX1_judge_112 : decode cX1_judge 112 = .ok (.iastore, 1) := by decide +kernel
theorem dX1_judge_113 : decode cX1_judge 113 = .ok (.iinc 3 1, 3) := by decide +kernel
theorem dX1_judge_116 : decode cX1_judge 116 = .ok (.goto (-23), 3) := by decide +kernel
theorem dX1_judge_119 : decode cX1_judge 119 = .ok (.return_, 1) := by decide +kernel
theorem dX1_isJudged_0 : decode cX1_isJudged 0 = .ok (.aload_n 0, 1) := by decide +kernel
theorem dX1_isJudged_1 : decode cX1_isJudged 1 = .ok (.getfield 15, 3) := by decide +kernel
theorem dX1_isJudged_4 : decode cX1_isJudged 4 = .ok (.aload_n 1, 1) := by decide +kernel
theorem dX1_isJudged_5 : decode cX1_isJudged 5 = .ok (.getfield 38, 3) := by decide +kernel
theorem dX1_isJudged_8 : decode cX1_isJudged 8 = .ok (.if_icmp .eq 5, 3) := by decide +kernel
theorem dX1_isJudged_11 : decode cX1_isJudged 11 = .ok (.iconst 0, 1) := by decide +kernel
theorem dX1_isJudged_12 : decode cX1_isJudged 12 = .ok (.ireturn, 1) := by decide +kernel
theorem dX1_isJudged_13 : decode cX1_isJudged 13 = .ok (.iconst 0, 1) := by decide +kernel
theorem dX1_isJudged_14 : decode cX1_isJudged 14 = .ok (.istore_n 2, 1) := by decide +kernel
theorem dX1_isJudged_15 : decode cX1_isJudged 15 = .ok (.iload_n 2, 1) := by decide +kernel
theorem dX1_isJudged_16 : decode cX1_isJudged 16 = .ok (.aload_n 0, 1) := by decide +kernel
theorem dX1_isJudged_17 : decode cX1_isJudged 17 = .ok (.getfield 15, 3) := by decide +kernel
theorem dX1_isJudged_20 : decode cX1_isJudged 20 = .ok (.if_icmp .ge 26, 3) := by decide +kernel
theorem dX1_isJudged_23 : decode cX1_isJudged 23 = .ok (.aload_n 0, 1) := by decide +kernel
theorem dX1_isJudged_24 : decode cX1_isJudged 24 = .ok (.getfield 9, 3) := by decide +kernel
theorem dX1_isJudged_27 : decode cX1_isJudged 27 = .ok (.iload_n 2, 1) := by decide +kernel
theorem dX1_isJudged_28 : decode cX1_isJudged 28 = .ok (.iaload, 1) := by decide +kernel
theorem dX1_isJudged_29 : decode cX1_isJudged 29 = .ok (.aload_n 1, 1) := by decide +kernel
theorem dX1_isJudged_30 : decode cX1_isJudged 30 = .ok (.getfield 39, 3) := by decide +kernel
theorem dX1_isJudged_33 : decode cX1_isJudged 33 = .ok (.iload_n 2, 1) := by decide +kernel
theorem dX1_isJudged_34 : decode cX1_isJudged 34 = .ok (.iaload, 1) := by decide +kernel
theorem dX1_isJudged_35 : decode cX1_isJudged 35 = .ok (.if_icmp .eq 5, 3) := by decide +kernel
theorem dX1_isJudged_38 : decode cX1_isJudged 38 = .ok (.iconst 0, 1) := by decide +kernel
theorem dX1_isJudged_39 : decode cX1_isJudged 39 = .ok (.ireturn, 1) := by decide +kernel
theorem dX1_isJudged_40 : decode cX1_isJudged 40 = .ok (.iinc 2 1, 3) := by decide +kernel
theorem dX1_isJudged_43 : decode cX1_isJudged 43 = .ok (.goto (-28), 3) := by decide +kernel
theorem dX1_isJudged_46 : decode cX1_isJudged 46 = .ok (.iconst 1, 1) := by decide +kernel
theorem dX1_isJudged_47 : decode cX1_isJudged 47 = .ok (.ireturn, 1) := by decide +kernel
theorem dX2_init_0 : decode cX2_init 0 = .ok (.aload_n 0, 1) := by decide +kernel
theorem dX2_init_1 : decode cX2_init 1 = .ok (.invokespecial 3, 3) := by decide +kernel
theorem dX2_init_4 : decode cX2_init 4 = .ok (.aload_n 0, 1) := by decide +kernel
theorem dX2_init_5 : decode cX2_init 5 = .ok (.sipush 128, 3) := by decide +kernel
theorem dX2_init_8 : decode cX2_init 8 = .ok (.newarray .int, 2) := by decide +kernel
theorem dX2_init_10 : decode cX2_init 10 = .ok (.putfield 9, 3) := by decide +kernel
theorem dX2_init_13 : decode cX2_init 13 = .ok (.aload_n 0, 1) := by decide +kernel
theorem dX2_init_14 : decode cX2_init 14 = .ok (.sipush 128, 3) := by decide +kernel
theorem dX2_init_17 : decode cX2_init 17 = .ok (.newarray .int, 2) := by decide +kernel
theorem dX2_init_19 : decode cX2_init 19 = .ok (.putfield 15, 3) := by decide +kernel
theorem dX2_init_22 : decode cX2_init 22 = .ok (.aload_n 0, 1) := by decide +kernel
theorem dX2_init_23 : decode cX2_init 23 = .ok (.sipush 128, 3) := by decide +kernel
theorem dX2_init_26 : decode cX2_init 26 = .ok (.newarray .int, 2) := by decide +kernel
theorem dX2_init_28 : decode cX2_init 28 = .ok (.putfield 18, 3) := by decide +kernel
theorem dX2_init_31 : decode cX2_init 31 = .ok (.aload_n 0, 1) := by decide +kernel
theorem dX2_init_32 : decode cX2_init 32 = .ok (.sipush 128, 3) := by decide +kernel
theorem dX2_init_35 : decode cX2_init 35 = .ok (.newarray .int, 2) := by decide +kernel
theorem dX2_init_37 : decode cX2_init 37 = .ok (.putfield 21, 3) := by decide +kernel
theorem dX2_init_40 : decode cX2_init 40 = .ok (.aload_n 0, 1) := by decide +kernel
theorem dX2_init_41 : decode cX2_init 41 = .ok (.bipush 7, 2) := by decide +kernel
theorem dX2_init_43 : decode cX2_init 43 = .ok (.newarray .int, 2) := by decide +kernel
theorem dX2_init_45 : decode cX2_init 45 = .ok (.putfield 24, 3) := by decide +kernel
theorem dX2_init_48 : decode cX2_init 48 = .ok (.aload_n 0, 1) := by decide +kernel
theorem dX2_init_49 : decode cX2_init 49 = .ok (.bipush 7, 2) := by decide +kernel
theorem dX2_init_51 : decode cX2_init 51 = .ok (.newarray .int, 2) := by decide +kernel
theorem dX2_init_53 : decode cX2_init 53 = .ok (.putfield 27, 3) := by decide +kernel
theorem dX2_init_56 : decode cX2_init 56 = .ok (.aload_n 0, 1) := by decide +kernel
theorem dX2_init_57 : decode cX2_init 57 = .ok (.iconst 3, 1) := by decide +kernel
theorem dX2_init_58 : decode cX2_init 58 = .ok (.putfield 30, 3) := by decide +kernel
theorem dX2_init_61 : decode cX2_init 61 = .ok (.aload_n 0, 1) := by decide +kernel
theorem dX2_init_62 : decode cX2_init 62 = .ok (.iconst 0, 1) := by decide +kernel
theorem dX2_init_63 : decode cX2_init 63 = .ok (.putfield 34, 3) := by decide +kernel
theorem dX2_init_66 : decode cX2_init 66 = .ok (.aload_n 0, 1) := by decide +kernel
theorem dX2_init_67 : decode cX2_init 67 = .ok (.iconst 0, 1) := by decide +kernel
theorem dX2_init_68 : decode cX2_init 68 = .ok (.putfield 37, 3) := by decide +kernel
theorem dX2_init_71 : decode cX2_init 71 = .ok (.aload_n 0, 1) := by decide +kernel
theorem dX2_init_72 : decode cX2_init 72 = .ok (.iconst 3, 1) := by decide +kernel
theorem dX2_init_73 : decode cX2_init 73 = .ok (.iconst 0, 1) := by decide +kernel
theorem dX2_init_74 : decode cX2_init 74 = .ok (.invokevirtual 40, 3) := by decide +kernel
theorem dX2_init_77 : decode cX2_init 77 = .ok (.return_, 1) := by decide +kernel
theorem dX2_begin_0 : decode cX2_begin 0 = .ok (.aload_n 0, 1) := by decide +kernel
theorem dX2_begin_1 : decode cX2_begin 1 = .ok (.iload_n 1, 1) := by decide +kernel
theorem dX2_begin_2 : decode cX2_begin 2 = .ok (.i2l, 1) := by decide +kernel
theorem dX2_begin_3 : decode cX2_begin 3 = .ok (.iconst 0, 1) := by decide +kernel
theorem dX2_begin_4 : decode cX2_begin 4 = .ok (.bipush 6, 2) := by decide +kernel
theorem dX2_begin_6 : decode cX2_begin 6 = .ok (.invokestatic 44, 3) := by decide +kernel
theorem dX2_begin_9 : decode cX2_begin 9 = .ok (.putfield 30, 3) := by decide +kernel
theorem dX2_begin_12 : decode cX2_begin 12 = .ok (.aload_n 0, 1) := by decide +kernel
theorem dX2_begin_13 : decode cX2_begin 13 = .ok (.iload_n 2, 1) := by decide +kernel
theorem dX2_begin_14 : decode cX2_begin 14 = .ok (.i2l, 1) := by decide +kernel
theorem dX2_begin_15 : decode cX2_begin 15 = .ok (.iconst 0, 1) := by decide +kernel
theorem dX2_begin_16 : decode cX2_begin 16 = .ok (.iconst 3, 1) := by decide +kernel
theorem dX2_begin_17 : decode cX2_begin 17 = .ok (.invokestatic 44, 3) := by decide +kernel
theorem dX2_begin_20 : decode cX2_begin 20 = .ok (.putfield 34, 3) := by decide +kernel
theorem dX2_begin_23 : decode cX2_begin 23 = .ok (.aload_n 0, 1) := by decide +kernel
theorem dX2_begin_24 : decode cX2_begin 24 = .ok (.iconst 0, 1) := by decide +kernel
theorem dX2_begin_25 : decode cX2_begin 25 = .ok (.putfield 37, 3) := by decide +kernel
theorem dX2_begin_28 : decode cX2_begin 28 = .ok (.iconst 0, 1) := by decide +kernel
theorem dX2_begin_29 : decode cX2_begin 29 = .ok (.iconst 0, 1) := by decide +kernel
theorem dX2_begin_30 : decode cX2_begin 30 = .ok (.invokestatic 48, 3) := by decide +kernel
theorem dX2_begin_33 : decode cX2_begin 33 = .ok (.istore_n 3, 1) := by decide +kernel
theorem dX2_begin_34 : decode cX2_begin 34 = .ok (.iload_n 3, 1) := by decide +kernel
theorem dX2_begin_35 : decode cX2_begin 35 = .ok (.iconst 2, 1) := by decide +kernel
theorem dX2_begin_36 : decode cX2_begin 36 = .ok (.aload_n 0, 1) := by decide +kernel
theorem dX2_begin_37 : decode cX2_begin 37 = .ok (.getfield 30, 3) := by decide +kernel
theorem dX2_begin_40 : decode cX2_begin 40 = .ok (.ishl, 1) := by decide +kernel
theorem dX2_begin_41 : decode cX2_begin 41 = .ok (.if_icmp .ge 38, 3) := by decide +kernel
theorem dX2_begin_44 : decode cX2_begin 44 = .ok (.aload_n 0, 1) := by decide +kernel
theorem dX2_begin_45 : decode cX2_begin 45 = .ok (.getfield 9, 3) := by decide +kernel
theorem dX2_begin_48 : decode cX2_begin 48 = .ok (.iload_n 3, 1) := by decide +kernel
theorem dX2_begin_49 : decode cX2_begin 49 = .ok (.iconst 0, 1) := by decide +kernel
theorem dX2_begin_50 : decode cX2_begin 50 = .ok (.iastore, 1) := by decide +kernel
theorem dX2_begin_51 : decode cX2_begin 51 = .ok (.aload_n 0, 1) := by decide +kernel
theorem dX2_begin_52 : decode cX2_begin 52 = .ok (.getfield 15, 3) := by decide +kernel
theorem dX2_begin_55 : decode cX2_begin 55 = .ok (.iload_n 3, 1) := by decide +kernel
theorem dX2_begin_56 : decode cX2_begin 56 = .ok (.iconst 0, 1) := by decide +kernel
theorem dX2_begin_57 : decode cX2_begin 57 = .ok (.iastore, 1) := by decide +kernel
theorem dX2_begin_58 : decode cX2_begin 58 = .ok (.aload_n 0, 1) := by decide +kernel
theorem dX2_begin_59 : decode cX2_begin 59 = .ok (.getfield 18, 3) := by decide +kernel
theorem dX2_begin_62 : decode cX2_begin 62 = .ok (.iload_n 3, 1) := by decide +kernel
theorem dX2_begin_63 : decode cX2_begin 63 = .ok (.ldc 52, 2) := by decide +kernel
theorem dX2_begin_65 : decode cX2_begin 65 = .ok (.iastore, 1) := by decide +kernel
theorem dX2_begin_66 : decode cX2_begin 66 = .ok (.aload_n 0, 1) := by decide +kernel
theorem dX2_begin_67 : decode cX2_begin 67 = .ok (.getfield 21, 3) := by decide +kernel
theorem dX2_begin_70 : decode cX2_begin 70 = .ok (.iload_n 3, 1) := by decide +kernel
theorem dX2_begin_71 : decode cX2_begin 71 = .ok (.iconst 0, 1) := by decide +kernel
theorem dX2_begin_72 : decode cX2_begin 72 = .ok (.iastore, 1) := by decide +kernel
theorem dX2_begin_73 : decode cX2_begin 73 = .ok (.iinc 3 1, 3) := by decide +kernel
theorem dX2_begin_76 : decode cX2_begin 76 = .ok (.goto (-42), 3) := by decide +kernel
theorem dX2_begin_79 : decode cX2_begin 79 = .ok (.aload_n 0, 1) := by decide +kernel
theorem dX2_begin_80 : decode cX2_begin 80 = .ok (.invokevirtual 53, 3) := by decide +kernel
theorem dX2_begin_83 : decode cX2_begin 83 = .ok (.return_, 1) := by decide +kernel
theorem dX2_has_0 : decode cX2_has 0 = .ok (.iload_n 1, 1) := by decide +kernel
theorem dX2_has_1 : decode cX2_has 1 = .ok (.iconst 0, 1) := by decide +kernel
theorem dX2_has_2 : decode cX2_has 2 = .ok (.aload_n 0, 1) := by decide +kernel
theorem dX2_has_3 : decode cX2_has 3 = .ok (.getfield 30, 3) := by decide +kernel
theorem dX2_has_6 : decode cX2_has 6 = .ok (.invokestatic 56, 3) := by decide +kernel
theorem dX2_has_9 : decode cX2_has 9 = .ok (.ifCond .eq 20, 3) := by decide +kernel
theorem dX2_has_12 : decode cX2_has 12 = .ok (.iload_n 2, 1) := by decide +kernel
theorem dX2_has_13 : decode cX2_has 13 = .ok (.iconst 0, 1) := by decide +kernel
theorem dX2_has_14 : decode cX2_has 14 = .ok (.iconst 1, 1) := by decide +kernel
theorem dX2_has_15 : decode cX2_has 15 = .ok (.iload_n 1, 1) := by decide +kernel
theorem dX2_has_16 : decode cX2_has 16 = .ok (.ishl, 1) := by decide +kernel
theorem dX2_has_17 : decode cX2_has 17 = .ok (.iconst 1, 1) := by decide +kernel
theorem dX2_has_18 : decode cX2_has 18 = .ok (.isub, 1) := by decide +kernel
theorem dX2_has_19 : decode cX2_has 19 = .ok (.invokestatic 56, 3) := by decide +kernel
theorem dX2_has_22 : decode cX2_has 22 = .ok (.ifCond .eq 7, 3) := by decide +kernel
theorem dX2_has_25 : decode cX2_has 25 = .ok (.iconst 1, 1) := by decide +kernel
theorem dX2_has_26 : decode cX2_has 26 = .ok (.goto 4, 3) := by decide +kernel
theorem dX2_has_29 : decode cX2_has 29 = .ok (.iconst 0, 1) := by decide +kernel
theorem dX2_has_30 : decode cX2_has 30 = .ok (.ireturn, 1) := by decide +kernel
theorem dX2_next_0 : decode cX2_next 0 = .ok (.aload_n 0, 1) := by decide +kernel
theorem dX2_next_1 : decode cX2_next 1 = .ok (.getfield 27, 3) := by decide +kernel
theorem dX2_next_4 : decode cX2_next 4 = .ok (.iconst 0, 1) := by decide +kernel
theorem dX2_next_5 : decode cX2_next 5 = .ok (.iaload, 1) := by decide +kernel
theorem dX2_next_6 : decode cX2_next 6 = .ok (.ireturn, 1) := by decide +kernel
theorem dX2_take_0 : decode cX2_take 0 = .ok (.iconst 0, 1) := by decide +kernel
theorem dX2_take_1 : decode cX2_take 1 = .ok (.istore_n 2, 1) := by decide +kernel
theorem dX2_take_2 : decode cX2_take 2 = .ok (.iload_n 2, 1) := by decide +kernel
theorem dX2_take_3 : decode cX2_take 3 = .ok (.aload_n 0, 1) := by decide +kernel
theorem dX2_take_4 : decode cX2_take 4 = .ok (.getfield 30, 3) := by decide +kernel
theorem dX2_take_7 : decode cX2_take 7 = .ok (.if_icmp .gt 61, 3) := by decide +kernel
theorem dX2_take_10 : decode cX2_take 10 = .ok (.iload_n 2, 1) := by decide +kernel
theorem dX2_take_11 : decode cX2_take 11 = .ok (.aload_n 0, 1) := by decide +kernel
theorem dX2_take_12 : decode cX2_take 12 = .ok (.getfield 37, 3) := by decide +kernel
theorem dX2_take_15 : decode cX2_take 15 = .ok (.invokestatic 48, 3) := by decide +kernel
theorem dX2_take_18 : decode cX2_take 18 = .ok (.istore_n 3, 1) := by decide +kernel
theorem dX2_take_19 : decode cX2_take 19 = .ok (.aload_n 0, 1) := by decide +kernel
theorem dX2_take_20 : decode cX2_take 20 = .ok (.getfield 21, 3) := by decide +kernel
theorem dX2_take_23 : decode cX2_take 23 = .ok (.iload_n 3, 1) := by decide +kernel
theorem dX2_take_24 : decode cX2_take 24 = .ok (.dup2, 1) := by decide +kernel
theorem dX2_take_25 : decode cX2_take 25 = .ok (.iaload, 1) := by decide +kernel
theorem dX2_take_26 : decode cX2_take 26 = .ok (.iload_n 1, 1) := by decide +kernel
theorem dX2_take_27 : decode cX2_take 27 = .ok (.aload_n 0, 1) := by decide +kernel
theorem dX2_take_28 : decode cX2_take 28 = .ok (.getfield 24, 3) := by decide +kernel
theorem dX2_take_31 : decode cX2_take 31 = .ok (.iload_n 2, 1) := by decide +kernel
theorem dX2_take_32 : decode cX2_take 32 = .ok (.iaload, 1) := by decide +kernel
theorem dX2_take_33 : decode cX2_take 33 = .ok (.invokestatic 60, 3) := by decide +kernel
theorem dX2_take_36 : decode cX2_take 36 = .ok (.invokestatic 63, 3) := by decide +kernel
theorem dX2_take_39 : decode cX2_take 39 = .ok (.iadd, 1) := by decide +kernel
theorem dX2_take_40 : decode cX2_take 40 = .ok (.iastore, 1) := by decide +kernel
theorem dX2_take_41 : decode cX2_take 41 = .ok (.iload_n 2, 1) := by decide +kernel
theorem dX2_take_42 : decode cX2_take 42 = .ok (.aload_n 0, 1) := by decide +kernel
theorem dX2_take_43 : decode cX2_take 43 = .ok (.getfield 30, 3) := by decide +kernel
theorem dX2_take_46 : decode cX2_take 46 = .ok (.if_icmp .ge 10, 3) := by decide +kernel
theorem dX2_take_49 : decode cX2_take 49 = .ok (.aload_n 0, 1) := by decide +kernel
theorem dX2_take_50 : decode cX2_take 50 = .ok (.iload_n 3, 1) := by decide +kernel
theorem dX2_take_51 : decode cX2_take 51 = .ok (.iload_n 2, 1) := by decide +kernel
theorem dX2_take_52 : decode cX2_take 52 = .ok (.iload_n 1, 1) := by decide +kernel
theorem dX2_take_53 : decode cX2_take 53 = .ok (.invokevirtual 67, 3) := by decide +kernel
theorem dX2_take_56 : decode cX2_take 56 = .ok (.aload_n 0, 1) := by decide +kernel
theorem dX2_take_57 : decode cX2_take 57 = .ok (.iload_n 3, 1) := by decide +kernel
theorem dX2_take_58 : decode cX2_take 58 = .ok (.iload_n 1, 1) := by decide +kernel
theorem dX2_take_59 : decode cX2_take 59 = .ok (.invokevirtual 71, 3) := by decide +kernel
theorem dX2_take_62 : decode cX2_take 62 = .ok (.iinc 2 1, 3) := by decide +kernel
theorem dX2_take_65 : decode cX2_take 65 = .ok (.goto (-63), 3) := by decide +kernel
theorem dX2_take_68 : decode cX2_take 68 = .ok (.aload_n 0, 1) := by decide +kernel
theorem dX2_take_69 : decode cX2_take 69 = .ok (.aload_n 0, 1) := by decide +kernel
theorem dX2_take_70 : decode cX2_take 70 = .ok (.getfield 37, 3) := by decide +kernel
theorem dX2_take_73 : decode cX2_take 73 = .ok (.iconst 1, 1) := by decide +kernel
theorem dX2_take_74 : decode cX2_take 74 = .ok (.ishl, 1) := by decide +kernel
theorem dX2_take_75 : decode cX2_take 75 = .ok (.iload_n 1, 1) := by decide +kernel
theorem dX2_take_76 : decode cX2_take 76 = .ok (.ior, 1) := by decide +kernel
theorem dX2_take_77 : decode cX2_take 77 = .ok (.bipush 63, 2) := by decide +kernel
theorem dX2_take_79 : decode cX2_take 79 = .ok (.iand, 1) := by decide +kernel
theorem dX2_take_80 : decode cX2_take 80 = .ok (.putfield 37, 3) := by decide +kernel
theorem dX2_take_83 : decode cX2_take 83 = .ok (.aload_n 0, 1) := by decide +kernel
theorem dX2_take_84 : decode cX2_take 84 = .ok (.invokevirtual 53, 3) := by decide +kernel
theorem dX2_take_87 : decode cX2_take 87 = .ok (.return_, 1) := by decide +kernel
theorem dX2_lookAhead_0 : decode cX2_lookAhead 0 = .ok (.aload_n 0, 1) := by decide +kernel
theorem dX2_lookAhead_1 : decode cX2_lookAhead 1 = .ok (.getfield 30, 3) := by decide +kernel
theorem dX2_lookAhead_4 : decode cX2_lookAhead 4 = .ok (.istore_n 1, 1) := by decide +kernel
theorem dX2_lookAhead_5 : decode cX2_lookAhead 5 = .ok (.iload_n 1, 1) := by decide +kernel
theorem dX2_lookAhead_6 : decode cX2_lookAhead 6 = .ok (.ifCond .lt 72, 3) := by decide +kernel
theorem dX2_lookAhead_9 : decode cX2_lookAhead 9 = .ok (.iload_n 1, 1) := by decide +kernel
theorem dX2_lookAhead_10 : decode cX2_lookAhead 10 = .ok (.aload_n 0, 1) := by decide +kernel
theorem dX2_lookAhead_11 : decode cX2_lookAhead 11 = .ok (.getfield 37, 3) := by decide +kernel
theorem dX2_lookAhead_14 : decode cX2_lookAhead 14 = .ok (.invokestatic 48, 3) := by decide +kernel
theorem dX2_lookAhead_17 : decode cX2_lookAhead 17 = .ok (.istore_n 2, 1) := by decide +kernel
theorem dX2_lookAhead_18 : decode cX2_lookAhead 18 = .ok (.aload_n 0, 1) := by decide +kernel
theorem dX2_lookAhead_19 : decode cX2_lookAhead 19 = .ok (.getfield 24, 3) := by decide +kernel
theorem dX2_lookAhead_22 : decode cX2_lookAhead 22 = .ok (.iload_n 1, 1) := by decide +kernel
theorem dX2_lookAhead_23 : decode cX2_lookAhead 23 = .ok (.aload_n 0, 1) := by decide +kernel
theorem dX2_lookAhead_24 : decode cX2_lookAhead 24 = .ok (.getfield 34, 3) := by decide +kernel
theorem dX2_lookAhead_27 : decode cX2_lookAhead 27 = .ok (.aload_n 0, 1) := by decide +kernel
theorem dX2_lookAhead_28 : decode cX2_lookAhead 28 = .ok (.getfield 9, 3) := by decide +kernel
theorem dX2_lookAhead_31 : decode cX2_lookAhead 31 = .ok (.iload_n 2, 1) := by decide +kernel
theorem dX2_lookAhead_32 : decode cX2_lookAhead 32 = .ok (.iaload, 1) := by decide +kernel
theorem dX2_lookAhead_33 : decode cX2_lookAhead 33 = .ok (.aload_n 0, 1) := by decide +kernel
theorem dX2_lookAhead_34 : decode cX2_lookAhead 34 = .ok (.getfield 15, 3) := by decide +kernel
theorem dX2_lookAhead_37 : decode cX2_lookAhead 37 = .ok (.iload_n 2, 1) := by decide +kernel
theorem dX2_lookAhead_38 : decode cX2_lookAhead 38 = .ok (.iaload, 1) := by decide +kernel
theorem dX2_lookAhead_39 : decode cX2_lookAhead 39 = .ok (.invokestatic 74, 3) := by decide +kernel
theorem dX2_lookAhead_42 : decode cX2_lookAhead 42 = .ok (.iastore, 1) := by decide +kernel
theorem dX2_lookAhead_43 : decode cX2_lookAhead 43 = .ok (.aload_n 0, 1) := by decide +kernel
theorem dX2_lookAhead_44 : decode cX2_lookAhead 44 = .ok (.getfield 27, 3) := by decide +kernel
theorem dX2_lookAhead_47 : decode cX2_lookAhead 47 = .ok (.iload_n 1, 1) := by decide +kernel
theorem dX2_lookAhead_48 : decode cX2_lookAhead 48 = .ok (.iload_n 1, 1) := by decide +kernel
theorem dX2_lookAhead_49 : decode cX2_lookAhead 49 = .ok (.aload_n 0, 1) := by decide +kernel
theorem dX2_lookAhead_50 : decode cX2_lookAhead 50 = .ok (.getfield 30, 3) := by decide +kernel
theorem dX2_lookAhead_53 : decode cX2_lookAhead 53 = .ok (.if_icmp .ge 12, 3) := by decide +kernel
theorem dX2_lookAhead_56 : decode cX2_lookAhead 56 = .ok (.aload_n 0, 1) := by decide +kernel
theorem dX2_lookAhead_57 : decode cX2_lookAhead 57 = .ok (.iload_n 2, 1) := by decide +kernel
theorem dX2_lookAhead_58 : decode cX2_lookAhead 58 = .ok (.iload_n 1, 1) := by decide +kernel
theorem dX2_lookAhead_59 : decode cX2_lookAhead 59 = .ok (.invokevirtual 78, 3) := by decide +kernel
theorem dX2_lookAhead_62 : decode cX2_lookAhead 62 = .ok (.goto 9, 3) := by decide +kernel
theorem dX2_lookAhead_65 : decode cX2_lookAhead 65 = .ok (.aload_n 0, 1) := by decide +kernel
theorem dX2_lookAhead_66 : decode cX2_lookAhead 66 = .ok (.getfield 24, 3) := by decide +kernel
theorem dX2_lookAhead_69 : decode cX2_lookAhead 69 = .ok (.iload_n 1, 1) := by decide +kernel
theorem dX2_lookAhead_70 : decode cX2_lookAhead 70 = .ok (.iaload, 1) := by decide +kernel
theorem dX2_lookAhead_71 : decode cX2_lookAhead 71 = .ok (.iastore, 1) := by decide +kernel
theorem dX2_lookAhead_72 : decode cX2_lookAhead 72 = .ok (.iinc 1 (-1), 3) := by decide +kernel
theorem dX2_lookAhead_75 : decode cX2_lookAhead 75 = .ok (.goto (-70), 3) := by decide +kernel
theorem dX2_lookAhead_78 : decode cX2_lookAhead 78 = .ok (.return_, 1) := by decide +kernel
theorem dX2_mix_0 : decode cX2_mix 0 = .ok (.aload_n 0, 1) := by decide +kernel
theorem dX2_mix_1 : decode cX2_mix 1 = .ok (.getfield 18, 3) := by decide +kernel
theorem dX2_mix_4 : decode cX2_mix 4 = .ok (.iload_n 1, 1) := by decide +kernel
theorem dX2_mix_5 : decode cX2_mix 5 = .ok (.iaload, 1) := by decide +kernel
theorem dX2_mix_6 : decode cX2_mix 6 = .ok (.i2l, 1) := by decide +kernel
theorem dX2_mix_7 : decode cX2_mix 7 = .ok (.lstore_n 3, 1) := by decide +kernel
theorem dX2_mix_8 : decode cX2_mix 8 = .ok (.lload_n 3, 1) := by decide +kernel
theorem dX2_mix_9 : decode cX2_mix 9 = .ok (.aload_n 0, 1) := by decide +kernel
theorem dX2_mix_10 : decode cX2_mix 10 = .ok (.getfield 24, 3) := by decide +kernel
theorem dX2_mix_13 : decode cX2_mix 13 = .ok (.iload_n 2, 1) := by decide +kernel
theorem dX2_mix_14 : decode cX2_mix 14 = .ok (.iaload, 1) := by decide +kernel
theorem dX2_mix_15 : decode cX2_mix 15 = .ok (.i2l, 1) := by decide +kernel
theorem dX2_mix_16 : decode cX2_mix 16 = .ok (.lmul, 1) := by decide +kernel
theorem dX2_mix_17 : decode cX2_mix 17 = .ok (.ldc2_w 81, 3) := by decide +kernel
theorem dX2_mix_20 : decode cX2_mix 20 = .ok (.lload_n 3, 1) := by decide +kernel
theorem dX2_mix_21 : decode cX2_mix 21 = .ok (.lsub, 1) := by decide +kernel
theorem dX2_mix_22 : decode cX2_mix 22 = .ok (.aload_n 0, 1) := by decide +kernel
theorem dX2_mix_23 : decode cX2_mix 23 = .ok (.getfield 27, 3) := by decide +kernel
theorem dX2_mix_26 : decode cX2_mix 26 = .ok (.iload_n 2, 1) := by decide +kernel
theorem dX2_mix_27 : decode cX2_mix 27 = .ok (.iconst 1, 1) := by decide +kernel
theorem dX2_mix_28 : decode cX2_mix 28 = .ok (.iadd, 1) := by decide +kernel
theorem dX2_mix_29 : decode cX2_mix 29 = .ok (.iaload, 1) := by decide +kernel
theorem dX2_mix_30 : decode cX2_mix 30 = .ok (.i2l, 1) := by decide +kernel
theorem dX2_mix_31 : decode cX2_mix 31 = .ok (.lmul, 1) := by decide +kernel
theorem dX2_mix_32 : decode cX2_mix 32 = .ok (.ladd, 1) := by decide +kernel
theorem dX2_mix_33 : decode cX2_mix 33 = .ok (.lstore 5, 2) := by decide +kernel
theorem dX2_mix_35 : decode cX2_mix 35 = .ok (.lload 5, 2) := by decide +kernel
theorem dX2_mix_37 : decode cX2_mix 37 = .ok (.ldc2_w 81, 3) := by decide +kernel
theorem dX2_mix_40 : decode cX2_mix 40 = .ok (.ldiv, 1) := by decide +kernel
theorem dX2_mix_41 : decode cX2_mix 41 = .ok (.iconst 1, 1) := by decide +kernel
theorem dX2_mix_42 : decode cX2_mix 42 = .ok (.ldc 83, 2) := by decide +kernel
theorem dX2_mix_44 : decode cX2_mix 44 = .ok (.invokestatic 44, 3) := by decide +kernel
theorem dX2_mix_47 : decode cX2_mix 47 = .ok (.ireturn, 1) := by decide +kernel
theorem dX2_weighAnew_0 : decode cX2_weighAnew 0 = .ok (.aload_n 0, 1) := by decide +kernel
theorem dX2_weighAnew_1 : decode cX2_weighAnew 1 = .ok (.getfield 18, 3) := by decide +kernel
theorem dX2_weighAnew_4 : decode cX2_weighAnew 4 = .ok (.iload_n 1, 1) := by decide +kernel
theorem dX2_weighAnew_5 : decode cX2_weighAnew 5 = .ok (.iaload, 1) := by decide +kernel
theorem dX2_weighAnew_6 : decode cX2_weighAnew 6 = .ok (.i2l, 1) := by decide +kernel
theorem dX2_weighAnew_7 : decode cX2_weighAnew 7 = .ok (.lstore 4, 2) := by decide +kernel
theorem dX2_weighAnew_9 : decode cX2_weighAnew 9 = .ok (.lload 4, 2) := by decide +kernel
theorem dX2_weighAnew_11 : decode cX2_weighAnew 11 = .ok (.iload_n 3, 1) := by decide +kernel
theorem dX2_weighAnew_12 : decode cX2_weighAnew 12 = .ok (.aload_n 0, 1) := by decide +kernel
theorem dX2_weighAnew_13 : decode cX2_weighAnew 13 = .ok (.getfield 24, 3) := by decide +kernel
theorem dX2_weighAnew_16 : decode cX2_weighAnew 16 = .ok (.iload_n 2, 1) := by decide +kernel
theorem dX2_weighAnew_17 : decode cX2_weighAnew 17 = .ok (.iaload, 1) := by decide +kernel
theorem dX2_weighAnew_18 : decode cX2_weighAnew 18 = .ok (.invokestatic 60, 3) := by decide +kernel
theorem dX2_weighAnew_21 : decode cX2_weighAnew 21 = .ok (.i2l, 1) := by decide +kernel
theorem dX2_weighAnew_22 : decode cX2_weighAnew 22 = .ok (.lmul, 1) := by decide +kernel
theorem dX2_weighAnew_23 : decode cX2_weighAnew 23 = .ok (.lstore 6, 2) := by decide +kernel
theorem dX2_weighAnew_25 : decode cX2_weighAnew 25 = .ok (.ldc2_w 81, 3) := by decide +kernel
theorem dX2_weighAnew_28 : decode cX2_weighAnew 28 = .ok (.lload 4, 2) := by decide +kernel
theorem dX2_weighAnew_30 : decode cX2_weighAnew 30 = .ok (.lsub, 1) := by decide +kernel
theorem dX2_weighAnew_31 : decode cX2_weighAnew 31 = .ok (.iload_n 3, 1) := by decide +kernel
theorem dX2_weighAnew_32 : decode cX2_weighAnew 32 = .ok (.aload_n 0, 1) := by decide +kernel
theorem dX2_weighAnew_33 : decode cX2_weighAnew 33 = .ok (.getfield 27, 3) := by decide +kernel
theorem dX2_weighAnew_36 : decode cX2_weighAnew 36 = .ok (.iload_n 2, 1) := by decide +kernel
theorem dX2_weighAnew_37 : decode cX2_weighAnew 37 = .ok (.iconst 1, 1) := by decide +kernel
theorem dX2_weighAnew_38 : decode cX2_weighAnew 38 = .ok (.iadd, 1) := by decide +kernel
theorem dX2_weighAnew_39 : decode cX2_weighAnew 39 = .ok (.iaload, 1) := by decide +kernel
theorem dX2_weighAnew_40 : decode cX2_weighAnew 40 = .ok (.invokestatic 60, 3) := by decide +kernel
theorem dX2_weighAnew_43 : decode cX2_weighAnew 43 = .ok (.i2l, 1) := by decide +kernel
theorem dX2_weighAnew_44 : decode cX2_weighAnew 44 = .ok (.lmul, 1) := by decide +kernel
theorem dX2_weighAnew_45 : decode cX2_weighAnew 45 = .ok (.lstore 8, 2) := by decide +kernel
theorem dX2_weighAnew_47 : decode cX2_weighAnew 47 = .ok (.aload_n 0, 1) := by decide +kernel
theorem dX2_weighAnew_48 : decode cX2_weighAnew 48 = .ok (.getfield 18, 3) := by decide +kernel
theorem dX2_weighAnew_51 : decode cX2_weighAnew 51 = .ok (.iload_n 1, 1) := by decide +kernel
theorem dX2_weighAnew_52 : decode cX2_weighAnew 52 = .ok (.ldc2_w 81, 3) := by decide +kernel
theorem dX2_weighAnew_55 : decode cX2_weighAnew 55 = .ok (.lload 6, 2) := by decide +kernel
theorem dX2_weighAnew_57 : decode cX2_weighAnew 57 = .ok (.lmul, 1) := by decide +kernel
theorem dX2_weighAnew_58 : decode cX2_weighAnew 58 = .ok (.lload 6, 2) := by decide +kernel
theorem dX2_weighAnew_60 : decode cX2_weighAnew 60 = .ok (.lload 8, 2) := by decide +kernel
theorem dX2_weighAnew_62 : decode cX2_weighAnew 62 = .ok (.ladd, 1) := by decide +kernel
theorem dX2_weighAnew_63 : decode cX2_weighAnew 63 = .ok (.invokestatic 84, 3) := by decide +kernel
theorem dX2_weighAnew_66 : decode cX2_weighAnew 66 = .ok (.bipush 64, 2) := by decide +kernel
theorem dX2_weighAnew_68 : decode cX2_weighAnew 68 = .ok (.ldc 88, 2) := by decide +kernel
theorem dX2_weighAnew_70 : decode cX2_weighAnew 70 = .ok (.invokestatic 44, 3) := by decide +kernel
theorem dX2_weighAnew_73 : decode cX2_weighAnew 73 = .ok (.iastore, 1) := by decide +kernel
theorem dX2_weighAnew_74 : decode cX2_weighAnew 74 = .ok (.return_, 1) := by decide +kernel
theorem dX2_tally_0 : decode cX2_tally 0 = .ok (.iload_n 2, 1) := by decide +kernel
theorem dX2_tally_1 : decode cX2_tally 1 = .ok (.iconst 1, 1) := by decide +kernel
theorem dX2_tally_2 : decode cX2_tally 2 = .ok (.if_icmp .ne 16, 3) := by decide +kernel
theorem dX2_tally_5 : decode cX2_tally 5 = .ok (.aload_n 0, 1) := by decide +kernel
theorem dX2_tally_6 : decode cX2_tally 6 = .ok (.getfield 15, 3) := by decide +kernel
theorem dX2_tally_9 : decode cX2_tally 9 = .ok (.iload_n 1, 1) := by decide +kernel
theorem dX2_tally_10 : decode cX2_tally 10 = .ok (.dup2, 1) := by decide +kernel
theorem dX2_tally_11 : decode cX2_tally 11 = .ok (.iaload, 1) := by decide +kernel
theorem dX2_tally_12 : decode cX2_tally 12 = .ok (.iconst 1, 1) := by decide +kernel
theorem dX2_tally_13 : decode cX2_tally 13 = .ok (.iadd, 1) := by decide +kernel
theorem dX2_tally_14 : decode cX2_tally 14 = .ok (.iastore, 1) := by decide +kernel
theorem dX2_tally_15 : decode cX2_tally 15 = .ok (.goto 13, 3) := by decide +kernel
theorem dX2_tally_18 : decode cX2_tally 18 = .ok (.aload_n 0, 1) := by decide +kernel
theorem dX2_tally_19 : decode cX2_tally 19 = .ok (.getfield 9, 3) := by decide +kernel
theorem dX2_tally_22 : decode cX2_tally 22 = .ok (.iload_n 1, 1) := by decide +kernel
theorem dX2_tally_23 : decode cX2_tally 23 = .ok (.dup2, 1) := by decide +kernel
theorem dX2_tally_24 : decode cX2_tally 24 = .ok (.iaload, 1) := by decide +kernel
theorem dX2_tally_25 : decode cX2_tally 25 = .ok (.iconst 1, 1) := by decide +kernel
theorem dX2_tally_26 : decode cX2_tally 26 = .ok (.iadd, 1) := by decide +kernel
theorem dX2_tally_27 : decode cX2_tally 27 = .ok (.iastore, 1) := by decide +kernel
theorem dX2_tally_28 : decode cX2_tally 28 = .ok (.aload_n 0, 1) := by decide +kernel
theorem dX2_tally_29 : decode cX2_tally 29 = .ok (.getfield 9, 3) := by decide +kernel
theorem dX2_tally_32 : decode cX2_tally 32 = .ok (.iload_n 1, 1) := by decide +kernel
theorem dX2_tally_33 : decode cX2_tally 33 = .ok (.iaload, 1) := by decide +kernel
theorem dX2_tally_34 : decode cX2_tally 34 = .ok (.bipush 60, 2) := by decide +kernel
theorem dX2_tally_36 : decode cX2_tally 36 = .ok (.if_icmp .gt 14, 3) := by decide +kernel
theorem dX2_tally_39 : decode cX2_tally 39 = .ok (.aload_n 0, 1) := by decide +kernel
theorem dX2_tally_40 : decode cX2_tally 40 = .ok (.getfield 15, 3) := by decide +kernel
theorem dX2_tally_43 : decode cX2_tally 43 = .ok (.iload_n 1, 1) := by decide +kernel
theorem dX2_tally_44 : decode cX2_tally 44 = .ok (.iaload, 1) := by decide +kernel
theorem dX2_tally_45 : decode cX2_tally 45 = .ok (.bipush 60, 2) := by decide +kernel
theorem dX2_tally_47 : decode cX2_tally 47 = .ok (.if_icmp .le 23, 3) := by decide +kernel
theorem dX2_tally_50 : decode cX2_tally 50 = .ok (.aload_n 0, 1) := by decide +kernel
theorem dX2_tally_51 : decode cX2_tally 51 = .ok (.getfield 9, 3) := by decide +kernel
theorem dX2_tally_54 : decode cX2_tally 54 = .ok (.iload_n 1, 1) := by decide +kernel
theorem dX2_tally_55 : decode cX2_tally 55 = .ok (.dup2, 1) := by decide +kernel
theorem dX2_tally_56 : decode cX2_tally 56 = .ok (.iaload, 1) := by decide +kernel
theorem dX2_tally_57 : decode cX2_tally 57 = .ok (.iconst 2, 1) := by decide +kernel
theorem dX2_tally_58 : decode cX2_tally 58 = .ok (.idiv, 1) := by decide +kernel
theorem dX2_tally_59 : decode cX2_tally 59 = .ok (.iastore, 1) := by decide +kernel
theorem dX2_tally_60 : decode cX2_tally 60 = .ok (.aload_n 0, 1) := by decide +kernel
theorem dX2_tally_61 : decode cX2_tally 61 = .ok (.getfield 15, 3) := by decide +kernel
theorem dX2_tally_64 : decode cX2_tally 64 = .ok (.iload_n 1, 1) := by decide +kernel
theorem dX2_tally_65 : decode cX2_tally 65 = .ok (.dup2, 1) := by decide +kernel
theorem dX2_tally_66 : decode cX2_tally 66 = .ok (.iaload, 1) := by decide +kernel
theorem dX2_tally_67 : decode cX2_tally 67 = .ok (.iconst 2, 1) := by decide +kernel
theorem dX2_tally_68 : decode cX2_tally 68 = .ok (.idiv, 1) := by decide +kernel
theorem dX2_tally_69 : decode cX2_tally 69 = .ok (.iastore, 1) := by decide +kernel
theorem dX2_tally_70 : decode cX2_tally 70 = .ok (.return_, 1) := by decide +kernel
theorem dX3_init_0 : decode cX3_init 0 = .ok (.aload_n 0, 1) := by decide +kernel
theorem dX3_init_1 : decode cX3_init 1 = .ok (.invokespecial 3, 3) := by decide +kernel
theorem dX3_init_4 : decode cX3_init 4 = .ok (.aload_n 0, 1) := by decide +kernel
theorem dX3_init_5 : decode cX3_init 5 = .ok (.bipush 100, 2) := by decide +kernel
theorem dX3_init_7 : decode cX3_init 7 = .ok (.newarray .int, 2) := by decide +kernel
theorem dX3_init_9 : decode cX3_init 9 = .ok (.putfield 9, 3) := by decide +kernel
theorem dX3_init_12 : decode cX3_init 12 = .ok (.aload_n 0, 1) := by decide +kernel
theorem dX3_init_13 : decode cX3_init 13 = .ok (.bipush 100, 2) := by decide +kernel
theorem dX3_init_15 : decode cX3_init 15 = .ok (.newarray .int, 2) := by decide +kernel
theorem dX3_init_17 : decode cX3_init 17 = .ok (.putfield 15, 3) := by decide +kernel
theorem dX3_init_20 : decode cX3_init 20 = .ok (.aload_n 0, 1) := by decide +kernel
theorem dX3_init_21 : decode cX3_init 21 = .ok (.bipush 100, 2) := by decide +kernel
theorem dX3_init_23 : decode cX3_init 23 = .ok (.newarray .int, 2) := by decide +kernel
theorem dX3_init_25 : decode cX3_init 25 = .ok (.putfield 18, 3) := by decide +kernel
theorem dX3_init_28 : decode cX3_init 28 = .ok (.aload_n 0, 1) := by decide +kernel
theorem dX3_init_29 : decode cX3_init 29 = .ok (.new 21, 3) := by decide +kernel
theorem dX3_init_32 : decode cX3_init 32 = .ok (.dup, 1) := by decide +kernel
theorem dX3_init_33 : decode cX3_init 33 = .ok (.invokespecial 23, 3) := by decide +kernel
theorem dX3_init_36 : decode cX3_init 36 = .ok (.putfield 24, 3) := by decide +kernel
theorem dX3_init_39 : decode cX3_init 39 = .ok (.aload_n 0, 1) := by decide +kernel
theorem dX3_init_40 : decode cX3_init 40 = .ok (.iconst 0, 1) := by decide +kernel
theorem dX3_init_41 : decode cX3_init 41 = .ok (.putfield 28, 3) := by decide +kernel
theorem dX3_init_44 : decode cX3_init 44 = .ok (.aload_n 0, 1) := by decide +kernel
theorem dX3_init_45 : decode cX3_init 45 = .ok (.iconst 0, 1) := by decide +kernel
theorem dX3_init_46 : decode cX3_init 46 = .ok (.putfield 32, 3) := by decide +kernel
theorem dX3_init_49 : decode cX3_init 49 = .ok (.return_, 1) := by decide +kernel
theorem dX3_has_0 : decode cX3_has 0 = .ok (.iload_n 1, 1) := by decide +kernel
theorem dX3_has_1 : decode cX3_has 1 = .ok (.iconst 0, 1) := by decide +kernel
theorem dX3_has_2 : decode cX3_has 2 = .ok (.aload_n 0, 1) := by decide +kernel
theorem dX3_has_3 : decode cX3_has 3 = .ok (.getfield 28, 3) := by decide +kernel
theorem dX3_has_6 : decode cX3_has 6 = .ok (.iconst 1, 1) := by decide +kernel
theorem dX3_has_7 : decode cX3_has 7 = .ok (.isub, 1) := by decide +kernel
theorem dX3_has_8 : decode cX3_has 8 = .ok (.invokestatic 35, 3) := by decide +kernel
theorem dX3_has_11 : decode cX3_has 11 = .ok (.ireturn, 1) := by decide +kernel
theorem dX3_put_0 : decode cX3_put 0 = .ok (.aload_n 0, 1) := by decide +kernel
theorem dX3_put_1 : decode cX3_put 1 = .ok (.getfield 28, 3) := by decide +kernel
theorem dX3_put_4 : decode cX3_put 4 = .ok (.iconst 0, 1) := by decide +kernel
theorem dX3_put_5 : decode cX3_put 5 = .ok (.bipush 99, 2) := by decide +kernel
theorem dX3_put_7 : decode cX3_put 7 = .ok (.invokestatic 35, 3) := by decide +kernel
theorem dX3_put_10 : decode cX3_put 10 = .ok (.ifCond .ne 5, 3) := by decide +kernel
theorem dX3_put_13 : decode cX3_put 13 = .ok (.iconst 0, 1) := by decide +kernel
theorem dX3_put_14 : decode cX3_put 14 = .ok (.ireturn, 1) := by decide +kernel
theorem dX3_put_15 : decode cX3_put 15 = .ok (.aload_n 0, 1) := by decide +kernel
theorem dX3_put_16 : decode cX3_put 16 = .ok (.getfield 9, 3) := by decide +kernel
theorem dX3_put_19 : decode cX3_put 19 = .ok (.aload_n 0, 1) := by decide +kernel
theorem dX3_put_20 : decode cX3_put 20 = .ok (.getfield 28, 3) := by decide +kernel
theorem dX3_put_23 : decode cX3_put 23 = .ok (.iload_n 1, 1) := by decide +kernel
theorem dX3_put_24 : decode cX3_put 24 = .ok (.iastore, 1) := by decide +kernel
theorem dX3_put_25 : decode cX3_put 25 = .ok (.aload_n 0, 1) := by decide +kernel
theorem dX3_put_26 : decode cX3_put 26 = .ok (.getfield 15, 3) := by decide +kernel
theorem dX3_put_29 : decode cX3_put 29 = .ok (.aload_n 0, 1) := by decide +kernel
theorem dX3_put_30 : decode cX3_put 30 = .ok (.getfield 28, 3) := by decide +kernel
theorem dX3_put_33 : decode cX3_put 33 = .ok (.aload_n 0, 1) := by decide +kernel
theorem dX3_put_34 : decode cX3_put 34 = .ok (.getfield 24, 3) := by decide +kernel
theorem dX3_put_37 : decode cX3_put 37 = .ok (.invokevirtual 39, 3) := by decide +kernel
theorem dX3_put_40 : decode cX3_put 40 = .ok (.iastore, 1) := by decide +kernel
theorem dX3_put_41 : decode cX3_put 41 = .ok (.aload_n 0, 1) := by decide +kernel
theorem dX3_put_42 : decode cX3_put 42 = .ok (.getfield 18, 3) := by decide +kernel
theorem dX3_put_45 : decode cX3_put 45 = .ok (.aload_n 0, 1) := by decide +kernel
theorem dX3_put_46 : decode cX3_put 46 = .ok (.getfield 28, 3) := by decide +kernel
theorem dX3_put_49 : decode cX3_put 49 = .ok (.iload_n 1, 1) := by decide +kernel
theorem dX3_put_50 : decode cX3_put 50 = .ok (.aload_n 0, 1) := by decide +kernel
theorem dX3_put_51 : decode cX3_put 51 = .ok (.getfield 24, 3) := by decide +kernel
theorem dX3_put_54 : decode cX3_put 54 = .ok (.invokevirtual 39, 3) := by decide +kernel
theorem dX3_put_57 : decode cX3_put 57 = .ok (.invokestatic 43, 3) := by decide +kernel
theorem dX3_put_60 : decode cX3_put 60 = .ok (.invokestatic 47, 3) := by decide +kernel
theorem dX3_put_63 : decode cX3_put 63 = .ok (.iastore, 1) := by decide +kernel
theorem dX3_put_64 : decode cX3_put 64 = .ok (.aload_n 0, 1) := by decide +kernel
theorem dX3_put_65 : decode cX3_put 65 = .ok (.dup, 1) := by decide +kernel
theorem dX3_put_66 : decode cX3_put 66 = .ok (.getfield 32, 3) := by decide +kernel
theorem dX3_put_69 : decode cX3_put 69 = .ok (.aload_n 0, 1) := by decide +kernel
theorem dX3_put_70 : decode cX3_put 70 = .ok (.getfield 18, 3) := by decide +kernel
theorem dX3_put_73 : decode cX3_put 73 = .ok (.aload_n 0, 1) := by decide +kernel
theorem dX3_put_74 : decode cX3_put 74 = .ok (.getfield 28, 3) := by decide +kernel
theorem dX3_put_77 : decode cX3_put 77 = .ok (.iaload, 1) := by decide +kernel
theorem dX3_put_78 : decode cX3_put 78 = .ok (.iadd, 1) := by decide +kernel
theorem dX3_put_79 : decode cX3_put 79 = .ok (.putfield 32, 3) := by decide +kernel
theorem dX3_put_82 : decode cX3_put 82 = .ok (.aload_n 0, 1) := by decide +kernel
theorem dX3_put_83 : decode cX3_put 83 = .ok (.getfield 24, 3) := by decide +kernel
theorem dX3_put_86 : decode cX3_put 86 = .ok (.iload_n 1, 1) := by decide +kernel
theorem dX3_put_87 : decode cX3_put 87 = .ok (.invokevirtual 51, 3) := by decide +kernel
theorem dX3_put_90 : decode cX3_put 90 = .ok (.aload_n 0, 1) := by decide +kernel
theorem dX3_put_91 : decode cX3_put 91 = .ok (.dup, 1) := by decide +kernel
theorem dX3_put_92 : decode cX3_put 92 = .ok (.getfield 28, 3) := by decide +kernel
theorem dX3_put_95 : decode cX3_put 95 = .ok (.iconst 1, 1) := by decide +kernel
theorem dX3_put_96 : decode cX3_put 96 = .ok (.iadd, 1) := by decide +kernel
theorem dX3_put_97 : decode cX3_put 97 = .ok (.putfield 28, 3) := by decide +kernel
theorem dX3_put_100 : decode cX3_put 100 = .ok (.aload_n 0, 1) := by decide +kernel
theorem dX3_put_101 : decode cX3_put 101 = .ok (.getfield 18, 3) := by decide +kernel
theorem dX3_put_104 : decode cX3_put 104 = .ok (.aload_n 0, 1) := by decide +kernel
theorem dX3_put_105 : decode cX3_put 105 = .ok (.getfield 28, 3) := by decide +kernel
theorem dX3_put_108 : decode cX3_put 108 = .ok (.iconst 1, 1) := by decide +kernel
theorem dX3_put_109 : decode cX3_put 109 = .ok (.isub, 1) := by decide +kernel
theorem dX3_put_110 : decode cX3_put 110 = .ok (.iaload, 1) := by decide +kernel
theorem dX3_put_111 : decode cX3_put 111 = .ok (.ireturn, 1) := by decide +kernel
theorem dX3_comeAnew_0 : decode cX3_comeAnew 0 = .ok (.iload_n 1, 1) := by decide +kernel
theorem dX3_comeAnew_1 : decode cX3_comeAnew 1 = .ok (.i2l, 1) := by decide +kernel
theorem dX3_comeAnew_2 : decode cX3_comeAnew 2 = .ok (.iconst 0, 1) := by decide +kernel
theorem dX3_comeAnew_3 : decode cX3_comeAnew 3 = .ok (.bipush 100, 2) := by decide +kernel
theorem dX3_comeAnew_5 : decode cX3_comeAnew 5 = .ok (.invokestatic 55, 3) := by decide +kernel
theorem dX3_comeAnew_8 : decode cX3_comeAnew 8 = .ok (.istore 4, 2) := by decide +kernel
theorem dX3_comeAnew_10 : decode cX3_comeAnew 10 = .ok (.aload_n 0, 1) := by decide +kernel
theorem dX3_comeAnew_11 : decode cX3_comeAnew 11 = .ok (.iconst 0, 1) := by decide +kernel
theorem dX3_comeAnew_12 : decode cX3_comeAnew 12 = .ok (.putfield 28, 3) := by decide +kernel
theorem dX3_comeAnew_15 : decode cX3_comeAnew 15 = .ok (.aload_n 0, 1) := by decide +kernel
theorem dX3_comeAnew_16 : decode cX3_comeAnew 16 = .ok (.iconst 0, 1) := by decide +kernel
theorem dX3_comeAnew_17 : decode cX3_comeAnew 17 = .ok (.putfield 32, 3) := by decide +kernel
theorem dX3_comeAnew_20 : decode cX3_comeAnew 20 = .ok (.aload_n 0, 1) := by decide +kernel
theorem dX3_comeAnew_21 : decode cX3_comeAnew 21 = .ok (.getfield 24, 3) := by decide +kernel
theorem dX3_comeAnew_24 : decode cX3_comeAnew 24 = .ok (.iload_n 2, 1) := by decide +kernel
theorem dX3_comeAnew_25 : decode cX3_comeAnew 25 = .ok (.iload_n 3, 1) := by decide +kernel
theorem dX3_comeAnew_26 : decode cX3_comeAnew 26 = .ok (.invokevirtual 59, 3) := by decide +kernel
theorem dX3_comeAnew_29 : decode cX3_comeAnew 29 = .ok (.iconst 0, 1) := by decide +kernel
theorem dX3_comeAnew_30 : decode cX3_comeAnew 30 = .ok (.istore 5, 2) := by decide +kernel
theorem dX3_comeAnew_32 : decode cX3_comeAnew 32 = .ok (.iload 5, 2) := by decide +kernel
theorem dX3_comeAnew_34 : decode cX3_comeAnew 34 = .ok (.iload 4, 2) := by decide +kernel
theorem dX3_comeAnew_36 : decode cX3_comeAnew 36 = .ok (.if_icmp .ge 21, 3) := by decide +kernel
theorem dX3_comeAnew_39 : decode cX3_comeAnew 39 = .ok (.aload_n 0, 1) := by decide +kernel
theorem dX3_comeAnew_40 : decode cX3_comeAnew 40 = .ok (.aload_n 0, 1) := by decide +kernel
theorem dX3_comeAnew_41 : decode cX3_comeAnew 41 = .ok (.getfield 9, 3) := by decide +kernel
theorem dX3_comeAnew_44 : decode cX3_comeAnew 44 = .ok (.iload 5, 2) := by decide +kernel
theorem dX3_comeAnew_46 : decode cX3_comeAnew 46 = .ok (.iaload, 1) := by decide +kernel
theorem dX3_comeAnew_47 : decode cX3_comeAnew 47 = .ok (.invokevirtual 63, 3) := by decide +kernel
theorem dX3_comeAnew_50 : decode cX3_comeAnew 50 = .ok (.pop, 1) := by decide +kernel
theorem dX3_comeAnew_51 : decode cX3_comeAnew 51 = .ok (.iinc 5 1, 3) := by decide +kernel
theorem dX3_comeAnew_54 : decode cX3_comeAnew 54 = .ok (.goto (-22), 3) := by decide +kernel
theorem dX3_comeAnew_57 : decode cX3_comeAnew 57 = .ok (.return_, 1) := by decide +kernel
theorem dX3_priceBy_0 : decode cX3_priceBy 0 = .ok (.aload_n 1, 1) := by decide +kernel
theorem dX3_priceBy_1 : decode cX3_priceBy 1 = .ok (.iload_n 2, 1) := by decide +kernel
theorem dX3_priceBy_2 : decode cX3_priceBy 2 = .ok (.iload_n 3, 1) := by decide +kernel
theorem dX3_priceBy_3 : decode cX3_priceBy 3 = .ok (.invokevirtual 59, 3) := by decide +kernel
theorem dX3_priceBy_6 : decode cX3_priceBy 6 = .ok (.iconst 0, 1) := by decide +kernel
theorem dX3_priceBy_7 : decode cX3_priceBy 7 = .ok (.istore 4, 2) := by decide +kernel
theorem dX3_priceBy_9 : decode cX3_priceBy 9 = .ok (.iconst 0, 1) := by decide +kernel
theorem dX3_priceBy_10 : decode cX3_priceBy 10 = .ok (.istore 5, 2) := by decide +kernel
theorem dX3_priceBy_12 : decode cX3_priceBy 12 = .ok (.iload 5, 2) := by decide +kernel
theorem dX3_priceBy_14 : decode cX3_priceBy 14 = .ok (.aload_n 0, 1) := by decide +kernel
theorem dX3_priceBy_15 : decode cX3_priceBy 15 = .ok (.getfield 28, 3) := by decide +kernel
theorem dX3_priceBy_18 : decode cX3_priceBy 18 = .ok (.if_icmp .ge 42, 3) := by decide +kernel
theorem dX3_priceBy_21 : decode cX3_priceBy 21 = .ok (.iload 4, 2) := by decide +kernel
theorem dX3_priceBy_23 : decode cX3_priceBy 23 = .ok (.aload_n 0, 1) := by decide +kernel
theorem dX3_priceBy_24 : decode cX3_priceBy 24 = .ok (.getfield 9, 3) := by decide +kernel
theorem dX3_priceBy_27 : decode cX3_priceBy 27 = .ok (.iload 5, 2) := by decide +kernel
theorem dX3_priceBy_29 : decode cX3_priceBy 29 = .ok (.iaload, 1) := by decide +kernel
theorem dX3_priceBy_30 : decode cX3_priceBy 30 = .ok (.aload_n 1, 1) := by decide +kernel
theorem dX3_priceBy_31 : decode cX3_priceBy 31 = .ok (.invokevirtual 39, 3) := by decide +kernel
theorem dX3_priceBy_34 : decode cX3_priceBy 34 = .ok (.invokestatic 43, 3) := by decide +kernel
theorem dX3_priceBy_37 : decode cX3_priceBy 37 = .ok (.invokestatic 47, 3) := by decide +kernel
theorem dX3_priceBy_40 : decode cX3_priceBy 40 = .ok (.iadd, 1) := by decide +kernel
theorem dX3_priceBy_41 : decode cX3_priceBy 41 = .ok (.istore 4, 2) := by decide +kernel
theorem dX3_priceBy_43 : decode cX3_priceBy 43 = .ok (.aload_n 1, 1) := by decide +kernel
theorem dX3_priceBy_44 : decode cX3_priceBy 44 = .ok (.aload_n 0, 1) := by decide +kernel
theorem dX3_priceBy_45 : decode cX3_priceBy 45 = .ok (.getfield 9, 3) := by decide +kernel
theorem dX3_priceBy_48 : decode cX3_priceBy 48 = .ok (.iload 5, 2) := by decide +kernel
theorem dX3_priceBy_50 : decode cX3_priceBy 50 = .ok (.iaload, 1) := by decide +kernel
theorem dX3_priceBy_51 : decode cX3_priceBy 51 = .ok (.invokevirtual 51, 3) := by decide +kernel
theorem dX3_priceBy_54 : decode cX3_priceBy 54 = .ok (.iinc 5 1, 3) := by decide +kernel
theorem dX3_priceBy_57 : decode cX3_priceBy 57 = .ok (.goto (-45), 3) := by decide +kernel
theorem dX3_priceBy_60 : decode cX3_priceBy 60 = .ok (.iload 4, 2) := by decide +kernel
theorem dX3_priceBy_62 : decode cX3_priceBy 62 = .ok (.ireturn, 1) := by decide +kernel
theorem dX4_init_0 : decode cX4_init 0 = .ok (.aload_n 0, 1) := by decide +kernel
theorem dX4_init_1 : decode cX4_init 1 = .ok (.invokespecial 3, 3) := by decide +kernel
theorem dX4_init_4 : decode cX4_init 4 = .ok (.aload_n 0, 1) := by decide +kernel
theorem dX4_init_5 : decode cX4_init 5 = .ok (.bipush 100, 2) := by decide +kernel
theorem dX4_init_7 : decode cX4_init 7 = .ok (.newarray .int, 2) := by decide +kernel
theorem dX4_init_9 : decode cX4_init 9 = .ok (.putfield 9, 3) := by decide +kernel
theorem dX4_init_12 : decode cX4_init 12 = .ok (.aload_n 0, 1) := by decide +kernel
theorem dX4_init_13 : decode cX4_init 13 = .ok (.iconst 0, 1) := by decide +kernel
theorem dX4_init_14 : decode cX4_init 14 = .ok (.putfield 15, 3) := by decide +kernel
theorem dX4_init_17 : decode cX4_init 17 = .ok (.aload_n 0, 1) := by decide +kernel
theorem dX4_init_18 : decode cX4_init 18 = .ok (.iconst 0, 1) := by decide +kernel
theorem dX4_init_19 : decode cX4_init 19 = .ok (.putfield 19, 3) := by decide +kernel
theorem dX4_init_22 : decode cX4_init 22 = .ok (.aload_n 0, 1) := by decide +kernel
theorem dX4_init_23 : decode cX4_init 23 = .ok (.iconst 0, 1) := by decide +kernel
theorem dX4_init_24 : decode cX4_init 24 = .ok (.putfield 22, 3) := by decide +kernel
theorem dX4_init_27 : decode cX4_init 27 = .ok (.return_, 1) := by decide +kernel
theorem dX4_copyFrom_0 : decode cX4_copyFrom 0 = .ok (.aload_n 0, 1) := by decide +kernel
theorem dX4_copyFrom_1 : decode cX4_copyFrom 1 = .ok (.aload_n 1, 1) := by decide +kernel
theorem dX4_copyFrom_2 : decode cX4_copyFrom 2 = .ok (.getfield 25, 3) := by decide +kernel
theorem dX4_copyFrom_5 : decode cX4_copyFrom 5 = .ok (.putfield 15, 3) := by decide +kernel
theorem dX4_copyFrom_8 : decode cX4_copyFrom 8 = .ok (.aload_n 0, 1) := by decide +kernel
theorem dX4_copyFrom_9 : decode cX4_copyFrom 9 = .ok (.aload_n 1, 1) := by decide +kernel
theorem dX4_copyFrom_10 : decode cX4_copyFrom 10 = .ok (.getfield 28, 3) := by decide +kernel
theorem dX4_copyFrom_13 : decode cX4_copyFrom 13 = .ok (.getfield 32, 3) := by decide +kernel
theorem dX4_copyFrom_16 : decode cX4_copyFrom 16 = .ok (.putfield 19, 3) := by decide +kernel
theorem dX4_copyFrom_19 : decode cX4_copyFrom 19 = .ok (.aload_n 0, 1) := by decide +kernel
theorem dX4_copyFrom_20 : decode cX4_copyFrom 20 = .ok (.aload_n 1, 1) := by decide +kernel
theorem dX4_copyFrom_21 : decode cX4_copyFrom 21 = .ok (.getfield 28, 3) := by decide +kernel
theorem dX4_copyFrom_24 : decode cX4_copyFrom 24 = .ok (.getfield 35, 3) := by decide +kernel
theorem dX4_copyFrom_27 : decode cX4_copyFrom 27 = .ok (.putfield 22, 3) := by decide +kernel
theorem dX4_copyFrom_30 : decode cX4_copyFrom 30 = .ok (.iconst 0, 1) := by decide +kernel
theorem dX4_copyFrom_31 : decode cX4_copyFrom 31 = .ok (.istore_n 2, 1) := by decide +kernel
theorem dX4_copyFrom_32 : decode cX4_copyFrom 32 = .ok (.iload_n 2, 1) := by decide +kernel
theorem dX4_copyFrom_33 : decode cX4_copyFrom 33 = .ok (.aload_n 0, 1) := by decide +kernel
theorem dX4_copyFrom_34 : decode cX4_copyFrom 34 = .ok (.getfield 15, 3) := by decide +kernel
theorem dX4_copyFrom_37 : decode cX4_copyFrom 37 = .ok (.if_icmp .ge 21, 3) := by decide +kernel
theorem dX4_copyFrom_40 : decode cX4_copyFrom 40 = .ok (.aload_n 0, 1) := by decide +kernel
theorem dX4_copyFrom_41 : decode cX4_copyFrom 41 = .ok (.getfield 9, 3) := by decide +kernel
theorem dX4_copyFrom_44 : decode cX4_copyFrom 44 = .ok (.iload_n 2, 1) := by decide +kernel
theorem dX4_copyFrom_45 : decode cX4_copyFrom 45 = .ok (.aload_n 1, 1) := by decide +kernel
theorem dX4_copyFrom_46 : decode cX4_copyFrom 46 = .ok (.getfield 36, 3) := by decide +kernel
theorem dX4_copyFrom_49 : decode cX4_copyFrom 49 = .ok (.iload_n 2, 1) := by decide +kernel
theorem dX4_copyFrom_50 : decode cX4_copyFrom 50 = .ok (.iaload, 1) := by decide +kernel
theorem dX4_copyFrom_51 : decode cX4_copyFrom 51 = .ok (.iastore, 1) := by decide +kernel
theorem dX4_copyFrom_52 : decode cX4_copyFrom 52 = .ok (.iinc 2 1, 3) := by decide +kernel
theorem dX4_copyFrom_55 : decode cX4_copyFrom 55 = .ok (.goto (-23), 3) := by decide +kernel
theorem dX4_copyFrom_58 : decode cX4_copyFrom 58 = .ok (.return_, 1) := by decide +kernel
theorem dX4_copySignsTo_0 : decode cX4_copySignsTo 0 = .ok (.iconst 0, 1) := by decide +kernel
theorem dX4_copySignsTo_1 : decode cX4_copySignsTo 1 = .ok (.istore_n 2, 1) := by decide +kernel
theorem dX4_copySignsTo_2 : decode cX4_copySignsTo 2 = .ok (.iload_n 2, 1) := by decide +kernel
theorem dX4_copySignsTo_3 : decode cX4_copySignsTo 3 = .ok (.aload_n 0, 1) := by decide +kernel
theorem dX4_copySignsTo_4 : decode cX4_copySignsTo 4 = .ok (.getfield 15, 3) := by decide +kernel
theorem dX4_copySignsTo_7 : decode cX4_copySignsTo 7 = .ok (.if_icmp .ge 21, 3) := by decide +kernel
theorem dX4_copySignsTo_10 : decode cX4_copySignsTo 10 = .ok (.aload_n 1, 1) := by decide +kernel
theorem dX4_copySignsTo_11 : decode cX4_copySignsTo 11 = .ok (.getfield 36, 3) := by decide +kernel
theorem dX4_copySignsTo_14 : decode cX4_copySignsTo 14 = .ok (.iload_n 2, 1) := by decide +kernel
theorem dX4_copySignsTo_15 : decode cX4_copySignsTo 15 = .ok (.aload_n 0, 1) := by decide +kernel
theorem dX4_copySignsTo_16 : decode cX4_copySignsTo 16 = .ok (.getfield 9, 3) := by decide +kernel
theorem dX4_copySignsTo_19 : decode cX4_copySignsTo 19 = .ok (.iload_n 2, 1) := by decide +kernel
theorem dX4_copySignsTo_20 : decode cX4_copySignsTo 20 = .ok (.iaload, 1) := by decide +kernel
theorem dX4_copySignsTo_21 : decode cX4_copySignsTo 21 = .ok (.iastore, 1) := by decide +kernel
theorem dX4_copySignsTo_22 : decode cX4_copySignsTo 22 = .ok (.iinc 2 1, 3) := by decide +kernel
theorem dX4_copySignsTo_25 : decode cX4_copySignsTo 25 = .ok (.goto (-23), 3) := by decide +kernel
theorem dX4_copySignsTo_28 : decode cX4_copySignsTo 28 = .ok (.return_, 1) := by decide +kernel
theorem dX5_init_0 : decode cX5_init 0 = .ok (.aload_n 0, 1) := by decide +kernel
theorem dX5_init_1 : decode cX5_init 1 = .ok (.invokespecial 3, 3) := by decide +kernel
theorem dX5_init_4 : decode cX5_init 4 = .ok (.aload_n 0, 1) := by decide +kernel
theorem dX5_init_5 : decode cX5_init 5 = .ok (.bipush 6, 2) := by decide +kernel
theorem dX5_init_7 : decode cX5_init 7 = .ok (.anewarray 9, 3) := by decide +kernel
theorem dX5_init_10 : decode cX5_init 10 = .ok (.putfield 11, 3) := by decide +kernel
theorem dX5_init_13 : decode cX5_init 13 = .ok (.aload_n 0, 1) := by decide +kernel
theorem dX5_init_14 : decode cX5_init 14 = .ok (.iconst 0, 1) := by decide +kernel
theorem dX5_init_15 : decode cX5_init 15 = .ok (.putfield 17, 3) := by decide +kernel
theorem dX5_init_18 : decode cX5_init 18 = .ok (.aload_n 0, 1) := by decide +kernel
theorem dX5_init_19 : decode cX5_init 19 = .ok (.iconst 0, 1) := by decide +kernel
theorem dX5_init_20 : decode cX5_init 20 = .ok (.putfield 21, 3) := by decide +kernel
theorem dX5_init_23 : decode cX5_init 23 = .ok (.iconst 0, 1) := by decide +kernel
theorem dX5_init_24 : decode cX5_init 24 = .ok (.istore_n 1, 1) := by decide +kernel
theorem dX5_init_25 : decode cX5_init 25 = .ok (.iload_n 1, 1) := by decide +kernel
theorem dX5_init_26 : decode cX5_init 26 = .ok (.bipush 6, 2) := by decide +kernel
theorem dX5_init_28 : decode cX5_init 28 = .ok (.if_icmp .ge 22, 3) := by decide +kernel
theorem dX5_init_31 : decode cX5_init 31 = .ok (.aload_n 0, 1) := by decide +kernel
theorem dX5_init_32 : decode cX5_init 32 = .ok (.getfield 11, 3) := by decide +kernel
theorem dX5_init_35 : decode cX5_init 35 = .ok (.iload_n 1, 1) := by decide +kernel
theorem dX5_init_36 : decode cX5_init 36 = .ok (.new 9, 3) := by decide +kernel
theorem dX5_init_39 : decode cX5_init 39 = .ok (.dup, 1) := by decide +kernel
theorem dX5_init_40 : decode cX5_init 40 = .ok (.invokespecial 24, 3) := by decide +kernel
theorem dX5_init_43 : decode cX5_init 43 = .ok (.aastore, 1) := by decide +kernel
theorem dX5_init_44 : decode cX5_init 44 = .ok (.iinc 1 1, 3) := by decide +kernel
theorem dX5_init_47 : decode cX5_init 47 = .ok (.goto (-22), 3) := by decide +kernel
theorem dX5_init_50 : decode cX5_init 50 = .ok (.return_, 1) := by decide +kernel
theorem dX5_keep_0 : decode cX5_keep 0 = .ok (.aload_n 0, 1) := by decide +kernel
theorem dX5_keep_1 : decode cX5_keep 1 = .ok (.aload_n 0, 1) := by decide +kernel
theorem dX5_keep_2 : decode cX5_keep 2 = .ok (.getfield 21, 3) := by decide +kernel
theorem dX5_keep_5 : decode cX5_keep 5 = .ok (.iconst 1, 1) := by decide +kernel
theorem dX5_keep_6 : decode cX5_keep 6 = .ok (.iadd, 1) := by decide +kernel
theorem dX5_keep_7 : decode cX5_keep 7 = .ok (.bipush 6, 2) := by decide +kernel
theorem dX5_keep_9 : decode cX5_keep 9 = .ok (.if_icmp .ge 12, 3) := by decide +kernel
theorem dX5_keep_12 : decode cX5_keep 12 = .ok (.aload_n 0, 1) := by decide +kernel
theorem dX5_keep_13 : decode cX5_keep 13 = .ok (.getfield 21, 3) := by decide +kernel
theorem dX5_keep_16 : decode cX5_keep 16 = .ok (.iconst 1, 1) := by decide +kernel
theorem dX5_keep_17 : decode cX5_keep 17 = .ok (.iadd, 1) := by decide +kernel
theorem dX5_keep_18 : decode cX5_keep 18 = .ok (.goto 4, 3) := by decide +kernel
theorem dX5_keep_21 : decode cX5_keep 21 = .ok (.iconst 0, 1) := by decide +kernel
theorem dX5_keep_22 : decode cX5_keep 22 = .ok (.putfield 21, 3) := by decide +kernel
theorem dX5_keep_25 : decode cX5_keep 25 = .ok (.aload_n 0, 1) := by decide +kernel
theorem dX5_keep_26 : decode cX5_keep 26 = .ok (.bipush 6, 2) := by decide +kernel
theorem dX5_keep_28 : decode cX5_keep 28 = .ok (.aload_n 0, 1) := by decide +kernel
theorem dX5_keep_29 : decode cX5_keep 29 = .ok (.getfield 17, 3) := by decide +kernel
theorem dX5_keep_32 : decode cX5_keep 32 = .ok (.iconst 1, 1) := by decide +kernel
theorem dX5_keep_33 : decode cX5_keep 33 = .ok (.iadd, 1) := by decide +kernel
theorem dX5_keep_34 : decode cX5_keep 34 = .ok (.invokestatic 25, 3) := by decide +kernel
theorem dX5_keep_37 : decode cX5_keep 37 = .ok (.putfield 17, 3) := by decide +kernel
theorem dX5_keep_40 : decode cX5_keep 40 = .ok (.aload_n 0, 1) := by decide +kernel
theorem dX5_keep_41 : decode cX5_keep 41 = .ok (.getfield 11, 3) := by decide +kernel
theorem dX5_keep_44 : decode cX5_keep 44 = .ok (.aload_n 0, 1) := by decide +kernel
theorem dX5_keep_45 : decode cX5_keep 45 = .ok (.getfield 21, 3) := by decide +kernel
theorem dX5_keep_48 : decode cX5_keep 48 = .ok (.aaload, 1) := by decide +kernel
theorem dX5_keep_49 : decode cX5_keep 49 = .ok (.aload_n 1, 1) := by decide +kernel
theorem dX5_keep_50 : decode cX5_keep 50 = .ok (.invokevirtual 31, 3) := by decide +kernel
theorem dX5_keep_53 : decode cX5_keep 53 = .ok (.return_, 1) := by decide +kernel
theorem dX5_release_0 : decode cX5_release 0 = .ok (.aload_n 0, 1) := by decide +kernel
theorem dX5_release_1 : decode cX5_release 1 = .ok (.getfield 11, 3) := by decide +kernel
theorem dX5_release_4 : decode cX5_release 4 = .ok (.aload_n 0, 1) := by decide +kernel
theorem dX5_release_5 : decode cX5_release 5 = .ok (.getfield 21, 3) := by decide +kernel
theorem dX5_release_8 : decode cX5_release 8 = .ok (.aaload, 1) := by decide +kernel
theorem dX5_release_9 : decode cX5_release 9 = .ok (.astore_n 1, 1) := by decide +kernel
theorem dX5_release_10 : decode cX5_release 10 = .ok (.aload_n 0, 1) := by decide +kernel
theorem dX5_release_11 : decode cX5_release 11 = .ok (.aload_n 0, 1) := by decide +kernel
theorem dX5_release_12 : decode cX5_release 12 = .ok (.getfield 21, 3) := by decide +kernel
theorem dX5_release_15 : decode cX5_release 15 = .ok (.ifCond .le 12, 3) := by decide +kernel
theorem dX5_release_18 : decode cX5_release 18 = .ok (.aload_n 0, 1) := by decide +kernel
theorem dX5_release_19 : decode cX5_release 19 = .ok (.getfield 21, 3) := by decide +kernel
theorem dX5_release_22 : decode cX5_release 22 = .ok (.iconst 1, 1) := by decide +kernel
theorem dX5_release_23 : decode cX5_release 23 = .ok (.isub, 1) := by decide +kernel
theorem dX5_release_24 : decode cX5_release 24 = .ok (.goto 4, 3) := by decide +kernel
theorem dX5_release_27 : decode cX5_release 27 = .ok (.iconst 5, 1) := by decide +kernel
theorem dX5_release_28 : decode cX5_release 28 = .ok (.putfield 21, 3) := by decide +kernel
theorem dX5_release_31 : decode cX5_release 31 = .ok (.aload_n 0, 1) := by decide +kernel
theorem dX5_release_32 : decode cX5_release 32 = .ok (.iconst 0, 1) := by decide +kernel
theorem dX5_release_33 : decode cX5_release 33 = .ok (.aload_n 0, 1) := by decide +kernel
theorem dX5_release_34 : decode cX5_release 34 = .ok (.getfield 17, 3) := by decide +kernel
theorem dX5_release_37 : decode cX5_release 37 = .ok (.iconst 1, 1) := by decide +kernel
theorem dX5_release_38 : decode cX5_release 38 = .ok (.isub, 1) := by decide +kernel
theorem dX5_release_39 : decode cX5_release 39 = .ok (.invokestatic 35, 3) := by decide +kernel
theorem dX5_release_42 : decode cX5_release 42 = .ok (.putfield 17, 3) := by decide +kernel
theorem dX5_release_45 : decode cX5_release 45 = .ok (.aload_n 1, 1) := by decide +kernel
theorem dX5_release_46 : decode cX5_release 46 = .ok (.areturn, 1) := by decide +kernel
theorem dX6_init_0 : decode cX6_init 0 = .ok (.aload_n 0, 1) := by decide +kernel
theorem dX6_init_1 : decode cX6_init 1 = .ok (.invokespecial 3, 3) := by decide +kernel
theorem dX6_init_4 : decode cX6_init 4 = .ok (.aload_n 0, 1) := by decide +kernel
theorem dX6_init_5 : decode cX6_init 5 = .ok (.bipush 120, 2) := by decide +kernel
theorem dX6_init_7 : decode cX6_init 7 = .ok (.newarray .int, 2) := by decide +kernel
theorem dX6_init_9 : decode cX6_init 9 = .ok (.putfield 9, 3) := by decide +kernel
theorem dX6_init_12 : decode cX6_init 12 = .ok (.aload_n 0, 1) := by decide +kernel
theorem dX6_init_13 : decode cX6_init 13 = .ok (.bipush 100, 2) := by decide +kernel
theorem dX6_init_15 : decode cX6_init 15 = .ok (.newarray .int, 2) := by decide +kernel
theorem dX6_init_17 : decode cX6_init 17 = .ok (.putfield 15, 3) := by decide +kernel
theorem dX6_init_20 : decode cX6_init 20 = .ok (.aload_n 0, 1) := by decide +kernel
theorem dX6_init_21 : decode cX6_init 21 = .ok (.iconst 0, 1) := by decide +kernel
theorem dX6_init_22 : decode cX6_init 22 = .ok (.putfield 18, 3) := by decide +kernel
theorem dX6_init_25 : decode cX6_init 25 = .ok (.aload_n 0, 1) := by decide +kernel
theorem dX6_init_26 : decode cX6_init 26 = .ok (.iconst 0, 1) := by decide +kernel
theorem dX6_init_27 : decode cX6_init 27 = .ok (.putfield 22, 3) := by decide +kernel
theorem dX6_init_30 : decode cX6_init 30 = .ok (.aload_n 0, 1) := by decide +kernel
theorem dX6_init_31 : decode cX6_init 31 = .ok (.iconst (-1), 1) := by decide +kernel
theorem dX6_init_32 : decode cX6_init 32 = .ok (.putfield 25, 3) := by decide +kernel
theorem dX6_init_35 : decode cX6_init 35 = .ok (.aload_n 0, 1) := by decide +kernel
theorem dX6_init_36 : decode cX6_init 36 = .ok (.iconst 0, 1) := by decide +kernel
theorem dX6_init_37 : decode cX6_init 37 = .ok (.putfield 28, 3) := by decide +kernel
theorem dX6_init_40 : decode cX6_init 40 = .ok (.aload_n 0, 1) := by decide +kernel
theorem dX6_init_41 : decode cX6_init 41 = .ok (.iconst 0, 1) := by decide +kernel
theorem dX6_init_42 : decode cX6_init 42 = .ok (.putfield 31, 3) := by decide +kernel
theorem dX6_init_45 : decode cX6_init 45 = .ok (.aload_n 0, 1) := by decide +kernel
theorem dX6_init_46 : decode cX6_init 46 = .ok (.iconst (-1), 1) := by decide +kernel
theorem dX6_init_47 : decode cX6_init 47 = .ok (.putfield 34, 3) := by decide +kernel
theorem dX6_init_50 : decode cX6_init 50 = .ok (.return_, 1) := by decide +kernel
theorem dX6_append_0 : decode cX6_append 0 = .ok (.aload_n 0, 1) := by decide +kernel
theorem dX6_append_1 : decode cX6_append 1 = .ok (.getfield 18, 3) := by decide +kernel
theorem dX6_append_4 : decode cX6_append 4 = .ok (.iconst 0, 1) := by decide +kernel
theorem dX6_append_5 : decode cX6_append 5 = .ok (.bipush 119, 2) := by decide +kernel
theorem dX6_append_7 : decode cX6_append 7 = .ok (.invokestatic 37, 3) := by decide +kernel
theorem dX6_append_10 : decode cX6_append 10 = .ok (.ifCond .eq 23, 3) := by decide +kernel
theorem dX6_append_13 : decode cX6_append 13 = .ok (.aload_n 0, 1) := by decide +kernel
theorem dX6_append_14 : decode cX6_append 14 = .ok (.getfield 9, 3) := by decide +kernel
theorem dX6_append_17 : decode cX6_append 17 = .ok (.aload_n 0, 1) := by decide +kernel
theorem dX6_append_18 : decode cX6_append 18 = .ok (.getfield 18, 3) := by decide +kernel
theorem dX6_append_21 : decode cX6_append 21 = .ok (.iload_n 1, 1) := by decide +kernel
theorem dX6_append_22 : decode cX6_append 22 = .ok (.iastore, 1) := by decide +kernel
theorem dX6_append_23 : decode cX6_append 23 = .ok (.aload_n 0, 1) := by decide +kernel
theorem dX6_append_24 : decode cX6_append 24 = .ok (.dup, 1) := by decide +kernel
theorem dX6_append_25 : decode cX6_append 25 = .ok (.getfield 18, 3) := by decide +kernel
theorem dX6_append_28 : decode cX6_append 28 = .ok (.iconst 1, 1) := by decide +kernel
theorem dX6_append_29 : decode cX6_append 29 = .ok (.iadd, 1) := by decide +kernel
theorem dX6_append_30 : decode cX6_append 30 = .ok (.putfield 18, 3) := by decide +kernel
theorem dX6_append_33 : decode cX6_append 33 = .ok (.aload_n 0, 1) := by decide +kernel
theorem dX6_append_34 : decode cX6_append 34 = .ok (.getfield 18, 3) := by decide +kernel
theorem dX6_append_37 : decode cX6_append 37 = .ok (.ireturn, 1) := by decide +kernel
theorem dX6_read_0 : decode cX6_read 0 = .ok (.aload_n 0, 1) := by decide +kernel
theorem dX6_read_1 : decode cX6_read 1 = .ok (.iload_n 1, 1) := by decide +kernel
theorem dX6_read_2 : decode cX6_read 2 = .ok (.i2l, 1) := by decide +kernel
theorem dX6_read_3 : decode cX6_read 3 = .ok (.iconst 0, 1) := by decide +kernel
theorem dX6_read_4 : decode cX6_read 4 = .ok (.bipush 100, 2) := by decide +kernel
theorem dX6_read_6 : decode cX6_read 6 = .ok (.invokestatic 41, 3) := by decide +kernel
theorem dX6_read_9 : decode cX6_read 9 = .ok (.putfield 28, 3) := by decide +kernel
theorem dX6_read_12 : decode cX6_read 12 = .ok (.aload_n 0, 1) := by decide +kernel
theorem dX6_read_13 : decode cX6_read 13 = .ok (.iconst 0, 1) := by decide +kernel
theorem dX6_read_14 : decode cX6_read 14 = .ok (.putfield 22, 3) := by decide +kernel
theorem dX6_read_17 : decode cX6_read 17 = .ok (.aload_n 0, 1) := by decide +kernel
theorem dX6_read_18 : decode cX6_read 18 = .ok (.iconst (-1), 1) := by decide +kernel
theorem dX6_read_19 : decode cX6_read 19 = .ok (.putfield 25, 3) := by decide +kernel
theorem dX6_read_22 : decode cX6_read 22 = .ok (.aload_n 0, 1) := by decide +kernel
theorem dX6_read_23 : decode cX6_read 23 = .ok (.iconst 0, 1) := by decide +kernel
theorem dX6_read_24 : decode cX6_read 24 = .ok (.putfield 31, 3) := by decide +kernel
theorem dX6_read_27 : decode cX6_read 27 = .ok (.aload_n 0, 1) := by decide +kernel
theorem dX6_read_28 : decode cX6_read 28 = .ok (.iconst (-1), 1) := by decide +kernel
theorem dX6_read_29 : decode cX6_read 29 = .ok (.putfield 34, 3) := by decide +kernel
theorem dX6_read_32 : decode cX6_read 32 = .ok (.iconst 0, 1) := by decide +kernel
theorem dX6_read_33 : decode cX6_read 33 = .ok (.istore_n 2, 1) := by decide +kernel
theorem dX6_read_34 : decode cX6_read 34 = .ok (.iload_n 2, 1) := by decide +kernel
theorem dX6_read_35 : decode cX6_read 35 = .ok (.bipush 120, 2) := by decide +kernel
theorem dX6_read_37 : decode cX6_read 37 = .ok (.if_icmp .ge 39, 3) := by decide +kernel
theorem dX6_read_40 : decode cX6_read 40 = .ok (.aload_n 0, 1) := by decide +kernel
theorem dX6_read_41 : decode cX6_read 41 = .ok (.getfield 25, 3) := by decide +kernel
theorem dX6_read_44 : decode cX6_read 44 = .ok (.iconst (-1), 1) := by decide +kernel
theorem dX6_read_45 : decode cX6_read 45 = .ok (.if_icmp .ne 31, 3) := by decide +kernel
theorem dX6_read_48 : decode cX6_read 48 = .ok (.aload_n 0, 1) := by decide +kernel
theorem dX6_read_49 : decode cX6_read 49 = .ok (.invokevirtual 45, 3) := by decide +kernel
theorem dX6_read_52 : decode cX6_read 52 = .ok (.aload_n 0, 1) := by decide +kernel
theorem dX6_read_53 : decode cX6_read 53 = .ok (.getfield 31, 3) := by decide +kernel
theorem dX6_read_56 : decode cX6_read 56 = .ok (.aload_n 0, 1) := by decide +kernel
theorem dX6_read_57 : decode cX6_read 57 = .ok (.getfield 18, 3) := by decide +kernel
theorem dX6_read_60 : decode cX6_read 60 = .ok (.if_icmp .lt 6, 3) := by decide +kernel
theorem dX6_read_63 : decode cX6_read 63 = .ok (.goto 13, 3) := by decide +kernel
theorem dX6_read_66 : decode cX6_read 66 = .ok (.aload_n 0, 1) := by decide +kernel
theorem dX6_read_67 : decode cX6_read 67 = .ok (.invokevirtual 48, 3) := by decide +kernel
theorem dX6_read_70 : decode cX6_read 70 = .ok (.iinc 2 1, 3) := by decide +kernel
theorem dX6_read_73 : decode cX6_read 73 = .ok (.goto (-39), 3) := by decide +kernel
theorem dX6_read_76 : decode cX6_read 76 = .ok (.aload_n 0, 1) := by decide +kernel
theorem dX6_read_77 : decode cX6_read 77 = .ok (.getfield 25, 3) := by decide +kernel
theorem dX6_read_80 : decode cX6_read 80 = .ok (.iconst (-1), 1) := by decide +kernel
theorem dX6_read_81 : decode cX6_read 81 = .ok (.if_icmp .ne 19, 3) := by decide +kernel
theorem dX6_read_84 : decode cX6_read 84 = .ok (.aload_n 0, 1) := by decide +kernel
theorem dX6_read_85 : decode cX6_read 85 = .ok (.getfield 34, 3) := by decide +kernel
theorem dX6_read_88 : decode cX6_read 88 = .ok (.iconst (-1), 1) := by decide +kernel
theorem dX6_read_89 : decode cX6_read 89 = .ok (.if_icmp .eq 11, 3) := by decide +kernel
theorem dX6_read_92 : decode cX6_read 92 = .ok (.aload_n 0, 1) := by decide +kernel
theorem dX6_read_93 : decode cX6_read 93 = .ok (.aload_n 0, 1) := by decide +kernel
theorem dX6_read_94 : decode cX6_read 94 = .ok (.getfield 18, 3) := by decide +kernel
theorem dX6_read_97 : decode cX6_read 97 = .ok (.putfield 25, 3) := by decide +kernel
theorem dX6_read_100 : decode cX6_read 100 = .ok (.return_, 1) := by decide +kernel
theorem dX6_readPiece_0 : decode cX6_readPiece 0 = .ok (.aload_n 0, 1) := by decide +kernel
theorem dX6_readPiece_1 : decode cX6_readPiece 1 = .ok (.invokevirtual 51, 3) := by decide +kernel
theorem dX6_readPiece_4 : decode cX6_readPiece 4 = .ok (.istore_n 1, 1) := by decide +kernel
theorem dX6_readPiece_5 : decode cX6_readPiece 5 = .ok (.iload_n 1, 1) := by decide +kernel
theorem dX6_readPiece_6 : decode cX6_readPiece 6 = .ok (.bipush 48, 2) := by decide +kernel
theorem dX6_readPiece_8 : decode cX6_readPiece 8 = .ok (.if_icmp .eq 9, 3) := by decide +kernel
theorem dX6_readPiece_11 : decode cX6_readPiece 11 = .ok (.iload_n 1, 1) := by decide +kernel
theorem dX6_readPiece_12 : decode cX6_readPiece 12 = .ok (.bipush 49, 2) := by decide +kernel
theorem dX6_readPiece_14 : decode cX6_readPiece 14 = .ok (.if_icmp .ne 14, 3) := by decide +kernel
theorem dX6_readPiece_17 : decode cX6_readPiece 17 = .ok (.aload_n 0, 1) := by decide +kernel
theorem dX6_readPiece_18 : decode cX6_readPiece 18 = .ok (.iload_n 1, 1) := by decide +kernel
theorem dX6_readPiece_19 : decode cX6_readPiece 19 = .ok (.bipush 48, 2) := by decide +kernel
theorem dX6_readPiece_21 : decode cX6_readPiece 21 = .ok (.isub, 1) := by decide +kernel
theorem dX6_readPiece_22 : decode cX6_readPiece 22 = .ok (.invokevirtual 55, 3) := by decide +kernel
theorem dX6_readPiece_25 : decode cX6_readPiece 25 = .ok (.goto 78, 3) := by decide +kernel
theorem dX6_readPiece_28 : decode cX6_readPiece 28 = .ok (.iload_n 1, 1) := by decide +kernel
theorem dX6_readPiece_29 : decode cX6_readPiece 29 = .ok (.bipush 40, 2) := by decide +kernel
theorem dX6_readPiece_31 : decode cX6_readPiece 31 = .ok (.if_icmp .ne 32, 3) := by decide +kernel
theorem dX6_readPiece_34 : decode cX6_readPiece 34 = .ok (.aload_n 0, 1) := by decide +kernel
theorem dX6_readPiece_35 : decode cX6_readPiece 35 = .ok (.getfield 34, 3) := by decide +kernel
theorem dX6_readPiece_38 : decode cX6_readPiece 38 = .ok (.iconst (-1), 1) := by decide +kernel
theorem dX6_readPiece_39 : decode cX6_readPiece 39 = .ok (.if_icmp .ne 24, 3) := by decide +kernel
theorem dX6_readPiece_42 : decode cX6_readPiece 42 = .ok (.aload_n 0, 1) := by decide +kernel
theorem dX6_readPiece_43 : decode cX6_readPiece 43 = .ok (.aload_n 0, 1) := by decide +kernel
theorem dX6_readPiece_44 : decode cX6_readPiece 44 = .ok (.getfield 22, 3) := by decide +kernel
theorem dX6_readPiece_47 : decode cX6_readPiece 47 = .ok (.putfield 34, 3) := by decide +kernel
theorem dX6_readPiece_50 : decode cX6_readPiece 50 = .ok (.aload_n 0, 1) := by decide +kernel
theorem dX6_readPiece_51 : decode cX6_readPiece 51 = .ok (.dup, 1) := by decide +kernel
theorem dX6_readPiece_52 : decode cX6_readPiece 52 = .ok (.getfield 31, 3) := by decide +kernel
theorem dX6_readPiece_55 : decode cX6_readPiece 55 = .ok (.iconst 1, 1) := by decide +kernel
theorem dX6_readPiece_56 : decode cX6_readPiece 56 = .ok (.iadd, 1) := by decide +kernel
theorem dX6_readPiece_57 : decode cX6_readPiece 57 = .ok (.putfield 31, 3) := by decide +kernel
theorem dX6_readPiece_60 : decode cX6_readPiece 60 = .ok (.goto 43, 3) := by decide +kernel
theorem dX6_readPiece_63 : decode cX6_readPiece 63 = .ok (.iload_n 1, 1) := by decide +kernel
theorem dX6_readPiece_64 : decode cX6_readPiece 64 = .ok (.bipush 41, 2) := by decide +kernel
theorem dX6_readPiece_66 : decode cX6_readPiece 66 = .ok (.if_icmp .ne 29, 3) := by decide +kernel
theorem dX6_readPiece_69 : decode cX6_readPiece 69 = .ok (.aload_n 0, 1) := by decide +kernel
theorem dX6_readPiece_70 : decode cX6_readPiece 70 = .ok (.getfield 34, 3) := by decide +kernel
theorem dX6_readPiece_73 : decode cX6_readPiece 73 = .ok (.iconst (-1), 1) := by decide +kernel
theorem dX6_readPiece_74 : decode cX6_readPiece 74 = .ok (.if_icmp .eq 21, 3) := by decide +kernel
theorem dX6_readPiece_77 : decode cX6_readPiece 77 = .ok (.aload_n 0, 1) := by decide +kernel
theorem dX6_readPiece_78 : decode cX6_readPiece 78 = .ok (.getfield 22, 3) := by decide +kernel
theorem dX6_readPiece_81 : decode cX6_readPiece 81 = .ok (.aload_n 0, 1) := by decide +kernel
theorem dX6_readPiece_82 : decode cX6_readPiece 82 = .ok (.getfield 34, 3) := by decide +kernel
theorem dX6_readPiece_85 : decode cX6_readPiece 85 = .ok (.if_icmp .le 10, 3) := by decide +kernel
theorem dX6_readPiece_88 : decode cX6_readPiece 88 = .ok (.aload_n 0, 1) := by decide +kernel
theorem dX6_readPiece_89 : decode cX6_readPiece 89 = .ok (.invokevirtual 59, 3) := by decide +kernel
theorem dX6_readPiece_92 : decode cX6_readPiece 92 = .ok (.goto 11, 3) := by decide +kernel
theorem dX6_readPiece_95 : decode cX6_readPiece 95 = .ok (.aload_n 0, 1) := by decide +kernel
theorem dX6_readPiece_96 : decode cX6_readPiece 96 = .ok (.aload_n 0, 1) := by decide +kernel
theorem dX6_readPiece_97 : decode cX6_readPiece 97 = .ok (.getfield 31, 3) := by decide +kernel
theorem dX6_readPiece_100 : decode cX6_readPiece 100 = .ok (.putfield 25, 3) := by decide +kernel
theorem dX6_readPiece_103 : decode cX6_readPiece 103 = .ok (.return_, 1) := by decide +kernel
theorem dX6_readSigns_0 : decode cX6_readSigns 0 = .ok (.aload_n 0, 1) := by decide +kernel
theorem dX6_readSigns_1 : decode cX6_readSigns 1 = .ok (.getfield 31, 3) := by decide +kernel
theorem dX6_readSigns_4 : decode cX6_readSigns 4 = .ok (.istore_n 2, 1) := by decide +kernel
theorem dX6_readSigns_5 : decode cX6_readSigns 5 = .ok (.aload_n 0, 1) := by decide +kernel
theorem dX6_readSigns_6 : decode cX6_readSigns 6 = .ok (.getfield 22, 3) := by decide +kernel
theorem dX6_readSigns_9 : decode cX6_readSigns 9 = .ok (.aload_n 0, 1) := by decide +kernel
theorem dX6_readSigns_10 : decode cX6_readSigns 10 = .ok (.getfield 28, 3) := by decide +kernel
theorem dX6_readSigns_13 : decode cX6_readSigns 13 = .ok (.if_icmp .lt 9, 3) := by decide +kernel
theorem dX6_readSigns_16 : decode cX6_readSigns 16 = .ok (.aload_n 0, 1) := by decide +kernel
theorem dX6_readSigns_17 : decode cX6_readSigns 17 = .ok (.iload_n 2, 1) := by decide +kernel
theorem dX6_readSigns_18 : decode cX6_readSigns 18 = .ok (.putfield 25, 3) := by decide +kernel
theorem dX6_readSigns_21 : decode cX6_readSigns 21 = .ok (.return_, 1) := by decide +kernel
theorem dX6_readSigns_22 : decode cX6_readSigns 22 = .ok (.aload_n 0, 1) := by decide +kernel
theorem dX6_readSigns_23 : decode cX6_readSigns 23 = .ok (.dup, 1) := by decide +kernel
theorem dX6_readSigns_24 : decode cX6_readSigns 24 = .ok (.getfield 31, 3) := by decide +kernel
theorem dX6_readSigns_27 : decode cX6_readSigns 27 = .ok (.iconst 1, 1) := by decide +kernel
theorem dX6_readSigns_28 : decode cX6_readSigns 28 = .ok (.iadd, 1) := by decide +kernel
theorem dX6_readSigns_29 : decode cX6_readSigns 29 = .ok (.putfield 31, 3) := by decide +kernel
theorem dX6_readSigns_32 : decode cX6_readSigns 32 = .ok (.aload_n 0, 1) := by decide +kernel
theorem dX6_readSigns_33 : decode cX6_readSigns 33 = .ok (.invokevirtual 45, 3) := by decide +kernel
theorem dX6_readSigns_36 : decode cX6_readSigns 36 = .ok (.aload_n 0, 1) := by decide +kernel
theorem dX6_readSigns_37 : decode cX6_readSigns 37 = .ok (.invokevirtual 51, 3) := by decide +kernel
theorem dX6_readSigns_40 : decode cX6_readSigns 40 = .ok (.bipush 120, 2) := by decide +kernel
theorem dX6_readSigns_42 : decode cX6_readSigns 42 = .ok (.if_icmp .ne 10, 3) := by decide +kernel
theorem dX6_readSigns_45 : decode cX6_readSigns 45 = .ok (.aload_n 0, 1) := by decide +kernel
theorem dX6_readSigns_46 : decode cX6_readSigns 46 = .ok (.invokevirtual 62, 3) := by decide +kernel
theorem dX6_readSigns_49 : decode cX6_readSigns 49 = .ok (.goto 4, 3) := by decide +kernel
theorem dX6_readSigns_52 : decode cX6_readSigns 52 = .ok (.iconst 1, 1) := by decide +kernel
theorem dX6_readSigns_53 : decode cX6_readSigns 53 = .ok (.istore_n 3, 1) := by decide +kernel
theorem dX6_readSigns_54 : decode cX6_readSigns 54 = .ok (.aload_n 0, 1) := by decide +kernel
theorem dX6_readSigns_55 : decode cX6_readSigns 55 = .ok (.getfield 25, 3) := by decide +kernel
theorem dX6_readSigns_58 : decode cX6_readSigns 58 = .ok (.iconst (-1), 1) := by decide +kernel
theorem dX6_readSigns_59 : decode cX6_readSigns 59 = .ok (.if_icmp .eq 4, 3) := by decide +kernel
theorem dX6_readSigns_62 : decode cX6_readSigns 62 = .ok (.return_, 1) := by decide +kernel
theorem dX6_readSigns_63 : decode cX6_readSigns 63 = .ok (.aload_n 0, 1) := by decide +kernel
theorem dX6_readSigns_64 : decode cX6_readSigns 64 = .ok (.getfield 22, 3) := by decide +kernel
theorem dX6_readSigns_67 : decode cX6_readSigns 67 = .ok (.iload_n 3, 1) := by decide +kernel
theorem dX6_readSigns_68 : decode cX6_readSigns 68 = .ok (.iadd, 1) := by decide +kernel
theorem dX6_readSigns_69 : decode cX6_readSigns 69 = .ok (.aload_n 0, 1) := by decide +kernel
theorem dX6_readSigns_70 : decode cX6_readSigns 70 = .ok (.getfield 28, 3) := by decide +kernel
theorem dX6_readSigns_73 : decode cX6_readSigns 73 = .ok (.if_icmp .le 9, 3) := by decide +kernel
theorem dX6_readSigns_76 : decode cX6_readSigns 76 = .ok (.aload_n 0, 1) := by decide +kernel
theorem dX6_readSigns_77 : decode cX6_readSigns 77 = .ok (.iload_n 2, 1) := by decide +kernel
theorem dX6_readSigns_78 : decode cX6_readSigns 78 = .ok (.putfield 25, 3) := by decide +kernel
theorem dX6_readSigns_81 : decode cX6_readSigns 81 = .ok (.return_, 1) := by decide +kernel
theorem dX6_readSigns_82 : decode cX6_readSigns 82 = .ok (.iconst 0, 1) := by decide +kernel
theorem dX6_readSigns_83 : decode cX6_readSigns 83 = .ok (.istore 4, 2) := by decide +kernel
theorem dX6_readSigns_85 : decode cX6_readSigns 85 = .ok (.iload 4, 2) := by decide +kernel
theorem dX6_readSigns_87 : decode cX6_readSigns 87 = .ok (.iload_n 3, 1) := by decide +kernel
theorem dX6_readSigns_88 : decode cX6_readSigns 88 = .ok (.if_icmp .ge 14, 3) := by decide +kernel
theorem dX6_readSigns_91 : decode cX6_readSigns 91 = .ok (.aload_n 0, 1) := by decide +kernel
theorem dX6_readSigns_92 : decode cX6_readSigns 92 = .ok (.iload_n 1, 1) := by decide +kernel
theorem dX6_readSigns_93 : decode cX6_readSigns 93 = .ok (.invokevirtual 65, 3) := by decide +kernel
theorem dX6_readSigns_96 : decode cX6_readSigns 96 = .ok (.iinc 4 1, 3) := by decide +kernel
theorem dX6_readSigns_99 : decode cX6_readSigns 99 = .ok (.goto (-14), 3) := by decide +kernel
theorem dX6_readSigns_102 : decode cX6_readSigns 102 = .ok (.return_, 1) := by decide +kernel
theorem dX6_readGroupEnd_0 : decode cX6_readGroupEnd 0 = .ok (.aload_n 0, 1) := by decide +kernel
theorem dX6_readGroupEnd_1 : decode cX6_readGroupEnd 1 = .ok (.getfield 31, 3) := by decide +kernel
theorem dX6_readGroupEnd_4 : decode cX6_readGroupEnd 4 = .ok (.istore_n 1, 1) := by decide +kernel
theorem dX6_readGroupEnd_5 : decode cX6_readGroupEnd 5 = .ok (.aload_n 0, 1) := by decide +kernel
theorem dX6_readGroupEnd_6 : decode cX6_readGroupEnd 6 = .ok (.dup, 1) := by decide +kernel
theorem dX6_readGroupEnd_7 : decode cX6_readGroupEnd 7 = .ok (.getfield 31, 3) := by decide +kernel
theorem dX6_readGroupEnd_10 : decode cX6_readGroupEnd 10 = .ok (.iconst 1, 1) := by decide +kernel
theorem dX6_readGroupEnd_11 : decode cX6_readGroupEnd 11 = .ok (.iadd, 1) := by decide +kernel
theorem dX6_readGroupEnd_12 : decode cX6_readGroupEnd 12 = .ok (.putfield 31, 3) := by decide +kernel
theorem dX6_readGroupEnd_15 : decode cX6_readGroupEnd 15 = .ok (.aload_n 0, 1) := by decide +kernel
theorem dX6_readGroupEnd_16 : decode cX6_readGroupEnd 16 = .ok (.invokevirtual 45, 3) := by decide +kernel
theorem dX6_readGroupEnd_19 : decode cX6_readGroupEnd 19 = .ok (.aload_n 0, 1) := by decide +kernel
theorem dX6_readGroupEnd_20 : decode cX6_readGroupEnd 20 = .ok (.invokevirtual 51, 3) := by decide +kernel
theorem dX6_readGroupEnd_23 : decode cX6_readGroupEnd 23 = .ok (.bipush 120, 2) := by decide +kernel
theorem dX6_readGroupEnd_25 : decode cX6_readGroupEnd 25 = .ok (.if_icmp .eq 12, 3) := by decide +kernel
theorem dX6_readGroupEnd_28 : decode cX6_readGroupEnd 28 = .ok (.aload_n 0, 1) := by decide +kernel
theorem dX6_readGroupEnd_29 : decode cX6_readGroupEnd 29 = .ok (.aload_n 0, 1) := by decide +kernel
theorem dX6_readGroupEnd_30 : decode cX6_readGroupEnd 30 = .ok (.getfield 31, 3) := by decide +kernel
theorem dX6_readGroupEnd_33 : decode cX6_readGroupEnd 33 = .ok (.putfield 25, 3) := by decide +kernel
theorem dX6_readGroupEnd_36 : decode cX6_readGroupEnd 36 = .ok (.return_, 1) := by decide +kernel
theorem dX6_readGroupEnd_37 : decode cX6_readGroupEnd 37 = .ok (.aload_n 0, 1) := by decide +kernel
theorem dX6_readGroupEnd_38 : decode cX6_readGroupEnd 38 = .ok (.invokevirtual 62, 3) := by decide +kernel
theorem dX6_readGroupEnd_41 : decode cX6_readGroupEnd 41 = .ok (.istore_n 2, 1) := by decide +kernel
theorem dX6_readGroupEnd_42 : decode cX6_readGroupEnd 42 = .ok (.aload_n 0, 1) := by decide +kernel
theorem dX6_readGroupEnd_43 : decode cX6_readGroupEnd 43 = .ok (.getfield 25, 3) := by decide +kernel
theorem dX6_readGroupEnd_46 : decode cX6_readGroupEnd 46 = .ok (.iconst (-1), 1) := by decide +kernel
theorem dX6_readGroupEnd_47 : decode cX6_readGroupEnd 47 = .ok (.if_icmp .eq 4, 3) := by decide +kernel
theorem dX6_readGroupEnd_50 : decode cX6_readGroupEnd 50 = .ok (.return_, 1) := by decide +kernel
theorem dX6_readGroupEnd_51 : decode cX6_readGroupEnd 51 = .ok (.iconst 0, 1) := by decide +kernel
theorem dX6_readGroupEnd_52 : decode cX6_readGroupEnd 52 = .ok (.aload_n 0, 1) := by decide +kernel
theorem dX6_readGroupEnd_53 : decode cX6_readGroupEnd 53 = .ok (.getfield 34, 3) := by decide +kernel
theorem dX6_readGroupEnd_56 : decode cX6_readGroupEnd 56 = .ok (.invokestatic 68, 3) := by decide +kernel
theorem dX6_readGroupEnd_59 : decode cX6_readGroupEnd 59 = .ok (.istore_n 3, 1) := by decide +kernel
theorem dX6_readGroupEnd_60 : decode cX6_readGroupEnd 60 = .ok (.aload_n 0, 1) := by decide +kernel
theorem dX6_readGroupEnd_61 : decode cX6_readGroupEnd 61 = .ok (.getfield 22, 3) := by decide +kernel
theorem dX6_readGroupEnd_64 : decode cX6_readGroupEnd 64 = .ok (.iload_n 3, 1) := by decide +kernel
theorem dX6_readGroupEnd_65 : decode cX6_readGroupEnd 65 = .ok (.isub, 1) := by decide +kernel
theorem dX6_readGroupEnd_66 : decode cX6_readGroupEnd 66 = .ok (.istore 4, 2) := by decide +kernel
theorem dX6_readGroupEnd_68 : decode cX6_readGroupEnd 68 = .ok (.iload_n 3, 1) := by decide +kernel
theorem dX6_readGroupEnd_69 : decode cX6_readGroupEnd 69 = .ok (.iload 4, 2) := by decide +kernel
theorem dX6_readGroupEnd_71 : decode cX6_readGroupEnd 71 = .ok (.iload_n 2, 1) := by decide +kernel
theorem dX6_readGroupEnd_72 : decode cX6_readGroupEnd 72 = .ok (.imul, 1) := by decide +kernel
theorem dX6_readGroupEnd_73 : decode cX6_readGroupEnd 73 = .ok (.iadd, 1) := by decide +kernel
theorem dX6_readGroupEnd_74 : decode cX6_readGroupEnd 74 = .ok (.aload_n 0, 1) := by decide +kernel
theorem dX6_readGroupEnd_75 : decode cX6_readGroupEnd 75 = .ok (.getfield 28, 3) := by decide +kernel
theorem dX6_readGroupEnd_78 : decode cX6_readGroupEnd 78 = .ok (.if_icmp .le 9, 3) := by decide +kernel
theorem dX6_readGroupEnd_81 : decode cX6_readGroupEnd 81 = .ok (.aload_n 0, 1) := by decide +kernel
theorem dX6_readGroupEnd_82 : decode cX6_readGroupEnd 82 = .ok (.iload_n 1, 1) := by decide +kernel
theorem dX6_readGroupEnd_83 : decode cX6_readGroupEnd 83 = .ok (.putfield 25, 3) := by decide +kernel
theorem dX6_readGroupEnd_86 : decode cX6_readGroupEnd 86 = .ok (.return_, 1) := by decide +kernel
theorem dX6_readGroupEnd_87 : decode cX6_readGroupEnd 87 = .ok (.iconst 0, 1) := by decide +kernel
theorem dX6_readGroupEnd_88 : decode cX6_readGroupEnd 88 = .ok (.istore 5, 2) := by decide +kernel
theorem dX6_readGroupEnd_90 : decode cX6_readGroupEnd 90 = .ok (.iload 5, 2) := by decide +kernel
theorem dX6_readGroupEnd_92 : decode cX6_readGroupEnd 92 = .ok (.iload 4, 2) := by decide +kernel
theorem dX6_readGroupEnd_94 : decode cX6_readGroupEnd 94 = .ok (.iload_n 2, 1) := by decide +kernel
theorem dX6_readGroupEnd_95 : decode cX6_readGroupEnd 95 = .ok (.iconst 1, 1) := by decide +kernel
theorem dX6_readGroupEnd_96 : decode cX6_readGroupEnd 96 = .ok (.isub, 1) := by decide +kernel
theorem dX6_readGroupEnd_97 : decode cX6_readGroupEnd 97 = .ok (.imul, 1) := by decide +kernel
theorem dX6_readGroupEnd_98 : decode cX6_readGroupEnd 98 = .ok (.if_icmp .ge 21, 3) := by decide +kernel
theorem dX6_readGroupEnd_101 : decode cX6_readGroupEnd 101 = .ok (.aload_n 0, 1) := by decide +kernel
theorem dX6_readGroupEnd_102 : decode cX6_readGroupEnd 102 = .ok (.aload_n 0, 1) := by decide +kernel
theorem dX6_readGroupEnd_103 : decode cX6_readGroupEnd 103 = .ok (.iload_n 3, 1) := by decide +kernel
theorem dX6_readGroupEnd_104 : decode cX6_readGroupEnd 104 = .ok (.iload 5, 2) := by decide +kernel
theorem dX6_readGroupEnd_106 : decode cX6_readGroupEnd 106 = .ok (.iadd, 1) := by decide +kernel
theorem dX6_readGroupEnd_107 : decode cX6_readGroupEnd 107 = .ok (.invokevirtual 74, 3) := by decide +kernel
theorem dX6_readGroupEnd_110 : decode cX6_readGroupEnd 110 = .ok (.invokevirtual 65, 3) := by decide +kernel
theorem dX6_readGroupEnd_113 : decode cX6_readGroupEnd 113 = .ok (.iinc 5 1, 3) := by decide +kernel
theorem dX6_readGroupEnd_116 : decode cX6_readGroupEnd 116 = .ok (.goto (-26), 3) := by decide +kernel
theorem dX6_readGroupEnd_119 : decode cX6_readGroupEnd 119 = .ok (.aload_n 0, 1) := by decide +kernel
theorem dX6_readGroupEnd_120 : decode cX6_readGroupEnd 120 = .ok (.iconst (-1), 1) := by decide +kernel
theorem dX6_readGroupEnd_121 : decode cX6_readGroupEnd 121 = .ok (.putfield 34, 3) := by decide +kernel
theorem dX6_readGroupEnd_124 : decode cX6_readGroupEnd 124 = .ok (.return_, 1) := by decide +kernel
theorem dX6_readTimes_0 : decode cX6_readTimes 0 = .ok (.aload_n 0, 1) := by decide +kernel
theorem dX6_readTimes_1 : decode cX6_readTimes 1 = .ok (.dup, 1) := by decide +kernel
theorem dX6_readTimes_2 : decode cX6_readTimes 2 = .ok (.getfield 31, 3) := by decide +kernel
theorem dX6_readTimes_5 : decode cX6_readTimes 5 = .ok (.iconst 1, 1) := by decide +kernel
theorem dX6_readTimes_6 : decode cX6_readTimes 6 = .ok (.iadd, 1) := by decide +kernel
theorem dX6_readTimes_7 : decode cX6_readTimes 7 = .ok (.putfield 31, 3) := by decide +kernel
theorem dX6_readTimes_10 : decode cX6_readTimes 10 = .ok (.aload_n 0, 1) := by decide +kernel
theorem dX6_readTimes_11 : decode cX6_readTimes 11 = .ok (.invokevirtual 45, 3) := by decide +kernel
theorem dX6_readTimes_14 : decode cX6_readTimes 14 = .ok (.aload_n 0, 1) := by decide +kernel
theorem dX6_readTimes_15 : decode cX6_readTimes 15 = .ok (.getfield 31, 3) := by decide +kernel
theorem dX6_readTimes_18 : decode cX6_readTimes 18 = .ok (.istore_n 1, 1) := by decide +kernel
theorem dX6_readTimes_19 : decode cX6_readTimes 19 = .ok (.iconst 0, 1) := by decide +kernel
theorem dX6_readTimes_20 : decode cX6_readTimes 20 = .ok (.istore_n 2, 1) := by decide +kernel
theorem dX6_readTimes_21 : decode cX6_readTimes 21 = .ok (.iconst 0, 1) := by decide +kernel
theorem dX6_readTimes_22 : decode cX6_readTimes 22 = .ok (.istore_n 3, 1) := by decide +kernel
theorem dX6_readTimes_23 : decode cX6_readTimes 23 = .ok (.iload_n 3, 1) := by decide +kernel
theorem dX6_readTimes_24 : decode cX6_readTimes 24 = .ok (.bipush 120, 2) := by decide +kernel
theorem dX6_readTimes_26 : decode cX6_readTimes 26 = .ok (.if_icmp .ge 52, 3) := by decide +kernel
theorem dX6_readTimes_29 : decode cX6_readTimes 29 = .ok (.aload_n 0, 1) := by decide +kernel
theorem dX6_readTimes_30 : decode cX6_readTimes 30 = .ok (.invokevirtual 51, 3) := by decide +kernel
theorem dX6_readTimes_33 : decode cX6_readTimes 33 = .ok (.bipush 48, 2) := by decide +kernel
theorem dX6_readTimes_35 : decode cX6_readTimes 35 = .ok (.bipush 57, 2) := by decide +kernel
theorem dX6_readTimes_37 : decode cX6_readTimes 37 = .ok (.invokestatic 37, 3) := by decide +kernel
theorem dX6_readTimes_40 : decode cX6_readTimes 40 = .ok (.ifCond .eq 38, 3) := by decide +kernel
theorem dX6_readTimes_43 : decode cX6_readTimes 43 = .ok (.sipush 1000, 3) := by decide +kernel
theorem dX6_readTimes_46 : decode cX6_readTimes 46 = .ok (.iload_n 2, 1) := by decide +kernel
theorem dX6_readTimes_47 : decode cX6_readTimes 47 = .ok (.bipush 10, 2) := by decide +kernel
theorem dX6_readTimes_49 : decode cX6_readTimes 49 = .ok (.imul, 1) := by decide +kernel
theorem dX6_readTimes_50 : decode cX6_readTimes 50 = .ok (.aload_n 0, 1) := by decide +kernel
theorem dX6_readTimes_51 : decode cX6_readTimes 51 = .ok (.invokevirtual 51, 3) := by decide +kernel
theorem dX6_readTimes_54 : decode cX6_readTimes 54 = .ok (.iadd, 1) := by decide +kernel
theorem dX6_readTimes_55 : decode cX6_readTimes 55 = .ok (.bipush 48, 2) := by decide +kernel
theorem dX6_readTimes_57 : decode cX6_readTimes 57 = .ok (.isub, 1) := by decide +kernel
theorem dX6_readTimes_58 : decode cX6_readTimes 58 = .ok (.invokestatic 78, 3) := by decide +kernel
theorem dX6_readTimes_61 : decode cX6_readTimes 61 = .ok (.istore_n 2, 1) := by decide +kernel
theorem dX6_readTimes_62 : decode cX6_readTimes 62 = .ok (.aload_n 0, 1) := by decide +kernel
theorem dX6_readTimes_63 : decode cX6_readTimes 63 = .ok (.dup, 1) := by decide +kernel
theorem dX6_readTimes_64 : decode cX6_readTimes 64 = .ok (.getfield 31, 3) := by decide +kernel
theorem dX6_readTimes_67 : decode cX6_readTimes 67 = .ok (.iconst 1, 1) := by decide +kernel
theorem dX6_readTimes_68 : decode cX6_readTimes 68 = .ok (.iadd, 1) := by decide +kernel
theorem dX6_readTimes_69 : decode cX6_readTimes 69 = .ok (.putfield 31, 3) := by decide +kernel
theorem dX6_readTimes_72 : decode cX6_readTimes 72 = .ok (.iinc 3 1, 3) := by decide +kernel
theorem dX6_readTimes_75 : decode cX6_readTimes 75 = .ok (.goto (-52), 3) := by decide +kernel
theorem dX6_readTimes_78 : decode cX6_readTimes 78 = .ok (.aload_n 0, 1) := by decide +kernel
theorem dX6_readTimes_79 : decode cX6_readTimes 79 = .ok (.getfield 31, 3) := by decide +kernel
theorem dX6_readTimes_82 : decode cX6_readTimes 82 = .ok (.iload_n 1, 1) := by decide +kernel
theorem dX6_readTimes_83 : decode cX6_readTimes 83 = .ok (.isub, 1) := by decide +kernel
theorem dX6_readTimes_84 : decode cX6_readTimes 84 = .ok (.iconst 1, 1) := by decide +kernel
theorem dX6_readTimes_85 : decode cX6_readTimes 85 = .ok (.iconst 2, 1) := by decide +kernel
theorem dX6_readTimes_86 : decode cX6_readTimes 86 = .ok (.invokestatic 37, 3) := by decide +kernel
theorem dX6_readTimes_89 : decode cX6_readTimes 89 = .ok (.ifCond .eq 8, 3) := by decide +kernel
theorem dX6_readTimes_92 : decode cX6_readTimes 92 = .ok (.iload_n 2, 1) := by decide +kernel
theorem dX6_readTimes_93 : decode cX6_readTimes 93 = .ok (.iconst 1, 1) := by decide +kernel
theorem dX6_readTimes_94 : decode cX6_readTimes 94 = .ok (.if_icmp .ge 8, 3) := by decide +kernel
theorem dX6_readTimes_97 : decode cX6_readTimes 97 = .ok (.aload_n 0, 1) := by decide +kernel
theorem dX6_readTimes_98 : decode cX6_readTimes 98 = .ok (.iload_n 1, 1) := by decide +kernel
theorem dX6_readTimes_99 : decode cX6_readTimes 99 = .ok (.putfield 25, 3) := by decide +kernel
theorem dX6_readTimes_102 : decode cX6_readTimes 102 = .ok (.iload_n 2, 1) := by decide +kernel
theorem dX6_readTimes_103 : decode cX6_readTimes 103 = .ok (.ireturn, 1) := by decide +kernel
theorem dX6_skipBlanks_0 : decode cX6_skipBlanks 0 = .ok (.iconst 0, 1) := by decide +kernel
theorem dX6_skipBlanks_1 : decode cX6_skipBlanks 1 = .ok (.istore_n 1, 1) := by decide +kernel
theorem dX6_skipBlanks_2 : decode cX6_skipBlanks 2 = .ok (.iload_n 1, 1) := by decide +kernel
theorem dX6_skipBlanks_3 : decode cX6_skipBlanks 3 = .ok (.bipush 120, 2) := by decide +kernel
theorem dX6_skipBlanks_5 : decode cX6_skipBlanks 5 = .ok (.if_icmp .ge 28, 3) := by decide +kernel
theorem dX6_skipBlanks_8 : decode cX6_skipBlanks 8 = .ok (.aload_n 0, 1) := by decide +kernel
theorem dX6_skipBlanks_9 : decode cX6_skipBlanks 9 = .ok (.invokevirtual 51, 3) := by decide +kernel
theorem dX6_skipBlanks_12 : decode cX6_skipBlanks 12 = .ok (.bipush 32, 2) := by decide +kernel
theorem dX6_skipBlanks_14 : decode cX6_skipBlanks 14 = .ok (.if_icmp .ne 19, 3) := by decide +kernel
theorem dX6_skipBlanks_17 : decode cX6_skipBlanks 17 = .ok (.aload_n 0, 1) := by decide +kernel
theorem dX6_skipBlanks_18 : decode cX6_skipBlanks 18 = .ok (.dup, 1) := by decide +kernel
theorem dX6_skipBlanks_19 : decode cX6_skipBlanks 19 = .ok (.getfield 31, 3) := by decide +kernel
theorem dX6_skipBlanks_22 : decode cX6_skipBlanks 22 = .ok (.iconst 1, 1) := by decide +kernel
theorem dX6_skipBlanks_23 : decode cX6_skipBlanks 23 = .ok (.iadd, 1) := by decide +kernel
theorem dX6_skipBlanks_24 : decode cX6_skipBlanks 24 = .ok (.putfield 31, 3) := by decide +kernel
theorem dX6_skipBlanks_27 : decode cX6_skipBlanks 27 = .ok (.iinc 1 1, 3) := by decide +kernel
theorem dX6_skipBlanks_30 : decode cX6_skipBlanks 30 = .ok (.goto (-28), 3) := by decide +kernel
theorem dX6_skipBlanks_33 : decode cX6_skipBlanks 33 = .ok (.return_, 1) := by decide +kernel
theorem dX6_here_0 : decode cX6_here 0 = .ok (.aload_n 0, 1) := by decide +kernel
theorem dX6_here_1 : decode cX6_here 1 = .ok (.getfield 31, 3) := by decide +kernel
theorem dX6_here_4 : decode cX6_here 4 = .ok (.ifCond .lt 35, 3) := by decide +kernel
theorem dX6_here_7 : decode cX6_here 7 = .ok (.aload_n 0, 1) := by decide +kernel
theorem dX6_here_8 : decode cX6_here 8 = .ok (.getfield 31, 3) := by decide +kernel
theorem dX6_here_11 : decode cX6_here 11 = .ok (.aload_n 0, 1) := by decide +kernel
theorem dX6_here_12 : decode cX6_here 12 = .ok (.getfield 18, 3) := by decide +kernel
theorem dX6_here_15 : decode cX6_here 15 = .ok (.if_icmp .ge 24, 3) := by decide +kernel
theorem dX6_here_18 : decode cX6_here 18 = .ok (.aload_n 0, 1) := by decide +kernel
theorem dX6_here_19 : decode cX6_here 19 = .ok (.getfield 31, 3) := by decide +kernel
theorem dX6_here_22 : decode cX6_here 22 = .ok (.bipush 120, 2) := by decide +kernel
theorem dX6_here_24 : decode cX6_here 24 = .ok (.if_icmp .ge 15, 3) := by decide +kernel
theorem dX6_here_27 : decode cX6_here 27 = .ok (.aload_n 0, 1) := by decide +kernel
theorem dX6_here_28 : decode cX6_here 28 = .ok (.getfield 9, 3) := by decide +kernel
theorem dX6_here_31 : decode cX6_here 31 = .ok (.aload_n 0, 1) := by decide +kernel
theorem dX6_here_32 : decode cX6_here 32 = .ok (.getfield 31, 3) := by decide +kernel
theorem dX6_here_35 : decode cX6_here 35 = .ok (.iaload, 1) := by decide +kernel
theorem dX6_here_36 : decode cX6_here 36 = .ok (.goto 4, 3) := by decide +kernel
theorem dX6_here_39 : decode cX6_here 39 = .ok (.iconst (-1), 1) := by decide +kernel
theorem dX6_here_40 : decode cX6_here 40 = .ok (.ireturn, 1) := by decide +kernel
theorem dX6_signAt_0 : decode cX6_signAt 0 = .ok (.iload_n 1, 1) := by decide +kernel
theorem dX6_signAt_1 : decode cX6_signAt 1 = .ok (.iconst 0, 1) := by decide +kernel
theorem dX6_signAt_2 : decode cX6_signAt 2 = .ok (.aload_n 0, 1) := by decide +kernel
theorem dX6_signAt_3 : decode cX6_signAt 3 = .ok (.getfield 22, 3) := by decide +kernel
theorem dX6_signAt_6 : decode cX6_signAt 6 = .ok (.iconst 1, 1) := by decide +kernel
theorem dX6_signAt_7 : decode cX6_signAt 7 = .ok (.isub, 1) := by decide +kernel
theorem dX6_signAt_8 : decode cX6_signAt 8 = .ok (.invokestatic 37, 3) := by decide +kernel
theorem dX6_signAt_11 : decode cX6_signAt 11 = .ok (.ifCond .eq 12, 3) := by decide +kernel
theorem dX6_signAt_14 : decode cX6_signAt 14 = .ok (.aload_n 0, 1) := by decide +kernel
theorem dX6_signAt_15 : decode cX6_signAt 15 = .ok (.getfield 15, 3) := by decide +kernel
theorem dX6_signAt_18 : decode cX6_signAt 18 = .ok (.iload_n 1, 1) := by decide +kernel
theorem dX6_signAt_19 : decode cX6_signAt 19 = .ok (.iaload, 1) := by decide +kernel
theorem dX6_signAt_20 : decode cX6_signAt 20 = .ok (.goto 4, 3) := by decide +kernel
theorem dX6_signAt_23 : decode cX6_signAt 23 = .ok (.iconst 0, 1) := by decide +kernel
theorem dX6_signAt_24 : decode cX6_signAt 24 = .ok (.ireturn, 1) := by decide +kernel
theorem dX6_addSign_0 : decode cX6_addSign 0 = .ok (.aload_n 0, 1) := by decide +kernel
theorem dX6_addSign_1 : decode cX6_addSign 1 = .ok (.getfield 22, 3) := by decide +kernel
theorem dX6_addSign_4 : decode cX6_addSign 4 = .ok (.iconst 0, 1) := by decide +kernel
theorem dX6_addSign_5 : decode cX6_addSign 5 = .ok (.bipush 99, 2) := by decide +kernel
theorem dX6_addSign_7 : decode cX6_addSign 7 = .ok (.invokestatic 37, 3) := by decide +kernel
theorem dX6_addSign_10 : decode cX6_addSign 10 = .ok (.ifCond .ne 4, 3) := by decide +kernel
theorem dX6_addSign_13 : decode cX6_addSign 13 = .ok (.return_, 1) := by decide +kernel
theorem dX6_addSign_14 : decode cX6_addSign 14 = .ok (.aload_n 0, 1) := by decide +kernel
theorem dX6_addSign_15 : decode cX6_addSign 15 = .ok (.getfield 15, 3) := by decide +kernel
theorem dX6_addSign_18 : decode cX6_addSign 18 = .ok (.aload_n 0, 1) := by decide +kernel
theorem dX6_addSign_19 : decode cX6_addSign 19 = .ok (.getfield 22, 3) := by decide +kernel
theorem dX6_addSign_22 : decode cX6_addSign 22 = .ok (.iload_n 1, 1) := by decide +kernel
theorem dX6_addSign_23 : decode cX6_addSign 23 = .ok (.iastore, 1) := by decide +kernel
theorem dX6_addSign_24 : decode cX6_addSign 24 = .ok (.aload_n 0, 1) := by decide +kernel
theorem dX6_addSign_25 : decode cX6_addSign 25 = .ok (.dup, 1) := by decide +kernel
theorem dX6_addSign_26 : decode cX6_addSign 26 = .ok (.getfield 22, 3) := by decide +kernel
theorem dX6_addSign_29 : decode cX6_addSign 29 = .ok (.iconst 1, 1) := by decide +kernel
theorem dX6_addSign_30 : decode cX6_addSign 30 = .ok (.iadd, 1) := by decide +kernel
theorem dX6_addSign_31 : decode cX6_addSign 31 = .ok (.putfield 22, 3) := by decide +kernel
theorem dX6_addSign_34 : decode cX6_addSign 34 = .ok (.return_, 1) := by decide +kernel
theorem dX7_init_0 : decode cX7_init 0 = .ok (.aload_n 0, 1) := by decide +kernel
theorem dX7_init_1 : decode cX7_init 1 = .ok (.invokespecial 3, 3) := by decide +kernel
theorem dX7_init_4 : decode cX7_init 4 = .ok (.aload_n 0, 1) := by decide +kernel
theorem dX7_init_5 : decode cX7_init 5 = .ok (.sipush 204, 3) := by decide +kernel
theorem dX7_init_8 : decode cX7_init 8 = .ok (.newarray .int, 2) := by decide +kernel
theorem dX7_init_10 : decode cX7_init 10 = .ok (.putfield 9, 3) := by decide +kernel
theorem dX7_init_13 : decode cX7_init 13 = .ok (.aload_n 0, 1) := by decide +kernel
theorem dX7_init_14 : decode cX7_init 14 = .ok (.iconst 0, 1) := by decide +kernel
theorem dX7_init_15 : decode cX7_init 15 = .ok (.putfield 15, 3) := by decide +kernel
theorem dX7_init_18 : decode cX7_init 18 = .ok (.aload_n 0, 1) := by decide +kernel
theorem dX7_init_19 : decode cX7_init 19 = .ok (.lconst 0, 1) := by decide +kernel
theorem dX7_init_20 : decode cX7_init 20 = .ok (.putfield 19, 3) := by decide +kernel
theorem dX7_init_23 : decode cX7_init 23 = .ok (.aload_n 0, 1) := by decide +kernel
theorem dX7_init_24 : decode cX7_init 24 = .ok (.ldc2_w 23, 3) := by decide +kernel
theorem dX7_init_27 : decode cX7_init 27 = .ok (.putfield 25, 3) := by decide +kernel
theorem dX7_init_30 : decode cX7_init 30 = .ok (.aload_n 0, 1) := by decide +kernel
theorem dX7_init_31 : decode cX7_init 31 = .ok (.lconst 0, 1) := by decide +kernel
theorem dX7_init_32 : decode cX7_init 32 = .ok (.putfield 28, 3) := by decide +kernel
theorem dX7_init_35 : decode cX7_init 35 = .ok (.aload_n 0, 1) := by decide +kernel
theorem dX7_init_36 : decode cX7_init 36 = .ok (.iconst 0, 1) := by decide +kernel
theorem dX7_init_37 : decode cX7_init 37 = .ok (.putfield 31, 3) := by decide +kernel
theorem dX7_init_40 : decode cX7_init 40 = .ok (.return_, 1) := by decide +kernel
theorem dX7_write_0 : decode cX7_write 0 = .ok (.aload_n 0, 1) := by decide +kernel
theorem dX7_write_1 : decode cX7_write 1 = .ok (.iconst 0, 1) := by decide +kernel
theorem dX7_write_2 : decode cX7_write 2 = .ok (.putfield 15, 3) := by decide +kernel
theorem dX7_write_5 : decode cX7_write 5 = .ok (.aload_n 0, 1) := by decide +kernel
theorem dX7_write_6 : decode cX7_write 6 = .ok (.lconst 0, 1) := by decide +kernel
theorem dX7_write_7 : decode cX7_write 7 = .ok (.putfield 19, 3) := by decide +kernel
theorem dX7_write_10 : decode cX7_write 10 = .ok (.aload_n 0, 1) := by decide +kernel
theorem dX7_write_11 : decode cX7_write 11 = .ok (.ldc2_w 23, 3) := by decide +kernel
theorem dX7_write_14 : decode cX7_write 14 = .ok (.putfield 25, 3) := by decide +kernel
theorem dX7_write_17 : decode cX7_write 17 = .ok (.iconst 0, 1) := by decide +kernel
theorem dX7_write_18 : decode cX7_write 18 = .ok (.istore_n 2, 1) := by decide +kernel
theorem dX7_write_19 : decode cX7_write 19 = .ok (.iload_n 2, 1) := by decide +kernel
theorem dX7_write_20 : decode cX7_write 20 = .ok (.aload_n 1, 1) := by decide +kernel
theorem dX7_write_21 : decode cX7_write 21 = .ok (.getfield 34, 3) := by decide +kernel
theorem dX7_write_24 : decode cX7_write 24 = .ok (.if_icmp .ge 25, 3) := by decide +kernel
theorem dX7_write_27 : decode cX7_write 27 = .ok (.aload_n 0, 1) := by decide +kernel
theorem dX7_write_28 : decode cX7_write 28 = .ok (.aload_n 1, 1) := by decide +kernel
theorem dX7_write_29 : decode cX7_write 29 = .ok (.getfield 37, 3) := by decide +kernel
theorem dX7_write_32 : decode cX7_write 32 = .ok (.iload_n 2, 1) := by decide +kernel
theorem dX7_write_33 : decode cX7_write 33 = .ok (.iaload, 1) := by decide +kernel
theorem dX7_write_34 : decode cX7_write 34 = .ok (.aload_n 1, 1) := by decide +kernel
theorem dX7_write_35 : decode cX7_write 35 = .ok (.getfield 40, 3) := by decide +kernel
theorem dX7_write_38 : decode cX7_write 38 = .ok (.iload_n 2, 1) := by decide +kernel
theorem dX7_write_39 : decode cX7_write 39 = .ok (.iaload, 1) := by decide +kernel
theorem dX7_write_40 : decode cX7_write 40 = .ok (.invokevirtual 43, 3) := by decide +kernel
theorem dX7_write_43 : decode cX7_write 43 = .ok (.iinc 2 1, 3) := by decide +kernel
theorem dX7_write_46 : decode cX7_write 46 = .ok (.goto (-27), 3) := by decide +kernel
theorem dX7_write_49 : decode cX7_write 49 = .ok (.iconst 0, 1) := by decide +kernel
theorem dX7_write_50 : decode cX7_write 50 = .ok (.istore_n 2, 1) := by decide +kernel
theorem dX7_write_51 : decode cX7_write 51 = .ok (.iload_n 2, 1) := by decide +kernel
theorem dX7_write_52 : decode cX7_write 52 = .ok (.iconst 4, 1) := by decide +kernel
theorem dX7_write_53 : decode cX7_write 53 = .ok (.if_icmp .ge 13, 3) := by decide +kernel
theorem dX7_write_56 : decode cX7_write 56 = .ok (.aload_n 0, 1) := by decide +kernel
theorem dX7_write_57 : decode cX7_write 57 = .ok (.invokevirtual 47, 3) := by decide +kernel
theorem dX7_write_60 : decode cX7_write 60 = .ok (.iinc 2 1, 3) := by decide +kernel
theorem dX7_write_63 : decode cX7_write 63 = .ok (.goto (-12), 3) := by decide +kernel
theorem dX7_write_66 : decode cX7_write 66 = .ok (.return_, 1) := by decide +kernel
theorem dX7_byteAt_0 : decode cX7_byteAt 0 = .ok (.iload_n 1, 1) := by decide +kernel
theorem dX7_byteAt_1 : decode cX7_byteAt 1 = .ok (.iconst 0, 1) := by decide +kernel
theorem dX7_byteAt_2 : decode cX7_byteAt 2 = .ok (.aload_n 0, 1) := by decide +kernel
theorem dX7_byteAt_3 : decode cX7_byteAt 3 = .ok (.getfield 15, 3) := by decide +kernel
theorem dX7_byteAt_6 : decode cX7_byteAt 6 = .ok (.iconst 1, 1) := by decide +kernel
theorem dX7_byteAt_7 : decode cX7_byteAt 7 = .ok (.isub, 1) := by decide +kernel
theorem dX7_byteAt_8 : decode cX7_byteAt 8 = .ok (.invokestatic 50, 3) := by decide +kernel
theorem dX7_byteAt_11 : decode cX7_byteAt 11 = .ok (.ifCond .eq 12, 3) := by decide +kernel
theorem dX7_byteAt_14 : decode cX7_byteAt 14 = .ok (.aload_n 0, 1) := by decide +kernel
theorem dX7_byteAt_15 : decode cX7_byteAt 15 = .ok (.getfield 9, 3) := by decide +kernel
theorem dX7_byteAt_18 : decode cX7_byteAt 18 = .ok (.iload_n 1, 1) := by decide +kernel
theorem dX7_byteAt_19 : decode cX7_byteAt 19 = .ok (.iaload, 1) := by decide +kernel
theorem dX7_byteAt_20 : decode cX7_byteAt 20 = .ok (.goto 4, 3) := by decide +kernel
theorem dX7_byteAt_23 : decode cX7_byteAt 23 = .ok (.iconst 0, 1) := by decide +kernel
theorem dX7_byteAt_24 : decode cX7_byteAt 24 = .ok (.ireturn, 1) := by decide +kernel
theorem dX7_spoil_0 : decode cX7_spoil 0 = .ok (.iload_n 1, 1) := by decide +kernel
theorem dX7_spoil_1 : decode cX7_spoil 1 = .ok (.iconst 0, 1) := by decide +kernel
theorem dX7_spoil_2 : decode cX7_spoil 2 = .ok (.aload_n 0, 1) := by decide +kernel
theorem dX7_spoil_3 : decode cX7_spoil 3 = .ok (.getfield 15, 3) := by decide +kernel
theorem dX7_spoil_6 : decode cX7_spoil 6 = .ok (.iconst 1, 1) := by decide +kernel
theorem dX7_spoil_7 : decode cX7_spoil 7 = .ok (.isub, 1) := by decide +kernel
theorem dX7_spoil_8 : decode cX7_spoil 8 = .ok (.invokestatic 50, 3) := by decide +kernel
theorem dX7_spoil_11 : decode cX7_spoil 11 = .ok (.ifCond .eq 13, 3) := by decide +kernel
theorem dX7_spoil_14 : decode cX7_spoil 14 = .ok (.aload_n 0, 1) := by decide +kernel
theorem dX7_spoil_15 : decode cX7_spoil 15 = .ok (.getfield 9, 3) := by decide +kernel
theorem dX7_spoil_18 : decode cX7_spoil 18 = .ok (.iload_n 1, 1) := by decide +kernel
theorem dX7_spoil_19 : decode cX7_spoil 19 = .ok (.dup2, 1) := by decide +kernel
theorem dX7_spoil_20 : decode cX7_spoil 20 = .ok (.iaload, 1) := by decide +kernel
theorem dX7_spoil_21 : decode cX7_spoil 21 = .ok (.iload_n 2, 1) := by decide +kernel
theorem dX7_spoil_22 : decode cX7_spoil 22 = .ok (.ixor, 1) := by decide +kernel
theorem dX7_spoil_23 : decode cX7_spoil 23 = .ok (.iastore, 1) := by decide +kernel
theorem dX7_spoil_24 : decode cX7_spoil 24 = .ok (.return_, 1) := by decide +kernel
theorem dX7_readAgain_0 : decode cX7_readAgain 0 = .ok (.aload_n 2, 1) := by decide +kernel
theorem dX7_readAgain_1 : decode cX7_readAgain 1 = .ok (.aload_n 1, 1) := by decide +kernel
theorem dX7_readAgain_2 : decode cX7_readAgain 2 = .ok (.getfield 54, 3) := by decide +kernel
theorem dX7_readAgain_5 : decode cX7_readAgain 5 = .ok (.getfield 58, 3) := by decide +kernel
theorem dX7_readAgain_8 : decode cX7_readAgain 8 = .ok (.aload_n 1, 1) := by decide +kernel
theorem dX7_readAgain_9 : decode cX7_readAgain 9 = .ok (.getfield 54, 3) := by decide +kernel
theorem dX7_readAgain_12 : decode cX7_readAgain 12 = .ok (.getfield 63, 3) := by decide +kernel
theorem dX7_readAgain_15 : decode cX7_readAgain 15 = .ok (.invokevirtual 66, 3) := by decide +kernel
theorem dX7_readAgain_18 : decode cX7_readAgain 18 = .ok (.aload_n 0, 1) := by decide +kernel
theorem dX7_readAgain_19 : decode cX7_readAgain 19 = .ok (.iconst 0, 1) := by decide +kernel
theorem dX7_readAgain_20 : decode cX7_readAgain 20 = .ok (.putfield 31, 3) := by decide +kernel
theorem dX7_readAgain_23 : decode cX7_readAgain 23 = .ok (.aload_n 0, 1) := by decide +kernel
theorem dX7_readAgain_24 : decode cX7_readAgain 24 = .ok (.lconst 0, 1) := by decide +kernel
theorem dX7_readAgain_25 : decode cX7_readAgain 25 = .ok (.putfield 28, 3) := by decide +kernel
theorem dX7_readAgain_28 : decode cX7_readAgain 28 = .ok (.aload_n 0, 1) := by decide +kernel
theorem dX7_readAgain_29 : decode cX7_readAgain 29 = .ok (.ldc2_w 23, 3) := by decide +kernel
theorem dX7_readAgain_32 : decode cX7_readAgain 32 = .ok (.putfield 25, 3) := by decide +kernel
theorem dX7_readAgain_35 : decode cX7_readAgain 35 = .ok (.iconst 0, 1) := by decide +kernel
theorem dX7_readAgain_36 : decode cX7_readAgain 36 = .ok (.istore_n 3, 1) := by decide +kernel
theorem dX7_readAgain_37 : decode cX7_readAgain 37 = .ok (.iload_n 3, 1) := by decide +kernel
theorem dX7_readAgain_38 : decode cX7_readAgain 38 = .ok (.iconst 4, 1) := by decide +kernel
theorem dX7_readAgain_39 : decode cX7_readAgain 39 = .ok (.if_icmp .ge 13, 3) := by decide +kernel
theorem dX7_readAgain_42 : decode cX7_readAgain 42 = .ok (.aload_n 0, 1) := by decide +kernel
theorem dX7_readAgain_43 : decode cX7_readAgain 43 = .ok (.invokevirtual 69, 3) := by decide +kernel
theorem dX7_readAgain_46 : decode cX7_readAgain 46 = .ok (.iinc 3 1, 3) := by decide +kernel
theorem dX7_readAgain_49 : decode cX7_readAgain 49 = .ok (.goto (-12), 3) := by decide +kernel
theorem dX7_readAgain_52 : decode cX7_readAgain 52 = .ok (.iconst 0, 1) := by decide +kernel
theorem dX7_readAgain_53 : decode cX7_readAgain 53 = .ok (.istore_n 3, 1) := by decide +kernel
theorem dX7_readAgain_54 : decode cX7_readAgain 54 = .ok (.iconst 0, 1) := by decide +kernel
theorem dX7_readAgain_55 : decode cX7_readAgain 55 = .ok (.istore 4, 2) := by decide +kernel
theorem dX7_readAgain_57 : decode cX7_readAgain 57 = .ok (.iload 4, 2) := by decide +kernel
theorem dX7_readAgain_59 : decode cX7_readAgain 59 = .ok (.aload_n 1, 1) := by decide +kernel
theorem dX7_readAgain_60 : decode cX7_readAgain 60 = .ok (.getfield 34, 3) := by decide +kernel
theorem dX7_readAgain_63 : decode cX7_readAgain 63 = .ok (.if_icmp .ge 40, 3) := by decide +kernel
theorem dX7_readAgain_66 : decode cX7_readAgain 66 = .ok (.aload_n 0, 1) := by decide +kernel
theorem dX7_readAgain_67 : decode cX7_readAgain 67 = .ok (.aload_n 2, 1) := by decide +kernel
theorem dX7_readAgain_68 : decode cX7_readAgain 68 = .ok (.invokevirtual 72, 3) := by decide +kernel
theorem dX7_readAgain_71 : decode cX7_readAgain 71 = .ok (.invokevirtual 76, 3) := by decide +kernel
theorem dX7_readAgain_74 : decode cX7_readAgain 74 = .ok (.istore 5, 2) := by decide +kernel
theorem dX7_readAgain_76 : decode cX7_readAgain 76 = .ok (.aload_n 2, 1) := by decide +kernel
theorem dX7_readAgain_77 : decode cX7_readAgain 77 = .ok (.iload 5, 2) := by decide +kernel
theorem dX7_readAgain_79 : decode cX7_readAgain 79 = .ok (.invokevirtual 80, 3) := by decide +kernel
theorem dX7_readAgain_82 : decode cX7_readAgain 82 = .ok (.iload 5, 2) := by decide +kernel
theorem dX7_readAgain_84 : decode cX7_readAgain 84 = .ok (.aload_n 1, 1) := by decide +kernel
theorem dX7_readAgain_85 : decode cX7_readAgain 85 = .ok (.getfield 37, 3) := by decide +kernel
theorem dX7_readAgain_88 : decode cX7_readAgain 88 = .ok (.iload 4, 2) := by decide +kernel
theorem dX7_readAgain_90 : decode cX7_readAgain 90 = .ok (.iaload, 1) := by decide +kernel
theorem dX7_readAgain_91 : decode cX7_readAgain 91 = .ok (.if_icmp .ne 6, 3) := by decide +kernel
theorem dX7_readAgain_94 : decode cX7_readAgain 94 = .ok (.iinc 3 1, 3) := by decide +kernel
theorem dX7_readAgain_97 : decode cX7_readAgain 97 = .ok (.iinc 4 1, 3) := by decide +kernel
theorem dX7_readAgain_100 : decode cX7_readAgain 100 = .ok (.goto (-43), 3) := by decide +kernel
theorem dX7_readAgain_103 : decode cX7_readAgain 103 = .ok (.iload_n 3, 1) := by decide +kernel
theorem dX7_readAgain_104 : decode cX7_readAgain 104 = .ok (.ireturn, 1) := by decide +kernel
theorem dX7_writeSign_0 : decode cX7_writeSign 0 = .ok (.aload_n 0, 1) := by decide +kernel
end
section
theorem dX7_writeSign_1 : decode cX7_writeSign 1 = .ok (.iload_n 2, 1) := by decide +kernel
theorem dX7_writeSign_2 : decode cX7_writeSign 2 = .ok (.invokevirtual 84, 3) := by decide +kernel
theorem dX7_writeSign_5 : decode cX7_writeSign 5 = .ok (.lstore_n 3, 1) := by decide +kernel
theorem dX7_writeSign_6 : decode cX7_writeSign 6 = .ok (.iload_n 1, 1) := by decide +kernel
theorem dX7_writeSign_7 : decode cX7_writeSign 7 = .ok (.iconst 1, 1) := by decide +kernel
theorem dX7_writeSign_8 : decode cX7_writeSign 8 = .ok (.if_icmp .ne 11, 3) := by decide +kernel
theorem dX7_writeSign_11 : decode cX7_writeSign 11 = .ok (.aload_n 0, 1) := by decide +kernel
theorem dX7_writeSign_12 : decode cX7_writeSign 12 = .ok (.lload_n 3, 1) := by decide +kernel
theorem dX7_writeSign_13 : decode cX7_writeSign 13 = .ok (.putfield 25, 3) := by decide +kernel
theorem dX7_writeSign_16 : decode cX7_writeSign 16 = .ok (.goto 23, 3) := by decide +kernel
theorem dX7_writeSign_19 : decode cX7_writeSign 19 = .ok (.aload_n 0, 1) := by decide +kernel
theorem dX7_writeSign_20 : decode cX7_writeSign 20 = .ok (.dup, 1) := by decide +kernel
theorem dX7_writeSign_21 : decode cX7_writeSign 21 = .ok (.getfield 19, 3) := by decide +kernel
theorem dX7_writeSign_24 : decode cX7_writeSign 24 = .ok (.lload_n 3, 1) := by decide +kernel
theorem dX7_writeSign_25 : decode cX7_writeSign 25 = .ok (.ladd, 1) := by decide +kernel
theorem dX7_writeSign_26 : decode cX7_writeSign 26 = .ok (.putfield 19, 3) := by decide +kernel
theorem dX7_writeSign_29 : decode cX7_writeSign 29 = .ok (.aload_n 0, 1) := by decide +kernel
theorem dX7_writeSign_30 : decode cX7_writeSign 30 = .ok (.dup, 1) := by decide +kernel
theorem dX7_writeSign_31 : decode cX7_writeSign 31 = .ok (.getfield 25, 3) := by decide +kernel
theorem dX7_writeSign_34 : decode cX7_writeSign 34 = .ok (.lload_n 3, 1) := by decide +kernel
theorem dX7_writeSign_35 : decode cX7_writeSign 35 = .ok (.lsub, 1) := by decide +kernel
theorem dX7_writeSign_36 : decode cX7_writeSign 36 = .ok (.putfield 25, 3) := by decide +kernel
theorem dX7_writeSign_39 : decode cX7_writeSign 39 = .ok (.iconst 0, 1) := by decide +kernel
theorem dX7_writeSign_40 : decode cX7_writeSign 40 = .ok (.istore 5, 2) := by decide +kernel
theorem dX7_writeSign_42 : decode cX7_writeSign 42 = .ok (.iload 5, 2) := by decide +kernel
theorem dX7_writeSign_44 : decode cX7_writeSign 44 = .ok (.iconst 2, 1) := by decide +kernel
theorem dX7_writeSign_45 : decode cX7_writeSign 45 = .ok (.if_icmp .ge 36, 3) := by decide +kernel
theorem dX7_writeSign_48 : decode cX7_writeSign 48 = .ok (.aload_n 0, 1) := by decide +kernel
theorem dX7_writeSign_49 : decode cX7_writeSign 49 = .ok (.getfield 25, 3) := by decide +kernel
theorem dX7_writeSign_52 : decode cX7_writeSign 52 = .ok (.ldc2_w 88, 3) := by decide +kernel
theorem dX7_writeSign_55 : decode cX7_writeSign 55 = .ok (.lcmp, 1) := by decide +kernel
theorem dX7_writeSign_56 : decode cX7_writeSign 56 = .ok (.ifCond .ge 25, 3) := by decide +kernel
theorem dX7_writeSign_59 : decode cX7_writeSign 59 = .ok (.aload_n 0, 1) := by decide +kernel
theorem dX7_writeSign_60 : decode cX7_writeSign 60 = .ok (.invokevirtual 47, 3) := by decide +kernel
theorem dX7_writeSign_63 : decode cX7_writeSign 63 = .ok (.aload_n 0, 1) := by decide +kernel
theorem dX7_writeSign_64 : decode cX7_writeSign 64 = .ok (.dup, 1) := by decide +kernel
theorem dX7_writeSign_65 : decode cX7_writeSign 65 = .ok (.getfield 25, 3) := by decide +kernel
theorem dX7_writeSign_68 : decode cX7_writeSign 68 = .ok (.ldc2_w 90, 3) := by decide +kernel
theorem dX7_writeSign_71 : decode cX7_writeSign 71 = .ok (.lmul, 1) := by decide +kernel
theorem dX7_writeSign_72 : decode cX7_writeSign 72 = .ok (.putfield 25, 3) := by decide +kernel
theorem dX7_writeSign_75 : decode cX7_writeSign 75 = .ok (.iinc 5 1, 3) := by decide +kernel
theorem dX7_writeSign_78 : decode cX7_writeSign 78 = .ok (.goto (-36), 3) := by decide +kernel
theorem dX7_writeSign_81 : decode cX7_writeSign 81 = .ok (.return_, 1) := by decide +kernel
theorem dX7_readSign_0 : decode cX7_readSign 0 = .ok (.aload_n 0, 1) := by decide +kernel
theorem dX7_readSign_1 : decode cX7_readSign 1 = .ok (.iload_n 1, 1) := by decide +kernel
theorem dX7_readSign_2 : decode cX7_readSign 2 = .ok (.invokevirtual 84, 3) := by decide +kernel
theorem dX7_readSign_5 : decode cX7_readSign 5 = .ok (.lstore_n 2, 1) := by decide +kernel
theorem dX7_readSign_6 : decode cX7_readSign 6 = .ok (.aload_n 0, 1) := by decide +kernel
theorem dX7_readSign_7 : decode cX7_readSign 7 = .ok (.getfield 28, 3) := by decide +kernel
theorem dX7_readSign_10 : decode cX7_readSign 10 = .ok (.lload_n 2, 1) := by decide +kernel
theorem dX7_readSign_11 : decode cX7_readSign 11 = .ok (.lcmp, 1) := by decide +kernel
theorem dX7_readSign_12 : decode cX7_readSign 12 = .ok (.ifCond .ge 7, 3) := by decide +kernel
theorem dX7_readSign_15 : decode cX7_readSign 15 = .ok (.iconst 1, 1) := by decide +kernel
theorem dX7_readSign_16 : decode cX7_readSign 16 = .ok (.goto 4, 3) := by decide +kernel
theorem dX7_readSign_19 : decode cX7_readSign 19 = .ok (.iconst 0, 1) := by decide +kernel
theorem dX7_readSign_20 : decode cX7_readSign 20 = .ok (.istore 4, 2) := by decide +kernel
theorem dX7_readSign_22 : decode cX7_readSign 22 = .ok (.iload 4, 2) := by decide +kernel
theorem dX7_readSign_24 : decode cX7_readSign 24 = .ok (.iconst 1, 1) := by decide +kernel
theorem dX7_readSign_25 : decode cX7_readSign 25 = .ok (.if_icmp .ne 11, 3) := by decide +kernel
theorem dX7_readSign_28 : decode cX7_readSign 28 = .ok (.aload_n 0, 1) := by decide +kernel
theorem dX7_readSign_29 : decode cX7_readSign 29 = .ok (.lload_n 2, 1) := by decide +kernel
theorem dX7_readSign_30 : decode cX7_readSign 30 = .ok (.putfield 25, 3) := by decide +kernel
theorem dX7_readSign_33 : decode cX7_readSign 33 = .ok (.goto 23, 3) := by decide +kernel
theorem dX7_readSign_36 : decode cX7_readSign 36 = .ok (.aload_n 0, 1) := by decide +kernel
theorem dX7_readSign_37 : decode cX7_readSign 37 = .ok (.dup, 1) := by decide +kernel
theorem dX7_readSign_38 : decode cX7_readSign 38 = .ok (.getfield 28, 3) := by decide +kernel
theorem dX7_readSign_41 : decode cX7_readSign 41 = .ok (.lload_n 2, 1) := by decide +kernel
theorem dX7_readSign_42 : decode cX7_readSign 42 = .ok (.lsub, 1) := by decide +kernel
theorem dX7_readSign_43 : decode cX7_readSign 43 = .ok (.putfield 28, 3) := by decide +kernel
theorem dX7_readSign_46 : decode cX7_readSign 46 = .ok (.aload_n 0, 1) := by decide +kernel
theorem dX7_readSign_47 : decode cX7_readSign 47 = .ok (.dup, 1) := by decide +kernel
theorem dX7_readSign_48 : decode cX7_readSign 48 = .ok (.getfield 25, 3) := by decide +kernel
theorem dX7_readSign_51 : decode cX7_readSign 51 = .ok (.lload_n 2, 1) := by decide +kernel
theorem dX7_readSign_52 : decode cX7_readSign 52 = .ok (.lsub, 1) := by decide +kernel
theorem dX7_readSign_53 : decode cX7_readSign 53 = .ok (.putfield 25, 3) := by decide +kernel
theorem dX7_readSign_56 : decode cX7_readSign 56 = .ok (.iconst 0, 1) := by decide +kernel
theorem dX7_readSign_57 : decode cX7_readSign 57 = .ok (.istore 5, 2) := by decide +kernel
theorem dX7_readSign_59 : decode cX7_readSign 59 = .ok (.iload 5, 2) := by decide +kernel
theorem dX7_readSign_61 : decode cX7_readSign 61 = .ok (.iconst 2, 1) := by decide +kernel
theorem dX7_readSign_62 : decode cX7_readSign 62 = .ok (.if_icmp .ge 36, 3) := by decide +kernel
theorem dX7_readSign_65 : decode cX7_readSign 65 = .ok (.aload_n 0, 1) := by decide +kernel
theorem dX7_readSign_66 : decode cX7_readSign 66 = .ok (.getfield 25, 3) := by decide +kernel
theorem dX7_readSign_69 : decode cX7_readSign 69 = .ok (.ldc2_w 88, 3) := by decide +kernel
theorem dX7_readSign_72 : decode cX7_readSign 72 = .ok (.lcmp, 1) := by decide +kernel
theorem dX7_readSign_73 : decode cX7_readSign 73 = .ok (.ifCond .ge 25, 3) := by decide +kernel
theorem dX7_readSign_76 : decode cX7_readSign 76 = .ok (.aload_n 0, 1) := by decide +kernel
theorem dX7_readSign_77 : decode cX7_readSign 77 = .ok (.invokevirtual 69, 3) := by decide +kernel
theorem dX7_readSign_80 : decode cX7_readSign 80 = .ok (.aload_n 0, 1) := by decide +kernel
theorem dX7_readSign_81 : decode cX7_readSign 81 = .ok (.dup, 1) := by decide +kernel
theorem dX7_readSign_82 : decode cX7_readSign 82 = .ok (.getfield 25, 3) := by decide +kernel
theorem dX7_readSign_85 : decode cX7_readSign 85 = .ok (.ldc2_w 90, 3) := by decide +kernel
theorem dX7_readSign_88 : decode cX7_readSign 88 = .ok (.lmul, 1) := by decide +kernel
theorem dX7_readSign_89 : decode cX7_readSign 89 = .ok (.putfield 25, 3) := by decide +kernel
theorem dX7_readSign_92 : decode cX7_readSign 92 = .ok (.iinc 5 1, 3) := by decide +kernel
theorem dX7_readSign_95 : decode cX7_readSign 95 = .ok (.goto (-36), 3) := by decide +kernel
theorem dX7_readSign_98 : decode cX7_readSign 98 = .ok (.iload 4, 2) := by decide +kernel
theorem dX7_readSign_100 : decode cX7_readSign 100 = .ok (.ireturn, 1) := by decide +kernel
theorem dX7_partOfOne_0 : decode cX7_partOfOne 0 = .ok (.aload_n 0, 1) := by decide +kernel
theorem dX7_partOfOne_1 : decode cX7_partOfOne 1 = .ok (.getfield 25, 3) := by decide +kernel
theorem dX7_partOfOne_4 : decode cX7_partOfOne 4 = .ok (.ldc2_w 92, 3) := by decide +kernel
theorem dX7_partOfOne_7 : decode cX7_partOfOne 7 = .ok (.ldiv, 1) := by decide +kernel
theorem dX7_partOfOne_8 : decode cX7_partOfOne 8 = .ok (.iload_n 1, 1) := by decide +kernel
theorem dX7_partOfOne_9 : decode cX7_partOfOne 9 = .ok (.i2l, 1) := by decide +kernel
theorem dX7_partOfOne_10 : decode cX7_partOfOne 10 = .ok (.lmul, 1) := by decide +kernel
theorem dX7_partOfOne_11 : decode cX7_partOfOne 11 = .ok (.lreturn, 1) := by decide +kernel
theorem dX7_sendByte_0 : decode cX7_sendByte 0 = .ok (.aload_n 0, 1) := by decide +kernel
theorem dX7_sendByte_1 : decode cX7_sendByte 1 = .ok (.getfield 19, 3) := by decide +kernel
theorem dX7_sendByte_4 : decode cX7_sendByte 4 = .ok (.ldc2_w 88, 3) := by decide +kernel
theorem dX7_sendByte_7 : decode cX7_sendByte 7 = .ok (.ldiv, 1) := by decide +kernel
theorem dX7_sendByte_8 : decode cX7_sendByte 8 = .ok (.lstore_n 1, 1) := by decide +kernel
theorem dX7_sendByte_9 : decode cX7_sendByte 9 = .ok (.lload_n 1, 1) := by decide +kernel
theorem dX7_sendByte_10 : decode cX7_sendByte 10 = .ok (.ldc2_w 94, 3) := by decide +kernel
theorem dX7_sendByte_13 : decode cX7_sendByte 13 = .ok (.lcmp, 1) := by decide +kernel
theorem dX7_sendByte_14 : decode cX7_sendByte 14 = .ok (.ifCond .le 7, 3) := by decide +kernel
theorem dX7_sendByte_17 : decode cX7_sendByte 17 = .ok (.aload_n 0, 1) := by decide +kernel
theorem dX7_sendByte_18 : decode cX7_sendByte 18 = .ok (.invokevirtual 96, 3) := by decide +kernel
theorem dX7_sendByte_21 : decode cX7_sendByte 21 = .ok (.aload_n 0, 1) := by decide +kernel
theorem dX7_sendByte_22 : decode cX7_sendByte 22 = .ok (.getfield 15, 3) := by decide +kernel
theorem dX7_sendByte_25 : decode cX7_sendByte 25 = .ok (.iconst 0, 1) := by decide +kernel
theorem dX7_sendByte_26 : decode cX7_sendByte 26 = .ok (.sipush 203, 3) := by decide +kernel
theorem dX7_sendByte_29 : decode cX7_sendByte 29 = .ok (.invokestatic 50, 3) := by decide +kernel
theorem dX7_sendByte_32 : decode cX7_sendByte 32 = .ok (.ifCond .eq 28, 3) := by decide +kernel
theorem dX7_sendByte_35 : decode cX7_sendByte 35 = .ok (.aload_n 0, 1) := by decide +kernel
theorem dX7_sendByte_36 : decode cX7_sendByte 36 = .ok (.getfield 9, 3) := by decide +kernel
theorem dX7_sendByte_39 : decode cX7_sendByte 39 = .ok (.aload_n 0, 1) := by decide +kernel
theorem dX7_sendByte_40 : decode cX7_sendByte 40 = .ok (.getfield 15, 3) := by decide +kernel
theorem dX7_sendByte_43 : decode cX7_sendByte 43 = .ok (.lload_n 1, 1) := by decide +kernel
theorem dX7_sendByte_44 : decode cX7_sendByte 44 = .ok (.ldc2_w 94, 3) := by decide +kernel
theorem dX7_sendByte_47 : decode cX7_sendByte 47 = .ok (.land, 1) := by decide +kernel
theorem dX7_sendByte_48 : decode cX7_sendByte 48 = .ok (.l2i, 1) := by decide +kernel
theorem dX7_sendByte_49 : decode cX7_sendByte 49 = .ok (.iastore, 1) := by decide +kernel
theorem dX7_sendByte_50 : decode cX7_sendByte 50 = .ok (.aload_n 0, 1) := by decide +kernel
theorem dX7_sendByte_51 : decode cX7_sendByte 51 = .ok (.dup, 1) := by decide +kernel
theorem dX7_sendByte_52 : decode cX7_sendByte 52 = .ok (.getfield 15, 3) := by decide +kernel
theorem dX7_sendByte_55 : decode cX7_sendByte 55 = .ok (.iconst 1, 1) := by decide +kernel
theorem dX7_sendByte_56 : decode cX7_sendByte 56 = .ok (.iadd, 1) := by decide +kernel
theorem dX7_sendByte_57 : decode cX7_sendByte 57 = .ok (.putfield 15, 3) := by decide +kernel
theorem dX7_sendByte_60 : decode cX7_sendByte 60 = .ok (.aload_n 0, 1) := by decide +kernel
theorem dX7_sendByte_61 : decode cX7_sendByte 61 = .ok (.aload_n 0, 1) := by decide +kernel
theorem dX7_sendByte_62 : decode cX7_sendByte 62 = .ok (.getfield 19, 3) := by decide +kernel
theorem dX7_sendByte_65 : decode cX7_sendByte 65 = .ok (.ldc2_w 88, 3) := by decide +kernel
theorem dX7_sendByte_68 : decode cX7_sendByte 68 = .ok (.lrem, 1) := by decide +kernel
theorem dX7_sendByte_69 : decode cX7_sendByte 69 = .ok (.ldc2_w 90, 3) := by decide +kernel
theorem dX7_sendByte_72 : decode cX7_sendByte 72 = .ok (.lmul, 1) := by decide +kernel
theorem dX7_sendByte_73 : decode cX7_sendByte 73 = .ok (.putfield 19, 3) := by decide +kernel
theorem dX7_sendByte_76 : decode cX7_sendByte 76 = .ok (.return_, 1) := by decide +kernel
theorem dX7_carry_0 : decode cX7_carry 0 = .ok (.aload_n 0, 1) := by decide +kernel
theorem dX7_carry_1 : decode cX7_carry 1 = .ok (.getfield 15, 3) := by decide +kernel
theorem dX7_carry_4 : decode cX7_carry 4 = .ok (.iconst 1, 1) := by decide +kernel
theorem dX7_carry_5 : decode cX7_carry 5 = .ok (.isub, 1) := by decide +kernel
theorem dX7_carry_6 : decode cX7_carry 6 = .ok (.istore_n 1, 1) := by decide +kernel
theorem dX7_carry_7 : decode cX7_carry 7 = .ok (.iload_n 1, 1) := by decide +kernel
theorem dX7_carry_8 : decode cX7_carry 8 = .ok (.ifCond .lt 39, 3) := by decide +kernel
theorem dX7_carry_11 : decode cX7_carry 11 = .ok (.aload_n 0, 1) := by decide +kernel
theorem dX7_carry_12 : decode cX7_carry 12 = .ok (.getfield 9, 3) := by decide +kernel
theorem dX7_carry_15 : decode cX7_carry 15 = .ok (.iload_n 1, 1) := by decide +kernel
theorem dX7_carry_16 : decode cX7_carry 16 = .ok (.aload_n 0, 1) := by decide +kernel
theorem dX7_carry_17 : decode cX7_carry 17 = .ok (.getfield 9, 3) := by decide +kernel
theorem dX7_carry_20 : decode cX7_carry 20 = .ok (.iload_n 1, 1) := by decide +kernel
theorem dX7_carry_21 : decode cX7_carry 21 = .ok (.iaload, 1) := by decide +kernel
theorem dX7_carry_22 : decode cX7_carry 22 = .ok (.iconst 1, 1) := by decide +kernel
theorem dX7_carry_23 : decode cX7_carry 23 = .ok (.iadd, 1) := by decide +kernel
theorem dX7_carry_24 : decode cX7_carry 24 = .ok (.sipush 255, 3) := by decide +kernel
theorem dX7_carry_27 : decode cX7_carry 27 = .ok (.iand, 1) := by decide +kernel
theorem dX7_carry_28 : decode cX7_carry 28 = .ok (.iastore, 1) := by decide +kernel
theorem dX7_carry_29 : decode cX7_carry 29 = .ok (.aload_n 0, 1) := by decide +kernel
theorem dX7_carry_30 : decode cX7_carry 30 = .ok (.getfield 9, 3) := by decide +kernel
theorem dX7_carry_33 : decode cX7_carry 33 = .ok (.iload_n 1, 1) := by decide +kernel
theorem dX7_carry_34 : decode cX7_carry 34 = .ok (.iaload, 1) := by decide +kernel
theorem dX7_carry_35 : decode cX7_carry 35 = .ok (.ifCond .eq 6, 3) := by decide +kernel
theorem dX7_carry_38 : decode cX7_carry 38 = .ok (.goto 9, 3) := by decide +kernel
theorem dX7_carry_41 : decode cX7_carry 41 = .ok (.iinc 1 (-1), 3) := by decide +kernel
theorem dX7_carry_44 : decode cX7_carry 44 = .ok (.goto (-37), 3) := by decide +kernel
theorem dX7_carry_47 : decode cX7_carry 47 = .ok (.return_, 1) := by decide +kernel
theorem dX7_fetchByte_0 : decode cX7_fetchByte 0 = .ok (.aload_n 0, 1) := by decide +kernel
theorem dX7_fetchByte_1 : decode cX7_fetchByte 1 = .ok (.aload_n 0, 1) := by decide +kernel
theorem dX7_fetchByte_2 : decode cX7_fetchByte 2 = .ok (.getfield 28, 3) := by decide +kernel
theorem dX7_fetchByte_5 : decode cX7_fetchByte 5 = .ok (.ldc2_w 90, 3) := by decide +kernel
theorem dX7_fetchByte_8 : decode cX7_fetchByte 8 = .ok (.lmul, 1) := by decide +kernel
theorem dX7_fetchByte_9 : decode cX7_fetchByte 9 = .ok (.aload_n 0, 1) := by decide +kernel
theorem dX7_fetchByte_10 : decode cX7_fetchByte 10 = .ok (.aload_n 0, 1) := by decide +kernel
theorem dX7_fetchByte_11 : decode cX7_fetchByte 11 = .ok (.getfield 31, 3) := by decide +kernel
theorem dX7_fetchByte_14 : decode cX7_fetchByte 14 = .ok (.invokevirtual 99, 3) := by decide +kernel
theorem dX7_fetchByte_17 : decode cX7_fetchByte 17 = .ok (.i2l, 1) := by decide +kernel
theorem dX7_fetchByte_18 : decode cX7_fetchByte 18 = .ok (.ladd, 1) := by decide +kernel
theorem dX7_fetchByte_19 : decode cX7_fetchByte 19 = .ok (.putfield 28, 3) := by decide +kernel
theorem dX7_fetchByte_22 : decode cX7_fetchByte 22 = .ok (.aload_n 0, 1) := by decide +kernel
theorem dX7_fetchByte_23 : decode cX7_fetchByte 23 = .ok (.dup, 1) := by decide +kernel
theorem dX7_fetchByte_24 : decode cX7_fetchByte 24 = .ok (.getfield 31, 3) := by decide +kernel
theorem dX7_fetchByte_27 : decode cX7_fetchByte 27 = .ok (.iconst 1, 1) := by decide +kernel
theorem dX7_fetchByte_28 : decode cX7_fetchByte 28 = .ok (.iadd, 1) := by decide +kernel
theorem dX7_fetchByte_29 : decode cX7_fetchByte 29 = .ok (.putfield 31, 3) := by decide +kernel
theorem dX7_fetchByte_32 : decode cX7_fetchByte 32 = .ok (.return_, 1) := by decide +kernel
theorem dX8_init_0 : decode cX8_init 0 = .ok (.aload_n 0, 1) := by decide +kernel
theorem dX8_init_1 : decode cX8_init 1 = .ok (.invokespecial 3, 3) := by decide +kernel
theorem dX8_init_4 : decode cX8_init 4 = .ok (.aload_n 0, 1) := by decide +kernel
theorem dX8_init_5 : decode cX8_init 5 = .ok (.new 9, 3) := by decide +kernel
theorem dX8_init_8 : decode cX8_init 8 = .ok (.dup, 1) := by decide +kernel
theorem dX8_init_9 : decode cX8_init 9 = .ok (.invokespecial 11, 3) := by decide +kernel
theorem dX8_init_12 : decode cX8_init 12 = .ok (.putfield 12, 3) := by decide +kernel
theorem dX8_init_15 : decode cX8_init 15 = .ok (.aload_n 0, 1) := by decide +kernel
theorem dX8_init_16 : decode cX8_init 16 = .ok (.new 16, 3) := by decide +kernel
theorem dX8_init_19 : decode cX8_init 19 = .ok (.dup, 1) := by decide +kernel
theorem dX8_init_20 : decode cX8_init 20 = .ok (.invokespecial 18, 3) := by decide +kernel
theorem dX8_init_23 : decode cX8_init 23 = .ok (.putfield 19, 3) := by decide +kernel
theorem dX8_init_26 : decode cX8_init 26 = .ok (.aload_n 0, 1) := by decide +kernel
theorem dX8_init_27 : decode cX8_init 27 = .ok (.new 23, 3) := by decide +kernel
theorem dX8_init_30 : decode cX8_init 30 = .ok (.dup, 1) := by decide +kernel
theorem dX8_init_31 : decode cX8_init 31 = .ok (.invokespecial 25, 3) := by decide +kernel
theorem dX8_init_34 : decode cX8_init 34 = .ok (.putfield 26, 3) := by decide +kernel
theorem dX8_init_37 : decode cX8_init 37 = .ok (.aload_n 0, 1) := by decide +kernel
theorem dX8_init_38 : decode cX8_init 38 = .ok (.new 30, 3) := by decide +kernel
theorem dX8_init_41 : decode cX8_init 41 = .ok (.dup, 1) := by decide +kernel
theorem dX8_init_42 : decode cX8_init 42 = .ok (.invokespecial 32, 3) := by decide +kernel
theorem dX8_init_45 : decode cX8_init 45 = .ok (.putfield 33, 3) := by decide +kernel
theorem dX8_init_48 : decode cX8_init 48 = .ok (.aload_n 0, 1) := by decide +kernel
theorem dX8_init_49 : decode cX8_init 49 = .ok (.new 37, 3) := by decide +kernel
theorem dX8_init_52 : decode cX8_init 52 = .ok (.dup, 1) := by decide +kernel
theorem dX8_init_53 : decode cX8_init 53 = .ok (.invokespecial 39, 3) := by decide +kernel
theorem dX8_init_56 : decode cX8_init 56 = .ok (.putfield 40, 3) := by decide +kernel
theorem dX8_init_59 : decode cX8_init 59 = .ok (.aload_n 0, 1) := by decide +kernel
theorem dX8_init_60 : decode cX8_init 60 = .ok (.new 44, 3) := by decide +kernel
theorem dX8_init_63 : decode cX8_init 63 = .ok (.dup, 1) := by decide +kernel
theorem dX8_init_64 : decode cX8_init 64 = .ok (.invokespecial 46, 3) := by decide +kernel
theorem dX8_init_67 : decode cX8_init 67 = .ok (.putfield 47, 3) := by decide +kernel
theorem dX8_init_70 : decode cX8_init 70 = .ok (.aload_n 0, 1) := by decide +kernel
theorem dX8_init_71 : decode cX8_init 71 = .ok (.new 51, 3) := by decide +kernel
theorem dX8_init_74 : decode cX8_init 74 = .ok (.dup, 1) := by decide +kernel
theorem dX8_init_75 : decode cX8_init 75 = .ok (.invokespecial 53, 3) := by decide +kernel
theorem dX8_init_78 : decode cX8_init 78 = .ok (.putfield 54, 3) := by decide +kernel
theorem dX8_init_81 : decode cX8_init 81 = .ok (.aload_n 0, 1) := by decide +kernel
theorem dX8_init_82 : decode cX8_init 82 = .ok (.iconst 0, 1) := by decide +kernel
theorem dX8_init_83 : decode cX8_init 83 = .ok (.putfield 58, 3) := by decide +kernel
theorem dX8_init_86 : decode cX8_init 86 = .ok (.aload_n 0, 1) := by decide +kernel
theorem dX8_init_87 : decode cX8_init 87 = .ok (.iconst 0, 1) := by decide +kernel
theorem dX8_init_88 : decode cX8_init 88 = .ok (.putfield 62, 3) := by decide +kernel
theorem dX8_init_91 : decode cX8_init 91 = .ok (.aload_n 0, 1) := by decide +kernel
theorem dX8_init_92 : decode cX8_init 92 = .ok (.iconst 0, 1) := by decide +kernel
theorem dX8_init_93 : decode cX8_init 93 = .ok (.putfield 65, 3) := by decide +kernel
theorem dX8_init_96 : decode cX8_init 96 = .ok (.return_, 1) := by decide +kernel
theorem dX8_sign_0 : decode cX8_sign 0 = .ok (.iload_n 1, 1) := by decide +kernel
theorem dX8_sign_1 : decode cX8_sign 1 = .ok (.iconst 0, 1) := by decide +kernel
theorem dX8_sign_2 : decode cX8_sign 2 = .ok (.iconst 1, 1) := by decide +kernel
theorem dX8_sign_3 : decode cX8_sign 3 = .ok (.invokestatic 68, 3) := by decide +kernel
theorem dX8_sign_6 : decode cX8_sign 6 = .ok (.ifCond .ne 10, 3) := by decide +kernel
theorem dX8_sign_9 : decode cX8_sign 9 = .ok (.aload_n 0, 1) := by decide +kernel
theorem dX8_sign_10 : decode cX8_sign 10 = .ok (.bipush (-2), 2) := by decide +kernel
theorem dX8_sign_12 : decode cX8_sign 12 = .ok (.invokevirtual 72, 3) := by decide +kernel
theorem dX8_sign_15 : decode cX8_sign 15 = .ok (.ireturn, 1) := by decide +kernel
theorem dX8_sign_16 : decode cX8_sign 16 = .ok (.aload_n 0, 1) := by decide +kernel
theorem dX8_sign_17 : decode cX8_sign 17 = .ok (.iconst 1, 1) := by decide +kernel
theorem dX8_sign_18 : decode cX8_sign 18 = .ok (.invokevirtual 76, 3) := by decide +kernel
theorem dX8_sign_21 : decode cX8_sign 21 = .ok (.ifCond .ne 10, 3) := by decide +kernel
theorem dX8_sign_24 : decode cX8_sign 24 = .ok (.aload_n 0, 1) := by decide +kernel
theorem dX8_sign_25 : decode cX8_sign 25 = .ok (.bipush (-4), 2) := by decide +kernel
theorem dX8_sign_27 : decode cX8_sign 27 = .ok (.invokevirtual 72, 3) := by decide +kernel
theorem dX8_sign_30 : decode cX8_sign 30 = .ok (.ireturn, 1) := by decide +kernel
theorem dX8_sign_31 : decode cX8_sign 31 = .ok (.aload_n 0, 1) := by decide +kernel
theorem dX8_sign_32 : decode cX8_sign 32 = .ok (.getfield 54, 3) := by decide +kernel
theorem dX8_sign_35 : decode cX8_sign 35 = .ok (.aload_n 0, 1) := by decide +kernel
theorem dX8_sign_36 : decode cX8_sign 36 = .ok (.getfield 12, 3) := by decide +kernel
theorem dX8_sign_39 : decode cX8_sign 39 = .ok (.invokevirtual 80, 3) := by decide +kernel
theorem dX8_sign_42 : decode cX8_sign 42 = .ok (.aload_n 0, 1) := by decide +kernel
theorem dX8_sign_43 : decode cX8_sign 43 = .ok (.getfield 12, 3) := by decide +kernel
theorem dX8_sign_46 : decode cX8_sign 46 = .ok (.iload_n 1, 1) := by decide +kernel
theorem dX8_sign_47 : decode cX8_sign 47 = .ok (.invokevirtual 84, 3) := by decide +kernel
theorem dX8_sign_50 : decode cX8_sign 50 = .ok (.ireturn, 1) := by decide +kernel
theorem dX8_signs_0 : decode cX8_signs 0 = .ok (.iload_n 3, 1) := by decide +kernel
theorem dX8_signs_1 : decode cX8_signs 1 = .ok (.iconst 1, 1) := by decide +kernel
theorem dX8_signs_2 : decode cX8_signs 2 = .ok (.bipush 64, 2) := by decide +kernel
theorem dX8_signs_4 : decode cX8_signs 4 = .ok (.invokestatic 68, 3) := by decide +kernel
theorem dX8_signs_7 : decode cX8_signs 7 = .ok (.ifCond .ne 10, 3) := by decide +kernel
theorem dX8_signs_10 : decode cX8_signs 10 = .ok (.aload_n 0, 1) := by decide +kernel
theorem dX8_signs_11 : decode cX8_signs 11 = .ok (.bipush (-2), 2) := by decide +kernel
theorem dX8_signs_13 : decode cX8_signs 13 = .ok (.invokevirtual 72, 3) := by decide +kernel
theorem dX8_signs_16 : decode cX8_signs 16 = .ok (.ireturn, 1) := by decide +kernel
theorem dX8_signs_17 : decode cX8_signs 17 = .ok (.aload_n 0, 1) := by decide +kernel
theorem dX8_signs_18 : decode cX8_signs 18 = .ok (.iload_n 3, 1) := by decide +kernel
theorem dX8_signs_19 : decode cX8_signs 19 = .ok (.invokevirtual 76, 3) := by decide +kernel
theorem dX8_signs_22 : decode cX8_signs 22 = .ok (.ifCond .ne 10, 3) := by decide +kernel
theorem dX8_signs_25 : decode cX8_signs 25 = .ok (.aload_n 0, 1) := by decide +kernel
theorem dX8_signs_26 : decode cX8_signs 26 = .ok (.bipush (-4), 2) := by decide +kernel
theorem dX8_signs_28 : decode cX8_signs 28 = .ok (.invokevirtual 72, 3) := by decide +kernel
theorem dX8_signs_31 : decode cX8_signs 31 = .ok (.ireturn, 1) := by decide +kernel
theorem dX8_signs_32 : decode cX8_signs 32 = .ok (.aload_n 0, 1) := by decide +kernel
theorem dX8_signs_33 : decode cX8_signs 33 = .ok (.getfield 54, 3) := by decide +kernel
theorem dX8_signs_36 : decode cX8_signs 36 = .ok (.aload_n 0, 1) := by decide +kernel
theorem dX8_signs_37 : decode cX8_signs 37 = .ok (.getfield 12, 3) := by decide +kernel
theorem dX8_signs_40 : decode cX8_signs 40 = .ok (.invokevirtual 80, 3) := by decide +kernel
theorem dX8_signs_43 : decode cX8_signs 43 = .ok (.iconst 0, 1) := by decide +kernel
theorem dX8_signs_44 : decode cX8_signs 44 = .ok (.istore 4, 2) := by decide +kernel
theorem dX8_signs_46 : decode cX8_signs 46 = .ok (.iconst 0, 1) := by decide +kernel
theorem dX8_signs_47 : decode cX8_signs 47 = .ok (.istore 5, 2) := by decide +kernel
theorem dX8_signs_49 : decode cX8_signs 49 = .ok (.iload 5, 2) := by decide +kernel
theorem dX8_signs_51 : decode cX8_signs 51 = .ok (.iload_n 3, 1) := by decide +kernel
theorem dX8_signs_52 : decode cX8_signs 52 = .ok (.if_icmp .ge 28, 3) := by decide +kernel
theorem dX8_signs_55 : decode cX8_signs 55 = .ok (.iload 4, 2) := by decide +kernel
theorem dX8_signs_57 : decode cX8_signs 57 = .ok (.aload_n 0, 1) := by decide +kernel
theorem dX8_signs_58 : decode cX8_signs 58 = .ok (.getfield 12, 3) := by decide +kernel
theorem dX8_signs_61 : decode cX8_signs 61 = .ok (.lload_n 1, 1) := by decide +kernel
theorem dX8_signs_62 : decode cX8_signs 62 = .ok (.iload 5, 2) := by decide +kernel
theorem dX8_signs_64 : decode cX8_signs 64 = .ok (.lushr, 1) := by decide +kernel
theorem dX8_signs_65 : decode cX8_signs 65 = .ok (.lconst 1, 1) := by decide +kernel
theorem dX8_signs_66 : decode cX8_signs 66 = .ok (.land, 1) := by decide +kernel
theorem dX8_signs_67 : decode cX8_signs 67 = .ok (.l2i, 1) := by decide +kernel
theorem dX8_signs_68 : decode cX8_signs 68 = .ok (.invokevirtual 84, 3) := by decide +kernel
theorem dX8_signs_71 : decode cX8_signs 71 = .ok (.iadd, 1) := by decide +kernel
theorem dX8_signs_72 : decode cX8_signs 72 = .ok (.istore 4, 2) := by decide +kernel
theorem dX8_signs_74 : decode cX8_signs 74 = .ok (.iinc 5 1, 3) := by decide +kernel
theorem dX8_signs_77 : decode cX8_signs 77 = .ok (.goto (-28), 3) := by decide +kernel
theorem dX8_signs_80 : decode cX8_signs 80 = .ok (.iload 4, 2) := by decide +kernel
theorem dX8_signs_82 : decode cX8_signs 82 = .ok (.ireturn, 1) := by decide +kernel
theorem dX8_draw_0 : decode cX8_draw 0 = .ok (.iload_n 1, 1) := by decide +kernel
theorem dX8_draw_1 : decode cX8_draw 1 = .ok (.iconst 0, 1) := by decide +kernel
theorem dX8_draw_2 : decode cX8_draw 2 = .ok (.ldc 87, 2) := by decide +kernel
theorem dX8_draw_4 : decode cX8_draw 4 = .ok (.invokestatic 68, 3) := by decide +kernel
theorem dX8_draw_7 : decode cX8_draw 7 = .ok (.ifCond .eq 23, 3) := by decide +kernel
theorem dX8_draw_10 : decode cX8_draw 10 = .ok (.iload_n 2, 1) := by decide +kernel
theorem dX8_draw_11 : decode cX8_draw 11 = .ok (.iconst 1, 1) := by decide +kernel
theorem dX8_draw_12 : decode cX8_draw 12 = .ok (.bipush 100, 2) := by decide +kernel
theorem dX8_draw_14 : decode cX8_draw 14 = .ok (.invokestatic 68, 3) := by decide +kernel
theorem dX8_draw_17 : decode cX8_draw 17 = .ok (.ifCond .eq 13, 3) := by decide +kernel
theorem dX8_draw_20 : decode cX8_draw 20 = .ok (.iload_n 3, 1) := by decide +kernel
theorem dX8_draw_21 : decode cX8_draw 21 = .ok (.iconst 0, 1) := by decide +kernel
theorem dX8_draw_22 : decode cX8_draw 22 = .ok (.bipush 100, 2) := by decide +kernel
theorem dX8_draw_24 : decode cX8_draw 24 = .ok (.invokestatic 68, 3) := by decide +kernel
theorem dX8_draw_27 : decode cX8_draw 27 = .ok (.ifCond .ne 10, 3) := by decide +kernel
theorem dX8_draw_30 : decode cX8_draw 30 = .ok (.aload_n 0, 1) := by decide +kernel
theorem dX8_draw_31 : decode cX8_draw 31 = .ok (.bipush (-2), 2) := by decide +kernel
theorem dX8_draw_33 : decode cX8_draw 33 = .ok (.invokevirtual 72, 3) := by decide +kernel
theorem dX8_draw_36 : decode cX8_draw 36 = .ok (.ireturn, 1) := by decide +kernel
theorem dX8_draw_37 : decode cX8_draw 37 = .ok (.aload_n 0, 1) := by decide +kernel
theorem dX8_draw_38 : decode cX8_draw 38 = .ok (.iload_n 2, 1) := by decide +kernel
theorem dX8_draw_39 : decode cX8_draw 39 = .ok (.invokevirtual 76, 3) := by decide +kernel
theorem dX8_draw_42 : decode cX8_draw 42 = .ok (.ifCond .ne 10, 3) := by decide +kernel
theorem dX8_draw_45 : decode cX8_draw 45 = .ok (.aload_n 0, 1) := by decide +kernel
theorem dX8_draw_46 : decode cX8_draw 46 = .ok (.bipush (-4), 2) := by decide +kernel
theorem dX8_draw_48 : decode cX8_draw 48 = .ok (.invokevirtual 72, 3) := by decide +kernel
theorem dX8_draw_51 : decode cX8_draw 51 = .ok (.ireturn, 1) := by decide +kernel
theorem dX8_draw_52 : decode cX8_draw 52 = .ok (.aload_n 0, 1) := by decide +kernel
theorem dX8_draw_53 : decode cX8_draw 53 = .ok (.getfield 54, 3) := by decide +kernel
theorem dX8_draw_56 : decode cX8_draw 56 = .ok (.aload_n 0, 1) := by decide +kernel
theorem dX8_draw_57 : decode cX8_draw 57 = .ok (.getfield 12, 3) := by decide +kernel
theorem dX8_draw_60 : decode cX8_draw 60 = .ok (.invokevirtual 80, 3) := by decide +kernel
theorem dX8_draw_63 : decode cX8_draw 63 = .ok (.iload_n 1, 1) := by decide +kernel
theorem dX8_draw_64 : decode cX8_draw 64 = .ok (.i2l, 1) := by decide +kernel
theorem dX8_draw_65 : decode cX8_draw 65 = .ok (.lstore 4, 2) := by decide +kernel
theorem dX8_draw_67 : decode cX8_draw 67 = .ok (.iconst 0, 1) := by decide +kernel
theorem dX8_draw_68 : decode cX8_draw 68 = .ok (.istore 6, 2) := by decide +kernel
theorem dX8_draw_70 : decode cX8_draw 70 = .ok (.iconst 0, 1) := by decide +kernel
theorem dX8_draw_71 : decode cX8_draw 71 = .ok (.istore 7, 2) := by decide +kernel
theorem dX8_draw_73 : decode cX8_draw 73 = .ok (.iload 7, 2) := by decide +kernel
theorem dX8_draw_75 : decode cX8_draw 75 = .ok (.iload_n 2, 1) := by decide +kernel
theorem dX8_draw_76 : decode cX8_draw 76 = .ok (.if_icmp .ge 65, 3) := by decide +kernel
theorem dX8_draw_79 : decode cX8_draw 79 = .ok (.lload 4, 2) := by decide +kernel
theorem dX8_draw_81 : decode cX8_draw 81 = .ok (.ldc2_w 88, 3) := by decide +kernel
theorem dX8_draw_84 : decode cX8_draw 84 = .ok (.lmul, 1) := by decide +kernel
theorem dX8_draw_85 : decode cX8_draw 85 = .ok (.ldc2_w 90, 3) := by decide +kernel
theorem dX8_draw_88 : decode cX8_draw 88 = .ok (.ladd, 1) := by decide +kernel
theorem dX8_draw_89 : decode cX8_draw 89 = .ok (.ldc2_w 92, 3) := by decide +kernel
theorem dX8_draw_92 : decode cX8_draw 92 = .ok (.lrem, 1) := by decide +kernel
theorem dX8_draw_93 : decode cX8_draw 93 = .ok (.lstore 4, 2) := by decide +kernel
theorem dX8_draw_95 : decode cX8_draw 95 = .ok (.lload 4, 2) := by decide +kernel
theorem dX8_draw_97 : decode cX8_draw 97 = .ok (.ldc2_w 94, 3) := by decide +kernel
theorem dX8_draw_100 : decode cX8_draw 100 = .ok (.ldiv, 1) := by decide +kernel
theorem dX8_draw_101 : decode cX8_draw 101 = .ok (.ldc2_w 96, 3) := by decide +kernel
theorem dX8_draw_104 : decode cX8_draw 104 = .ok (.lrem, 1) := by decide +kernel
theorem dX8_draw_105 : decode cX8_draw 105 = .ok (.iload_n 3, 1) := by decide +kernel
theorem dX8_draw_106 : decode cX8_draw 106 = .ok (.i2l, 1) := by decide +kernel
theorem dX8_draw_107 : decode cX8_draw 107 = .ok (.lcmp, 1) := by decide +kernel
theorem dX8_draw_108 : decode cX8_draw 108 = .ok (.ifCond .ge 7, 3) := by decide +kernel
theorem dX8_draw_111 : decode cX8_draw 111 = .ok (.iconst 1, 1) := by decide +kernel
theorem dX8_draw_112 : decode cX8_draw 112 = .ok (.goto 4, 3) := by decide +kernel
theorem dX8_draw_115 : decode cX8_draw 115 = .ok (.iconst 0, 1) := by decide +kernel
theorem dX8_draw_116 : decode cX8_draw 116 = .ok (.istore 8, 2) := by decide +kernel
theorem dX8_draw_118 : decode cX8_draw 118 = .ok (.aload_n 0, 1) := by decide +kernel
theorem dX8_draw_119 : decode cX8_draw 119 = .ok (.getfield 12, 3) := by decide +kernel
theorem dX8_draw_122 : decode cX8_draw 122 = .ok (.iload 8, 2) := by decide +kernel
theorem dX8_draw_124 : decode cX8_draw 124 = .ok (.invokevirtual 84, 3) := by decide +kernel
theorem dX8_draw_127 : decode cX8_draw 127 = .ok (.pop, 1) := by decide +kernel
theorem dX8_draw_128 : decode cX8_draw 128 = .ok (.iload 6, 2) := by decide +kernel
theorem dX8_draw_130 : decode cX8_draw 130 = .ok (.iload 8, 2) := by decide +kernel
theorem dX8_draw_132 : decode cX8_draw 132 = .ok (.iadd, 1) := by decide +kernel
theorem dX8_draw_133 : decode cX8_draw 133 = .ok (.istore 6, 2) := by decide +kernel
theorem dX8_draw_135 : decode cX8_draw 135 = .ok (.iinc 7 1, 3) := by decide +kernel
theorem dX8_draw_138 : decode cX8_draw 138 = .ok (.goto (-65), 3) := by decide +kernel
theorem dX8_draw_141 : decode cX8_draw 141 = .ok (.iload 6, 2) := by decide +kernel
theorem dX8_draw_143 : decode cX8_draw 143 = .ok (.ireturn, 1) := by decide +kernel
theorem dX8_sets_0 : decode cX8_sets 0 = .ok (.iload_n 1, 1) := by decide +kernel
theorem dX8_sets_1 : decode cX8_sets 1 = .ok (.iconst 0, 1) := by decide +kernel
theorem dX8_sets_2 : decode cX8_sets 2 = .ok (.iconst 1, 1) := by decide +kernel
theorem dX8_sets_3 : decode cX8_sets 3 = .ok (.invokestatic 68, 3) := by decide +kernel
theorem dX8_sets_6 : decode cX8_sets 6 = .ok (.ifCond .ne 10, 3) := by decide +kernel
theorem dX8_sets_9 : decode cX8_sets 9 = .ok (.aload_n 0, 1) := by decide +kernel
theorem dX8_sets_10 : decode cX8_sets 10 = .ok (.bipush (-2), 2) := by decide +kernel
theorem dX8_sets_12 : decode cX8_sets 12 = .ok (.invokevirtual 72, 3) := by decide +kernel
theorem dX8_sets_15 : decode cX8_sets 15 = .ok (.ireturn, 1) := by decide +kernel
theorem dX8_sets_16 : decode cX8_sets 16 = .ok (.iload_n 2, 1) := by decide +kernel
theorem dX8_sets_17 : decode cX8_sets 17 = .ok (.iconst 0, 1) := by decide +kernel
theorem dX8_sets_18 : decode cX8_sets 18 = .ok (.iload_n 1, 1) := by decide +kernel
theorem dX8_sets_19 : decode cX8_sets 19 = .ok (.ifCond .ne 8, 3) := by decide +kernel
theorem dX8_sets_22 : decode cX8_sets 22 = .ok (.bipush 6, 2) := by decide +kernel
theorem dX8_sets_24 : decode cX8_sets 24 = .ok (.goto 4, 3) := by decide +kernel
theorem dX8_sets_27 : decode cX8_sets 27 = .ok (.iconst 3, 1) := by decide +kernel
theorem dX8_sets_28 : decode cX8_sets 28 = .ok (.invokestatic 68, 3) := by decide +kernel
theorem dX8_sets_31 : decode cX8_sets 31 = .ok (.ifCond .ne 10, 3) := by decide +kernel
theorem dX8_sets_34 : decode cX8_sets 34 = .ok (.aload_n 0, 1) := by decide +kernel
theorem dX8_sets_35 : decode cX8_sets 35 = .ok (.bipush (-2), 2) := by decide +kernel
theorem dX8_sets_37 : decode cX8_sets 37 = .ok (.invokevirtual 72, 3) := by decide +kernel
theorem dX8_sets_40 : decode cX8_sets 40 = .ok (.ireturn, 1) := by decide +kernel
theorem dX8_sets_41 : decode cX8_sets 41 = .ok (.aload_n 0, 1) := by decide +kernel
theorem dX8_sets_42 : decode cX8_sets 42 = .ok (.getfield 54, 3) := by decide +kernel
theorem dX8_sets_45 : decode cX8_sets 45 = .ok (.aload_n 0, 1) := by decide +kernel
theorem dX8_sets_46 : decode cX8_sets 46 = .ok (.getfield 12, 3) := by decide +kernel
theorem dX8_sets_49 : decode cX8_sets 49 = .ok (.invokevirtual 80, 3) := by decide +kernel
theorem dX8_sets_52 : decode cX8_sets 52 = .ok (.aload_n 0, 1) := by decide +kernel
theorem dX8_sets_53 : decode cX8_sets 53 = .ok (.getfield 12, 3) := by decide +kernel
theorem dX8_sets_56 : decode cX8_sets 56 = .ok (.getfield 98, 3) := by decide +kernel
theorem dX8_sets_59 : decode cX8_sets 59 = .ok (.getfield 101, 3) := by decide +kernel
theorem dX8_sets_62 : decode cX8_sets 62 = .ok (.istore_n 3, 1) := by decide +kernel
theorem dX8_sets_63 : decode cX8_sets 63 = .ok (.aload_n 0, 1) := by decide +kernel
theorem dX8_sets_64 : decode cX8_sets 64 = .ok (.getfield 12, 3) := by decide +kernel
theorem dX8_sets_67 : decode cX8_sets 67 = .ok (.getfield 98, 3) := by decide +kernel
theorem dX8_sets_70 : decode cX8_sets 70 = .ok (.getfield 104, 3) := by decide +kernel
theorem dX8_sets_73 : decode cX8_sets 73 = .ok (.istore 4, 2) := by decide +kernel
theorem dX8_sets_75 : decode cX8_sets 75 = .ok (.iload_n 1, 1) := by decide +kernel
theorem dX8_sets_76 : decode cX8_sets 76 = .ok (.ifCond .ne 22, 3) := by decide +kernel
theorem dX8_sets_79 : decode cX8_sets 79 = .ok (.aload_n 0, 1) := by decide +kernel
theorem dX8_sets_80 : decode cX8_sets 80 = .ok (.getfield 12, 3) := by decide +kernel
theorem dX8_sets_83 : decode cX8_sets 83 = .ok (.aload_n 0, 1) := by decide +kernel
theorem dX8_sets_84 : decode cX8_sets 84 = .ok (.getfield 12, 3) := by decide +kernel
theorem dX8_sets_87 : decode cX8_sets 87 = .ok (.getfield 107, 3) := by decide +kernel
theorem dX8_sets_90 : decode cX8_sets 90 = .ok (.iload_n 2, 1) := by decide +kernel
theorem dX8_sets_91 : decode cX8_sets 91 = .ok (.iload 4, 2) := by decide +kernel
theorem dX8_sets_93 : decode cX8_sets 93 = .ok (.invokevirtual 110, 3) := by decide +kernel
theorem dX8_sets_96 : decode cX8_sets 96 = .ok (.iload_n 3, 1) := by decide +kernel
theorem dX8_sets_97 : decode cX8_sets 97 = .ok (.ireturn, 1) := by decide +kernel
theorem dX8_sets_98 : decode cX8_sets 98 = .ok (.aload_n 0, 1) := by decide +kernel
theorem dX8_sets_99 : decode cX8_sets 99 = .ok (.getfield 12, 3) := by decide +kernel
theorem dX8_sets_102 : decode cX8_sets 102 = .ok (.aload_n 0, 1) := by decide +kernel
theorem dX8_sets_103 : decode cX8_sets 103 = .ok (.getfield 12, 3) := by decide +kernel
theorem dX8_sets_106 : decode cX8_sets 106 = .ok (.getfield 107, 3) := by decide +kernel
theorem dX8_sets_109 : decode cX8_sets 109 = .ok (.iload_n 3, 1) := by decide +kernel
theorem dX8_sets_110 : decode cX8_sets 110 = .ok (.iload_n 2, 1) := by decide +kernel
theorem dX8_sets_111 : decode cX8_sets 111 = .ok (.invokevirtual 110, 3) := by decide +kernel
theorem dX8_sets_114 : decode cX8_sets 114 = .ok (.iload 4, 2) := by decide +kernel
theorem dX8_sets_116 : decode cX8_sets 116 = .ok (.ireturn, 1) := by decide +kernel
theorem dX8_empties_0 : decode cX8_empties 0 = .ok (.aload_n 0, 1) := by decide +kernel
theorem dX8_empties_1 : decode cX8_empties 1 = .ok (.getfield 54, 3) := by decide +kernel
theorem dX8_empties_4 : decode cX8_empties 4 = .ok (.aload_n 0, 1) := by decide +kernel
theorem dX8_empties_5 : decode cX8_empties 5 = .ok (.getfield 12, 3) := by decide +kernel
theorem dX8_empties_8 : decode cX8_empties 8 = .ok (.invokevirtual 80, 3) := by decide +kernel
theorem dX8_empties_11 : decode cX8_empties 11 = .ok (.aload_n 0, 1) := by decide +kernel
theorem dX8_empties_12 : decode cX8_empties 12 = .ok (.getfield 12, 3) := by decide +kernel
theorem dX8_empties_15 : decode cX8_empties 15 = .ok (.getfield 107, 3) := by decide +kernel
theorem dX8_empties_18 : decode cX8_empties 18 = .ok (.istore_n 1, 1) := by decide +kernel
theorem dX8_empties_19 : decode cX8_empties 19 = .ok (.aload_n 0, 1) := by decide +kernel
theorem dX8_empties_20 : decode cX8_empties 20 = .ok (.getfield 12, 3) := by decide +kernel
theorem dX8_empties_23 : decode cX8_empties 23 = .ok (.iconst 0, 1) := by decide +kernel
theorem dX8_empties_24 : decode cX8_empties 24 = .ok (.aload_n 0, 1) := by decide +kernel
theorem dX8_empties_25 : decode cX8_empties 25 = .ok (.getfield 12, 3) := by decide +kernel
theorem dX8_empties_28 : decode cX8_empties 28 = .ok (.getfield 98, 3) := by decide +kernel
theorem dX8_empties_31 : decode cX8_empties 31 = .ok (.getfield 101, 3) := by decide +kernel
theorem dX8_empties_34 : decode cX8_empties 34 = .ok (.aload_n 0, 1) := by decide +kernel
theorem dX8_empties_35 : decode cX8_empties 35 = .ok (.getfield 12, 3) := by decide +kernel
theorem dX8_empties_38 : decode cX8_empties 38 = .ok (.getfield 98, 3) := by decide +kernel
theorem dX8_empties_41 : decode cX8_empties 41 = .ok (.getfield 104, 3) := by decide +kernel
theorem dX8_empties_44 : decode cX8_empties 44 = .ok (.invokevirtual 110, 3) := by decide +kernel
theorem dX8_empties_47 : decode cX8_empties 47 = .ok (.iload_n 1, 1) := by decide +kernel
theorem dX8_empties_48 : decode cX8_empties 48 = .ok (.ireturn, 1) := by decide +kernel
theorem dX8_drop_0 : decode cX8_drop 0 = .ok (.aload_n 0, 1) := by decide +kernel
theorem dX8_drop_1 : decode cX8_drop 1 = .ok (.getfield 12, 3) := by decide +kernel
theorem dX8_drop_4 : decode cX8_drop 4 = .ok (.getfield 107, 3) := by decide +kernel
theorem dX8_drop_7 : decode cX8_drop 7 = .ok (.iconst 1, 1) := by decide +kernel
theorem dX8_drop_8 : decode cX8_drop 8 = .ok (.if_icmp .ge 10, 3) := by decide +kernel
theorem dX8_drop_11 : decode cX8_drop 11 = .ok (.aload_n 0, 1) := by decide +kernel
theorem dX8_drop_12 : decode cX8_drop 12 = .ok (.bipush (-3), 2) := by decide +kernel
theorem dX8_drop_14 : decode cX8_drop 14 = .ok (.invokevirtual 72, 3) := by decide +kernel
theorem dX8_drop_17 : decode cX8_drop 17 = .ok (.ireturn, 1) := by decide +kernel
theorem dX8_drop_18 : decode cX8_drop 18 = .ok (.aload_n 0, 1) := by decide +kernel
theorem dX8_drop_19 : decode cX8_drop 19 = .ok (.getfield 54, 3) := by decide +kernel
theorem dX8_drop_22 : decode cX8_drop 22 = .ok (.aload_n 0, 1) := by decide +kernel
theorem dX8_drop_23 : decode cX8_drop 23 = .ok (.getfield 12, 3) := by decide +kernel
theorem dX8_drop_26 : decode cX8_drop 26 = .ok (.invokevirtual 80, 3) := by decide +kernel
theorem dX8_drop_29 : decode cX8_drop 29 = .ok (.aload_n 0, 1) := by decide +kernel
theorem dX8_drop_30 : decode cX8_drop 30 = .ok (.getfield 12, 3) := by decide +kernel
theorem dX8_drop_33 : decode cX8_drop 33 = .ok (.aload_n 0, 1) := by decide +kernel
theorem dX8_drop_34 : decode cX8_drop 34 = .ok (.getfield 12, 3) := by decide +kernel
theorem dX8_drop_37 : decode cX8_drop 37 = .ok (.getfield 107, 3) := by decide +kernel
theorem dX8_drop_40 : decode cX8_drop 40 = .ok (.iconst 1, 1) := by decide +kernel
theorem dX8_drop_41 : decode cX8_drop 41 = .ok (.isub, 1) := by decide +kernel
theorem dX8_drop_42 : decode cX8_drop 42 = .ok (.aload_n 0, 1) := by decide +kernel
theorem dX8_drop_43 : decode cX8_drop 43 = .ok (.getfield 12, 3) := by decide +kernel
theorem dX8_drop_46 : decode cX8_drop 46 = .ok (.getfield 98, 3) := by decide +kernel
theorem dX8_drop_49 : decode cX8_drop 49 = .ok (.getfield 101, 3) := by decide +kernel
theorem dX8_drop_52 : decode cX8_drop 52 = .ok (.aload_n 0, 1) := by decide +kernel
theorem dX8_drop_53 : decode cX8_drop 53 = .ok (.getfield 12, 3) := by decide +kernel
theorem dX8_drop_56 : decode cX8_drop 56 = .ok (.getfield 98, 3) := by decide +kernel
theorem dX8_drop_59 : decode cX8_drop 59 = .ok (.getfield 104, 3) := by decide +kernel
theorem dX8_drop_62 : decode cX8_drop 62 = .ok (.invokevirtual 110, 3) := by decide +kernel
theorem dX8_drop_65 : decode cX8_drop 65 = .ok (.aload_n 0, 1) := by decide +kernel
theorem dX8_drop_66 : decode cX8_drop 66 = .ok (.getfield 12, 3) := by decide +kernel
theorem dX8_drop_69 : decode cX8_drop 69 = .ok (.getfield 107, 3) := by decide +kernel
theorem dX8_drop_72 : decode cX8_drop 72 = .ok (.ireturn, 1) := by decide +kernel
theorem dX8_at_0 : decode cX8_at 0 = .ok (.aload_n 0, 1) := by decide +kernel
theorem dX8_at_1 : decode cX8_at 1 = .ok (.getfield 12, 3) := by decide +kernel
theorem dX8_at_4 : decode cX8_at 4 = .ok (.iload_n 1, 1) := by decide +kernel
theorem dX8_at_5 : decode cX8_at 5 = .ok (.invokevirtual 114, 3) := by decide +kernel
theorem dX8_at_8 : decode cX8_at 8 = .ok (.ifCond .ne 10, 3) := by decide +kernel
theorem dX8_at_11 : decode cX8_at 11 = .ok (.aload_n 0, 1) := by decide +kernel
theorem dX8_at_12 : decode cX8_at 12 = .ok (.bipush (-2), 2) := by decide +kernel
theorem dX8_at_14 : decode cX8_at 14 = .ok (.invokevirtual 72, 3) := by decide +kernel
theorem dX8_at_17 : decode cX8_at 17 = .ok (.ireturn, 1) := by decide +kernel
theorem dX8_at_18 : decode cX8_at 18 = .ok (.aload_n 0, 1) := by decide +kernel
theorem dX8_at_19 : decode cX8_at 19 = .ok (.getfield 12, 3) := by decide +kernel
theorem dX8_at_22 : decode cX8_at 22 = .ok (.getfield 117, 3) := by decide +kernel
theorem dX8_at_25 : decode cX8_at 25 = .ok (.iload_n 1, 1) := by decide +kernel
theorem dX8_at_26 : decode cX8_at 26 = .ok (.iaload, 1) := by decide +kernel
theorem dX8_at_27 : decode cX8_at 27 = .ok (.ireturn, 1) := by decide +kernel
theorem dX8_guess_0 : decode cX8_guess 0 = .ok (.aload_n 0, 1) := by decide +kernel
theorem dX8_guess_1 : decode cX8_guess 1 = .ok (.getfield 12, 3) := by decide +kernel
theorem dX8_guess_4 : decode cX8_guess 4 = .ok (.getfield 98, 3) := by decide +kernel
theorem dX8_guess_7 : decode cX8_guess 7 = .ok (.invokevirtual 121, 3) := by decide +kernel
theorem dX8_guess_10 : decode cX8_guess 10 = .ok (.ireturn, 1) := by decide +kernel
theorem dX8_was_0 : decode cX8_was 0 = .ok (.aload_n 0, 1) := by decide +kernel
theorem dX8_was_1 : decode cX8_was 1 = .ok (.getfield 12, 3) := by decide +kernel
theorem dX8_was_4 : decode cX8_was 4 = .ok (.iload_n 1, 1) := by decide +kernel
theorem dX8_was_5 : decode cX8_was 5 = .ok (.invokevirtual 114, 3) := by decide +kernel
theorem dX8_was_8 : decode cX8_was 8 = .ok (.ifCond .eq 12, 3) := by decide +kernel
theorem dX8_was_11 : decode cX8_was 11 = .ok (.iload_n 2, 1) := by decide +kernel
theorem dX8_was_12 : decode cX8_was 12 = .ok (.iconst 0, 1) := by decide +kernel
theorem dX8_was_13 : decode cX8_was 13 = .ok (.iconst 1, 1) := by decide +kernel
theorem dX8_was_14 : decode cX8_was 14 = .ok (.invokestatic 68, 3) := by decide +kernel
theorem dX8_was_17 : decode cX8_was 17 = .ok (.ifCond .ne 10, 3) := by decide +kernel
theorem dX8_was_20 : decode cX8_was 20 = .ok (.aload_n 0, 1) := by decide +kernel
theorem dX8_was_21 : decode cX8_was 21 = .ok (.bipush (-2), 2) := by decide +kernel
theorem dX8_was_23 : decode cX8_was 23 = .ok (.invokevirtual 72, 3) := by decide +kernel
theorem dX8_was_26 : decode cX8_was 26 = .ok (.ireturn, 1) := by decide +kernel
theorem dX8_was_27 : decode cX8_was 27 = .ok (.iload_n 2, 1) := by decide +kernel
theorem dX8_was_28 : decode cX8_was 28 = .ok (.ifCond .ne 15, 3) := by decide +kernel
theorem dX8_was_31 : decode cX8_was 31 = .ok (.aload_n 0, 1) := by decide +kernel
theorem dX8_was_32 : decode cX8_was 32 = .ok (.getfield 12, 3) := by decide +kernel
theorem dX8_was_35 : decode cX8_was 35 = .ok (.getfield 125, 3) := by decide +kernel
theorem dX8_was_38 : decode cX8_was 38 = .ok (.iload_n 1, 1) := by decide +kernel
theorem dX8_was_39 : decode cX8_was 39 = .ok (.iaload, 1) := by decide +kernel
theorem dX8_was_40 : decode cX8_was 40 = .ok (.goto 12, 3) := by decide +kernel
theorem dX8_was_43 : decode cX8_was 43 = .ok (.aload_n 0, 1) := by decide +kernel
theorem dX8_was_44 : decode cX8_was 44 = .ok (.getfield 12, 3) := by decide +kernel
theorem dX8_was_47 : decode cX8_was 47 = .ok (.getfield 128, 3) := by decide +kernel
theorem dX8_was_50 : decode cX8_was 50 = .ok (.iload_n 1, 1) := by decide +kernel
theorem dX8_was_51 : decode cX8_was 51 = .ok (.iaload, 1) := by decide +kernel
theorem dX8_was_52 : decode cX8_was 52 = .ok (.ireturn, 1) := by decide +kernel
theorem dX8_node_0 : decode cX8_node 0 = .ok (.aload_n 0, 1) := by decide +kernel
theorem dX8_node_1 : decode cX8_node 1 = .ok (.getfield 12, 3) := by decide +kernel
theorem dX8_node_4 : decode cX8_node 4 = .ok (.getfield 98, 3) := by decide +kernel
theorem dX8_node_7 : decode cX8_node 7 = .ok (.iload_n 1, 1) := by decide +kernel
theorem dX8_node_8 : decode cX8_node 8 = .ok (.iload_n 2, 1) := by decide +kernel
theorem dX8_node_9 : decode cX8_node 9 = .ok (.invokevirtual 131, 3) := by decide +kernel
theorem dX8_node_12 : decode cX8_node 12 = .ok (.ifCond .eq 12, 3) := by decide +kernel
theorem dX8_node_15 : decode cX8_node 15 = .ok (.iload_n 3, 1) := by decide +kernel
theorem dX8_node_16 : decode cX8_node 16 = .ok (.iconst 0, 1) := by decide +kernel
theorem dX8_node_17 : decode cX8_node 17 = .ok (.iconst 3, 1) := by decide +kernel
theorem dX8_node_18 : decode cX8_node 18 = .ok (.invokestatic 68, 3) := by decide +kernel
theorem dX8_node_21 : decode cX8_node 21 = .ok (.ifCond .ne 10, 3) := by decide +kernel
theorem dX8_node_24 : decode cX8_node 24 = .ok (.aload_n 0, 1) := by decide +kernel
theorem dX8_node_25 : decode cX8_node 25 = .ok (.bipush (-2), 2) := by decide +kernel
theorem dX8_node_27 : decode cX8_node 27 = .ok (.invokevirtual 72, 3) := by decide +kernel
theorem dX8_node_30 : decode cX8_node 30 = .ok (.ireturn, 1) := by decide +kernel
theorem dX8_node_31 : decode cX8_node 31 = .ok (.iload_n 1, 1) := by decide +kernel
theorem dX8_node_32 : decode cX8_node 32 = .ok (.iload_n 2, 1) := by decide +kernel
theorem dX8_node_33 : decode cX8_node 33 = .ok (.invokestatic 134, 3) := by decide +kernel
theorem dX8_node_36 : decode cX8_node 36 = .ok (.istore 4, 2) := by decide +kernel
theorem dX8_node_38 : decode cX8_node 38 = .ok (.iload_n 3, 1) := by decide +kernel
theorem dX8_node_39 : decode cX8_node 39 = .ok (.tableswitch 93 0 2 #[25, 39, 53], 25) := by decide +kernel
theorem dX8_node_64 : decode cX8_node 64 = .ok (.aload_n 0, 1) := by decide +kernel
theorem dX8_node_65 : decode cX8_node 65 = .ok (.getfield 12, 3) := by decide +kernel
theorem dX8_node_68 : decode cX8_node 68 = .ok (.getfield 98, 3) := by decide +kernel
theorem dX8_node_71 : decode cX8_node 71 = .ok (.getfield 138, 3) := by decide +kernel
theorem dX8_node_74 : decode cX8_node 74 = .ok (.iload 4, 2) := by decide +kernel
theorem dX8_node_76 : decode cX8_node 76 = .ok (.iaload, 1) := by decide +kernel
theorem dX8_node_77 : decode cX8_node 77 = .ok (.ireturn, 1) := by decide +kernel
theorem dX8_node_78 : decode cX8_node 78 = .ok (.aload_n 0, 1) := by decide +kernel
theorem dX8_node_79 : decode cX8_node 79 = .ok (.getfield 12, 3) := by decide +kernel
theorem dX8_node_82 : decode cX8_node 82 = .ok (.getfield 98, 3) := by decide +kernel
theorem dX8_node_85 : decode cX8_node 85 = .ok (.getfield 141, 3) := by decide +kernel
theorem dX8_node_88 : decode cX8_node 88 = .ok (.iload 4, 2) := by decide +kernel
theorem dX8_node_90 : decode cX8_node 90 = .ok (.iaload, 1) := by decide +kernel
theorem dX8_node_91 : decode cX8_node 91 = .ok (.ireturn, 1) := by decide +kernel
theorem dX8_node_92 : decode cX8_node 92 = .ok (.aload_n 0, 1) := by decide +kernel
theorem dX8_node_93 : decode cX8_node 93 = .ok (.getfield 12, 3) := by decide +kernel
theorem dX8_node_96 : decode cX8_node 96 = .ok (.getfield 98, 3) := by decide +kernel
theorem dX8_node_99 : decode cX8_node 99 = .ok (.getfield 104, 3) := by decide +kernel
theorem dX8_node_102 : decode cX8_node 102 = .ok (.aload_n 0, 1) := by decide +kernel
theorem dX8_node_103 : decode cX8_node 103 = .ok (.getfield 12, 3) := by decide +kernel
theorem dX8_node_106 : decode cX8_node 106 = .ok (.getfield 98, 3) := by decide +kernel
theorem dX8_node_109 : decode cX8_node 109 = .ok (.getfield 138, 3) := by decide +kernel
theorem dX8_node_112 : decode cX8_node 112 = .ok (.iload 4, 2) := by decide +kernel
theorem dX8_node_114 : decode cX8_node 114 = .ok (.iaload, 1) := by decide +kernel
theorem dX8_node_115 : decode cX8_node 115 = .ok (.aload_n 0, 1) := by decide +kernel
theorem dX8_node_116 : decode cX8_node 116 = .ok (.getfield 12, 3) := by decide +kernel
theorem dX8_node_119 : decode cX8_node 119 = .ok (.getfield 98, 3) := by decide +kernel
theorem dX8_node_122 : decode cX8_node 122 = .ok (.getfield 141, 3) := by decide +kernel
theorem dX8_node_125 : decode cX8_node 125 = .ok (.iload 4, 2) := by decide +kernel
theorem dX8_node_127 : decode cX8_node 127 = .ok (.iaload, 1) := by decide +kernel
theorem dX8_node_128 : decode cX8_node 128 = .ok (.invokestatic 144, 3) := by decide +kernel
theorem dX8_node_131 : decode cX8_node 131 = .ok (.ireturn, 1) := by decide +kernel
theorem dX8_node_132 : decode cX8_node 132 = .ok (.iload_n 1, 1) := by decide +kernel
theorem dX8_node_133 : decode cX8_node 133 = .ok (.aload_n 0, 1) := by decide +kernel
theorem dX8_node_134 : decode cX8_node 134 = .ok (.getfield 12, 3) := by decide +kernel
theorem dX8_node_137 : decode cX8_node 137 = .ok (.getfield 98, 3) := by decide +kernel
theorem dX8_node_140 : decode cX8_node 140 = .ok (.getfield 101, 3) := by decide +kernel
theorem dX8_node_143 : decode cX8_node 143 = .ok (.if_icmp .ne 8, 3) := by decide +kernel
theorem dX8_node_146 : decode cX8_node 146 = .ok (.ldc 148, 2) := by decide +kernel
theorem dX8_node_148 : decode cX8_node 148 = .ok (.goto 16, 3) := by decide +kernel
theorem dX8_node_151 : decode cX8_node 151 = .ok (.aload_n 0, 1) := by decide +kernel
theorem dX8_node_152 : decode cX8_node 152 = .ok (.getfield 12, 3) := by decide +kernel
theorem dX8_node_155 : decode cX8_node 155 = .ok (.getfield 98, 3) := by decide +kernel
theorem dX8_node_158 : decode cX8_node 158 = .ok (.getfield 149, 3) := by decide +kernel
theorem dX8_node_161 : decode cX8_node 161 = .ok (.iload 4, 2) := by decide +kernel
theorem dX8_node_163 : decode cX8_node 163 = .ok (.iaload, 1) := by decide +kernel
theorem dX8_node_164 : decode cX8_node 164 = .ok (.ireturn, 1) := by decide +kernel
theorem dX8_cost_0 : decode cX8_cost 0 = .ok (.aload_n 0, 1) := by decide +kernel
theorem dX8_cost_1 : decode cX8_cost 1 = .ok (.getfield 12, 3) := by decide +kernel
theorem dX8_cost_4 : decode cX8_cost 4 = .ok (.getfield 152, 3) := by decide +kernel
theorem dX8_cost_7 : decode cX8_cost 7 = .ok (.ireturn, 1) := by decide +kernel
theorem dX8_costBy_0 : decode cX8_costBy 0 = .ok (.iload_n 1, 1) := by decide +kernel
theorem dX8_costBy_1 : decode cX8_costBy 1 = .ok (.iconst 0, 1) := by decide +kernel
theorem dX8_costBy_2 : decode cX8_costBy 2 = .ok (.bipush 6, 2) := by decide +kernel
theorem dX8_costBy_4 : decode cX8_costBy 4 = .ok (.invokestatic 68, 3) := by decide +kernel
theorem dX8_costBy_7 : decode cX8_costBy 7 = .ok (.ifCond .eq 12, 3) := by decide +kernel
theorem dX8_costBy_10 : decode cX8_costBy 10 = .ok (.iload_n 2, 1) := by decide +kernel
theorem dX8_costBy_11 : decode cX8_costBy 11 = .ok (.iconst 0, 1) := by decide +kernel
theorem dX8_costBy_12 : decode cX8_costBy 12 = .ok (.iconst 3, 1) := by decide +kernel
theorem dX8_costBy_13 : decode cX8_costBy 13 = .ok (.invokestatic 68, 3) := by decide +kernel
theorem dX8_costBy_16 : decode cX8_costBy 16 = .ok (.ifCond .ne 10, 3) := by decide +kernel
theorem dX8_costBy_19 : decode cX8_costBy 19 = .ok (.aload_n 0, 1) := by decide +kernel
theorem dX8_costBy_20 : decode cX8_costBy 20 = .ok (.bipush (-2), 2) := by decide +kernel
theorem dX8_costBy_22 : decode cX8_costBy 22 = .ok (.invokevirtual 72, 3) := by decide +kernel
theorem dX8_costBy_25 : decode cX8_costBy 25 = .ok (.ireturn, 1) := by decide +kernel
theorem dX8_costBy_26 : decode cX8_costBy 26 = .ok (.aload_n 0, 1) := by decide +kernel
theorem dX8_costBy_27 : decode cX8_costBy 27 = .ok (.getfield 12, 3) := by decide +kernel
theorem dX8_costBy_30 : decode cX8_costBy 30 = .ok (.aload_n 0, 1) := by decide +kernel
theorem dX8_costBy_31 : decode cX8_costBy 31 = .ok (.getfield 19, 3) := by decide +kernel
theorem dX8_costBy_34 : decode cX8_costBy 34 = .ok (.iload_n 1, 1) := by decide +kernel
theorem dX8_costBy_35 : decode cX8_costBy 35 = .ok (.iload_n 2, 1) := by decide +kernel
theorem dX8_costBy_36 : decode cX8_costBy 36 = .ok (.invokevirtual 155, 3) := by decide +kernel
theorem dX8_costBy_39 : decode cX8_costBy 39 = .ok (.ireturn, 1) := by decide +kernel
theorem dX8_best_0 : decode cX8_best 0 = .ok (.iload_n 1, 1) := by decide +kernel
theorem dX8_best_1 : decode cX8_best 1 = .ok (.iconst 0, 1) := by decide +kernel
theorem dX8_best_2 : decode cX8_best 2 = .ok (.iconst 2, 1) := by decide +kernel
theorem dX8_best_3 : decode cX8_best 3 = .ok (.invokestatic 68, 3) := by decide +kernel
theorem dX8_best_6 : decode cX8_best 6 = .ok (.ifCond .ne 10, 3) := by decide +kernel
theorem dX8_best_9 : decode cX8_best 9 = .ok (.aload_n 0, 1) := by decide +kernel
theorem dX8_best_10 : decode cX8_best 10 = .ok (.bipush (-2), 2) := by decide +kernel
theorem dX8_best_12 : decode cX8_best 12 = .ok (.invokevirtual 72, 3) := by decide +kernel
theorem dX8_best_15 : decode cX8_best 15 = .ok (.ireturn, 1) := by decide +kernel
theorem dX8_best_16 : decode cX8_best 16 = .ok (.aload_n 0, 1) := by decide +kernel
theorem dX8_best_17 : decode cX8_best 17 = .ok (.getfield 26, 3) := by decide +kernel
theorem dX8_best_20 : decode cX8_best 20 = .ok (.aload_n 0, 1) := by decide +kernel
theorem dX8_best_21 : decode cX8_best 21 = .ok (.getfield 12, 3) := by decide +kernel
theorem dX8_best_24 : decode cX8_best 24 = .ok (.aload_n 0, 1) := by decide +kernel
theorem dX8_best_25 : decode cX8_best 25 = .ok (.getfield 19, 3) := by decide +kernel
theorem dX8_best_28 : decode cX8_best 28 = .ok (.invokevirtual 159, 3) := by decide +kernel
theorem dX8_best_31 : decode cX8_best 31 = .ok (.iload_n 1, 1) := by decide +kernel
theorem dX8_best_32 : decode cX8_best 32 = .ok (.lookupswitch 44 #[(0, 28), (1, 36)], 28) := by decide +kernel
theorem dX8_best_60 : decode cX8_best 60 = .ok (.aload_n 0, 1) := by decide +kernel
theorem dX8_best_61 : decode cX8_best 61 = .ok (.getfield 26, 3) := by decide +kernel
theorem dX8_best_64 : decode cX8_best 64 = .ok (.getfield 163, 3) := by decide +kernel
theorem dX8_best_67 : decode cX8_best 67 = .ok (.ireturn, 1) := by decide +kernel
theorem dX8_best_68 : decode cX8_best 68 = .ok (.aload_n 0, 1) := by decide +kernel
theorem dX8_best_69 : decode cX8_best 69 = .ok (.getfield 26, 3) := by decide +kernel
theorem dX8_best_72 : decode cX8_best 72 = .ok (.getfield 164, 3) := by decide +kernel
theorem dX8_best_75 : decode cX8_best 75 = .ok (.ireturn, 1) := by decide +kernel
theorem dX8_best_76 : decode cX8_best 76 = .ok (.aload_n 0, 1) := by decide +kernel
theorem dX8_best_77 : decode cX8_best 77 = .ok (.getfield 26, 3) := by decide +kernel
theorem dX8_best_80 : decode cX8_best 80 = .ok (.getfield 165, 3) := by decide +kernel
theorem dX8_best_83 : decode cX8_best 83 = .ok (.ireturn, 1) := by decide +kernel
theorem dX8_follows_0 : decode cX8_follows 0 = .ok (.iload_n 1, 1) := by decide +kernel
theorem dX8_follows_1 : decode cX8_follows 1 = .ok (.iconst 1, 1) := by decide +kernel
theorem dX8_follows_2 : decode cX8_follows 2 = .ok (.bipush 16, 2) := by decide +kernel
theorem dX8_follows_4 : decode cX8_follows 4 = .ok (.invokestatic 68, 3) := by decide +kernel
theorem dX8_follows_7 : decode cX8_follows 7 = .ok (.ifCond .ne 10, 3) := by decide +kernel
theorem dX8_follows_10 : decode cX8_follows 10 = .ok (.aload_n 0, 1) := by decide +kernel
theorem dX8_follows_11 : decode cX8_follows 11 = .ok (.bipush (-2), 2) := by decide +kernel
theorem dX8_follows_13 : decode cX8_follows 13 = .ok (.invokevirtual 72, 3) := by decide +kernel
theorem dX8_follows_16 : decode cX8_follows 16 = .ok (.ireturn, 1) := by decide +kernel
theorem dX8_follows_17 : decode cX8_follows 17 = .ok (.aload_n 0, 1) := by decide +kernel
theorem dX8_follows_18 : decode cX8_follows 18 = .ok (.getfield 12, 3) := by decide +kernel
theorem dX8_follows_21 : decode cX8_follows 21 = .ok (.aload_n 0, 1) := by decide +kernel
theorem dX8_follows_22 : decode cX8_follows 22 = .ok (.getfield 19, 3) := by decide +kernel
theorem dX8_follows_25 : decode cX8_follows 25 = .ok (.aload_n 0, 1) := by decide +kernel
theorem dX8_follows_26 : decode cX8_follows 26 = .ok (.getfield 12, 3) := by decide +kernel
theorem dX8_follows_29 : decode cX8_follows 29 = .ok (.getfield 98, 3) := by decide +kernel
theorem dX8_follows_32 : decode cX8_follows 32 = .ok (.getfield 101, 3) := by decide +kernel
theorem dX8_follows_35 : decode cX8_follows 35 = .ok (.aload_n 0, 1) := by decide +kernel
theorem dX8_follows_36 : decode cX8_follows 36 = .ok (.getfield 12, 3) := by decide +kernel
theorem dX8_follows_39 : decode cX8_follows 39 = .ok (.getfield 98, 3) := by decide +kernel
theorem dX8_follows_42 : decode cX8_follows 42 = .ok (.getfield 104, 3) := by decide +kernel
theorem dX8_follows_45 : decode cX8_follows 45 = .ok (.invokevirtual 155, 3) := by decide +kernel
theorem dX8_follows_48 : decode cX8_follows 48 = .ok (.pop, 1) := by decide +kernel
theorem dX8_follows_49 : decode cX8_follows 49 = .ok (.iconst 0, 1) := by decide +kernel
theorem dX8_follows_50 : decode cX8_follows 50 = .ok (.istore_n 2, 1) := by decide +kernel
theorem dX8_follows_51 : decode cX8_follows 51 = .ok (.iconst 0, 1) := by decide +kernel
theorem dX8_follows_52 : decode cX8_follows 52 = .ok (.istore_n 3, 1) := by decide +kernel
theorem dX8_follows_53 : decode cX8_follows 53 = .ok (.iload_n 3, 1) := by decide +kernel
theorem dX8_follows_54 : decode cX8_follows 54 = .ok (.iload_n 1, 1) := by decide +kernel
theorem dX8_follows_55 : decode cX8_follows 55 = .ok (.if_icmp .ge 44, 3) := by decide +kernel
theorem dX8_follows_58 : decode cX8_follows 58 = .ok (.aload_n 0, 1) := by decide +kernel
theorem dX8_follows_59 : decode cX8_follows 59 = .ok (.getfield 19, 3) := by decide +kernel
theorem dX8_follows_62 : decode cX8_follows 62 = .ok (.invokevirtual 121, 3) := by decide +kernel
theorem dX8_follows_65 : decode cX8_follows 65 = .ok (.ldc 168, 2) := by decide +kernel
theorem dX8_follows_67 : decode cX8_follows 67 = .ok (.if_icmp .lt 7, 3) := by decide +kernel
theorem dX8_follows_70 : decode cX8_follows 70 = .ok (.iconst 1, 1) := by decide +kernel
theorem dX8_follows_71 : decode cX8_follows 71 = .ok (.goto 4, 3) := by decide +kernel
theorem dX8_follows_74 : decode cX8_follows 74 = .ok (.iconst 0, 1) := by decide +kernel
theorem dX8_follows_75 : decode cX8_follows 75 = .ok (.istore 4, 2) := by decide +kernel
theorem dX8_follows_77 : decode cX8_follows 77 = .ok (.iload_n 2, 1) := by decide +kernel
theorem dX8_follows_78 : decode cX8_follows 78 = .ok (.iload 4, 2) := by decide +kernel
theorem dX8_follows_80 : decode cX8_follows 80 = .ok (.iload_n 3, 1) := by decide +kernel
theorem dX8_follows_81 : decode cX8_follows 81 = .ok (.ishl, 1) := by decide +kernel
theorem dX8_follows_82 : decode cX8_follows 82 = .ok (.ior, 1) := by decide +kernel
theorem dX8_follows_83 : decode cX8_follows 83 = .ok (.istore_n 2, 1) := by decide +kernel
theorem dX8_follows_84 : decode cX8_follows 84 = .ok (.aload_n 0, 1) := by decide +kernel
theorem dX8_follows_85 : decode cX8_follows 85 = .ok (.getfield 19, 3) := by decide +kernel
theorem dX8_follows_88 : decode cX8_follows 88 = .ok (.iload 4, 2) := by decide +kernel
theorem dX8_follows_90 : decode cX8_follows 90 = .ok (.invokevirtual 169, 3) := by decide +kernel
theorem dX8_follows_93 : decode cX8_follows 93 = .ok (.iinc 3 1, 3) := by decide +kernel
theorem dX8_follows_96 : decode cX8_follows 96 = .ok (.goto (-43), 3) := by decide +kernel
theorem dX8_follows_99 : decode cX8_follows 99 = .ok (.iload_n 2, 1) := by decide +kernel
theorem dX8_follows_100 : decode cX8_follows 100 = .ok (.ireturn, 1) := by decide +kernel
theorem dX8_tree_0 : decode cX8_tree 0 = .ok (.iload_n 1, 1) := by decide +kernel
theorem dX8_tree_1 : decode cX8_tree 1 = .ok (.iconst 0, 1) := by decide +kernel
theorem dX8_tree_2 : decode cX8_tree 2 = .ok (.iconst 2, 1) := by decide +kernel
theorem dX8_tree_3 : decode cX8_tree 3 = .ok (.invokestatic 68, 3) := by decide +kernel
theorem dX8_tree_6 : decode cX8_tree 6 = .ok (.ifCond .ne 10, 3) := by decide +kernel
theorem dX8_tree_9 : decode cX8_tree 9 = .ok (.aload_n 0, 1) := by decide +kernel
theorem dX8_tree_10 : decode cX8_tree 10 = .ok (.bipush (-2), 2) := by decide +kernel
theorem dX8_tree_12 : decode cX8_tree 12 = .ok (.invokevirtual 72, 3) := by decide +kernel
theorem dX8_tree_15 : decode cX8_tree 15 = .ok (.ireturn, 1) := by decide +kernel
theorem dX8_tree_16 : decode cX8_tree 16 = .ok (.aload_n 0, 1) := by decide +kernel
theorem dX8_tree_17 : decode cX8_tree 17 = .ok (.getfield 33, 3) := by decide +kernel
theorem dX8_tree_20 : decode cX8_tree 20 = .ok (.aload_n 0, 1) := by decide +kernel
theorem dX8_tree_21 : decode cX8_tree 21 = .ok (.getfield 12, 3) := by decide +kernel
theorem dX8_tree_24 : decode cX8_tree 24 = .ok (.getfield 98, 3) := by decide +kernel
theorem dX8_tree_27 : decode cX8_tree 27 = .ok (.invokevirtual 173, 3) := by decide +kernel
theorem dX8_tree_30 : decode cX8_tree 30 = .ok (.iload_n 1, 1) := by decide +kernel
theorem dX8_tree_31 : decode cX8_tree 31 = .ok (.lookupswitch 41 #[(0, 25), (1, 33)], 25) := by decide +kernel
theorem dX8_tree_56 : decode cX8_tree 56 = .ok (.aload_n 0, 1) := by decide +kernel
theorem dX8_tree_57 : decode cX8_tree 57 = .ok (.getfield 33, 3) := by decide +kernel
theorem dX8_tree_60 : decode cX8_tree 60 = .ok (.invokevirtual 177, 3) := by decide +kernel
theorem dX8_tree_63 : decode cX8_tree 63 = .ok (.ireturn, 1) := by decide +kernel
theorem dX8_tree_64 : decode cX8_tree 64 = .ok (.aload_n 0, 1) := by decide +kernel
theorem dX8_tree_65 : decode cX8_tree 65 = .ok (.getfield 33, 3) := by decide +kernel
theorem dX8_tree_68 : decode cX8_tree 68 = .ok (.getfield 179, 3) := by decide +kernel
theorem dX8_tree_71 : decode cX8_tree 71 = .ok (.ireturn, 1) := by decide +kernel
theorem dX8_tree_72 : decode cX8_tree 72 = .ok (.aload_n 0, 1) := by decide +kernel
theorem dX8_tree_73 : decode cX8_tree 73 = .ok (.getfield 33, 3) := by decide +kernel
theorem dX8_tree_76 : decode cX8_tree 76 = .ok (.getfield 182, 3) := by decide +kernel
theorem dX8_tree_79 : decode cX8_tree 79 = .ok (.ireturn, 1) := by decide +kernel
theorem dX8_leaf_0 : decode cX8_leaf 0 = .ok (.aload_n 0, 1) := by decide +kernel
theorem dX8_leaf_1 : decode cX8_leaf 1 = .ok (.getfield 12, 3) := by decide +kernel
theorem dX8_leaf_4 : decode cX8_leaf 4 = .ok (.getfield 98, 3) := by decide +kernel
theorem dX8_leaf_7 : decode cX8_leaf 7 = .ok (.iload_n 1, 1) := by decide +kernel
theorem dX8_leaf_8 : decode cX8_leaf 8 = .ok (.iload_n 2, 1) := by decide +kernel
theorem dX8_leaf_9 : decode cX8_leaf 9 = .ok (.invokevirtual 131, 3) := by decide +kernel
theorem dX8_leaf_12 : decode cX8_leaf 12 = .ok (.ifCond .ne 10, 3) := by decide +kernel
theorem dX8_leaf_15 : decode cX8_leaf 15 = .ok (.aload_n 0, 1) := by decide +kernel
theorem dX8_leaf_16 : decode cX8_leaf 16 = .ok (.bipush (-2), 2) := by decide +kernel
theorem dX8_leaf_18 : decode cX8_leaf 18 = .ok (.invokevirtual 72, 3) := by decide +kernel
theorem dX8_leaf_21 : decode cX8_leaf 21 = .ok (.ireturn, 1) := by decide +kernel
theorem dX8_leaf_22 : decode cX8_leaf 22 = .ok (.aload_n 0, 1) := by decide +kernel
theorem dX8_leaf_23 : decode cX8_leaf 23 = .ok (.getfield 33, 3) := by decide +kernel
theorem dX8_leaf_26 : decode cX8_leaf 26 = .ok (.aload_n 0, 1) := by decide +kernel
theorem dX8_leaf_27 : decode cX8_leaf 27 = .ok (.getfield 12, 3) := by decide +kernel
theorem dX8_leaf_30 : decode cX8_leaf 30 = .ok (.getfield 98, 3) := by decide +kernel
theorem dX8_leaf_33 : decode cX8_leaf 33 = .ok (.invokevirtual 173, 3) := by decide +kernel
theorem dX8_leaf_36 : decode cX8_leaf 36 = .ok (.aload_n 0, 1) := by decide +kernel
theorem dX8_leaf_37 : decode cX8_leaf 37 = .ok (.getfield 33, 3) := by decide +kernel
theorem dX8_leaf_40 : decode cX8_leaf 40 = .ok (.getfield 185, 3) := by decide +kernel
theorem dX8_leaf_43 : decode cX8_leaf 43 = .ok (.iload_n 1, 1) := by decide +kernel
theorem dX8_leaf_44 : decode cX8_leaf 44 = .ok (.iload_n 2, 1) := by decide +kernel
theorem dX8_leaf_45 : decode cX8_leaf 45 = .ok (.invokestatic 134, 3) := by decide +kernel
theorem dX8_leaf_48 : decode cX8_leaf 48 = .ok (.iaload, 1) := by decide +kernel
theorem dX8_leaf_49 : decode cX8_leaf 49 = .ok (.ireturn, 1) := by decide +kernel
theorem dX8_written_0 : decode cX8_written 0 = .ok (.iload_n 1, 1) := by decide +kernel
theorem dX8_written_1 : decode cX8_written 1 = .ok (.iconst (-1), 1) := by decide +kernel
theorem dX8_written_2 : decode cX8_written 2 = .ok (.if_icmp .ge 13, 3) := by decide +kernel
theorem dX8_written_5 : decode cX8_written 5 = .ok (.aload_n 0, 1) := by decide +kernel
theorem dX8_written_6 : decode cX8_written 6 = .ok (.bipush (-2), 2) := by decide +kernel
theorem dX8_written_8 : decode cX8_written 8 = .ok (.invokevirtual 72, 3) := by decide +kernel
theorem dX8_written_11 : decode cX8_written 11 = .ok (.pop, 1) := by decide +kernel
theorem dX8_written_12 : decode cX8_written 12 = .ok (.bipush (-10), 2) := by decide +kernel
theorem dX8_written_14 : decode cX8_written 14 = .ok (.ireturn, 1) := by decide +kernel
theorem dX8_written_15 : decode cX8_written 15 = .ok (.aload_n 0, 1) := by decide +kernel
theorem dX8_written_16 : decode cX8_written 16 = .ok (.getfield 40, 3) := by decide +kernel
theorem dX8_written_19 : decode cX8_written 19 = .ok (.aload_n 0, 1) := by decide +kernel
theorem dX8_written_20 : decode cX8_written 20 = .ok (.getfield 12, 3) := by decide +kernel
theorem dX8_written_23 : decode cX8_written 23 = .ok (.invokevirtual 188, 3) := by decide +kernel
theorem dX8_written_26 : decode cX8_written 26 = .ok (.iload_n 1, 1) := by decide +kernel
theorem dX8_written_27 : decode cX8_written 27 = .ok (.iconst (-1), 1) := by decide +kernel
theorem dX8_written_28 : decode cX8_written 28 = .ok (.if_icmp .ne 11, 3) := by decide +kernel
theorem dX8_written_31 : decode cX8_written 31 = .ok (.aload_n 0, 1) := by decide +kernel
theorem dX8_written_32 : decode cX8_written 32 = .ok (.getfield 40, 3) := by decide +kernel
theorem dX8_written_35 : decode cX8_written 35 = .ok (.getfield 191, 3) := by decide +kernel
theorem dX8_written_38 : decode cX8_written 38 = .ok (.ireturn, 1) := by decide +kernel
theorem dX8_written_39 : decode cX8_written 39 = .ok (.iload_n 1, 1) := by decide +kernel
theorem dX8_written_40 : decode cX8_written 40 = .ok (.aload_n 0, 1) := by decide +kernel
theorem dX8_written_41 : decode cX8_written 41 = .ok (.getfield 40, 3) := by decide +kernel
theorem dX8_written_44 : decode cX8_written 44 = .ok (.getfield 191, 3) := by decide +kernel
theorem dX8_written_47 : decode cX8_written 47 = .ok (.if_icmp .ge 14, 3) := by decide +kernel
theorem dX8_written_50 : decode cX8_written 50 = .ok (.aload_n 0, 1) := by decide +kernel
theorem dX8_written_51 : decode cX8_written 51 = .ok (.getfield 40, 3) := by decide +kernel
theorem dX8_written_54 : decode cX8_written 54 = .ok (.iload_n 1, 1) := by decide +kernel
theorem dX8_written_55 : decode cX8_written 55 = .ok (.invokevirtual 192, 3) := by decide +kernel
theorem dX8_written_58 : decode cX8_written 58 = .ok (.goto 5, 3) := by decide +kernel
theorem dX8_written_61 : decode cX8_written 61 = .ok (.bipush (-5), 2) := by decide +kernel
theorem dX8_written_63 : decode cX8_written 63 = .ok (.ireturn, 1) := by decide +kernel
theorem dX8_reads_0 : decode cX8_reads 0 = .ok (.iload_n 1, 1) := by decide +kernel
theorem dX8_reads_1 : decode cX8_reads 1 = .ok (.iconst (-1), 1) := by decide +kernel
theorem dX8_reads_2 : decode cX8_reads 2 = .ok (.if_icmp .ge 10, 3) := by decide +kernel
theorem dX8_reads_5 : decode cX8_reads 5 = .ok (.aload_n 0, 1) := by decide +kernel
theorem dX8_reads_6 : decode cX8_reads 6 = .ok (.bipush (-2), 2) := by decide +kernel
theorem dX8_reads_8 : decode cX8_reads 8 = .ok (.invokevirtual 72, 3) := by decide +kernel
theorem dX8_reads_11 : decode cX8_reads 11 = .ok (.ireturn, 1) := by decide +kernel
theorem dX8_reads_12 : decode cX8_reads 12 = .ok (.aload_n 0, 1) := by decide +kernel
theorem dX8_reads_13 : decode cX8_reads 13 = .ok (.getfield 40, 3) := by decide +kernel
theorem dX8_reads_16 : decode cX8_reads 16 = .ok (.aload_n 0, 1) := by decide +kernel
theorem dX8_reads_17 : decode cX8_reads 17 = .ok (.getfield 12, 3) := by decide +kernel
theorem dX8_reads_20 : decode cX8_reads 20 = .ok (.invokevirtual 188, 3) := by decide +kernel
theorem dX8_reads_23 : decode cX8_reads 23 = .ok (.iload_n 1, 1) := by decide +kernel
theorem dX8_reads_24 : decode cX8_reads 24 = .ok (.aload_n 0, 1) := by decide +kernel
theorem dX8_reads_25 : decode cX8_reads 25 = .ok (.getfield 40, 3) := by decide +kernel
theorem dX8_reads_28 : decode cX8_reads 28 = .ok (.getfield 191, 3) := by decide +kernel
theorem dX8_reads_31 : decode cX8_reads 31 = .ok (.if_icmp .lt 10, 3) := by decide +kernel
theorem dX8_reads_34 : decode cX8_reads 34 = .ok (.aload_n 0, 1) := by decide +kernel
theorem dX8_reads_35 : decode cX8_reads 35 = .ok (.bipush (-2), 2) := by decide +kernel
theorem dX8_reads_37 : decode cX8_reads 37 = .ok (.invokevirtual 72, 3) := by decide +kernel
theorem dX8_reads_40 : decode cX8_reads 40 = .ok (.ireturn, 1) := by decide +kernel
theorem dX8_reads_41 : decode cX8_reads 41 = .ok (.iload_n 1, 1) := by decide +kernel
theorem dX8_reads_42 : decode cX8_reads 42 = .ok (.iconst (-1), 1) := by decide +kernel
theorem dX8_reads_43 : decode cX8_reads 43 = .ok (.if_icmp .eq 21, 3) := by decide +kernel
theorem dX8_reads_46 : decode cX8_reads 46 = .ok (.iload_n 2, 1) := by decide +kernel
theorem dX8_reads_47 : decode cX8_reads 47 = .ok (.iconst 1, 1) := by decide +kernel
theorem dX8_reads_48 : decode cX8_reads 48 = .ok (.sipush 255, 3) := by decide +kernel
theorem dX8_reads_51 : decode cX8_reads 51 = .ok (.invokestatic 68, 3) := by decide +kernel
theorem dX8_reads_54 : decode cX8_reads 54 = .ok (.ifCond .ne 10, 3) := by decide +kernel
theorem dX8_reads_57 : decode cX8_reads 57 = .ok (.aload_n 0, 1) := by decide +kernel
theorem dX8_reads_58 : decode cX8_reads 58 = .ok (.bipush (-2), 2) := by decide +kernel
theorem dX8_reads_60 : decode cX8_reads 60 = .ok (.invokevirtual 72, 3) := by decide +kernel
theorem dX8_reads_63 : decode cX8_reads 63 = .ok (.ireturn, 1) := by decide +kernel
theorem dX8_reads_64 : decode cX8_reads 64 = .ok (.iload_n 1, 1) := by decide +kernel
theorem dX8_reads_65 : decode cX8_reads 65 = .ok (.iconst (-1), 1) := by decide +kernel
theorem dX8_reads_66 : decode cX8_reads 66 = .ok (.if_icmp .eq 12, 3) := by decide +kernel
theorem dX8_reads_69 : decode cX8_reads 69 = .ok (.aload_n 0, 1) := by decide +kernel
theorem dX8_reads_70 : decode cX8_reads 70 = .ok (.getfield 40, 3) := by decide +kernel
theorem dX8_reads_73 : decode cX8_reads 73 = .ok (.iload_n 1, 1) := by decide +kernel
theorem dX8_reads_74 : decode cX8_reads 74 = .ok (.iload_n 2, 1) := by decide +kernel
theorem dX8_reads_75 : decode cX8_reads 75 = .ok (.invokevirtual 195, 3) := by decide +kernel
theorem dX8_reads_78 : decode cX8_reads 78 = .ok (.aload_n 0, 1) := by decide +kernel
theorem dX8_reads_79 : decode cX8_reads 79 = .ok (.getfield 40, 3) := by decide +kernel
theorem dX8_reads_82 : decode cX8_reads 82 = .ok (.aload_n 0, 1) := by decide +kernel
theorem dX8_reads_83 : decode cX8_reads 83 = .ok (.getfield 12, 3) := by decide +kernel
theorem dX8_reads_86 : decode cX8_reads 86 = .ok (.aload_n 0, 1) := by decide +kernel
theorem dX8_reads_87 : decode cX8_reads 87 = .ok (.getfield 19, 3) := by decide +kernel
theorem dX8_reads_90 : decode cX8_reads 90 = .ok (.invokevirtual 199, 3) := by decide +kernel
theorem dX8_reads_93 : decode cX8_reads 93 = .ok (.ireturn, 1) := by decide +kernel
theorem dX8_type_0 : decode cX8_type 0 = .ok (.iload_n 1, 1) := by decide +kernel
theorem dX8_type_1 : decode cX8_type 1 = .ok (.iconst 0, 1) := by decide +kernel
theorem dX8_type_2 : decode cX8_type 2 = .ok (.bipush 127, 2) := by decide +kernel
theorem dX8_type_4 : decode cX8_type 4 = .ok (.invokestatic 68, 3) := by decide +kernel
theorem dX8_type_7 : decode cX8_type 7 = .ok (.ifCond .ne 10, 3) := by decide +kernel
theorem dX8_type_10 : decode cX8_type 10 = .ok (.aload_n 0, 1) := by decide +kernel
theorem dX8_type_11 : decode cX8_type 11 = .ok (.bipush (-2), 2) := by decide +kernel
theorem dX8_type_13 : decode cX8_type 13 = .ok (.invokevirtual 72, 3) := by decide +kernel
theorem dX8_type_16 : decode cX8_type 16 = .ok (.ireturn, 1) := by decide +kernel
theorem dX8_type_17 : decode cX8_type 17 = .ok (.aload_n 0, 1) := by decide +kernel
theorem dX8_type_18 : decode cX8_type 18 = .ok (.getfield 47, 3) := by decide +kernel
theorem dX8_type_21 : decode cX8_type 21 = .ok (.getfield 203, 3) := by decide +kernel
theorem dX8_type_24 : decode cX8_type 24 = .ok (.bipush 120, 2) := by decide +kernel
theorem dX8_type_26 : decode cX8_type 26 = .ok (.if_icmp .lt 10, 3) := by decide +kernel
theorem dX8_type_29 : decode cX8_type 29 = .ok (.aload_n 0, 1) := by decide +kernel
theorem dX8_type_30 : decode cX8_type 30 = .ok (.bipush (-4), 2) := by decide +kernel
theorem dX8_type_32 : decode cX8_type 32 = .ok (.invokevirtual 72, 3) := by decide +kernel
theorem dX8_type_35 : decode cX8_type 35 = .ok (.ireturn, 1) := by decide +kernel
theorem dX8_type_36 : decode cX8_type 36 = .ok (.aload_n 0, 1) := by decide +kernel
theorem dX8_type_37 : decode cX8_type 37 = .ok (.getfield 47, 3) := by decide +kernel
theorem dX8_type_40 : decode cX8_type 40 = .ok (.iload_n 1, 1) := by decide +kernel
theorem dX8_type_41 : decode cX8_type 41 = .ok (.invokevirtual 204, 3) := by decide +kernel
theorem dX8_type_44 : decode cX8_type 44 = .ok (.ireturn, 1) := by decide +kernel
theorem dX8_clear_0 : decode cX8_clear 0 = .ok (.aload_n 0, 1) := by decide +kernel
theorem dX8_clear_1 : decode cX8_clear 1 = .ok (.getfield 47, 3) := by decide +kernel
theorem dX8_clear_4 : decode cX8_clear 4 = .ok (.getfield 203, 3) := by decide +kernel
theorem dX8_clear_7 : decode cX8_clear 7 = .ok (.istore_n 1, 1) := by decide +kernel
theorem dX8_clear_8 : decode cX8_clear 8 = .ok (.aload_n 0, 1) := by decide +kernel
theorem dX8_clear_9 : decode cX8_clear 9 = .ok (.getfield 47, 3) := by decide +kernel
theorem dX8_clear_12 : decode cX8_clear 12 = .ok (.iconst 0, 1) := by decide +kernel
theorem dX8_clear_13 : decode cX8_clear 13 = .ok (.putfield 203, 3) := by decide +kernel
theorem dX8_clear_16 : decode cX8_clear 16 = .ok (.iload_n 1, 1) := by decide +kernel
theorem dX8_clear_17 : decode cX8_clear 17 = .ok (.ireturn, 1) := by decide +kernel
theorem dX8_told_0 : decode cX8_told 0 = .ok (.aload_n 0, 1) := by decide +kernel
theorem dX8_told_1 : decode cX8_told 1 = .ok (.getfield 47, 3) := by decide +kernel
theorem dX8_told_4 : decode cX8_told 4 = .ok (.bipush 100, 2) := by decide +kernel
theorem dX8_told_6 : decode cX8_told 6 = .ok (.aload_n 0, 1) := by decide +kernel
theorem dX8_told_7 : decode cX8_told 7 = .ok (.getfield 12, 3) := by decide +kernel
theorem dX8_told_10 : decode cX8_told 10 = .ok (.getfield 107, 3) := by decide +kernel
theorem dX8_told_13 : decode cX8_told 13 = .ok (.isub, 1) := by decide +kernel
theorem dX8_told_14 : decode cX8_told 14 = .ok (.invokevirtual 207, 3) := by decide +kernel
theorem dX8_told_17 : decode cX8_told 17 = .ok (.aload_n 0, 1) := by decide +kernel
theorem dX8_told_18 : decode cX8_told 18 = .ok (.getfield 47, 3) := by decide +kernel
theorem dX8_told_21 : decode cX8_told 21 = .ok (.getfield 210, 3) := by decide +kernel
theorem dX8_told_24 : decode cX8_told 24 = .ok (.iconst (-1), 1) := by decide +kernel
theorem dX8_told_25 : decode cX8_told 25 = .ok (.if_icmp .eq 14, 3) := by decide +kernel
theorem dX8_told_28 : decode cX8_told 28 = .ok (.bipush (-10), 2) := by decide +kernel
theorem dX8_told_30 : decode cX8_told 30 = .ok (.aload_n 0, 1) := by decide +kernel
theorem dX8_told_31 : decode cX8_told 31 = .ok (.getfield 47, 3) := by decide +kernel
theorem dX8_told_34 : decode cX8_told 34 = .ok (.getfield 210, 3) := by decide +kernel
theorem dX8_told_37 : decode cX8_told 37 = .ok (.isub, 1) := by decide +kernel
theorem dX8_told_38 : decode cX8_told 38 = .ok (.ireturn, 1) := by decide +kernel
theorem dX8_told_39 : decode cX8_told 39 = .ok (.aload_n 0, 1) := by decide +kernel
theorem dX8_told_40 : decode cX8_told 40 = .ok (.getfield 54, 3) := by decide +kernel
theorem dX8_told_43 : decode cX8_told 43 = .ok (.aload_n 0, 1) := by decide +kernel
theorem dX8_told_44 : decode cX8_told 44 = .ok (.getfield 12, 3) := by decide +kernel
theorem dX8_told_47 : decode cX8_told 47 = .ok (.invokevirtual 80, 3) := by decide +kernel
theorem dX8_told_50 : decode cX8_told 50 = .ok (.iconst 0, 1) := by decide +kernel
theorem dX8_told_51 : decode cX8_told 51 = .ok (.istore_n 1, 1) := by decide +kernel
theorem dX8_told_52 : decode cX8_told 52 = .ok (.iload_n 1, 1) := by decide +kernel
theorem dX8_told_53 : decode cX8_told 53 = .ok (.aload_n 0, 1) := by decide +kernel
theorem dX8_told_54 : decode cX8_told 54 = .ok (.getfield 47, 3) := by decide +kernel
theorem dX8_told_57 : decode cX8_told 57 = .ok (.getfield 213, 3) := by decide +kernel
theorem dX8_told_60 : decode cX8_told 60 = .ok (.if_icmp .ge 26, 3) := by decide +kernel
theorem dX8_told_63 : decode cX8_told 63 = .ok (.aload_n 0, 1) := by decide +kernel
theorem dX8_told_64 : decode cX8_told 64 = .ok (.getfield 12, 3) := by decide +kernel
theorem dX8_told_67 : decode cX8_told 67 = .ok (.aload_n 0, 1) := by decide +kernel
theorem dX8_told_68 : decode cX8_told 68 = .ok (.getfield 47, 3) := by decide +kernel
theorem dX8_told_71 : decode cX8_told 71 = .ok (.getfield 216, 3) := by decide +kernel
theorem dX8_told_74 : decode cX8_told 74 = .ok (.iload_n 1, 1) := by decide +kernel
theorem dX8_told_75 : decode cX8_told 75 = .ok (.iaload, 1) := by decide +kernel
theorem dX8_told_76 : decode cX8_told 76 = .ok (.invokevirtual 84, 3) := by decide +kernel
theorem dX8_told_79 : decode cX8_told 79 = .ok (.pop, 1) := by decide +kernel
theorem dX8_told_80 : decode cX8_told 80 = .ok (.iinc 1 1, 3) := by decide +kernel
theorem dX8_told_83 : decode cX8_told 83 = .ok (.goto (-31), 3) := by decide +kernel
theorem dX8_told_86 : decode cX8_told 86 = .ok (.aload_n 0, 1) := by decide +kernel
theorem dX8_told_87 : decode cX8_told 87 = .ok (.getfield 47, 3) := by decide +kernel
theorem dX8_told_90 : decode cX8_told 90 = .ok (.getfield 213, 3) := by decide +kernel
theorem dX8_told_93 : decode cX8_told 93 = .ok (.ireturn, 1) := by decide +kernel
theorem dX8_back_0 : decode cX8_back 0 = .ok (.aload_n 0, 1) := by decide +kernel
theorem dX8_back_1 : decode cX8_back 1 = .ok (.getfield 54, 3) := by decide +kernel
theorem dX8_back_4 : decode cX8_back 4 = .ok (.getfield 217, 3) := by decide +kernel
theorem dX8_back_7 : decode cX8_back 7 = .ok (.iconst 1, 1) := by decide +kernel
theorem dX8_back_8 : decode cX8_back 8 = .ok (.if_icmp .ge 10, 3) := by decide +kernel
theorem dX8_back_11 : decode cX8_back 11 = .ok (.aload_n 0, 1) := by decide +kernel
theorem dX8_back_12 : decode cX8_back 12 = .ok (.bipush (-3), 2) := by decide +kernel
theorem dX8_back_14 : decode cX8_back 14 = .ok (.invokevirtual 72, 3) := by decide +kernel
theorem dX8_back_17 : decode cX8_back 17 = .ok (.ireturn, 1) := by decide +kernel
theorem dX8_back_18 : decode cX8_back 18 = .ok (.aload_n 0, 1) := by decide +kernel
theorem dX8_back_19 : decode cX8_back 19 = .ok (.getfield 54, 3) := by decide +kernel
theorem dX8_back_22 : decode cX8_back 22 = .ok (.invokevirtual 220, 3) := by decide +kernel
theorem dX8_back_25 : decode cX8_back 25 = .ok (.astore_n 1, 1) := by decide +kernel
theorem dX8_back_26 : decode cX8_back 26 = .ok (.aload_n 1, 1) := by decide +kernel
theorem dX8_back_27 : decode cX8_back 27 = .ok (.aload_n 0, 1) := by decide +kernel
theorem dX8_back_28 : decode cX8_back 28 = .ok (.getfield 12, 3) := by decide +kernel
theorem dX8_back_31 : decode cX8_back 31 = .ok (.invokevirtual 224, 3) := by decide +kernel
theorem dX8_back_34 : decode cX8_back 34 = .ok (.aload_n 0, 1) := by decide +kernel
theorem dX8_back_35 : decode cX8_back 35 = .ok (.getfield 12, 3) := by decide +kernel
theorem dX8_back_38 : decode cX8_back 38 = .ok (.aload_n 1, 1) := by decide +kernel
theorem dX8_back_39 : decode cX8_back 39 = .ok (.getfield 229, 3) := by decide +kernel
theorem dX8_back_42 : decode cX8_back 42 = .ok (.aload_n 1, 1) := by decide +kernel
theorem dX8_back_43 : decode cX8_back 43 = .ok (.getfield 230, 3) := by decide +kernel
theorem dX8_back_46 : decode cX8_back 46 = .ok (.aload_n 1, 1) := by decide +kernel
theorem dX8_back_47 : decode cX8_back 47 = .ok (.getfield 231, 3) := by decide +kernel
theorem dX8_back_50 : decode cX8_back 50 = .ok (.invokevirtual 110, 3) := by decide +kernel
theorem dX8_back_53 : decode cX8_back 53 = .ok (.aload_n 0, 1) := by decide +kernel
theorem dX8_back_54 : decode cX8_back 54 = .ok (.getfield 54, 3) := by decide +kernel
theorem dX8_back_57 : decode cX8_back 57 = .ok (.getfield 217, 3) := by decide +kernel
theorem dX8_back_60 : decode cX8_back 60 = .ok (.ireturn, 1) := by decide +kernel
theorem dX8_count_0 : decode cX8_count 0 = .ok (.iload_n 1, 1) := by decide +kernel
theorem dX8_count_1 : decode cX8_count 1 = .ok (.tableswitch 108 0 7 #[47, 52, 57, 62, 70, 78, 89, 100], 47) := by decide +kernel
theorem dX8_count_48 : decode cX8_count 48 = .ok (.aload_n 0, 1) := by decide +kernel
theorem dX8_count_49 : decode cX8_count 49 = .ok (.getfield 58, 3) := by decide +kernel
theorem dX8_count_52 : decode cX8_count 52 = .ok (.ireturn, 1) := by decide +kernel
theorem dX8_count_53 : decode cX8_count 53 = .ok (.aload_n 0, 1) := by decide +kernel
theorem dX8_count_54 : decode cX8_count 54 = .ok (.getfield 62, 3) := by decide +kernel
theorem dX8_count_57 : decode cX8_count 57 = .ok (.ireturn, 1) := by decide +kernel
theorem dX8_count_58 : decode cX8_count 58 = .ok (.aload_n 0, 1) := by decide +kernel
theorem dX8_count_59 : decode cX8_count 59 = .ok (.getfield 65, 3) := by decide +kernel
theorem dX8_count_62 : decode cX8_count 62 = .ok (.ireturn, 1) := by decide +kernel
theorem dX8_count_63 : decode cX8_count 63 = .ok (.aload_n 0, 1) := by decide +kernel
theorem dX8_count_64 : decode cX8_count 64 = .ok (.getfield 47, 3) := by decide +kernel
theorem dX8_count_67 : decode cX8_count 67 = .ok (.getfield 203, 3) := by decide +kernel
theorem dX8_count_70 : decode cX8_count 70 = .ok (.ireturn, 1) := by decide +kernel
theorem dX8_count_71 : decode cX8_count 71 = .ok (.aload_n 0, 1) := by decide +kernel
theorem dX8_count_72 : decode cX8_count 72 = .ok (.getfield 12, 3) := by decide +kernel
theorem dX8_count_75 : decode cX8_count 75 = .ok (.getfield 107, 3) := by decide +kernel
theorem dX8_count_78 : decode cX8_count 78 = .ok (.ireturn, 1) := by decide +kernel
theorem dX8_count_79 : decode cX8_count 79 = .ok (.aload_n 0, 1) := by decide +kernel
theorem dX8_count_80 : decode cX8_count 80 = .ok (.getfield 12, 3) := by decide +kernel
theorem dX8_count_83 : decode cX8_count 83 = .ok (.getfield 98, 3) := by decide +kernel
theorem dX8_count_86 : decode cX8_count 86 = .ok (.getfield 101, 3) := by decide +kernel
theorem dX8_count_89 : decode cX8_count 89 = .ok (.ireturn, 1) := by decide +kernel
theorem dX8_count_90 : decode cX8_count 90 = .ok (.aload_n 0, 1) := by decide +kernel
theorem dX8_count_91 : decode cX8_count 91 = .ok (.getfield 12, 3) := by decide +kernel
theorem dX8_count_94 : decode cX8_count 94 = .ok (.getfield 98, 3) := by decide +kernel
theorem dX8_count_97 : decode cX8_count 97 = .ok (.getfield 104, 3) := by decide +kernel
theorem dX8_count_100 : decode cX8_count 100 = .ok (.ireturn, 1) := by decide +kernel
theorem dX8_count_101 : decode cX8_count 101 = .ok (.aload_n 0, 1) := by decide +kernel
theorem dX8_count_102 : decode cX8_count 102 = .ok (.getfield 54, 3) := by decide +kernel
theorem dX8_count_105 : decode cX8_count 105 = .ok (.getfield 217, 3) := by decide +kernel
theorem dX8_count_108 : decode cX8_count 108 = .ok (.ireturn, 1) := by decide +kernel
theorem dX8_count_109 : decode cX8_count 109 = .ok (.aload_n 0, 1) := by decide +kernel
theorem dX8_count_110 : decode cX8_count 110 = .ok (.bipush (-2), 2) := by decide +kernel
theorem dX8_count_112 : decode cX8_count 112 = .ok (.invokevirtual 72, 3) := by decide +kernel
theorem dX8_count_115 : decode cX8_count 115 = .ok (.ireturn, 1) := by decide +kernel
theorem dX8_digest_0 : decode cX8_digest 0 = .ok (.ldc2_w 232, 3) := by decide +kernel
theorem dX8_digest_3 : decode cX8_digest 3 = .ok (.lstore_n 1, 1) := by decide +kernel
theorem dX8_digest_4 : decode cX8_digest 4 = .ok (.iconst 0, 1) := by decide +kernel
theorem dX8_digest_5 : decode cX8_digest 5 = .ok (.istore_n 3, 1) := by decide +kernel
theorem dX8_digest_6 : decode cX8_digest 6 = .ok (.iload_n 3, 1) := by decide +kernel
theorem dX8_digest_7 : decode cX8_digest 7 = .ok (.bipush 7, 2) := by decide +kernel
theorem dX8_digest_9 : decode cX8_digest 9 = .ok (.if_icmp .gt 22, 3) := by decide +kernel
theorem dX8_digest_12 : decode cX8_digest 12 = .ok (.ldc2_w 234, 3) := by decide +kernel
theorem dX8_digest_15 : decode cX8_digest 15 = .ok (.lload_n 1, 1) := by decide +kernel
theorem dX8_digest_16 : decode cX8_digest 16 = .ok (.lmul, 1) := by decide +kernel
theorem dX8_digest_17 : decode cX8_digest 17 = .ok (.aload_n 0, 1) := by decide +kernel
theorem dX8_digest_18 : decode cX8_digest 18 = .ok (.iload_n 3, 1) := by decide +kernel
theorem dX8_digest_19 : decode cX8_digest 19 = .ok (.invokevirtual 236, 3) := by decide +kernel
theorem dX8_digest_22 : decode cX8_digest 22 = .ok (.i2l, 1) := by decide +kernel
theorem dX8_digest_23 : decode cX8_digest 23 = .ok (.ladd, 1) := by decide +kernel
theorem dX8_digest_24 : decode cX8_digest 24 = .ok (.lstore_n 1, 1) := by decide +kernel
theorem dX8_digest_25 : decode cX8_digest 25 = .ok (.iinc 3 1, 3) := by decide +kernel
theorem dX8_digest_28 : decode cX8_digest 28 = .ok (.goto (-22), 3) := by decide +kernel
theorem dX8_digest_31 : decode cX8_digest 31 = .ok (.iconst 0, 1) := by decide +kernel
theorem dX8_digest_32 : decode cX8_digest 32 = .ok (.istore_n 3, 1) := by decide +kernel
theorem dX8_digest_33 : decode cX8_digest 33 = .ok (.iload_n 3, 1) := by decide +kernel
theorem dX8_digest_34 : decode cX8_digest 34 = .ok (.aload_n 0, 1) := by decide +kernel
theorem dX8_digest_35 : decode cX8_digest 35 = .ok (.getfield 12, 3) := by decide +kernel
theorem dX8_digest_38 : decode cX8_digest 38 = .ok (.getfield 107, 3) := by decide +kernel
theorem dX8_digest_41 : decode cX8_digest 41 = .ok (.if_icmp .ge 26, 3) := by decide +kernel
theorem dX8_digest_44 : decode cX8_digest 44 = .ok (.ldc2_w 234, 3) := by decide +kernel
theorem dX8_digest_47 : decode cX8_digest 47 = .ok (.lload_n 1, 1) := by decide +kernel
theorem dX8_digest_48 : decode cX8_digest 48 = .ok (.lmul, 1) := by decide +kernel
theorem dX8_digest_49 : decode cX8_digest 49 = .ok (.aload_n 0, 1) := by decide +kernel
theorem dX8_digest_50 : decode cX8_digest 50 = .ok (.getfield 12, 3) := by decide +kernel
theorem dX8_digest_53 : decode cX8_digest 53 = .ok (.getfield 117, 3) := by decide +kernel
theorem dX8_digest_56 : decode cX8_digest 56 = .ok (.iload_n 3, 1) := by decide +kernel
theorem dX8_digest_57 : decode cX8_digest 57 = .ok (.iaload, 1) := by decide +kernel
theorem dX8_digest_58 : decode cX8_digest 58 = .ok (.i2l, 1) := by decide +kernel
theorem dX8_digest_59 : decode cX8_digest 59 = .ok (.ladd, 1) := by decide +kernel
theorem dX8_digest_60 : decode cX8_digest 60 = .ok (.lstore_n 1, 1) := by decide +kernel
theorem dX8_digest_61 : decode cX8_digest 61 = .ok (.iinc 3 1, 3) := by decide +kernel
theorem dX8_digest_64 : decode cX8_digest 64 = .ok (.goto (-31), 3) := by decide +kernel
theorem dX8_digest_67 : decode cX8_digest 67 = .ok (.ldc2_w 234, 3) := by decide +kernel
theorem dX8_digest_70 : decode cX8_digest 70 = .ok (.lload_n 1, 1) := by decide +kernel
theorem dX8_digest_71 : decode cX8_digest 71 = .ok (.lmul, 1) := by decide +kernel
theorem dX8_digest_72 : decode cX8_digest 72 = .ok (.aload_n 0, 1) := by decide +kernel
theorem dX8_digest_73 : decode cX8_digest 73 = .ok (.invokevirtual 239, 3) := by decide +kernel
theorem dX8_digest_76 : decode cX8_digest 76 = .ok (.i2l, 1) := by decide +kernel
theorem dX8_digest_77 : decode cX8_digest 77 = .ok (.ladd, 1) := by decide +kernel
theorem dX8_digest_78 : decode cX8_digest 78 = .ok (.lstore_n 1, 1) := by decide +kernel
theorem dX8_digest_79 : decode cX8_digest 79 = .ok (.ldc2_w 234, 3) := by decide +kernel
theorem dX8_digest_82 : decode cX8_digest 82 = .ok (.lload_n 1, 1) := by decide +kernel
theorem dX8_digest_83 : decode cX8_digest 83 = .ok (.lmul, 1) := by decide +kernel
theorem dX8_digest_84 : decode cX8_digest 84 = .ok (.aload_n 0, 1) := by decide +kernel
theorem dX8_digest_85 : decode cX8_digest 85 = .ok (.invokevirtual 242, 3) := by decide +kernel
theorem dX8_digest_88 : decode cX8_digest 88 = .ok (.i2l, 1) := by decide +kernel
theorem dX8_digest_89 : decode cX8_digest 89 = .ok (.ladd, 1) := by decide +kernel
theorem dX8_digest_90 : decode cX8_digest 90 = .ok (.lstore_n 1, 1) := by decide +kernel
theorem dX8_digest_91 : decode cX8_digest 91 = .ok (.ldc2_w 234, 3) := by decide +kernel
theorem dX8_digest_94 : decode cX8_digest 94 = .ok (.lload_n 1, 1) := by decide +kernel
theorem dX8_digest_95 : decode cX8_digest 95 = .ok (.lmul, 1) := by decide +kernel
theorem dX8_digest_96 : decode cX8_digest 96 = .ok (.aload_n 0, 1) := by decide +kernel
theorem dX8_digest_97 : decode cX8_digest 97 = .ok (.iconst 0, 1) := by decide +kernel
theorem dX8_digest_98 : decode cX8_digest 98 = .ok (.invokevirtual 245, 3) := by decide +kernel
theorem dX8_digest_101 : decode cX8_digest 101 = .ok (.i2l, 1) := by decide +kernel
theorem dX8_digest_102 : decode cX8_digest 102 = .ok (.ladd, 1) := by decide +kernel
theorem dX8_digest_103 : decode cX8_digest 103 = .ok (.lstore_n 1, 1) := by decide +kernel
theorem dX8_digest_104 : decode cX8_digest 104 = .ok (.aload_n 0, 1) := by decide +kernel
theorem dX8_digest_105 : decode cX8_digest 105 = .ok (.getfield 40, 3) := by decide +kernel
theorem dX8_digest_108 : decode cX8_digest 108 = .ok (.aload_n 0, 1) := by decide +kernel
theorem dX8_digest_109 : decode cX8_digest 109 = .ok (.getfield 12, 3) := by decide +kernel
theorem dX8_digest_112 : decode cX8_digest 112 = .ok (.invokevirtual 188, 3) := by decide +kernel
theorem dX8_digest_115 : decode cX8_digest 115 = .ok (.iconst 0, 1) := by decide +kernel
theorem dX8_digest_116 : decode cX8_digest 116 = .ok (.istore_n 3, 1) := by decide +kernel
theorem dX8_digest_117 : decode cX8_digest 117 = .ok (.iload_n 3, 1) := by decide +kernel
theorem dX8_digest_118 : decode cX8_digest 118 = .ok (.aload_n 0, 1) := by decide +kernel
theorem dX8_digest_119 : decode cX8_digest 119 = .ok (.getfield 40, 3) := by decide +kernel
theorem dX8_digest_122 : decode cX8_digest 122 = .ok (.getfield 191, 3) := by decide +kernel
theorem dX8_digest_125 : decode cX8_digest 125 = .ok (.if_icmp .ge 25, 3) := by decide +kernel
theorem dX8_digest_128 : decode cX8_digest 128 = .ok (.ldc2_w 234, 3) := by decide +kernel
theorem dX8_digest_131 : decode cX8_digest 131 = .ok (.lload_n 1, 1) := by decide +kernel
theorem dX8_digest_132 : decode cX8_digest 132 = .ok (.lmul, 1) := by decide +kernel
theorem dX8_digest_133 : decode cX8_digest 133 = .ok (.aload_n 0, 1) := by decide +kernel
theorem dX8_digest_134 : decode cX8_digest 134 = .ok (.getfield 40, 3) := by decide +kernel
theorem dX8_digest_137 : decode cX8_digest 137 = .ok (.iload_n 3, 1) := by decide +kernel
theorem dX8_digest_138 : decode cX8_digest 138 = .ok (.invokevirtual 192, 3) := by decide +kernel
theorem dX8_digest_141 : decode cX8_digest 141 = .ok (.i2l, 1) := by decide +kernel
theorem dX8_digest_142 : decode cX8_digest 142 = .ok (.ladd, 1) := by decide +kernel
theorem dX8_digest_143 : decode cX8_digest 143 = .ok (.lstore_n 1, 1) := by decide +kernel
theorem dX8_digest_144 : decode cX8_digest 144 = .ok (.iinc 3 1, 3) := by decide +kernel
theorem dX8_digest_147 : decode cX8_digest 147 = .ok (.goto (-30), 3) := by decide +kernel
theorem dX8_digest_150 : decode cX8_digest 150 = .ok (.lload_n 1, 1) := by decide +kernel
theorem dX8_digest_151 : decode cX8_digest 151 = .ok (.lreturn, 1) := by decide +kernel
theorem dX8_refuse_0 : decode cX8_refuse 0 = .ok (.iload_n 1, 1) := by decide +kernel
theorem dX8_refuse_1 : decode cX8_refuse 1 = .ok (.bipush (-2), 2) := by decide +kernel
theorem dX8_refuse_3 : decode cX8_refuse 3 = .ok (.if_icmp .ne 16, 3) := by decide +kernel
theorem dX8_refuse_6 : decode cX8_refuse 6 = .ok (.aload_n 0, 1) := by decide +kernel
theorem dX8_refuse_7 : decode cX8_refuse 7 = .ok (.dup, 1) := by decide +kernel
theorem dX8_refuse_8 : decode cX8_refuse 8 = .ok (.getfield 58, 3) := by decide +kernel
theorem dX8_refuse_11 : decode cX8_refuse 11 = .ok (.iconst 1, 1) := by decide +kernel
theorem dX8_refuse_12 : decode cX8_refuse 12 = .ok (.iadd, 1) := by decide +kernel
theorem dX8_refuse_13 : decode cX8_refuse 13 = .ok (.putfield 58, 3) := by decide +kernel
theorem dX8_refuse_16 : decode cX8_refuse 16 = .ok (.goto 32, 3) := by decide +kernel
theorem dX8_refuse_19 : decode cX8_refuse 19 = .ok (.iload_n 1, 1) := by decide +kernel
theorem dX8_refuse_20 : decode cX8_refuse 20 = .ok (.bipush (-3), 2) := by decide +kernel
theorem dX8_refuse_22 : decode cX8_refuse 22 = .ok (.if_icmp .ne 16, 3) := by decide +kernel
theorem dX8_refuse_25 : decode cX8_refuse 25 = .ok (.aload_n 0, 1) := by decide +kernel
theorem dX8_refuse_26 : decode cX8_refuse 26 = .ok (.dup, 1) := by decide +kernel
theorem dX8_refuse_27 : decode cX8_refuse 27 = .ok (.getfield 62, 3) := by decide +kernel
theorem dX8_refuse_30 : decode cX8_refuse 30 = .ok (.iconst 1, 1) := by decide +kernel
theorem dX8_refuse_31 : decode cX8_refuse 31 = .ok (.iadd, 1) := by decide +kernel
theorem dX8_refuse_32 : decode cX8_refuse 32 = .ok (.putfield 62, 3) := by decide +kernel
theorem dX8_refuse_35 : decode cX8_refuse 35 = .ok (.goto 13, 3) := by decide +kernel
theorem dX8_refuse_38 : decode cX8_refuse 38 = .ok (.aload_n 0, 1) := by decide +kernel
theorem dX8_refuse_39 : decode cX8_refuse 39 = .ok (.dup, 1) := by decide +kernel
theorem dX8_refuse_40 : decode cX8_refuse 40 = .ok (.getfield 65, 3) := by decide +kernel
theorem dX8_refuse_43 : decode cX8_refuse 43 = .ok (.iconst 1, 1) := by decide +kernel
theorem dX8_refuse_44 : decode cX8_refuse 44 = .ok (.iadd, 1) := by decide +kernel
theorem dX8_refuse_45 : decode cX8_refuse 45 = .ok (.putfield 65, 3) := by decide +kernel
theorem dX8_refuse_48 : decode cX8_refuse 48 = .ok (.iload_n 1, 1) := by decide +kernel
theorem dX8_refuse_49 : decode cX8_refuse 49 = .ok (.ireturn, 1) := by decide +kernel
theorem dX8_hasRoom_0 : decode cX8_hasRoom 0 = .ok (.aload_n 0, 1) := by decide +kernel
theorem dX8_hasRoom_1 : decode cX8_hasRoom 1 = .ok (.getfield 12, 3) := by decide +kernel
theorem dX8_hasRoom_4 : decode cX8_hasRoom 4 = .ok (.getfield 107, 3) := by decide +kernel
theorem dX8_hasRoom_7 : decode cX8_hasRoom 7 = .ok (.iload_n 1, 1) := by decide +kernel
theorem dX8_hasRoom_8 : decode cX8_hasRoom 8 = .ok (.iadd, 1) := by decide +kernel
theorem dX8_hasRoom_9 : decode cX8_hasRoom 9 = .ok (.bipush 100, 2) := by decide +kernel
theorem dX8_hasRoom_11 : decode cX8_hasRoom 11 = .ok (.if_icmp .gt 7, 3) := by decide +kernel
theorem dX8_hasRoom_14 : decode cX8_hasRoom 14 = .ok (.iconst 1, 1) := by decide +kernel
theorem dX8_hasRoom_15 : decode cX8_hasRoom 15 = .ok (.goto 4, 3) := by decide +kernel
theorem dX8_hasRoom_18 : decode cX8_hasRoom 18 = .ok (.iconst 0, 1) := by decide +kernel
theorem dX8_hasRoom_19 : decode cX8_hasRoom 19 = .ok (.ireturn, 1) := by decide +kernel
theorem dX8_within_0 : decode cX8_within 0 = .ok (.iload_n 0, 1) := by decide +kernel
theorem dX8_within_1 : decode cX8_within 1 = .ok (.iload_n 1, 1) := by decide +kernel
theorem dX8_within_2 : decode cX8_within 2 = .ok (.if_icmp .lt 12, 3) := by decide +kernel
theorem dX8_within_5 : decode cX8_within 5 = .ok (.iload_n 0, 1) := by decide +kernel
theorem dX8_within_6 : decode cX8_within 6 = .ok (.iload_n 2, 1) := by decide +kernel
theorem dX8_within_7 : decode cX8_within 7 = .ok (.if_icmp .gt 7, 3) := by decide +kernel
theorem dX8_within_10 : decode cX8_within 10 = .ok (.iconst 1, 1) := by decide +kernel
theorem dX8_within_11 : decode cX8_within 11 = .ok (.goto 4, 3) := by decide +kernel
theorem dX8_within_14 : decode cX8_within 14 = .ok (.iconst 0, 1) := by decide +kernel
theorem dX8_within_15 : decode cX8_within 15 = .ok (.ireturn, 1) := by decide +kernel
theorem dX8_kept_0 : decode cX8_kept 0 = .ok (.lload_n 0, 1) := by decide +kernel
theorem dX8_kept_1 : decode cX8_kept 1 = .ok (.iload_n 2, 1) := by decide +kernel
theorem dX8_kept_2 : decode cX8_kept 2 = .ok (.i2l, 1) := by decide +kernel
theorem dX8_kept_3 : decode cX8_kept 3 = .ok (.lcmp, 1) := by decide +kernel
theorem dX8_kept_4 : decode cX8_kept 4 = .ok (.ifCond .ge 7, 3) := by decide +kernel
theorem dX8_kept_7 : decode cX8_kept 7 = .ok (.iload_n 2, 1) := by decide +kernel
theorem dX8_kept_8 : decode cX8_kept 8 = .ok (.goto 16, 3) := by decide +kernel
theorem dX8_kept_11 : decode cX8_kept 11 = .ok (.lload_n 0, 1) := by decide +kernel
theorem dX8_kept_12 : decode cX8_kept 12 = .ok (.iload_n 3, 1) := by decide +kernel
theorem dX8_kept_13 : decode cX8_kept 13 = .ok (.i2l, 1) := by decide +kernel
theorem dX8_kept_14 : decode cX8_kept 14 = .ok (.lcmp, 1) := by decide +kernel
theorem dX8_kept_15 : decode cX8_kept 15 = .ok (.ifCond .le 7, 3) := by decide +kernel
theorem dX8_kept_18 : decode cX8_kept 18 = .ok (.iload_n 3, 1) := by decide +kernel
theorem dX8_kept_19 : decode cX8_kept 19 = .ok (.goto 5, 3) := by decide +kernel
theorem dX8_kept_22 : decode cX8_kept 22 = .ok (.lload_n 0, 1) := by decide +kernel
theorem dX8_kept_23 : decode cX8_kept 23 = .ok (.l2i, 1) := by decide +kernel
theorem dX8_kept_24 : decode cX8_kept 24 = .ok (.ireturn, 1) := by decide +kernel
theorem dX8_nodeOf_0 : decode cX8_nodeOf 0 = .ok (.iconst 1, 1) := by decide +kernel
theorem dX8_nodeOf_1 : decode cX8_nodeOf 1 = .ok (.iload_n 0, 1) := by decide +kernel
theorem dX8_nodeOf_2 : decode cX8_nodeOf 2 = .ok (.i2l, 1) := by decide +kernel
theorem dX8_nodeOf_3 : decode cX8_nodeOf 3 = .ok (.iconst 0, 1) := by decide +kernel
theorem dX8_nodeOf_4 : decode cX8_nodeOf 4 = .ok (.bipush 6, 2) := by decide +kernel
theorem dX8_nodeOf_6 : decode cX8_nodeOf 6 = .ok (.invokestatic 248, 3) := by decide +kernel
theorem dX8_nodeOf_9 : decode cX8_nodeOf 9 = .ok (.ishl, 1) := by decide +kernel
theorem dX8_nodeOf_10 : decode cX8_nodeOf 10 = .ok (.istore_n 2, 1) := by decide +kernel
theorem dX8_nodeOf_11 : decode cX8_nodeOf 11 = .ok (.iload_n 2, 1) := by decide +kernel
theorem dX8_nodeOf_12 : decode cX8_nodeOf 12 = .ok (.iload_n 1, 1) := by decide +kernel
theorem dX8_nodeOf_13 : decode cX8_nodeOf 13 = .ok (.iload_n 2, 1) := by decide +kernel
theorem dX8_nodeOf_14 : decode cX8_nodeOf 14 = .ok (.iconst 1, 1) := by decide +kernel
theorem dX8_nodeOf_15 : decode cX8_nodeOf 15 = .ok (.isub, 1) := by decide +kernel
theorem dX8_nodeOf_16 : decode cX8_nodeOf 16 = .ok (.iand, 1) := by decide +kernel
theorem dX8_nodeOf_17 : decode cX8_nodeOf 17 = .ok (.ior, 1) := by decide +kernel
theorem dX8_nodeOf_18 : decode cX8_nodeOf 18 = .ok (.ireturn, 1) := by decide +kernel
theorem dX8_quotient_0 : decode cX8_quotient 0 = .ok (.lload_n 2, 1) := by decide +kernel
theorem dX8_quotient_1 : decode cX8_quotient 1 = .ok (.lconst 1, 1) := by decide +kernel
theorem dX8_quotient_2 : decode cX8_quotient 2 = .ok (.lcmp, 1) := by decide +kernel
theorem dX8_quotient_3 : decode cX8_quotient 3 = .ok (.ifCond .ge 7, 3) := by decide +kernel
theorem dX8_quotient_6 : decode cX8_quotient 6 = .ok (.lconst 0, 1) := by decide +kernel
theorem dX8_quotient_7 : decode cX8_quotient 7 = .ok (.goto 6, 3) := by decide +kernel
theorem dX8_quotient_10 : decode cX8_quotient 10 = .ok (.lload_n 0, 1) := by decide +kernel
theorem dX8_quotient_11 : decode cX8_quotient 11 = .ok (.lload_n 2, 1) := by decide +kernel
theorem dX8_quotient_12 : decode cX8_quotient 12 = .ok (.ldiv, 1) := by decide +kernel
theorem dX8_quotient_13 : decode cX8_quotient 13 = .ok (.lreturn, 1) := by decide +kernel
theorem dX8_opinion_0 : decode cX8_opinion 0 = .ok (.iconst 2, 1) := by decide +kernel
theorem dX8_opinion_1 : decode cX8_opinion 1 = .ok (.iload_n 2, 1) := by decide +kernel
theorem dX8_opinion_2 : decode cX8_opinion 2 = .ok (.imul, 1) := by decide +kernel
theorem dX8_opinion_3 : decode cX8_opinion 3 = .ok (.iconst 1, 1) := by decide +kernel
theorem dX8_opinion_4 : decode cX8_opinion 4 = .ok (.iadd, 1) := by decide +kernel
theorem dX8_opinion_5 : decode cX8_opinion 5 = .ok (.i2l, 1) := by decide +kernel
theorem dX8_opinion_6 : decode cX8_opinion 6 = .ok (.lstore_n 3, 1) := by decide +kernel
theorem dX8_opinion_7 : decode cX8_opinion 7 = .ok (.iconst 2, 1) := by decide +kernel
theorem dX8_opinion_8 : decode cX8_opinion 8 = .ok (.iload_n 1, 1) := by decide +kernel
theorem dX8_opinion_9 : decode cX8_opinion 9 = .ok (.imul, 1) := by decide +kernel
theorem dX8_opinion_10 : decode cX8_opinion 10 = .ok (.iconst 2, 1) := by decide +kernel
theorem dX8_opinion_11 : decode cX8_opinion 11 = .ok (.iload_n 2, 1) := by decide +kernel
theorem dX8_opinion_12 : decode cX8_opinion 12 = .ok (.imul, 1) := by decide +kernel
theorem dX8_opinion_13 : decode cX8_opinion 13 = .ok (.iadd, 1) := by decide +kernel
theorem dX8_opinion_14 : decode cX8_opinion 14 = .ok (.iconst 2, 1) := by decide +kernel
theorem dX8_opinion_15 : decode cX8_opinion 15 = .ok (.iadd, 1) := by decide +kernel
theorem dX8_opinion_16 : decode cX8_opinion 16 = .ok (.i2l, 1) := by decide +kernel
theorem dX8_opinion_17 : decode cX8_opinion 17 = .ok (.lstore 5, 2) := by decide +kernel
theorem dX8_opinion_19 : decode cX8_opinion 19 = .ok (.iload_n 0, 1) := by decide +kernel
theorem dX8_opinion_20 : decode cX8_opinion 20 = .ok (.iconst 1, 1) := by decide +kernel
theorem dX8_opinion_21 : decode cX8_opinion 21 = .ok (.if_icmp .ne 19, 3) := by decide +kernel
theorem dX8_opinion_24 : decode cX8_opinion 24 = .ok (.iload_n 2, 1) := by decide +kernel
theorem dX8_opinion_25 : decode cX8_opinion 25 = .ok (.iconst 1, 1) := by decide +kernel
theorem dX8_opinion_26 : decode cX8_opinion 26 = .ok (.iadd, 1) := by decide +kernel
theorem dX8_opinion_27 : decode cX8_opinion 27 = .ok (.i2l, 1) := by decide +kernel
theorem dX8_opinion_28 : decode cX8_opinion 28 = .ok (.lstore_n 3, 1) := by decide +kernel
theorem dX8_opinion_29 : decode cX8_opinion 29 = .ok (.iload_n 1, 1) := by decide +kernel
theorem dX8_opinion_30 : decode cX8_opinion 30 = .ok (.iload_n 2, 1) := by decide +kernel
theorem dX8_opinion_31 : decode cX8_opinion 31 = .ok (.iadd, 1) := by decide +kernel
theorem dX8_opinion_32 : decode cX8_opinion 32 = .ok (.iconst 2, 1) := by decide +kernel
theorem dX8_opinion_33 : decode cX8_opinion 33 = .ok (.iadd, 1) := by decide +kernel
theorem dX8_opinion_34 : decode cX8_opinion 34 = .ok (.i2l, 1) := by decide +kernel
theorem dX8_opinion_35 : decode cX8_opinion 35 = .ok (.lstore 5, 2) := by decide +kernel
theorem dX8_opinion_37 : decode cX8_opinion 37 = .ok (.goto 60, 3) := by decide +kernel
theorem dX8_opinion_40 : decode cX8_opinion 40 = .ok (.iload_n 0, 1) := by decide +kernel
theorem dX8_opinion_41 : decode cX8_opinion 41 = .ok (.iconst 2, 1) := by decide +kernel
theorem dX8_opinion_42 : decode cX8_opinion 42 = .ok (.if_icmp .ne 25, 3) := by decide +kernel
theorem dX8_opinion_45 : decode cX8_opinion 45 = .ok (.iconst 4, 1) := by decide +kernel
theorem dX8_opinion_46 : decode cX8_opinion 46 = .ok (.iload_n 2, 1) := by decide +kernel
theorem dX8_opinion_47 : decode cX8_opinion 47 = .ok (.imul, 1) := by decide +kernel
theorem dX8_opinion_48 : decode cX8_opinion 48 = .ok (.iconst 1, 1) := by decide +kernel
theorem dX8_opinion_49 : decode cX8_opinion 49 = .ok (.iadd, 1) := by decide +kernel
theorem dX8_opinion_50 : decode cX8_opinion 50 = .ok (.i2l, 1) := by decide +kernel
theorem dX8_opinion_51 : decode cX8_opinion 51 = .ok (.lstore_n 3, 1) := by decide +kernel
theorem dX8_opinion_52 : decode cX8_opinion 52 = .ok (.iconst 4, 1) := by decide +kernel
theorem dX8_opinion_53 : decode cX8_opinion 53 = .ok (.iload_n 1, 1) := by decide +kernel
theorem dX8_opinion_54 : decode cX8_opinion 54 = .ok (.imul, 1) := by decide +kernel
theorem dX8_opinion_55 : decode cX8_opinion 55 = .ok (.iconst 4, 1) := by decide +kernel
theorem dX8_opinion_56 : decode cX8_opinion 56 = .ok (.iload_n 2, 1) := by decide +kernel
theorem dX8_opinion_57 : decode cX8_opinion 57 = .ok (.imul, 1) := by decide +kernel
theorem dX8_opinion_58 : decode cX8_opinion 58 = .ok (.iadd, 1) := by decide +kernel
theorem dX8_opinion_59 : decode cX8_opinion 59 = .ok (.iconst 2, 1) := by decide +kernel
theorem dX8_opinion_60 : decode cX8_opinion 60 = .ok (.iadd, 1) := by decide +kernel
theorem dX8_opinion_61 : decode cX8_opinion 61 = .ok (.i2l, 1) := by decide +kernel
theorem dX8_opinion_62 : decode cX8_opinion 62 = .ok (.lstore 5, 2) := by decide +kernel
theorem dX8_opinion_64 : decode cX8_opinion 64 = .ok (.goto 33, 3) := by decide +kernel
theorem dX8_opinion_67 : decode cX8_opinion 67 = .ok (.iload_n 0, 1) := by decide +kernel
theorem dX8_opinion_68 : decode cX8_opinion 68 = .ok (.iconst 3, 1) := by decide +kernel
theorem dX8_opinion_69 : decode cX8_opinion 69 = .ok (.if_icmp .ne 28, 3) := by decide +kernel
theorem dX8_opinion_72 : decode cX8_opinion 72 = .ok (.iconst 2, 1) := by decide +kernel
theorem dX8_opinion_73 : decode cX8_opinion 73 = .ok (.iload_n 2, 1) := by decide +kernel
theorem dX8_opinion_74 : decode cX8_opinion 74 = .ok (.iconst 2, 1) := by decide +kernel
theorem dX8_opinion_75 : decode cX8_opinion 75 = .ok (.idiv, 1) := by decide +kernel
theorem dX8_opinion_76 : decode cX8_opinion 76 = .ok (.imul, 1) := by decide +kernel
theorem dX8_opinion_77 : decode cX8_opinion 77 = .ok (.iconst 1, 1) := by decide +kernel
theorem dX8_opinion_78 : decode cX8_opinion 78 = .ok (.iadd, 1) := by decide +kernel
theorem dX8_opinion_79 : decode cX8_opinion 79 = .ok (.i2l, 1) := by decide +kernel
theorem dX8_opinion_80 : decode cX8_opinion 80 = .ok (.lstore_n 3, 1) := by decide +kernel
theorem dX8_opinion_81 : decode cX8_opinion 81 = .ok (.iconst 2, 1) := by decide +kernel
theorem dX8_opinion_82 : decode cX8_opinion 82 = .ok (.iload_n 1, 1) := by decide +kernel
theorem dX8_opinion_83 : decode cX8_opinion 83 = .ok (.iconst 2, 1) := by decide +kernel
theorem dX8_opinion_84 : decode cX8_opinion 84 = .ok (.idiv, 1) := by decide +kernel
theorem dX8_opinion_85 : decode cX8_opinion 85 = .ok (.imul, 1) := by decide +kernel
theorem dX8_opinion_86 : decode cX8_opinion 86 = .ok (.iconst 2, 1) := by decide +kernel
theorem dX8_opinion_87 : decode cX8_opinion 87 = .ok (.iload_n 2, 1) := by decide +kernel
theorem dX8_opinion_88 : decode cX8_opinion 88 = .ok (.iconst 2, 1) := by decide +kernel
theorem dX8_opinion_89 : decode cX8_opinion 89 = .ok (.idiv, 1) := by decide +kernel
theorem dX8_opinion_90 : decode cX8_opinion 90 = .ok (.imul, 1) := by decide +kernel
theorem dX8_opinion_91 : decode cX8_opinion 91 = .ok (.iadd, 1) := by decide +kernel
theorem dX8_opinion_92 : decode cX8_opinion 92 = .ok (.iconst 2, 1) := by decide +kernel
theorem dX8_opinion_93 : decode cX8_opinion 93 = .ok (.iadd, 1) := by decide +kernel
theorem dX8_opinion_94 : decode cX8_opinion 94 = .ok (.i2l, 1) := by decide +kernel
theorem dX8_opinion_95 : decode cX8_opinion 95 = .ok (.lstore 5, 2) := by decide +kernel
theorem dX8_opinion_97 : decode cX8_opinion 97 = .ok (.ldc2_w 94, 3) := by decide +kernel
theorem dX8_opinion_100 : decode cX8_opinion 100 = .ok (.lload_n 3, 1) := by decide +kernel
theorem dX8_opinion_101 : decode cX8_opinion 101 = .ok (.lmul, 1) := by decide +kernel
theorem dX8_opinion_102 : decode cX8_opinion 102 = .ok (.lload 5, 2) := by decide +kernel
theorem dX8_opinion_104 : decode cX8_opinion 104 = .ok (.invokestatic 252, 3) := by decide +kernel
theorem dX8_opinion_107 : decode cX8_opinion 107 = .ok (.iconst 1, 1) := by decide +kernel
theorem dX8_opinion_108 : decode cX8_opinion 108 = .ok (.ldc_w 256, 3) := by decide +kernel
theorem dX8_opinion_111 : decode cX8_opinion 111 = .ok (.invokestatic 248, 3) := by decide +kernel
theorem dX8_opinion_114 : decode cX8_opinion 114 = .ok (.ireturn, 1) := by decide +kernel
theorem dX8_ofSign_0 : decode cX8_ofSign 0 = .ok (.iload_n 0, 1) := by decide +kernel
theorem dX8_ofSign_1 : decode cX8_ofSign 1 = .ok (.iconst 1, 1) := by decide +kernel
theorem dX8_ofSign_2 : decode cX8_ofSign 2 = .ok (.if_icmp .ne 7, 3) := by decide +kernel
theorem dX8_ofSign_5 : decode cX8_ofSign 5 = .ok (.iload_n 1, 1) := by decide +kernel
theorem dX8_ofSign_6 : decode cX8_ofSign 6 = .ok (.goto 7, 3) := by decide +kernel
theorem dX8_ofSign_9 : decode cX8_ofSign 9 = .ok (.ldc 148, 2) := by decide +kernel
theorem dX8_ofSign_11 : decode cX8_ofSign 11 = .ok (.iload_n 1, 1) := by decide +kernel
theorem dX8_ofSign_12 : decode cX8_ofSign 12 = .ok (.isub, 1) := by decide +kernel
theorem dX8_ofSign_13 : decode cX8_ofSign 13 = .ok (.ireturn, 1) := by decide +kernel
theorem dX8_bitsOf_0 : decode cX8_bitsOf 0 = .ok (.bipush 15, 2) := by decide +kernel
theorem dX8_bitsOf_2 : decode cX8_bitsOf 2 = .ok (.istore_n 1, 1) := by decide +kernel
theorem dX8_bitsOf_3 : decode cX8_bitsOf 3 = .ok (.bipush 15, 2) := by decide +kernel
theorem dX8_bitsOf_5 : decode cX8_bitsOf 5 = .ok (.istore_n 2, 1) := by decide +kernel
theorem dX8_bitsOf_6 : decode cX8_bitsOf 6 = .ok (.iload_n 2, 1) := by decide +kernel
theorem dX8_bitsOf_7 : decode cX8_bitsOf 7 = .ok (.ifCond .le 19, 3) := by decide +kernel
theorem dX8_bitsOf_10 : decode cX8_bitsOf 10 = .ok (.iload_n 0, 1) := by decide +kernel
theorem dX8_bitsOf_11 : decode cX8_bitsOf 11 = .ok (.iload_n 2, 1) := by decide +kernel
theorem dX8_bitsOf_12 : decode cX8_bitsOf 12 = .ok (.ishr, 1) := by decide +kernel
theorem dX8_bitsOf_13 : decode cX8_bitsOf 13 = .ok (.ifCond .ne 13, 3) := by decide +kernel
theorem dX8_bitsOf_16 : decode cX8_bitsOf 16 = .ok (.iload_n 2, 1) := by decide +kernel
theorem dX8_bitsOf_17 : decode cX8_bitsOf 17 = .ok (.iconst 1, 1) := by decide +kernel
theorem dX8_bitsOf_18 : decode cX8_bitsOf 18 = .ok (.isub, 1) := by decide +kernel
theorem dX8_bitsOf_19 : decode cX8_bitsOf 19 = .ok (.istore_n 1, 1) := by decide +kernel
theorem dX8_bitsOf_20 : decode cX8_bitsOf 20 = .ok (.iinc 2 (-1), 3) := by decide +kernel
theorem dX8_bitsOf_23 : decode cX8_bitsOf 23 = .ok (.goto (-17), 3) := by decide +kernel
theorem dX8_bitsOf_26 : decode cX8_bitsOf 26 = .ok (.iload_n 1, 1) := by decide +kernel
theorem dX8_bitsOf_27 : decode cX8_bitsOf 27 = .ok (.iconst 4, 1) := by decide +kernel
theorem dX8_bitsOf_28 : decode cX8_bitsOf 28 = .ok (.if_icmp .lt 11, 3) := by decide +kernel
theorem dX8_bitsOf_31 : decode cX8_bitsOf 31 = .ok (.iload_n 0, 1) := by decide +kernel
theorem dX8_bitsOf_32 : decode cX8_bitsOf 32 = .ok (.iload_n 1, 1) := by decide +kernel
theorem dX8_bitsOf_33 : decode cX8_bitsOf 33 = .ok (.iconst 4, 1) := by decide +kernel
theorem dX8_bitsOf_34 : decode cX8_bitsOf 34 = .ok (.isub, 1) := by decide +kernel
theorem dX8_bitsOf_35 : decode cX8_bitsOf 35 = .ok (.ishr, 1) := by decide +kernel
theorem dX8_bitsOf_36 : decode cX8_bitsOf 36 = .ok (.goto 8, 3) := by decide +kernel
theorem dX8_bitsOf_39 : decode cX8_bitsOf 39 = .ok (.iload_n 0, 1) := by decide +kernel
theorem dX8_bitsOf_40 : decode cX8_bitsOf 40 = .ok (.iconst 4, 1) := by decide +kernel
theorem dX8_bitsOf_41 : decode cX8_bitsOf 41 = .ok (.iload_n 1, 1) := by decide +kernel
theorem dX8_bitsOf_42 : decode cX8_bitsOf 42 = .ok (.isub, 1) := by decide +kernel
theorem dX8_bitsOf_43 : decode cX8_bitsOf 43 = .ok (.ishl, 1) := by decide +kernel
theorem dX8_bitsOf_44 : decode cX8_bitsOf 44 = .ok (.istore_n 2, 1) := by decide +kernel
theorem dX8_bitsOf_45 : decode cX8_bitsOf 45 = .ok (.bipush 16, 2) := by decide +kernel
theorem dX8_bitsOf_47 : decode cX8_bitsOf 47 = .ok (.bipush 16, 2) := by decide +kernel
theorem dX8_bitsOf_49 : decode cX8_bitsOf 49 = .ok (.iload_n 1, 1) := by decide +kernel
theorem dX8_bitsOf_50 : decode cX8_bitsOf 50 = .ok (.isub, 1) := by decide +kernel
theorem dX8_bitsOf_51 : decode cX8_bitsOf 51 = .ok (.imul, 1) := by decide +kernel
theorem dX8_bitsOf_52 : decode cX8_bitsOf 52 = .ok (.iload_n 2, 1) := by decide +kernel
theorem dX8_bitsOf_53 : decode cX8_bitsOf 53 = .ok (.bipush 15, 2) := by decide +kernel
theorem dX8_bitsOf_55 : decode cX8_bitsOf 55 = .ok (.iand, 1) := by decide +kernel
theorem dX8_bitsOf_56 : decode cX8_bitsOf 56 = .ok (.isub, 1) := by decide +kernel
theorem dX8_bitsOf_57 : decode cX8_bitsOf 57 = .ok (.ireturn, 1) := by decide +kernel
theorem dX9_init_0 : decode cX9_init 0 = .ok (.aload_n 0, 1) := by decide +kernel
theorem dX9_init_1 : decode cX9_init 1 = .ok (.invokespecial 1, 3) := by decide +kernel
theorem dX9_init_4 : decode cX9_init 4 = .ok (.aload_n 0, 1) := by decide +kernel
theorem dX9_init_5 : decode cX9_init 5 = .ok (.bipush 103, 2) := by decide +kernel
theorem dX9_init_7 : decode cX9_init 7 = .ok (.newarray .int, 2) := by decide +kernel
theorem dX9_init_9 : decode cX9_init 9 = .ok (.putfield 7, 3) := by decide +kernel
theorem dX9_init_12 : decode cX9_init 12 = .ok (.aload_n 0, 1) := by decide +kernel
theorem dX9_init_13 : decode cX9_init 13 = .ok (.sipush 618, 3) := by decide +kernel
theorem dX9_init_16 : decode cX9_init 16 = .ok (.newarray .int, 2) := by decide +kernel
theorem dX9_init_18 : decode cX9_init 18 = .ok (.putfield 13, 3) := by decide +kernel
theorem dX9_init_21 : decode cX9_init 21 = .ok (.aload_n 0, 1) := by decide +kernel
theorem dX9_init_22 : decode cX9_init 22 = .ok (.iconst 3, 1) := by decide +kernel
theorem dX9_init_23 : decode cX9_init 23 = .ok (.newarray .int, 2) := by decide +kernel
theorem dX9_init_25 : decode cX9_init 25 = .ok (.putfield 16, 3) := by decide +kernel
theorem dX9_init_28 : decode cX9_init 28 = .ok (.aload_n 0, 1) := by decide +kernel
theorem dX9_init_29 : decode cX9_init 29 = .ok (.sipush 128, 3) := by decide +kernel
theorem dX9_init_32 : decode cX9_init 32 = .ok (.newarray .int, 2) := by decide +kernel
theorem dX9_init_34 : decode cX9_init 34 = .ok (.putfield 19, 3) := by decide +kernel
theorem dX9_init_37 : decode cX9_init 37 = .ok (.aload_n 0, 1) := by decide +kernel
theorem dX9_init_38 : decode cX9_init 38 = .ok (.bipush 127, 2) := by decide +kernel
theorem dX9_init_40 : decode cX9_init 40 = .ok (.newarray .int, 2) := by decide +kernel
theorem dX9_init_42 : decode cX9_init 42 = .ok (.putfield 22, 3) := by decide +kernel
theorem dX9_init_45 : decode cX9_init 45 = .ok (.aload_n 0, 1) := by decide +kernel
theorem dX9_init_46 : decode cX9_init 46 = .ok (.bipush 127, 2) := by decide +kernel
theorem dX9_init_48 : decode cX9_init 48 = .ok (.newarray .int, 2) := by decide +kernel
theorem dX9_init_50 : decode cX9_init 50 = .ok (.putfield 25, 3) := by decide +kernel
theorem dX9_init_53 : decode cX9_init 53 = .ok (.aload_n 0, 1) := by decide +kernel
theorem dX9_init_54 : decode cX9_init 54 = .ok (.bipush 127, 2) := by decide +kernel
theorem dX9_init_56 : decode cX9_init 56 = .ok (.newarray .int, 2) := by decide +kernel
theorem dX9_init_58 : decode cX9_init 58 = .ok (.putfield 28, 3) := by decide +kernel
theorem dX9_init_61 : decode cX9_init 61 = .ok (.aload_n 0, 1) := by decide +kernel
theorem dX9_init_62 : decode cX9_init 62 = .ok (.bipush 127, 2) := by decide +kernel
theorem dX9_init_64 : decode cX9_init 64 = .ok (.newarray .int, 2) := by decide +kernel
theorem dX9_init_66 : decode cX9_init 66 = .ok (.putfield 31, 3) := by decide +kernel
theorem dX9_init_69 : decode cX9_init 69 = .ok (.aload_n 0, 1) := by decide +kernel
theorem dX9_init_70 : decode cX9_init 70 = .ok (.bipush 7, 2) := by decide +kernel
theorem dX9_init_72 : decode cX9_init 72 = .ok (.newarray .int, 2) := by decide +kernel
theorem dX9_init_74 : decode cX9_init 74 = .ok (.putfield 34, 3) := by decide +kernel
theorem dX9_init_77 : decode cX9_init 77 = .ok (.aload_n 0, 1) := by decide +kernel
theorem dX9_init_78 : decode cX9_init 78 = .ok (.bipush 7, 2) := by decide +kernel
theorem dX9_init_80 : decode cX9_init 80 = .ok (.newarray .int, 2) := by decide +kernel
theorem dX9_init_82 : decode cX9_init 82 = .ok (.putfield 37, 3) := by decide +kernel
theorem dX9_init_85 : decode cX9_init 85 = .ok (.aload_n 0, 1) := by decide +kernel
theorem dX9_init_86 : decode cX9_init 86 = .ok (.bipush 7, 2) := by decide +kernel
theorem dX9_init_88 : decode cX9_init 88 = .ok (.newarray .int, 2) := by decide +kernel
theorem dX9_init_90 : decode cX9_init 90 = .ok (.putfield 40, 3) := by decide +kernel
theorem dX9_init_93 : decode cX9_init 93 = .ok (.aload_n 0, 1) := by decide +kernel
theorem dX9_init_94 : decode cX9_init 94 = .ok (.sipush 128, 3) := by decide +kernel
theorem dX9_init_97 : decode cX9_init 97 = .ok (.newarray .int, 2) := by decide +kernel
theorem dX9_init_99 : decode cX9_init 99 = .ok (.putfield 43, 3) := by decide +kernel
theorem dX9_init_102 : decode cX9_init 102 = .ok (.aload_n 0, 1) := by decide +kernel
theorem dX9_init_103 : decode cX9_init 103 = .ok (.bipush 127, 2) := by decide +kernel
theorem dX9_init_105 : decode cX9_init 105 = .ok (.newarray .int, 2) := by decide +kernel
theorem dX9_init_107 : decode cX9_init 107 = .ok (.putfield 46, 3) := by decide +kernel
theorem dX9_init_110 : decode cX9_init 110 = .ok (.aload_n 0, 1) := by decide +kernel
theorem dX9_init_111 : decode cX9_init 111 = .ok (.bipush 127, 2) := by decide +kernel
theorem dX9_init_113 : decode cX9_init 113 = .ok (.newarray .boolean, 2) := by decide +kernel
theorem dX9_init_115 : decode cX9_init 115 = .ok (.putfield 49, 3) := by decide +kernel
theorem dX9_init_118 : decode cX9_init 118 = .ok (.aload_n 0, 1) := by decide +kernel
theorem dX9_init_119 : decode cX9_init 119 = .ok (.bipush 127, 2) := by decide +kernel
theorem dX9_init_121 : decode cX9_init 121 = .ok (.newarray .int, 2) := by decide +kernel
theorem dX9_init_123 : decode cX9_init 123 = .ok (.putfield 53, 3) := by decide +kernel
theorem dX9_init_126 : decode cX9_init 126 = .ok (.aload_n 0, 1) := by decide +kernel
theorem dX9_init_127 : decode cX9_init 127 = .ok (.sipush 256, 3) := by decide +kernel
theorem dX9_init_130 : decode cX9_init 130 = .ok (.newarray .int, 2) := by decide +kernel
theorem dX9_init_132 : decode cX9_init 132 = .ok (.putfield 56, 3) := by decide +kernel
theorem dX9_init_135 : decode cX9_init 135 = .ok (.aload_n 0, 1) := by decide +kernel
theorem dX9_init_136 : decode cX9_init 136 = .ok (.bipush 120, 2) := by decide +kernel
theorem dX9_init_138 : decode cX9_init 138 = .ok (.newarray .int, 2) := by decide +kernel
theorem dX9_init_140 : decode cX9_init 140 = .ok (.putfield 59, 3) := by decide +kernel
theorem dX9_init_143 : decode cX9_init 143 = .ok (.aload_n 0, 1) := by decide +kernel
theorem dX9_init_144 : decode cX9_init 144 = .ok (.sipush 128, 3) := by decide +kernel
theorem dX9_init_147 : decode cX9_init 147 = .ok (.newarray .int, 2) := by decide +kernel
theorem dX9_init_149 : decode cX9_init 149 = .ok (.putfield 62, 3) := by decide +kernel
theorem dX9_init_152 : decode cX9_init 152 = .ok (.aload_n 0, 1) := by decide +kernel
theorem dX9_init_153 : decode cX9_init 153 = .ok (.getfield 7, 3) := by decide +kernel
theorem dX9_init_156 : decode cX9_init 156 = .ok (.bipush 101, 2) := by decide +kernel
theorem dX9_init_158 : decode cX9_init 158 = .ok (.iconst 3, 1) := by decide +kernel
theorem dX9_init_159 : decode cX9_init 159 = .ok (.iastore, 1) := by decide +kernel
theorem dX9_init_160 : decode cX9_init 160 = .ok (.return_, 1) := by decide +kernel
theorem dX9_in_0 : decode cX9_in 0 = .ok (.lload_n 0, 1) := by decide +kernel
theorem dX9_in_1 : decode cX9_in 1 = .ok (.lload_n 2, 1) := by decide +kernel
theorem dX9_in_2 : decode cX9_in 2 = .ok (.lcmp, 1) := by decide +kernel
theorem dX9_in_3 : decode cX9_in 3 = .ok (.ifCond .lt 14, 3) := by decide +kernel
theorem dX9_in_6 : decode cX9_in 6 = .ok (.lload_n 0, 1) := by decide +kernel
theorem dX9_in_7 : decode cX9_in 7 = .ok (.lload 4, 2) := by decide +kernel
theorem dX9_in_9 : decode cX9_in 9 = .ok (.lcmp, 1) := by decide +kernel
theorem dX9_in_10 : decode cX9_in 10 = .ok (.ifCond .gt 7, 3) := by decide +kernel
theorem dX9_in_13 : decode cX9_in 13 = .ok (.iconst 1, 1) := by decide +kernel
theorem dX9_in_14 : decode cX9_in 14 = .ok (.goto 4, 3) := by decide +kernel
theorem dX9_in_17 : decode cX9_in 17 = .ok (.iconst 0, 1) := by decide +kernel
theorem dX9_in_18 : decode cX9_in 18 = .ok (.ireturn, 1) := by decide +kernel
theorem dX9_bad_0 : decode cX9_bad 0 = .ok (.aload_n 0, 1) := by decide +kernel
theorem dX9_bad_1 : decode cX9_bad 1 = .ok (.getfield 16, 3) := by decide +kernel
theorem dX9_bad_4 : decode cX9_bad 4 = .ok (.iconst 0, 1) := by decide +kernel
theorem dX9_bad_5 : decode cX9_bad 5 = .ok (.dup2, 1) := by decide +kernel
theorem dX9_bad_6 : decode cX9_bad 6 = .ok (.iaload, 1) := by decide +kernel
theorem dX9_bad_7 : decode cX9_bad 7 = .ok (.iconst 1, 1) := by decide +kernel
theorem dX9_bad_8 : decode cX9_bad 8 = .ok (.iadd, 1) := by decide +kernel
theorem dX9_bad_9 : decode cX9_bad 9 = .ok (.iastore, 1) := by decide +kernel
theorem dX9_bad_10 : decode cX9_bad 10 = .ok (.iload_n 1, 1) := by decide +kernel
theorem dX9_bad_11 : decode cX9_bad 11 = .ok (.ireturn, 1) := by decide +kernel
theorem dX9_no_0 : decode cX9_no 0 = .ok (.aload_n 0, 1) := by decide +kernel
theorem dX9_no_1 : decode cX9_no 1 = .ok (.getfield 16, 3) := by decide +kernel
theorem dX9_no_4 : decode cX9_no 4 = .ok (.iconst 1, 1) := by decide +kernel
theorem dX9_no_5 : decode cX9_no 5 = .ok (.dup2, 1) := by decide +kernel
theorem dX9_no_6 : decode cX9_no 6 = .ok (.iaload, 1) := by decide +kernel
theorem dX9_no_7 : decode cX9_no 7 = .ok (.iconst 1, 1) := by decide +kernel
theorem dX9_no_8 : decode cX9_no 8 = .ok (.iadd, 1) := by decide +kernel
theorem dX9_no_9 : decode cX9_no 9 = .ok (.iastore, 1) := by decide +kernel
theorem dX9_no_10 : decode cX9_no 10 = .ok (.bipush (-3), 2) := by decide +kernel
theorem dX9_no_12 : decode cX9_no 12 = .ok (.ireturn, 1) := by decide +kernel
theorem dX9_full_0 : decode cX9_full 0 = .ok (.aload_n 0, 1) := by decide +kernel
theorem dX9_full_1 : decode cX9_full 1 = .ok (.getfield 16, 3) := by decide +kernel
theorem dX9_full_4 : decode cX9_full 4 = .ok (.iconst 2, 1) := by decide +kernel
theorem dX9_full_5 : decode cX9_full 5 = .ok (.dup2, 1) := by decide +kernel
theorem dX9_full_6 : decode cX9_full 6 = .ok (.iaload, 1) := by decide +kernel
theorem dX9_full_7 : decode cX9_full 7 = .ok (.iconst 1, 1) := by decide +kernel
theorem dX9_full_8 : decode cX9_full 8 = .ok (.iadd, 1) := by decide +kernel
theorem dX9_full_9 : decode cX9_full 9 = .ok (.iastore, 1) := by decide +kernel
theorem dX9_full_10 : decode cX9_full 10 = .ok (.bipush (-4), 2) := by decide +kernel
theorem dX9_full_12 : decode cX9_full 12 = .ok (.ireturn, 1) := by decide +kernel
theorem dX9_many_0 : decode cX9_many 0 = .ok (.aload_n 0, 1) := by decide +kernel
theorem dX9_many_1 : decode cX9_many 1 = .ok (.getfield 7, 3) := by decide +kernel
theorem dX9_many_4 : decode cX9_many 4 = .ok (.bipush 100, 2) := by decide +kernel
theorem dX9_many_6 : decode cX9_many 6 = .ok (.iaload, 1) := by decide +kernel
theorem dX9_many_7 : decode cX9_many 7 = .ok (.ireturn, 1) := by decide +kernel
theorem dX9_depth_0 : decode cX9_depth 0 = .ok (.aload_n 0, 1) := by decide +kernel
theorem dX9_depth_1 : decode cX9_depth 1 = .ok (.getfield 7, 3) := by decide +kernel
theorem dX9_depth_4 : decode cX9_depth 4 = .ok (.bipush 101, 2) := by decide +kernel
theorem dX9_depth_6 : decode cX9_depth 6 = .ok (.iaload, 1) := by decide +kernel
theorem dX9_depth_7 : decode cX9_depth 7 = .ok (.ireturn, 1) := by decide +kernel
theorem dX9_guesser_0 : decode cX9_guesser 0 = .ok (.aload_n 0, 1) := by decide +kernel
theorem dX9_guesser_1 : decode cX9_guesser 1 = .ok (.getfield 7, 3) := by decide +kernel
theorem dX9_guesser_4 : decode cX9_guesser 4 = .ok (.bipush 102, 2) := by decide +kernel
theorem dX9_guesser_6 : decode cX9_guesser 6 = .ok (.iaload, 1) := by decide +kernel
theorem dX9_guesser_7 : decode cX9_guesser 7 = .ok (.ireturn, 1) := by decide +kernel
theorem dX9_keep_0 : decode cX9_keep 0 = .ok (.aload_n 0, 1) := by decide +kernel
theorem dX9_keep_1 : decode cX9_keep 1 = .ok (.getfield 65, 3) := by decide +kernel
theorem dX9_keep_4 : decode cX9_keep 4 = .ok (.bipush 6, 2) := by decide +kernel
theorem dX9_keep_6 : decode cX9_keep 6 = .ok (.if_icmp .ne 43, 3) := by decide +kernel
theorem dX9_keep_9 : decode cX9_keep 9 = .ok (.iconst 0, 1) := by decide +kernel
theorem dX9_keep_10 : decode cX9_keep 10 = .ok (.istore_n 1, 1) := by decide +kernel
theorem dX9_keep_11 : decode cX9_keep 11 = .ok (.iload_n 1, 1) := by decide +kernel
theorem dX9_keep_12 : decode cX9_keep 12 = .ok (.sipush 515, 3) := by decide +kernel
theorem dX9_keep_15 : decode cX9_keep 15 = .ok (.if_icmp .ge 24, 3) := by decide +kernel
theorem dX9_keep_18 : decode cX9_keep 18 = .ok (.aload_n 0, 1) := by decide +kernel
theorem dX9_keep_19 : decode cX9_keep 19 = .ok (.getfield 13, 3) := by decide +kernel
theorem dX9_keep_22 : decode cX9_keep 22 = .ok (.iload_n 1, 1) := by decide +kernel
theorem dX9_keep_23 : decode cX9_keep 23 = .ok (.aload_n 0, 1) := by decide +kernel
theorem dX9_keep_24 : decode cX9_keep 24 = .ok (.getfield 13, 3) := by decide +kernel
theorem dX9_keep_27 : decode cX9_keep 27 = .ok (.iload_n 1, 1) := by decide +kernel
theorem dX9_keep_28 : decode cX9_keep 28 = .ok (.bipush 103, 2) := by decide +kernel
theorem dX9_keep_30 : decode cX9_keep 30 = .ok (.iadd, 1) := by decide +kernel
theorem dX9_keep_31 : decode cX9_keep 31 = .ok (.iaload, 1) := by decide +kernel
theorem dX9_keep_32 : decode cX9_keep 32 = .ok (.iastore, 1) := by decide +kernel
theorem dX9_keep_33 : decode cX9_keep 33 = .ok (.iinc 1 1, 3) := by decide +kernel
theorem dX9_keep_36 : decode cX9_keep 36 = .ok (.goto (-25), 3) := by decide +kernel
theorem dX9_keep_39 : decode cX9_keep 39 = .ok (.aload_n 0, 1) := by decide +kernel
theorem dX9_keep_40 : decode cX9_keep 40 = .ok (.dup, 1) := by decide +kernel
theorem dX9_keep_41 : decode cX9_keep 41 = .ok (.getfield 65, 3) := by decide +kernel
theorem dX9_keep_44 : decode cX9_keep 44 = .ok (.iconst 1, 1) := by decide +kernel
theorem dX9_keep_45 : decode cX9_keep 45 = .ok (.isub, 1) := by decide +kernel
theorem dX9_keep_46 : decode cX9_keep 46 = .ok (.putfield 65, 3) := by decide +kernel
theorem dX9_keep_49 : decode cX9_keep 49 = .ok (.iconst 0, 1) := by decide +kernel
end
section
theorem dX9_keep_50 : decode cX9_keep 50 = .ok (.istore_n 1, 1) := by decide +kernel
theorem dX9_keep_51 : decode cX9_keep 51 = .ok (.iload_n 1, 1) := by decide +kernel
theorem dX9_keep_52 : decode cX9_keep 52 = .ok (.bipush 103, 2) := by decide +kernel
theorem dX9_keep_54 : decode cX9_keep 54 = .ok (.if_icmp .ge 29, 3) := by decide +kernel
theorem dX9_keep_57 : decode cX9_keep 57 = .ok (.aload_n 0, 1) := by decide +kernel
theorem dX9_keep_58 : decode cX9_keep 58 = .ok (.getfield 13, 3) := by decide +kernel
theorem dX9_keep_61 : decode cX9_keep 61 = .ok (.bipush 103, 2) := by decide +kernel
theorem dX9_keep_63 : decode cX9_keep 63 = .ok (.aload_n 0, 1) := by decide +kernel
theorem dX9_keep_64 : decode cX9_keep 64 = .ok (.getfield 65, 3) := by decide +kernel
theorem dX9_keep_67 : decode cX9_keep 67 = .ok (.imul, 1) := by decide +kernel
theorem dX9_keep_68 : decode cX9_keep 68 = .ok (.iload_n 1, 1) := by decide +kernel
theorem dX9_keep_69 : decode cX9_keep 69 = .ok (.iadd, 1) := by decide +kernel
theorem dX9_keep_70 : decode cX9_keep 70 = .ok (.aload_n 0, 1) := by decide +kernel
theorem dX9_keep_71 : decode cX9_keep 71 = .ok (.getfield 7, 3) := by decide +kernel
theorem dX9_keep_74 : decode cX9_keep 74 = .ok (.iload_n 1, 1) := by decide +kernel
theorem dX9_keep_75 : decode cX9_keep 75 = .ok (.iaload, 1) := by decide +kernel
theorem dX9_keep_76 : decode cX9_keep 76 = .ok (.iastore, 1) := by decide +kernel
theorem dX9_keep_77 : decode cX9_keep 77 = .ok (.iinc 1 1, 3) := by decide +kernel
theorem dX9_keep_80 : decode cX9_keep 80 = .ok (.goto (-29), 3) := by decide +kernel
theorem dX9_keep_83 : decode cX9_keep 83 = .ok (.aload_n 0, 1) := by decide +kernel
theorem dX9_keep_84 : decode cX9_keep 84 = .ok (.dup, 1) := by decide +kernel
theorem dX9_keep_85 : decode cX9_keep 85 = .ok (.getfield 65, 3) := by decide +kernel
theorem dX9_keep_88 : decode cX9_keep 88 = .ok (.iconst 1, 1) := by decide +kernel
theorem dX9_keep_89 : decode cX9_keep 89 = .ok (.iadd, 1) := by decide +kernel
theorem dX9_keep_90 : decode cX9_keep 90 = .ok (.putfield 65, 3) := by decide +kernel
theorem dX9_keep_93 : decode cX9_keep 93 = .ok (.return_, 1) := by decide +kernel
theorem dX9_begins_0 : decode cX9_begins 0 = .ok (.aload_n 0, 1) := by decide +kernel
theorem dX9_begins_1 : decode cX9_begins 1 = .ok (.iconst 0, 1) := by decide +kernel
theorem dX9_begins_2 : decode cX9_begins 2 = .ok (.putfield 69, 3) := by decide +kernel
theorem dX9_begins_5 : decode cX9_begins 5 = .ok (.aload_n 0, 1) := by decide +kernel
theorem dX9_begins_6 : decode cX9_begins 6 = .ok (.iload_n 1, 1) := by decide +kernel
theorem dX9_begins_7 : decode cX9_begins 7 = .ok (.putfield 72, 3) := by decide +kernel
theorem dX9_begins_10 : decode cX9_begins 10 = .ok (.aload_n 0, 1) := by decide +kernel
theorem dX9_begins_11 : decode cX9_begins 11 = .ok (.iload_n 2, 1) := by decide +kernel
theorem dX9_begins_12 : decode cX9_begins 12 = .ok (.putfield 75, 3) := by decide +kernel
theorem dX9_begins_15 : decode cX9_begins 15 = .ok (.iconst 0, 1) := by decide +kernel
theorem dX9_begins_16 : decode cX9_begins 16 = .ok (.istore_n 3, 1) := by decide +kernel
theorem dX9_begins_17 : decode cX9_begins 17 = .ok (.iload_n 3, 1) := by decide +kernel
theorem dX9_begins_18 : decode cX9_begins 18 = .ok (.bipush 127, 2) := by decide +kernel
theorem dX9_begins_20 : decode cX9_begins 20 = .ok (.if_icmp .ge 38, 3) := by decide +kernel
theorem dX9_begins_23 : decode cX9_begins 23 = .ok (.aload_n 0, 1) := by decide +kernel
theorem dX9_begins_24 : decode cX9_begins 24 = .ok (.getfield 22, 3) := by decide +kernel
theorem dX9_begins_27 : decode cX9_begins 27 = .ok (.iload_n 3, 1) := by decide +kernel
theorem dX9_begins_28 : decode cX9_begins 28 = .ok (.iconst 0, 1) := by decide +kernel
theorem dX9_begins_29 : decode cX9_begins 29 = .ok (.iastore, 1) := by decide +kernel
theorem dX9_begins_30 : decode cX9_begins 30 = .ok (.aload_n 0, 1) := by decide +kernel
theorem dX9_begins_31 : decode cX9_begins 31 = .ok (.getfield 25, 3) := by decide +kernel
theorem dX9_begins_34 : decode cX9_begins 34 = .ok (.iload_n 3, 1) := by decide +kernel
theorem dX9_begins_35 : decode cX9_begins 35 = .ok (.iconst 0, 1) := by decide +kernel
theorem dX9_begins_36 : decode cX9_begins 36 = .ok (.iastore, 1) := by decide +kernel
theorem dX9_begins_37 : decode cX9_begins 37 = .ok (.aload_n 0, 1) := by decide +kernel
theorem dX9_begins_38 : decode cX9_begins 38 = .ok (.getfield 28, 3) := by decide +kernel
theorem dX9_begins_41 : decode cX9_begins 41 = .ok (.iload_n 3, 1) := by decide +kernel
theorem dX9_begins_42 : decode cX9_begins 42 = .ok (.ldc 78, 2) := by decide +kernel
theorem dX9_begins_44 : decode cX9_begins 44 = .ok (.iastore, 1) := by decide +kernel
theorem dX9_begins_45 : decode cX9_begins 45 = .ok (.aload_n 0, 1) := by decide +kernel
theorem dX9_begins_46 : decode cX9_begins 46 = .ok (.getfield 31, 3) := by decide +kernel
theorem dX9_begins_49 : decode cX9_begins 49 = .ok (.iload_n 3, 1) := by decide +kernel
theorem dX9_begins_50 : decode cX9_begins 50 = .ok (.iconst 0, 1) := by decide +kernel
theorem dX9_begins_51 : decode cX9_begins 51 = .ok (.iastore, 1) := by decide +kernel
theorem dX9_begins_52 : decode cX9_begins 52 = .ok (.iinc 3 1, 3) := by decide +kernel
theorem dX9_begins_55 : decode cX9_begins 55 = .ok (.goto (-38), 3) := by decide +kernel
theorem dX9_begins_58 : decode cX9_begins 58 = .ok (.return_, 1) := by decide +kernel
theorem dX9_held_0 : decode cX9_held 0 = .ok (.lload_n 0, 1) := by decide +kernel
theorem dX9_held_1 : decode cX9_held 1 = .ok (.lconst 1, 1) := by decide +kernel
theorem dX9_held_2 : decode cX9_held 2 = .ok (.lcmp, 1) := by decide +kernel
theorem dX9_held_3 : decode cX9_held 3 = .ok (.ifCond .ge 7, 3) := by decide +kernel
theorem dX9_held_6 : decode cX9_held 6 = .ok (.iconst 1, 1) := by decide +kernel
theorem dX9_held_7 : decode cX9_held 7 = .ok (.goto 18, 3) := by decide +kernel
theorem dX9_held_10 : decode cX9_held 10 = .ok (.lload_n 0, 1) := by decide +kernel
theorem dX9_held_11 : decode cX9_held 11 = .ok (.ldc2_w 79, 3) := by decide +kernel
theorem dX9_held_14 : decode cX9_held 14 = .ok (.lcmp, 1) := by decide +kernel
theorem dX9_held_15 : decode cX9_held 15 = .ok (.ifCond .le 8, 3) := by decide +kernel
theorem dX9_held_18 : decode cX9_held 18 = .ok (.ldc 81, 2) := by decide +kernel
theorem dX9_held_20 : decode cX9_held 20 = .ok (.goto 5, 3) := by decide +kernel
theorem dX9_held_23 : decode cX9_held 23 = .ok (.lload_n 0, 1) := by decide +kernel
theorem dX9_held_24 : decode cX9_held 24 = .ok (.l2i, 1) := by decide +kernel
theorem dX9_held_25 : decode cX9_held 25 = .ok (.ireturn, 1) := by decide +kernel
theorem dX9_ownOf_0 : decode cX9_ownOf 0 = .ok (.aload_n 0, 1) := by decide +kernel
theorem dX9_ownOf_1 : decode cX9_ownOf 1 = .ok (.getfield 75, 3) := by decide +kernel
theorem dX9_ownOf_4 : decode cX9_ownOf 4 = .ok (.iconst 3, 1) := by decide +kernel
theorem dX9_ownOf_5 : decode cX9_ownOf 5 = .ok (.if_icmp .ne 14, 3) := by decide +kernel
theorem dX9_ownOf_8 : decode cX9_ownOf 8 = .ok (.aload_n 0, 1) := by decide +kernel
theorem dX9_ownOf_9 : decode cX9_ownOf 9 = .ok (.getfield 22, 3) := by decide +kernel
theorem dX9_ownOf_12 : decode cX9_ownOf 12 = .ok (.iload_n 1, 1) := by decide +kernel
theorem dX9_ownOf_13 : decode cX9_ownOf 13 = .ok (.iaload, 1) := by decide +kernel
theorem dX9_ownOf_14 : decode cX9_ownOf 14 = .ok (.iconst 2, 1) := by decide +kernel
theorem dX9_ownOf_15 : decode cX9_ownOf 15 = .ok (.idiv, 1) := by decide +kernel
theorem dX9_ownOf_16 : decode cX9_ownOf 16 = .ok (.goto 9, 3) := by decide +kernel
theorem dX9_ownOf_19 : decode cX9_ownOf 19 = .ok (.aload_n 0, 1) := by decide +kernel
theorem dX9_ownOf_20 : decode cX9_ownOf 20 = .ok (.getfield 22, 3) := by decide +kernel
theorem dX9_ownOf_23 : decode cX9_ownOf 23 = .ok (.iload_n 1, 1) := by decide +kernel
theorem dX9_ownOf_24 : decode cX9_ownOf 24 = .ok (.iaload, 1) := by decide +kernel
theorem dX9_ownOf_25 : decode cX9_ownOf 25 = .ok (.istore_n 2, 1) := by decide +kernel
theorem dX9_ownOf_26 : decode cX9_ownOf 26 = .ok (.aload_n 0, 1) := by decide +kernel
theorem dX9_ownOf_27 : decode cX9_ownOf 27 = .ok (.getfield 75, 3) := by decide +kernel
theorem dX9_ownOf_30 : decode cX9_ownOf 30 = .ok (.iconst 3, 1) := by decide +kernel
theorem dX9_ownOf_31 : decode cX9_ownOf 31 = .ok (.if_icmp .ne 14, 3) := by decide +kernel
theorem dX9_ownOf_34 : decode cX9_ownOf 34 = .ok (.aload_n 0, 1) := by decide +kernel
theorem dX9_ownOf_35 : decode cX9_ownOf 35 = .ok (.getfield 25, 3) := by decide +kernel
theorem dX9_ownOf_38 : decode cX9_ownOf 38 = .ok (.iload_n 1, 1) := by decide +kernel
theorem dX9_ownOf_39 : decode cX9_ownOf 39 = .ok (.iaload, 1) := by decide +kernel
theorem dX9_ownOf_40 : decode cX9_ownOf 40 = .ok (.iconst 2, 1) := by decide +kernel
theorem dX9_ownOf_41 : decode cX9_ownOf 41 = .ok (.idiv, 1) := by decide +kernel
theorem dX9_ownOf_42 : decode cX9_ownOf 42 = .ok (.goto 9, 3) := by decide +kernel
theorem dX9_ownOf_45 : decode cX9_ownOf 45 = .ok (.aload_n 0, 1) := by decide +kernel
theorem dX9_ownOf_46 : decode cX9_ownOf 46 = .ok (.getfield 25, 3) := by decide +kernel
theorem dX9_ownOf_49 : decode cX9_ownOf 49 = .ok (.iload_n 1, 1) := by decide +kernel
theorem dX9_ownOf_50 : decode cX9_ownOf 50 = .ok (.iaload, 1) := by decide +kernel
theorem dX9_ownOf_51 : decode cX9_ownOf 51 = .ok (.istore_n 3, 1) := by decide +kernel
theorem dX9_ownOf_52 : decode cX9_ownOf 52 = .ok (.aload_n 0, 1) := by decide +kernel
theorem dX9_ownOf_53 : decode cX9_ownOf 53 = .ok (.getfield 75, 3) := by decide +kernel
theorem dX9_ownOf_56 : decode cX9_ownOf 56 = .ok (.iconst 1, 1) := by decide +kernel
theorem dX9_ownOf_57 : decode cX9_ownOf 57 = .ok (.if_icmp .ne 9, 3) := by decide +kernel
theorem dX9_ownOf_60 : decode cX9_ownOf 60 = .ok (.iload_n 3, 1) := by decide +kernel
theorem dX9_ownOf_61 : decode cX9_ownOf 61 = .ok (.iconst 1, 1) := by decide +kernel
theorem dX9_ownOf_62 : decode cX9_ownOf 62 = .ok (.iadd, 1) := by decide +kernel
theorem dX9_ownOf_63 : decode cX9_ownOf 63 = .ok (.goto 24, 3) := by decide +kernel
theorem dX9_ownOf_66 : decode cX9_ownOf 66 = .ok (.aload_n 0, 1) := by decide +kernel
theorem dX9_ownOf_67 : decode cX9_ownOf 67 = .ok (.getfield 75, 3) := by decide +kernel
theorem dX9_ownOf_70 : decode cX9_ownOf 70 = .ok (.iconst 2, 1) := by decide +kernel
theorem dX9_ownOf_71 : decode cX9_ownOf 71 = .ok (.if_icmp .ne 11, 3) := by decide +kernel
theorem dX9_ownOf_74 : decode cX9_ownOf 74 = .ok (.iconst 4, 1) := by decide +kernel
theorem dX9_ownOf_75 : decode cX9_ownOf 75 = .ok (.iload_n 3, 1) := by decide +kernel
theorem dX9_ownOf_76 : decode cX9_ownOf 76 = .ok (.imul, 1) := by decide +kernel
theorem dX9_ownOf_77 : decode cX9_ownOf 77 = .ok (.iconst 1, 1) := by decide +kernel
theorem dX9_ownOf_78 : decode cX9_ownOf 78 = .ok (.iadd, 1) := by decide +kernel
theorem dX9_ownOf_79 : decode cX9_ownOf 79 = .ok (.goto 8, 3) := by decide +kernel
theorem dX9_ownOf_82 : decode cX9_ownOf 82 = .ok (.iconst 2, 1) := by decide +kernel
theorem dX9_ownOf_83 : decode cX9_ownOf 83 = .ok (.iload_n 3, 1) := by decide +kernel
theorem dX9_ownOf_84 : decode cX9_ownOf 84 = .ok (.imul, 1) := by decide +kernel
theorem dX9_ownOf_85 : decode cX9_ownOf 85 = .ok (.iconst 1, 1) := by decide +kernel
theorem dX9_ownOf_86 : decode cX9_ownOf 86 = .ok (.iadd, 1) := by decide +kernel
theorem dX9_ownOf_87 : decode cX9_ownOf 87 = .ok (.istore 4, 2) := by decide +kernel
theorem dX9_ownOf_89 : decode cX9_ownOf 89 = .ok (.aload_n 0, 1) := by decide +kernel
theorem dX9_ownOf_90 : decode cX9_ownOf 90 = .ok (.getfield 75, 3) := by decide +kernel
theorem dX9_ownOf_93 : decode cX9_ownOf 93 = .ok (.iconst 1, 1) := by decide +kernel
theorem dX9_ownOf_94 : decode cX9_ownOf 94 = .ok (.if_icmp .ne 11, 3) := by decide +kernel
theorem dX9_ownOf_97 : decode cX9_ownOf 97 = .ok (.iload_n 2, 1) := by decide +kernel
theorem dX9_ownOf_98 : decode cX9_ownOf 98 = .ok (.iload_n 3, 1) := by decide +kernel
theorem dX9_ownOf_99 : decode cX9_ownOf 99 = .ok (.iadd, 1) := by decide +kernel
theorem dX9_ownOf_100 : decode cX9_ownOf 100 = .ok (.iconst 2, 1) := by decide +kernel
theorem dX9_ownOf_101 : decode cX9_ownOf 101 = .ok (.iadd, 1) := by decide +kernel
theorem dX9_ownOf_102 : decode cX9_ownOf 102 = .ok (.goto 32, 3) := by decide +kernel
theorem dX9_ownOf_105 : decode cX9_ownOf 105 = .ok (.aload_n 0, 1) := by decide +kernel
theorem dX9_ownOf_106 : decode cX9_ownOf 106 = .ok (.getfield 75, 3) := by decide +kernel
theorem dX9_ownOf_109 : decode cX9_ownOf 109 = .ok (.iconst 2, 1) := by decide +kernel
theorem dX9_ownOf_110 : decode cX9_ownOf 110 = .ok (.if_icmp .ne 15, 3) := by decide +kernel
theorem dX9_ownOf_113 : decode cX9_ownOf 113 = .ok (.iconst 4, 1) := by decide +kernel
theorem dX9_ownOf_114 : decode cX9_ownOf 114 = .ok (.iload_n 2, 1) := by decide +kernel
theorem dX9_ownOf_115 : decode cX9_ownOf 115 = .ok (.imul, 1) := by decide +kernel
theorem dX9_ownOf_116 : decode cX9_ownOf 116 = .ok (.iconst 4, 1) := by decide +kernel
theorem dX9_ownOf_117 : decode cX9_ownOf 117 = .ok (.iload_n 3, 1) := by decide +kernel
theorem dX9_ownOf_118 : decode cX9_ownOf 118 = .ok (.imul, 1) := by decide +kernel
theorem dX9_ownOf_119 : decode cX9_ownOf 119 = .ok (.iadd, 1) := by decide +kernel
theorem dX9_ownOf_120 : decode cX9_ownOf 120 = .ok (.iconst 2, 1) := by decide +kernel
theorem dX9_ownOf_121 : decode cX9_ownOf 121 = .ok (.iadd, 1) := by decide +kernel
theorem dX9_ownOf_122 : decode cX9_ownOf 122 = .ok (.goto 12, 3) := by decide +kernel
theorem dX9_ownOf_125 : decode cX9_ownOf 125 = .ok (.iconst 2, 1) := by decide +kernel
theorem dX9_ownOf_126 : decode cX9_ownOf 126 = .ok (.iload_n 2, 1) := by decide +kernel
theorem dX9_ownOf_127 : decode cX9_ownOf 127 = .ok (.imul, 1) := by decide +kernel
theorem dX9_ownOf_128 : decode cX9_ownOf 128 = .ok (.iconst 2, 1) := by decide +kernel
theorem dX9_ownOf_129 : decode cX9_ownOf 129 = .ok (.iload_n 3, 1) := by decide +kernel
theorem dX9_ownOf_130 : decode cX9_ownOf 130 = .ok (.imul, 1) := by decide +kernel
theorem dX9_ownOf_131 : decode cX9_ownOf 131 = .ok (.iadd, 1) := by decide +kernel
theorem dX9_ownOf_132 : decode cX9_ownOf 132 = .ok (.iconst 2, 1) := by decide +kernel
theorem dX9_ownOf_133 : decode cX9_ownOf 133 = .ok (.iadd, 1) := by decide +kernel
theorem dX9_ownOf_134 : decode cX9_ownOf 134 = .ok (.istore 5, 2) := by decide +kernel
theorem dX9_ownOf_136 : decode cX9_ownOf 136 = .ok (.ldc2_w 82, 3) := by decide +kernel
theorem dX9_ownOf_139 : decode cX9_ownOf 139 = .ok (.iload 4, 2) := by decide +kernel
theorem dX9_ownOf_141 : decode cX9_ownOf 141 = .ok (.i2l, 1) := by decide +kernel
theorem dX9_ownOf_142 : decode cX9_ownOf 142 = .ok (.lmul, 1) := by decide +kernel
theorem dX9_ownOf_143 : decode cX9_ownOf 143 = .ok (.iload 5, 2) := by decide +kernel
theorem dX9_ownOf_145 : decode cX9_ownOf 145 = .ok (.i2l, 1) := by decide +kernel
theorem dX9_ownOf_146 : decode cX9_ownOf 146 = .ok (.ldiv, 1) := by decide +kernel
theorem dX9_ownOf_147 : decode cX9_ownOf 147 = .ok (.invokestatic 84, 3) := by decide +kernel
theorem dX9_ownOf_150 : decode cX9_ownOf 150 = .ok (.ireturn, 1) := by decide +kernel
theorem dX9_nodeOf_0 : decode cX9_nodeOf 0 = .ok (.iconst 1, 1) := by decide +kernel
theorem dX9_nodeOf_1 : decode cX9_nodeOf 1 = .ok (.iload_n 0, 1) := by decide +kernel
theorem dX9_nodeOf_2 : decode cX9_nodeOf 2 = .ok (.ishl, 1) := by decide +kernel
theorem dX9_nodeOf_3 : decode cX9_nodeOf 3 = .ok (.iconst 1, 1) := by decide +kernel
theorem dX9_nodeOf_4 : decode cX9_nodeOf 4 = .ok (.isub, 1) := by decide +kernel
theorem dX9_nodeOf_5 : decode cX9_nodeOf 5 = .ok (.iload_n 1, 1) := by decide +kernel
theorem dX9_nodeOf_6 : decode cX9_nodeOf 6 = .ok (.iadd, 1) := by decide +kernel
theorem dX9_nodeOf_7 : decode cX9_nodeOf 7 = .ok (.ireturn, 1) := by decide +kernel
theorem dX9_guesses_0 : decode cX9_guesses 0 = .ok (.iconst 0, 1) := by decide +kernel
theorem dX9_guesses_1 : decode cX9_guesses 1 = .ok (.istore_n 1, 1) := by decide +kernel
theorem dX9_guesses_2 : decode cX9_guesses 2 = .ok (.iconst 0, 1) := by decide +kernel
theorem dX9_guesses_3 : decode cX9_guesses 3 = .ok (.istore_n 2, 1) := by decide +kernel
theorem dX9_guesses_4 : decode cX9_guesses 4 = .ok (.iload_n 2, 1) := by decide +kernel
theorem dX9_guesses_5 : decode cX9_guesses 5 = .ok (.aload_n 0, 1) := by decide +kernel
theorem dX9_guesses_6 : decode cX9_guesses 6 = .ok (.getfield 72, 3) := by decide +kernel
theorem dX9_guesses_9 : decode cX9_guesses 9 = .ok (.if_icmp .gt 69, 3) := by decide +kernel
theorem dX9_guesses_12 : decode cX9_guesses 12 = .ok (.aload_n 0, 1) := by decide +kernel
theorem dX9_guesses_13 : decode cX9_guesses 13 = .ok (.getfield 34, 3) := by decide +kernel
theorem dX9_guesses_16 : decode cX9_guesses 16 = .ok (.iload_n 2, 1) := by decide +kernel
theorem dX9_guesses_17 : decode cX9_guesses 17 = .ok (.iload_n 2, 1) := by decide +kernel
theorem dX9_guesses_18 : decode cX9_guesses 18 = .ok (.iload_n 1, 1) := by decide +kernel
theorem dX9_guesses_19 : decode cX9_guesses 19 = .ok (.invokestatic 88, 3) := by decide +kernel
theorem dX9_guesses_22 : decode cX9_guesses 22 = .ok (.iastore, 1) := by decide +kernel
theorem dX9_guesses_23 : decode cX9_guesses 23 = .ok (.aload_n 0, 1) := by decide +kernel
theorem dX9_guesses_24 : decode cX9_guesses 24 = .ok (.getfield 37, 3) := by decide +kernel
theorem dX9_guesses_27 : decode cX9_guesses 27 = .ok (.iload_n 2, 1) := by decide +kernel
theorem dX9_guesses_28 : decode cX9_guesses 28 = .ok (.aload_n 0, 1) := by decide +kernel
theorem dX9_guesses_29 : decode cX9_guesses 29 = .ok (.aload_n 0, 1) := by decide +kernel
theorem dX9_guesses_30 : decode cX9_guesses 30 = .ok (.getfield 34, 3) := by decide +kernel
theorem dX9_guesses_33 : decode cX9_guesses 33 = .ok (.iload_n 2, 1) := by decide +kernel
theorem dX9_guesses_34 : decode cX9_guesses 34 = .ok (.iaload, 1) := by decide +kernel
theorem dX9_guesses_35 : decode cX9_guesses 35 = .ok (.invokevirtual 92, 3) := by decide +kernel
theorem dX9_guesses_38 : decode cX9_guesses 38 = .ok (.iastore, 1) := by decide +kernel
theorem dX9_guesses_39 : decode cX9_guesses 39 = .ok (.iload_n 1, 1) := by decide +kernel
theorem dX9_guesses_40 : decode cX9_guesses 40 = .ok (.aload_n 0, 1) := by decide +kernel
theorem dX9_guesses_41 : decode cX9_guesses 41 = .ok (.getfield 69, 3) := by decide +kernel
theorem dX9_guesses_44 : decode cX9_guesses 44 = .ok (.iconst 1, 1) := by decide +kernel
theorem dX9_guesses_45 : decode cX9_guesses 45 = .ok (.isub, 1) := by decide +kernel
theorem dX9_guesses_46 : decode cX9_guesses 46 = .ok (.iload_n 2, 1) := by decide +kernel
theorem dX9_guesses_47 : decode cX9_guesses 47 = .ok (.isub, 1) := by decide +kernel
theorem dX9_guesses_48 : decode cX9_guesses 48 = .ok (.ifCond .lt 21, 3) := by decide +kernel
theorem dX9_guesses_51 : decode cX9_guesses 51 = .ok (.aload_n 0, 1) := by decide +kernel
theorem dX9_guesses_52 : decode cX9_guesses 52 = .ok (.getfield 19, 3) := by decide +kernel
theorem dX9_guesses_55 : decode cX9_guesses 55 = .ok (.aload_n 0, 1) := by decide +kernel
theorem dX9_guesses_56 : decode cX9_guesses 56 = .ok (.getfield 69, 3) := by decide +kernel
theorem dX9_guesses_59 : decode cX9_guesses 59 = .ok (.iconst 1, 1) := by decide +kernel
theorem dX9_guesses_60 : decode cX9_guesses 60 = .ok (.isub, 1) := by decide +kernel
theorem dX9_guesses_61 : decode cX9_guesses 61 = .ok (.iload_n 2, 1) := by decide +kernel
theorem dX9_guesses_62 : decode cX9_guesses 62 = .ok (.isub, 1) := by decide +kernel
theorem dX9_guesses_63 : decode cX9_guesses 63 = .ok (.iaload, 1) := by decide +kernel
theorem dX9_guesses_64 : decode cX9_guesses 64 = .ok (.iload_n 2, 1) := by decide +kernel
theorem dX9_guesses_65 : decode cX9_guesses 65 = .ok (.ishl, 1) := by decide +kernel
theorem dX9_guesses_66 : decode cX9_guesses 66 = .ok (.goto 4, 3) := by decide +kernel
theorem dX9_guesses_69 : decode cX9_guesses 69 = .ok (.iconst 0, 1) := by decide +kernel
theorem dX9_guesses_70 : decode cX9_guesses 70 = .ok (.ior, 1) := by decide +kernel
theorem dX9_guesses_71 : decode cX9_guesses 71 = .ok (.istore_n 1, 1) := by decide +kernel
theorem dX9_guesses_72 : decode cX9_guesses 72 = .ok (.iinc 2 1, 3) := by decide +kernel
theorem dX9_guesses_75 : decode cX9_guesses 75 = .ok (.goto (-71), 3) := by decide +kernel
theorem dX9_guesses_78 : decode cX9_guesses 78 = .ok (.aload_n 0, 1) := by decide +kernel
theorem dX9_guesses_79 : decode cX9_guesses 79 = .ok (.getfield 40, 3) := by decide +kernel
theorem dX9_guesses_82 : decode cX9_guesses 82 = .ok (.aload_n 0, 1) := by decide +kernel
theorem dX9_guesses_83 : decode cX9_guesses 83 = .ok (.getfield 72, 3) := by decide +kernel
theorem dX9_guesses_86 : decode cX9_guesses 86 = .ok (.aload_n 0, 1) := by decide +kernel
theorem dX9_guesses_87 : decode cX9_guesses 87 = .ok (.getfield 37, 3) := by decide +kernel
theorem dX9_guesses_90 : decode cX9_guesses 90 = .ok (.aload_n 0, 1) := by decide +kernel
theorem dX9_guesses_91 : decode cX9_guesses 91 = .ok (.getfield 72, 3) := by decide +kernel
theorem dX9_guesses_94 : decode cX9_guesses 94 = .ok (.iaload, 1) := by decide +kernel
theorem dX9_guesses_95 : decode cX9_guesses 95 = .ok (.iastore, 1) := by decide +kernel
theorem dX9_guesses_96 : decode cX9_guesses 96 = .ok (.aload_n 0, 1) := by decide +kernel
theorem dX9_guesses_97 : decode cX9_guesses 97 = .ok (.getfield 72, 3) := by decide +kernel
theorem dX9_guesses_100 : decode cX9_guesses 100 = .ok (.iconst 1, 1) := by decide +kernel
theorem dX9_guesses_101 : decode cX9_guesses 101 = .ok (.isub, 1) := by decide +kernel
theorem dX9_guesses_102 : decode cX9_guesses 102 = .ok (.istore_n 2, 1) := by decide +kernel
theorem dX9_guesses_103 : decode cX9_guesses 103 = .ok (.iload_n 2, 1) := by decide +kernel
theorem dX9_guesses_104 : decode cX9_guesses 104 = .ok (.ifCond .lt 60, 3) := by decide +kernel
theorem dX9_guesses_107 : decode cX9_guesses 107 = .ok (.aload_n 0, 1) := by decide +kernel
theorem dX9_guesses_108 : decode cX9_guesses 108 = .ok (.getfield 28, 3) := by decide +kernel
theorem dX9_guesses_111 : decode cX9_guesses 111 = .ok (.aload_n 0, 1) := by decide +kernel
theorem dX9_guesses_112 : decode cX9_guesses 112 = .ok (.getfield 34, 3) := by decide +kernel
theorem dX9_guesses_115 : decode cX9_guesses 115 = .ok (.iload_n 2, 1) := by decide +kernel
theorem dX9_guesses_116 : decode cX9_guesses 116 = .ok (.iaload, 1) := by decide +kernel
theorem dX9_guesses_117 : decode cX9_guesses 117 = .ok (.iaload, 1) := by decide +kernel
theorem dX9_guesses_118 : decode cX9_guesses 118 = .ok (.i2l, 1) := by decide +kernel
theorem dX9_guesses_119 : decode cX9_guesses 119 = .ok (.lstore_n 3, 1) := by decide +kernel
theorem dX9_guesses_120 : decode cX9_guesses 120 = .ok (.aload_n 0, 1) := by decide +kernel
theorem dX9_guesses_121 : decode cX9_guesses 121 = .ok (.getfield 40, 3) := by decide +kernel
theorem dX9_guesses_124 : decode cX9_guesses 124 = .ok (.iload_n 2, 1) := by decide +kernel
theorem dX9_guesses_125 : decode cX9_guesses 125 = .ok (.lload_n 3, 1) := by decide +kernel
theorem dX9_guesses_126 : decode cX9_guesses 126 = .ok (.aload_n 0, 1) := by decide +kernel
theorem dX9_guesses_127 : decode cX9_guesses 127 = .ok (.getfield 37, 3) := by decide +kernel
theorem dX9_guesses_130 : decode cX9_guesses 130 = .ok (.iload_n 2, 1) := by decide +kernel
theorem dX9_guesses_131 : decode cX9_guesses 131 = .ok (.iaload, 1) := by decide +kernel
theorem dX9_guesses_132 : decode cX9_guesses 132 = .ok (.i2l, 1) := by decide +kernel
theorem dX9_guesses_133 : decode cX9_guesses 133 = .ok (.lmul, 1) := by decide +kernel
theorem dX9_guesses_134 : decode cX9_guesses 134 = .ok (.ldc2_w 82, 3) := by decide +kernel
theorem dX9_guesses_137 : decode cX9_guesses 137 = .ok (.lload_n 3, 1) := by decide +kernel
theorem dX9_guesses_138 : decode cX9_guesses 138 = .ok (.lsub, 1) := by decide +kernel
theorem dX9_guesses_139 : decode cX9_guesses 139 = .ok (.aload_n 0, 1) := by decide +kernel
theorem dX9_guesses_140 : decode cX9_guesses 140 = .ok (.getfield 40, 3) := by decide +kernel
theorem dX9_guesses_143 : decode cX9_guesses 143 = .ok (.iload_n 2, 1) := by decide +kernel
theorem dX9_guesses_144 : decode cX9_guesses 144 = .ok (.iconst 1, 1) := by decide +kernel
theorem dX9_guesses_145 : decode cX9_guesses 145 = .ok (.iadd, 1) := by decide +kernel
theorem dX9_guesses_146 : decode cX9_guesses 146 = .ok (.iaload, 1) := by decide +kernel
theorem dX9_guesses_147 : decode cX9_guesses 147 = .ok (.i2l, 1) := by decide +kernel
theorem dX9_guesses_148 : decode cX9_guesses 148 = .ok (.lmul, 1) := by decide +kernel
theorem dX9_guesses_149 : decode cX9_guesses 149 = .ok (.ladd, 1) := by decide +kernel
theorem dX9_guesses_150 : decode cX9_guesses 150 = .ok (.ldc2_w 82, 3) := by decide +kernel
theorem dX9_guesses_153 : decode cX9_guesses 153 = .ok (.ldiv, 1) := by decide +kernel
theorem dX9_guesses_154 : decode cX9_guesses 154 = .ok (.invokestatic 84, 3) := by decide +kernel
theorem dX9_guesses_157 : decode cX9_guesses 157 = .ok (.iastore, 1) := by decide +kernel
theorem dX9_guesses_158 : decode cX9_guesses 158 = .ok (.iinc 2 (-1), 3) := by decide +kernel
theorem dX9_guesses_161 : decode cX9_guesses 161 = .ok (.goto (-58), 3) := by decide +kernel
theorem dX9_guesses_164 : decode cX9_guesses 164 = .ok (.aload_n 0, 1) := by decide +kernel
theorem dX9_guesses_165 : decode cX9_guesses 165 = .ok (.getfield 40, 3) := by decide +kernel
theorem dX9_guesses_168 : decode cX9_guesses 168 = .ok (.iconst 0, 1) := by decide +kernel
theorem dX9_guesses_169 : decode cX9_guesses 169 = .ok (.iaload, 1) := by decide +kernel
theorem dX9_guesses_170 : decode cX9_guesses 170 = .ok (.ireturn, 1) := by decide +kernel
theorem dX9_odds_0 : decode cX9_odds 0 = .ok (.iload_n 1, 1) := by decide +kernel
theorem dX9_odds_1 : decode cX9_odds 1 = .ok (.iconst 1, 1) := by decide +kernel
theorem dX9_odds_2 : decode cX9_odds 2 = .ok (.if_icmp .ne 7, 3) := by decide +kernel
theorem dX9_odds_5 : decode cX9_odds 5 = .ok (.iload_n 0, 1) := by decide +kernel
theorem dX9_odds_6 : decode cX9_odds 6 = .ok (.goto 7, 3) := by decide +kernel
theorem dX9_odds_9 : decode cX9_odds 9 = .ok (.ldc 96, 2) := by decide +kernel
theorem dX9_odds_11 : decode cX9_odds 11 = .ok (.iload_n 0, 1) := by decide +kernel
theorem dX9_odds_12 : decode cX9_odds 12 = .ok (.isub, 1) := by decide +kernel
theorem dX9_odds_13 : decode cX9_odds 13 = .ok (.ireturn, 1) := by decide +kernel
theorem dX9_bitsOf_0 : decode cX9_bitsOf 0 = .ok (.bipush 15, 2) := by decide +kernel
theorem dX9_bitsOf_2 : decode cX9_bitsOf 2 = .ok (.istore_n 1, 1) := by decide +kernel
theorem dX9_bitsOf_3 : decode cX9_bitsOf 3 = .ok (.iload_n 0, 1) := by decide +kernel
theorem dX9_bitsOf_4 : decode cX9_bitsOf 4 = .ok (.iload_n 1, 1) := by decide +kernel
theorem dX9_bitsOf_5 : decode cX9_bitsOf 5 = .ok (.ishr, 1) := by decide +kernel
theorem dX9_bitsOf_6 : decode cX9_bitsOf 6 = .ok (.iconst 1, 1) := by decide +kernel
theorem dX9_bitsOf_7 : decode cX9_bitsOf 7 = .ok (.iand, 1) := by decide +kernel
theorem dX9_bitsOf_8 : decode cX9_bitsOf 8 = .ok (.ifCond .ne 9, 3) := by decide +kernel
theorem dX9_bitsOf_11 : decode cX9_bitsOf 11 = .ok (.iinc 1 (-1), 3) := by decide +kernel
theorem dX9_bitsOf_14 : decode cX9_bitsOf 14 = .ok (.goto (-11), 3) := by decide +kernel
theorem dX9_bitsOf_17 : decode cX9_bitsOf 17 = .ok (.iload_n 0, 1) := by decide +kernel
theorem dX9_bitsOf_18 : decode cX9_bitsOf 18 = .ok (.iconst 1, 1) := by decide +kernel
theorem dX9_bitsOf_19 : decode cX9_bitsOf 19 = .ok (.iload_n 1, 1) := by decide +kernel
theorem dX9_bitsOf_20 : decode cX9_bitsOf 20 = .ok (.ishl, 1) := by decide +kernel
theorem dX9_bitsOf_21 : decode cX9_bitsOf 21 = .ok (.isub, 1) := by decide +kernel
theorem dX9_bitsOf_22 : decode cX9_bitsOf 22 = .ok (.istore_n 2, 1) := by decide +kernel
theorem dX9_bitsOf_23 : decode cX9_bitsOf 23 = .ok (.iload_n 1, 1) := by decide +kernel
theorem dX9_bitsOf_24 : decode cX9_bitsOf 24 = .ok (.iconst 4, 1) := by decide +kernel
theorem dX9_bitsOf_25 : decode cX9_bitsOf 25 = .ok (.if_icmp .lt 11, 3) := by decide +kernel
theorem dX9_bitsOf_28 : decode cX9_bitsOf 28 = .ok (.iload_n 2, 1) := by decide +kernel
theorem dX9_bitsOf_29 : decode cX9_bitsOf 29 = .ok (.iload_n 1, 1) := by decide +kernel
theorem dX9_bitsOf_30 : decode cX9_bitsOf 30 = .ok (.iconst 4, 1) := by decide +kernel
theorem dX9_bitsOf_31 : decode cX9_bitsOf 31 = .ok (.isub, 1) := by decide +kernel
theorem dX9_bitsOf_32 : decode cX9_bitsOf 32 = .ok (.ishr, 1) := by decide +kernel
theorem dX9_bitsOf_33 : decode cX9_bitsOf 33 = .ok (.goto 8, 3) := by decide +kernel
theorem dX9_bitsOf_36 : decode cX9_bitsOf 36 = .ok (.iload_n 2, 1) := by decide +kernel
theorem dX9_bitsOf_37 : decode cX9_bitsOf 37 = .ok (.iconst 4, 1) := by decide +kernel
theorem dX9_bitsOf_38 : decode cX9_bitsOf 38 = .ok (.iload_n 1, 1) := by decide +kernel
theorem dX9_bitsOf_39 : decode cX9_bitsOf 39 = .ok (.isub, 1) := by decide +kernel
theorem dX9_bitsOf_40 : decode cX9_bitsOf 40 = .ok (.ishl, 1) := by decide +kernel
theorem dX9_bitsOf_41 : decode cX9_bitsOf 41 = .ok (.istore_n 3, 1) := by decide +kernel
theorem dX9_bitsOf_42 : decode cX9_bitsOf 42 = .ok (.bipush 16, 2) := by decide +kernel
theorem dX9_bitsOf_44 : decode cX9_bitsOf 44 = .ok (.bipush 16, 2) := by decide +kernel
theorem dX9_bitsOf_46 : decode cX9_bitsOf 46 = .ok (.iload_n 1, 1) := by decide +kernel
theorem dX9_bitsOf_47 : decode cX9_bitsOf 47 = .ok (.isub, 1) := by decide +kernel
theorem dX9_bitsOf_48 : decode cX9_bitsOf 48 = .ok (.imul, 1) := by decide +kernel
theorem dX9_bitsOf_49 : decode cX9_bitsOf 49 = .ok (.iload_n 3, 1) := by decide +kernel
theorem dX9_bitsOf_50 : decode cX9_bitsOf 50 = .ok (.isub, 1) := by decide +kernel
theorem dX9_bitsOf_51 : decode cX9_bitsOf 51 = .ok (.ireturn, 1) := by decide +kernel
theorem dX9_comes_0 : decode cX9_comes 0 = .ok (.iconst 0, 1) := by decide +kernel
theorem dX9_comes_1 : decode cX9_comes 1 = .ok (.istore_n 2, 1) := by decide +kernel
theorem dX9_comes_2 : decode cX9_comes 2 = .ok (.iload_n 2, 1) := by decide +kernel
theorem dX9_comes_3 : decode cX9_comes 3 = .ok (.aload_n 0, 1) := by decide +kernel
theorem dX9_comes_4 : decode cX9_comes 4 = .ok (.getfield 72, 3) := by decide +kernel
theorem dX9_comes_7 : decode cX9_comes 7 = .ok (.if_icmp .ge 116, 3) := by decide +kernel
theorem dX9_comes_10 : decode cX9_comes 10 = .ok (.aload_n 0, 1) := by decide +kernel
theorem dX9_comes_11 : decode cX9_comes 11 = .ok (.getfield 28, 3) := by decide +kernel
theorem dX9_comes_14 : decode cX9_comes 14 = .ok (.aload_n 0, 1) := by decide +kernel
theorem dX9_comes_15 : decode cX9_comes 15 = .ok (.getfield 34, 3) := by decide +kernel
theorem dX9_comes_18 : decode cX9_comes 18 = .ok (.iload_n 2, 1) := by decide +kernel
theorem dX9_comes_19 : decode cX9_comes 19 = .ok (.iaload, 1) := by decide +kernel
theorem dX9_comes_20 : decode cX9_comes 20 = .ok (.iaload, 1) := by decide +kernel
theorem dX9_comes_21 : decode cX9_comes 21 = .ok (.i2l, 1) := by decide +kernel
theorem dX9_comes_22 : decode cX9_comes 22 = .ok (.lstore_n 3, 1) := by decide +kernel
theorem dX9_comes_23 : decode cX9_comes 23 = .ok (.aload_n 0, 1) := by decide +kernel
theorem dX9_comes_24 : decode cX9_comes 24 = .ok (.getfield 37, 3) := by decide +kernel
theorem dX9_comes_27 : decode cX9_comes 27 = .ok (.iload_n 2, 1) := by decide +kernel
theorem dX9_comes_28 : decode cX9_comes 28 = .ok (.iaload, 1) := by decide +kernel
theorem dX9_comes_29 : decode cX9_comes 29 = .ok (.iload_n 1, 1) := by decide +kernel
theorem dX9_comes_30 : decode cX9_comes 30 = .ok (.invokestatic 97, 3) := by decide +kernel
theorem dX9_comes_33 : decode cX9_comes 33 = .ok (.i2l, 1) := by decide +kernel
theorem dX9_comes_34 : decode cX9_comes 34 = .ok (.lstore 5, 2) := by decide +kernel
theorem dX9_comes_36 : decode cX9_comes 36 = .ok (.aload_n 0, 1) := by decide +kernel
theorem dX9_comes_37 : decode cX9_comes 37 = .ok (.getfield 40, 3) := by decide +kernel
theorem dX9_comes_40 : decode cX9_comes 40 = .ok (.iload_n 2, 1) := by decide +kernel
theorem dX9_comes_41 : decode cX9_comes 41 = .ok (.iconst 1, 1) := by decide +kernel
theorem dX9_comes_42 : decode cX9_comes 42 = .ok (.iadd, 1) := by decide +kernel
theorem dX9_comes_43 : decode cX9_comes 43 = .ok (.iaload, 1) := by decide +kernel
theorem dX9_comes_44 : decode cX9_comes 44 = .ok (.iload_n 1, 1) := by decide +kernel
theorem dX9_comes_45 : decode cX9_comes 45 = .ok (.invokestatic 97, 3) := by decide +kernel
theorem dX9_comes_48 : decode cX9_comes 48 = .ok (.i2l, 1) := by decide +kernel
theorem dX9_comes_49 : decode cX9_comes 49 = .ok (.lstore 7, 2) := by decide +kernel
theorem dX9_comes_51 : decode cX9_comes 51 = .ok (.ldc2_w 82, 3) := by decide +kernel
theorem dX9_comes_54 : decode cX9_comes 54 = .ok (.lload_n 3, 1) := by decide +kernel
theorem dX9_comes_55 : decode cX9_comes 55 = .ok (.lload 5, 2) := by decide +kernel
theorem dX9_comes_57 : decode cX9_comes 57 = .ok (.lmul, 1) := by decide +kernel
theorem dX9_comes_58 : decode cX9_comes 58 = .ok (.lmul, 1) := by decide +kernel
theorem dX9_comes_59 : decode cX9_comes 59 = .ok (.lload_n 3, 1) := by decide +kernel
theorem dX9_comes_60 : decode cX9_comes 60 = .ok (.lload 5, 2) := by decide +kernel
theorem dX9_comes_62 : decode cX9_comes 62 = .ok (.lmul, 1) := by decide +kernel
theorem dX9_comes_63 : decode cX9_comes 63 = .ok (.ldc2_w 82, 3) := by decide +kernel
theorem dX9_comes_66 : decode cX9_comes 66 = .ok (.lload_n 3, 1) := by decide +kernel
theorem dX9_comes_67 : decode cX9_comes 67 = .ok (.lsub, 1) := by decide +kernel
theorem dX9_comes_68 : decode cX9_comes 68 = .ok (.lload 7, 2) := by decide +kernel
theorem dX9_comes_70 : decode cX9_comes 70 = .ok (.lmul, 1) := by decide +kernel
theorem dX9_comes_71 : decode cX9_comes 71 = .ok (.ladd, 1) := by decide +kernel
theorem dX9_comes_72 : decode cX9_comes 72 = .ok (.ldiv, 1) := by decide +kernel
theorem dX9_comes_73 : decode cX9_comes 73 = .ok (.lstore 9, 2) := by decide +kernel
theorem dX9_comes_75 : decode cX9_comes 75 = .ok (.aload_n 0, 1) := by decide +kernel
theorem dX9_comes_76 : decode cX9_comes 76 = .ok (.getfield 28, 3) := by decide +kernel
theorem dX9_comes_79 : decode cX9_comes 79 = .ok (.aload_n 0, 1) := by decide +kernel
theorem dX9_comes_80 : decode cX9_comes 80 = .ok (.getfield 34, 3) := by decide +kernel
theorem dX9_comes_83 : decode cX9_comes 83 = .ok (.iload_n 2, 1) := by decide +kernel
theorem dX9_comes_84 : decode cX9_comes 84 = .ok (.iaload, 1) := by decide +kernel
theorem dX9_comes_85 : decode cX9_comes 85 = .ok (.lload 9, 2) := by decide +kernel
theorem dX9_comes_87 : decode cX9_comes 87 = .ok (.ldc2_w 100, 3) := by decide +kernel
theorem dX9_comes_90 : decode cX9_comes 90 = .ok (.lcmp, 1) := by decide +kernel
theorem dX9_comes_91 : decode cX9_comes 91 = .ok (.ifCond .ge 8, 3) := by decide +kernel
theorem dX9_comes_94 : decode cX9_comes 94 = .ok (.bipush 64, 2) := by decide +kernel
theorem dX9_comes_96 : decode cX9_comes 96 = .ok (.goto 20, 3) := by decide +kernel
theorem dX9_comes_99 : decode cX9_comes 99 = .ok (.lload 9, 2) := by decide +kernel
theorem dX9_comes_101 : decode cX9_comes 101 = .ok (.ldc2_w 102, 3) := by decide +kernel
theorem dX9_comes_104 : decode cX9_comes 104 = .ok (.lcmp, 1) := by decide +kernel
theorem dX9_comes_105 : decode cX9_comes 105 = .ok (.ifCond .le 8, 3) := by decide +kernel
theorem dX9_comes_108 : decode cX9_comes 108 = .ok (.ldc 104, 2) := by decide +kernel
theorem dX9_comes_110 : decode cX9_comes 110 = .ok (.goto 6, 3) := by decide +kernel
theorem dX9_comes_113 : decode cX9_comes 113 = .ok (.lload 9, 2) := by decide +kernel
theorem dX9_comes_115 : decode cX9_comes 115 = .ok (.l2i, 1) := by decide +kernel
theorem dX9_comes_116 : decode cX9_comes 116 = .ok (.iastore, 1) := by decide +kernel
theorem dX9_comes_117 : decode cX9_comes 117 = .ok (.iinc 2 1, 3) := by decide +kernel
theorem dX9_comes_120 : decode cX9_comes 120 = .ok (.goto (-118), 3) := by decide +kernel
theorem dX9_comes_123 : decode cX9_comes 123 = .ok (.iconst 0, 1) := by decide +kernel
theorem dX9_comes_124 : decode cX9_comes 124 = .ok (.istore_n 2, 1) := by decide +kernel
theorem dX9_comes_125 : decode cX9_comes 125 = .ok (.iload_n 2, 1) := by decide +kernel
theorem dX9_comes_126 : decode cX9_comes 126 = .ok (.aload_n 0, 1) := by decide +kernel
theorem dX9_comes_127 : decode cX9_comes 127 = .ok (.getfield 72, 3) := by decide +kernel
theorem dX9_comes_130 : decode cX9_comes 130 = .ok (.if_icmp .gt 102, 3) := by decide +kernel
theorem dX9_comes_133 : decode cX9_comes 133 = .ok (.aload_n 0, 1) := by decide +kernel
theorem dX9_comes_134 : decode cX9_comes 134 = .ok (.getfield 34, 3) := by decide +kernel
theorem dX9_comes_137 : decode cX9_comes 137 = .ok (.iload_n 2, 1) := by decide +kernel
theorem dX9_comes_138 : decode cX9_comes 138 = .ok (.iaload, 1) := by decide +kernel
theorem dX9_comes_139 : decode cX9_comes 139 = .ok (.istore_n 3, 1) := by decide +kernel
theorem dX9_comes_140 : decode cX9_comes 140 = .ok (.aload_n 0, 1) := by decide +kernel
theorem dX9_comes_141 : decode cX9_comes 141 = .ok (.getfield 31, 3) := by decide +kernel
theorem dX9_comes_144 : decode cX9_comes 144 = .ok (.iload_n 3, 1) := by decide +kernel
theorem dX9_comes_145 : decode cX9_comes 145 = .ok (.dup2, 1) := by decide +kernel
theorem dX9_comes_146 : decode cX9_comes 146 = .ok (.iaload, 1) := by decide +kernel
theorem dX9_comes_147 : decode cX9_comes 147 = .ok (.aload_n 0, 1) := by decide +kernel
theorem dX9_comes_148 : decode cX9_comes 148 = .ok (.getfield 37, 3) := by decide +kernel
theorem dX9_comes_151 : decode cX9_comes 151 = .ok (.iload_n 2, 1) := by decide +kernel
theorem dX9_comes_152 : decode cX9_comes 152 = .ok (.iaload, 1) := by decide +kernel
theorem dX9_comes_153 : decode cX9_comes 153 = .ok (.iload_n 1, 1) := by decide +kernel
theorem dX9_comes_154 : decode cX9_comes 154 = .ok (.invokestatic 97, 3) := by decide +kernel
theorem dX9_comes_157 : decode cX9_comes 157 = .ok (.invokestatic 105, 3) := by decide +kernel
theorem dX9_comes_160 : decode cX9_comes 160 = .ok (.iadd, 1) := by decide +kernel
theorem dX9_comes_161 : decode cX9_comes 161 = .ok (.iastore, 1) := by decide +kernel
theorem dX9_comes_162 : decode cX9_comes 162 = .ok (.aload_n 0, 1) := by decide +kernel
theorem dX9_comes_163 : decode cX9_comes 163 = .ok (.getfield 22, 3) := by decide +kernel
theorem dX9_comes_166 : decode cX9_comes 166 = .ok (.iload_n 3, 1) := by decide +kernel
theorem dX9_comes_167 : decode cX9_comes 167 = .ok (.dup2, 1) := by decide +kernel
theorem dX9_comes_168 : decode cX9_comes 168 = .ok (.iaload, 1) := by decide +kernel
theorem dX9_comes_169 : decode cX9_comes 169 = .ok (.iconst 1, 1) := by decide +kernel
theorem dX9_comes_170 : decode cX9_comes 170 = .ok (.iload_n 1, 1) := by decide +kernel
theorem dX9_comes_171 : decode cX9_comes 171 = .ok (.isub, 1) := by decide +kernel
theorem dX9_comes_172 : decode cX9_comes 172 = .ok (.iadd, 1) := by decide +kernel
theorem dX9_comes_173 : decode cX9_comes 173 = .ok (.iastore, 1) := by decide +kernel
theorem dX9_comes_174 : decode cX9_comes 174 = .ok (.aload_n 0, 1) := by decide +kernel
theorem dX9_comes_175 : decode cX9_comes 175 = .ok (.getfield 25, 3) := by decide +kernel
theorem dX9_comes_178 : decode cX9_comes 178 = .ok (.iload_n 3, 1) := by decide +kernel
theorem dX9_comes_179 : decode cX9_comes 179 = .ok (.dup2, 1) := by decide +kernel
theorem dX9_comes_180 : decode cX9_comes 180 = .ok (.iaload, 1) := by decide +kernel
theorem dX9_comes_181 : decode cX9_comes 181 = .ok (.iload_n 1, 1) := by decide +kernel
theorem dX9_comes_182 : decode cX9_comes 182 = .ok (.iadd, 1) := by decide +kernel
theorem dX9_comes_183 : decode cX9_comes 183 = .ok (.iastore, 1) := by decide +kernel
theorem dX9_comes_184 : decode cX9_comes 184 = .ok (.aload_n 0, 1) := by decide +kernel
theorem dX9_comes_185 : decode cX9_comes 185 = .ok (.getfield 22, 3) := by decide +kernel
theorem dX9_comes_188 : decode cX9_comes 188 = .ok (.iload_n 3, 1) := by decide +kernel
theorem dX9_comes_189 : decode cX9_comes 189 = .ok (.iaload, 1) := by decide +kernel
theorem dX9_comes_190 : decode cX9_comes 190 = .ok (.bipush 60, 2) := by decide +kernel
theorem dX9_comes_192 : decode cX9_comes 192 = .ok (.if_icmp .gt 14, 3) := by decide +kernel
theorem dX9_comes_195 : decode cX9_comes 195 = .ok (.aload_n 0, 1) := by decide +kernel
theorem dX9_comes_196 : decode cX9_comes 196 = .ok (.getfield 25, 3) := by decide +kernel
theorem dX9_comes_199 : decode cX9_comes 199 = .ok (.iload_n 3, 1) := by decide +kernel
theorem dX9_comes_200 : decode cX9_comes 200 = .ok (.iaload, 1) := by decide +kernel
theorem dX9_comes_201 : decode cX9_comes 201 = .ok (.bipush 60, 2) := by decide +kernel
theorem dX9_comes_203 : decode cX9_comes 203 = .ok (.if_icmp .le 23, 3) := by decide +kernel
theorem dX9_comes_206 : decode cX9_comes 206 = .ok (.aload_n 0, 1) := by decide +kernel
theorem dX9_comes_207 : decode cX9_comes 207 = .ok (.getfield 22, 3) := by decide +kernel
theorem dX9_comes_210 : decode cX9_comes 210 = .ok (.iload_n 3, 1) := by decide +kernel
theorem dX9_comes_211 : decode cX9_comes 211 = .ok (.dup2, 1) := by decide +kernel
theorem dX9_comes_212 : decode cX9_comes 212 = .ok (.iaload, 1) := by decide +kernel
theorem dX9_comes_213 : decode cX9_comes 213 = .ok (.iconst 2, 1) := by decide +kernel
theorem dX9_comes_214 : decode cX9_comes 214 = .ok (.idiv, 1) := by decide +kernel
theorem dX9_comes_215 : decode cX9_comes 215 = .ok (.iastore, 1) := by decide +kernel
theorem dX9_comes_216 : decode cX9_comes 216 = .ok (.aload_n 0, 1) := by decide +kernel
theorem dX9_comes_217 : decode cX9_comes 217 = .ok (.getfield 25, 3) := by decide +kernel
theorem dX9_comes_220 : decode cX9_comes 220 = .ok (.iload_n 3, 1) := by decide +kernel
theorem dX9_comes_221 : decode cX9_comes 221 = .ok (.dup2, 1) := by decide +kernel
theorem dX9_comes_222 : decode cX9_comes 222 = .ok (.iaload, 1) := by decide +kernel
theorem dX9_comes_223 : decode cX9_comes 223 = .ok (.iconst 2, 1) := by decide +kernel
theorem dX9_comes_224 : decode cX9_comes 224 = .ok (.idiv, 1) := by decide +kernel
theorem dX9_comes_225 : decode cX9_comes 225 = .ok (.iastore, 1) := by decide +kernel
theorem dX9_comes_226 : decode cX9_comes 226 = .ok (.iinc 2 1, 3) := by decide +kernel
theorem dX9_comes_229 : decode cX9_comes 229 = .ok (.goto (-104), 3) := by decide +kernel
theorem dX9_comes_232 : decode cX9_comes 232 = .ok (.aload_n 0, 1) := by decide +kernel
theorem dX9_comes_233 : decode cX9_comes 233 = .ok (.getfield 43, 3) := by decide +kernel
theorem dX9_comes_236 : decode cX9_comes 236 = .ok (.aload_n 0, 1) := by decide +kernel
theorem dX9_comes_237 : decode cX9_comes 237 = .ok (.getfield 69, 3) := by decide +kernel
theorem dX9_comes_240 : decode cX9_comes 240 = .ok (.aload_n 0, 1) := by decide +kernel
theorem dX9_comes_241 : decode cX9_comes 241 = .ok (.getfield 40, 3) := by decide +kernel
theorem dX9_comes_244 : decode cX9_comes 244 = .ok (.iconst 0, 1) := by decide +kernel
theorem dX9_comes_245 : decode cX9_comes 245 = .ok (.iaload, 1) := by decide +kernel
theorem dX9_comes_246 : decode cX9_comes 246 = .ok (.iastore, 1) := by decide +kernel
theorem dX9_comes_247 : decode cX9_comes 247 = .ok (.aload_n 0, 1) := by decide +kernel
theorem dX9_comes_248 : decode cX9_comes 248 = .ok (.getfield 19, 3) := by decide +kernel
theorem dX9_comes_251 : decode cX9_comes 251 = .ok (.aload_n 0, 1) := by decide +kernel
theorem dX9_comes_252 : decode cX9_comes 252 = .ok (.getfield 69, 3) := by decide +kernel
theorem dX9_comes_255 : decode cX9_comes 255 = .ok (.iload_n 1, 1) := by decide +kernel
theorem dX9_comes_256 : decode cX9_comes 256 = .ok (.iastore, 1) := by decide +kernel
theorem dX9_comes_257 : decode cX9_comes 257 = .ok (.aload_n 0, 1) := by decide +kernel
theorem dX9_comes_258 : decode cX9_comes 258 = .ok (.dup, 1) := by decide +kernel
theorem dX9_comes_259 : decode cX9_comes 259 = .ok (.getfield 69, 3) := by decide +kernel
theorem dX9_comes_262 : decode cX9_comes 262 = .ok (.iconst 1, 1) := by decide +kernel
theorem dX9_comes_263 : decode cX9_comes 263 = .ok (.iadd, 1) := by decide +kernel
theorem dX9_comes_264 : decode cX9_comes 264 = .ok (.putfield 69, 3) := by decide +kernel
theorem dX9_comes_267 : decode cX9_comes 267 = .ok (.return_, 1) := by decide +kernel
theorem dX9_goes_0 : decode cX9_goes 0 = .ok (.iconst 0, 1) := by decide +kernel
theorem dX9_goes_1 : decode cX9_goes 1 = .ok (.istore_n 3, 1) := by decide +kernel
theorem dX9_goes_2 : decode cX9_goes 2 = .ok (.aload_n 0, 1) := by decide +kernel
theorem dX9_goes_3 : decode cX9_goes 3 = .ok (.iload_n 1, 1) := by decide +kernel
theorem dX9_goes_4 : decode cX9_goes 4 = .ok (.iload_n 2, 1) := by decide +kernel
theorem dX9_goes_5 : decode cX9_goes 5 = .ok (.invokevirtual 108, 3) := by decide +kernel
theorem dX9_goes_8 : decode cX9_goes 8 = .ok (.iconst 0, 1) := by decide +kernel
theorem dX9_goes_9 : decode cX9_goes 9 = .ok (.istore 4, 2) := by decide +kernel
theorem dX9_goes_11 : decode cX9_goes 11 = .ok (.iload 4, 2) := by decide +kernel
theorem dX9_goes_13 : decode cX9_goes 13 = .ok (.aload_n 0, 1) := by decide +kernel
theorem dX9_goes_14 : decode cX9_goes 14 = .ok (.invokevirtual 112, 3) := by decide +kernel
theorem dX9_goes_17 : decode cX9_goes 17 = .ok (.if_icmp .ge 40, 3) := by decide +kernel
theorem dX9_goes_20 : decode cX9_goes 20 = .ok (.iload_n 3, 1) := by decide +kernel
theorem dX9_goes_21 : decode cX9_goes 21 = .ok (.aload_n 0, 1) := by decide +kernel
theorem dX9_goes_22 : decode cX9_goes 22 = .ok (.invokevirtual 116, 3) := by decide +kernel
theorem dX9_goes_25 : decode cX9_goes 25 = .ok (.aload_n 0, 1) := by decide +kernel
theorem dX9_goes_26 : decode cX9_goes 26 = .ok (.getfield 7, 3) := by decide +kernel
theorem dX9_goes_29 : decode cX9_goes 29 = .ok (.iload 4, 2) := by decide +kernel
theorem dX9_goes_31 : decode cX9_goes 31 = .ok (.iaload, 1) := by decide +kernel
theorem dX9_goes_32 : decode cX9_goes 32 = .ok (.invokestatic 97, 3) := by decide +kernel
theorem dX9_goes_35 : decode cX9_goes 35 = .ok (.invokestatic 105, 3) := by decide +kernel
theorem dX9_goes_38 : decode cX9_goes 38 = .ok (.iadd, 1) := by decide +kernel
theorem dX9_goes_39 : decode cX9_goes 39 = .ok (.istore_n 3, 1) := by decide +kernel
theorem dX9_goes_40 : decode cX9_goes 40 = .ok (.aload_n 0, 1) := by decide +kernel
theorem dX9_goes_41 : decode cX9_goes 41 = .ok (.aload_n 0, 1) := by decide +kernel
theorem dX9_goes_42 : decode cX9_goes 42 = .ok (.getfield 7, 3) := by decide +kernel
theorem dX9_goes_45 : decode cX9_goes 45 = .ok (.iload 4, 2) := by decide +kernel
theorem dX9_goes_47 : decode cX9_goes 47 = .ok (.iaload, 1) := by decide +kernel
theorem dX9_goes_48 : decode cX9_goes 48 = .ok (.invokevirtual 119, 3) := by decide +kernel
theorem dX9_goes_51 : decode cX9_goes 51 = .ok (.iinc 4 1, 3) := by decide +kernel
theorem dX9_goes_54 : decode cX9_goes 54 = .ok (.goto (-43), 3) := by decide +kernel
theorem dX9_goes_57 : decode cX9_goes 57 = .ok (.iload_n 3, 1) := by decide +kernel
theorem dX9_goes_58 : decode cX9_goes 58 = .ok (.ireturn, 1) := by decide +kernel
theorem dX9_goesNow_0 : decode cX9_goesNow 0 = .ok (.aload_n 0, 1) := by decide +kernel
theorem dX9_goesNow_1 : decode cX9_goesNow 1 = .ok (.aload_n 0, 1) := by decide +kernel
theorem dX9_goesNow_2 : decode cX9_goesNow 2 = .ok (.invokevirtual 123, 3) := by decide +kernel
theorem dX9_goesNow_5 : decode cX9_goesNow 5 = .ok (.aload_n 0, 1) := by decide +kernel
theorem dX9_goesNow_6 : decode cX9_goesNow 6 = .ok (.invokevirtual 126, 3) := by decide +kernel
theorem dX9_goesNow_9 : decode cX9_goesNow 9 = .ok (.invokevirtual 129, 3) := by decide +kernel
theorem dX9_goesNow_12 : decode cX9_goesNow 12 = .ok (.ireturn, 1) := by decide +kernel
theorem dX9_costAt_0 : decode cX9_costAt 0 = .ok (.aload_n 0, 1) := by decide +kernel
theorem dX9_costAt_1 : decode cX9_costAt 1 = .ok (.getfield 43, 3) := by decide +kernel
theorem dX9_costAt_4 : decode cX9_costAt 4 = .ok (.iload_n 1, 1) := by decide +kernel
theorem dX9_costAt_5 : decode cX9_costAt 5 = .ok (.iaload, 1) := by decide +kernel
theorem dX9_costAt_6 : decode cX9_costAt 6 = .ok (.aload_n 0, 1) := by decide +kernel
theorem dX9_costAt_7 : decode cX9_costAt 7 = .ok (.getfield 7, 3) := by decide +kernel
theorem dX9_costAt_10 : decode cX9_costAt 10 = .ok (.iload_n 1, 1) := by decide +kernel
theorem dX9_costAt_11 : decode cX9_costAt 11 = .ok (.iaload, 1) := by decide +kernel
theorem dX9_costAt_12 : decode cX9_costAt 12 = .ok (.invokestatic 97, 3) := by decide +kernel
theorem dX9_costAt_15 : decode cX9_costAt 15 = .ok (.invokestatic 105, 3) := by decide +kernel
theorem dX9_costAt_18 : decode cX9_costAt 18 = .ok (.ireturn, 1) := by decide +kernel
theorem dX9_adds_0 : decode cX9_adds 0 = .ok (.aload_n 0, 1) := by decide +kernel
theorem dX9_adds_1 : decode cX9_adds 1 = .ok (.getfield 7, 3) := by decide +kernel
theorem dX9_adds_4 : decode cX9_adds 4 = .ok (.aload_n 0, 1) := by decide +kernel
theorem dX9_adds_5 : decode cX9_adds 5 = .ok (.invokevirtual 112, 3) := by decide +kernel
theorem dX9_adds_8 : decode cX9_adds 8 = .ok (.iload_n 1, 1) := by decide +kernel
theorem dX9_adds_9 : decode cX9_adds 9 = .ok (.iastore, 1) := by decide +kernel
theorem dX9_adds_10 : decode cX9_adds 10 = .ok (.aload_n 0, 1) := by decide +kernel
theorem dX9_adds_11 : decode cX9_adds 11 = .ok (.getfield 7, 3) := by decide +kernel
theorem dX9_adds_14 : decode cX9_adds 14 = .ok (.bipush 100, 2) := by decide +kernel
theorem dX9_adds_16 : decode cX9_adds 16 = .ok (.dup2, 1) := by decide +kernel
theorem dX9_adds_17 : decode cX9_adds 17 = .ok (.iaload, 1) := by decide +kernel
theorem dX9_adds_18 : decode cX9_adds 18 = .ok (.iconst 1, 1) := by decide +kernel
theorem dX9_adds_19 : decode cX9_adds 19 = .ok (.iadd, 1) := by decide +kernel
theorem dX9_adds_20 : decode cX9_adds 20 = .ok (.iastore, 1) := by decide +kernel
theorem dX9_adds_21 : decode cX9_adds 21 = .ok (.return_, 1) := by decide +kernel
theorem dX9_costFrom_0 : decode cX9_costFrom 0 = .ok (.iconst 0, 1) := by decide +kernel
theorem dX9_costFrom_1 : decode cX9_costFrom 1 = .ok (.istore_n 2, 1) := by decide +kernel
theorem dX9_costFrom_2 : decode cX9_costFrom 2 = .ok (.aload_n 0, 1) := by decide +kernel
theorem dX9_costFrom_3 : decode cX9_costFrom 3 = .ok (.invokevirtual 132, 3) := by decide +kernel
theorem dX9_costFrom_6 : decode cX9_costFrom 6 = .ok (.istore_n 3, 1) := by decide +kernel
theorem dX9_costFrom_7 : decode cX9_costFrom 7 = .ok (.iload_n 1, 1) := by decide +kernel
theorem dX9_costFrom_8 : decode cX9_costFrom 8 = .ok (.istore 4, 2) := by decide +kernel
theorem dX9_costFrom_10 : decode cX9_costFrom 10 = .ok (.iload 4, 2) := by decide +kernel
theorem dX9_costFrom_12 : decode cX9_costFrom 12 = .ok (.aload_n 0, 1) := by decide +kernel
theorem dX9_costFrom_13 : decode cX9_costFrom 13 = .ok (.invokevirtual 112, 3) := by decide +kernel
theorem dX9_costFrom_16 : decode cX9_costFrom 16 = .ok (.if_icmp .ge 18, 3) := by decide +kernel
theorem dX9_costFrom_19 : decode cX9_costFrom 19 = .ok (.iload_n 2, 1) := by decide +kernel
theorem dX9_costFrom_20 : decode cX9_costFrom 20 = .ok (.aload_n 0, 1) := by decide +kernel
theorem dX9_costFrom_21 : decode cX9_costFrom 21 = .ok (.iload 4, 2) := by decide +kernel
theorem dX9_costFrom_23 : decode cX9_costFrom 23 = .ok (.invokevirtual 135, 3) := by decide +kernel
theorem dX9_costFrom_26 : decode cX9_costFrom 26 = .ok (.iadd, 1) := by decide +kernel
theorem dX9_costFrom_27 : decode cX9_costFrom 27 = .ok (.istore_n 2, 1) := by decide +kernel
theorem dX9_costFrom_28 : decode cX9_costFrom 28 = .ok (.iinc 4 1, 3) := by decide +kernel
theorem dX9_costFrom_31 : decode cX9_costFrom 31 = .ok (.goto (-21), 3) := by decide +kernel
theorem dX9_costFrom_34 : decode cX9_costFrom 34 = .ok (.iload_n 2, 1) := by decide +kernel
theorem dX9_costFrom_35 : decode cX9_costFrom 35 = .ok (.ireturn, 1) := by decide +kernel
theorem dX9_sign_0 : decode cX9_sign 0 = .ok (.iload_n 1, 1) := by decide +kernel
theorem dX9_sign_1 : decode cX9_sign 1 = .ok (.i2l, 1) := by decide +kernel
theorem dX9_sign_2 : decode cX9_sign 2 = .ok (.lconst 0, 1) := by decide +kernel
theorem dX9_sign_3 : decode cX9_sign 3 = .ok (.lconst 1, 1) := by decide +kernel
theorem dX9_sign_4 : decode cX9_sign 4 = .ok (.invokestatic 138, 3) := by decide +kernel
theorem dX9_sign_7 : decode cX9_sign 7 = .ok (.ifCond .ne 10, 3) := by decide +kernel
theorem dX9_sign_10 : decode cX9_sign 10 = .ok (.aload_n 0, 1) := by decide +kernel
theorem dX9_sign_11 : decode cX9_sign 11 = .ok (.bipush (-2), 2) := by decide +kernel
theorem dX9_sign_13 : decode cX9_sign 13 = .ok (.invokevirtual 142, 3) := by decide +kernel
theorem dX9_sign_16 : decode cX9_sign 16 = .ok (.ireturn, 1) := by decide +kernel
theorem dX9_sign_17 : decode cX9_sign 17 = .ok (.aload_n 0, 1) := by decide +kernel
theorem dX9_sign_18 : decode cX9_sign 18 = .ok (.invokevirtual 112, 3) := by decide +kernel
theorem dX9_sign_21 : decode cX9_sign 21 = .ok (.bipush 100, 2) := by decide +kernel
theorem dX9_sign_23 : decode cX9_sign 23 = .ok (.if_icmp .ne 8, 3) := by decide +kernel
theorem dX9_sign_26 : decode cX9_sign 26 = .ok (.aload_n 0, 1) := by decide +kernel
theorem dX9_sign_27 : decode cX9_sign 27 = .ok (.invokevirtual 145, 3) := by decide +kernel
theorem dX9_sign_30 : decode cX9_sign 30 = .ok (.ireturn, 1) := by decide +kernel
theorem dX9_sign_31 : decode cX9_sign 31 = .ok (.aload_n 0, 1) := by decide +kernel
theorem dX9_sign_32 : decode cX9_sign 32 = .ok (.invokevirtual 148, 3) := by decide +kernel
theorem dX9_sign_35 : decode cX9_sign 35 = .ok (.aload_n 0, 1) := by decide +kernel
theorem dX9_sign_36 : decode cX9_sign 36 = .ok (.iload_n 1, 1) := by decide +kernel
theorem dX9_sign_37 : decode cX9_sign 37 = .ok (.invokevirtual 151, 3) := by decide +kernel
theorem dX9_sign_40 : decode cX9_sign 40 = .ok (.aload_n 0, 1) := by decide +kernel
theorem dX9_sign_41 : decode cX9_sign 41 = .ok (.aload_n 0, 1) := by decide +kernel
theorem dX9_sign_42 : decode cX9_sign 42 = .ok (.invokevirtual 112, 3) := by decide +kernel
theorem dX9_sign_45 : decode cX9_sign 45 = .ok (.iconst 1, 1) := by decide +kernel
theorem dX9_sign_46 : decode cX9_sign 46 = .ok (.isub, 1) := by decide +kernel
theorem dX9_sign_47 : decode cX9_sign 47 = .ok (.invokevirtual 154, 3) := by decide +kernel
theorem dX9_sign_50 : decode cX9_sign 50 = .ok (.ireturn, 1) := by decide +kernel
theorem dX9_signs_0 : decode cX9_signs 0 = .ok (.iload_n 3, 1) := by decide +kernel
theorem dX9_signs_1 : decode cX9_signs 1 = .ok (.i2l, 1) := by decide +kernel
theorem dX9_signs_2 : decode cX9_signs 2 = .ok (.lconst 1, 1) := by decide +kernel
theorem dX9_signs_3 : decode cX9_signs 3 = .ok (.ldc2_w 100, 3) := by decide +kernel
theorem dX9_signs_6 : decode cX9_signs 6 = .ok (.invokestatic 138, 3) := by decide +kernel
theorem dX9_signs_9 : decode cX9_signs 9 = .ok (.ifCond .ne 10, 3) := by decide +kernel
theorem dX9_signs_12 : decode cX9_signs 12 = .ok (.aload_n 0, 1) := by decide +kernel
theorem dX9_signs_13 : decode cX9_signs 13 = .ok (.bipush (-2), 2) := by decide +kernel
theorem dX9_signs_15 : decode cX9_signs 15 = .ok (.invokevirtual 142, 3) := by decide +kernel
theorem dX9_signs_18 : decode cX9_signs 18 = .ok (.ireturn, 1) := by decide +kernel
theorem dX9_signs_19 : decode cX9_signs 19 = .ok (.aload_n 0, 1) := by decide +kernel
theorem dX9_signs_20 : decode cX9_signs 20 = .ok (.invokevirtual 112, 3) := by decide +kernel
theorem dX9_signs_23 : decode cX9_signs 23 = .ok (.iload_n 3, 1) := by decide +kernel
theorem dX9_signs_24 : decode cX9_signs 24 = .ok (.iadd, 1) := by decide +kernel
theorem dX9_signs_25 : decode cX9_signs 25 = .ok (.bipush 100, 2) := by decide +kernel
theorem dX9_signs_27 : decode cX9_signs 27 = .ok (.if_icmp .le 8, 3) := by decide +kernel
theorem dX9_signs_30 : decode cX9_signs 30 = .ok (.aload_n 0, 1) := by decide +kernel
theorem dX9_signs_31 : decode cX9_signs 31 = .ok (.invokevirtual 145, 3) := by decide +kernel
theorem dX9_signs_34 : decode cX9_signs 34 = .ok (.ireturn, 1) := by decide +kernel
theorem dX9_signs_35 : decode cX9_signs 35 = .ok (.aload_n 0, 1) := by decide +kernel
theorem dX9_signs_36 : decode cX9_signs 36 = .ok (.invokevirtual 112, 3) := by decide +kernel
theorem dX9_signs_39 : decode cX9_signs 39 = .ok (.istore 4, 2) := by decide +kernel
theorem dX9_signs_41 : decode cX9_signs 41 = .ok (.aload_n 0, 1) := by decide +kernel
theorem dX9_signs_42 : decode cX9_signs 42 = .ok (.invokevirtual 148, 3) := by decide +kernel
theorem dX9_signs_45 : decode cX9_signs 45 = .ok (.iconst 0, 1) := by decide +kernel
theorem dX9_signs_46 : decode cX9_signs 46 = .ok (.istore 5, 2) := by decide +kernel
theorem dX9_signs_48 : decode cX9_signs 48 = .ok (.iload 5, 2) := by decide +kernel
theorem dX9_signs_50 : decode cX9_signs 50 = .ok (.iload_n 3, 1) := by decide +kernel
theorem dX9_signs_51 : decode cX9_signs 51 = .ok (.if_icmp .ge 20, 3) := by decide +kernel
theorem dX9_signs_54 : decode cX9_signs 54 = .ok (.aload_n 0, 1) := by decide +kernel
theorem dX9_signs_55 : decode cX9_signs 55 = .ok (.lload_n 1, 1) := by decide +kernel
theorem dX9_signs_56 : decode cX9_signs 56 = .ok (.iload 5, 2) := by decide +kernel
theorem dX9_signs_58 : decode cX9_signs 58 = .ok (.lshr, 1) := by decide +kernel
theorem dX9_signs_59 : decode cX9_signs 59 = .ok (.lconst 1, 1) := by decide +kernel
theorem dX9_signs_60 : decode cX9_signs 60 = .ok (.land, 1) := by decide +kernel
theorem dX9_signs_61 : decode cX9_signs 61 = .ok (.l2i, 1) := by decide +kernel
theorem dX9_signs_62 : decode cX9_signs 62 = .ok (.invokevirtual 151, 3) := by decide +kernel
theorem dX9_signs_65 : decode cX9_signs 65 = .ok (.iinc 5 1, 3) := by decide +kernel
theorem dX9_signs_68 : decode cX9_signs 68 = .ok (.goto (-20), 3) := by decide +kernel
theorem dX9_signs_71 : decode cX9_signs 71 = .ok (.aload_n 0, 1) := by decide +kernel
theorem dX9_signs_72 : decode cX9_signs 72 = .ok (.iload 4, 2) := by decide +kernel
theorem dX9_signs_74 : decode cX9_signs 74 = .ok (.invokevirtual 154, 3) := by decide +kernel
theorem dX9_signs_77 : decode cX9_signs 77 = .ok (.ireturn, 1) := by decide +kernel
theorem dX9_draw_0 : decode cX9_draw 0 = .ok (.iload_n 1, 1) := by decide +kernel
theorem dX9_draw_1 : decode cX9_draw 1 = .ok (.i2l, 1) := by decide +kernel
theorem dX9_draw_2 : decode cX9_draw 2 = .ok (.lconst 0, 1) := by decide +kernel
theorem dX9_draw_3 : decode cX9_draw 3 = .ok (.ldc2_w 157, 3) := by decide +kernel
theorem dX9_draw_6 : decode cX9_draw 6 = .ok (.invokestatic 138, 3) := by decide +kernel
theorem dX9_draw_9 : decode cX9_draw 9 = .ok (.ifCond .eq 27, 3) := by decide +kernel
theorem dX9_draw_12 : decode cX9_draw 12 = .ok (.iload_n 2, 1) := by decide +kernel
theorem dX9_draw_13 : decode cX9_draw 13 = .ok (.i2l, 1) := by decide +kernel
theorem dX9_draw_14 : decode cX9_draw 14 = .ok (.lconst 1, 1) := by decide +kernel
theorem dX9_draw_15 : decode cX9_draw 15 = .ok (.ldc2_w 159, 3) := by decide +kernel
theorem dX9_draw_18 : decode cX9_draw 18 = .ok (.invokestatic 138, 3) := by decide +kernel
theorem dX9_draw_21 : decode cX9_draw 21 = .ok (.ifCond .eq 15, 3) := by decide +kernel
theorem dX9_draw_24 : decode cX9_draw 24 = .ok (.iload_n 3, 1) := by decide +kernel
theorem dX9_draw_25 : decode cX9_draw 25 = .ok (.i2l, 1) := by decide +kernel
theorem dX9_draw_26 : decode cX9_draw 26 = .ok (.lconst 0, 1) := by decide +kernel
theorem dX9_draw_27 : decode cX9_draw 27 = .ok (.ldc2_w 159, 3) := by decide +kernel
theorem dX9_draw_30 : decode cX9_draw 30 = .ok (.invokestatic 138, 3) := by decide +kernel
theorem dX9_draw_33 : decode cX9_draw 33 = .ok (.ifCond .ne 10, 3) := by decide +kernel
theorem dX9_draw_36 : decode cX9_draw 36 = .ok (.aload_n 0, 1) := by decide +kernel
theorem dX9_draw_37 : decode cX9_draw 37 = .ok (.bipush (-2), 2) := by decide +kernel
theorem dX9_draw_39 : decode cX9_draw 39 = .ok (.invokevirtual 142, 3) := by decide +kernel
theorem dX9_draw_42 : decode cX9_draw 42 = .ok (.ireturn, 1) := by decide +kernel
theorem dX9_draw_43 : decode cX9_draw 43 = .ok (.aload_n 0, 1) := by decide +kernel
theorem dX9_draw_44 : decode cX9_draw 44 = .ok (.invokevirtual 112, 3) := by decide +kernel
theorem dX9_draw_47 : decode cX9_draw 47 = .ok (.iload_n 2, 1) := by decide +kernel
theorem dX9_draw_48 : decode cX9_draw 48 = .ok (.iadd, 1) := by decide +kernel
theorem dX9_draw_49 : decode cX9_draw 49 = .ok (.bipush 100, 2) := by decide +kernel
theorem dX9_draw_51 : decode cX9_draw 51 = .ok (.if_icmp .le 8, 3) := by decide +kernel
theorem dX9_draw_54 : decode cX9_draw 54 = .ok (.aload_n 0, 1) := by decide +kernel
theorem dX9_draw_55 : decode cX9_draw 55 = .ok (.invokevirtual 145, 3) := by decide +kernel
theorem dX9_draw_58 : decode cX9_draw 58 = .ok (.ireturn, 1) := by decide +kernel
theorem dX9_draw_59 : decode cX9_draw 59 = .ok (.iload_n 1, 1) := by decide +kernel
theorem dX9_draw_60 : decode cX9_draw 60 = .ok (.i2l, 1) := by decide +kernel
theorem dX9_draw_61 : decode cX9_draw 61 = .ok (.lstore 4, 2) := by decide +kernel
theorem dX9_draw_63 : decode cX9_draw 63 = .ok (.iconst 0, 1) := by decide +kernel
theorem dX9_draw_64 : decode cX9_draw 64 = .ok (.istore 6, 2) := by decide +kernel
theorem dX9_draw_66 : decode cX9_draw 66 = .ok (.aload_n 0, 1) := by decide +kernel
theorem dX9_draw_67 : decode cX9_draw 67 = .ok (.invokevirtual 148, 3) := by decide +kernel
theorem dX9_draw_70 : decode cX9_draw 70 = .ok (.iconst 0, 1) := by decide +kernel
theorem dX9_draw_71 : decode cX9_draw 71 = .ok (.istore 7, 2) := by decide +kernel
theorem dX9_draw_73 : decode cX9_draw 73 = .ok (.iload 7, 2) := by decide +kernel
theorem dX9_draw_75 : decode cX9_draw 75 = .ok (.iload_n 2, 1) := by decide +kernel
theorem dX9_draw_76 : decode cX9_draw 76 = .ok (.if_icmp .ge 61, 3) := by decide +kernel
theorem dX9_draw_79 : decode cX9_draw 79 = .ok (.lload 4, 2) := by decide +kernel
theorem dX9_draw_81 : decode cX9_draw 81 = .ok (.ldc2_w 161, 3) := by decide +kernel
theorem dX9_draw_84 : decode cX9_draw 84 = .ok (.lmul, 1) := by decide +kernel
theorem dX9_draw_85 : decode cX9_draw 85 = .ok (.ldc2_w 163, 3) := by decide +kernel
theorem dX9_draw_88 : decode cX9_draw 88 = .ok (.ladd, 1) := by decide +kernel
theorem dX9_draw_89 : decode cX9_draw 89 = .ok (.ldc2_w 165, 3) := by decide +kernel
theorem dX9_draw_92 : decode cX9_draw 92 = .ok (.lrem, 1) := by decide +kernel
theorem dX9_draw_93 : decode cX9_draw 93 = .ok (.lstore 4, 2) := by decide +kernel
theorem dX9_draw_95 : decode cX9_draw 95 = .ok (.lload 4, 2) := by decide +kernel
theorem dX9_draw_97 : decode cX9_draw 97 = .ok (.ldc2_w 82, 3) := by decide +kernel
theorem dX9_draw_100 : decode cX9_draw 100 = .ok (.ldiv, 1) := by decide +kernel
theorem dX9_draw_101 : decode cX9_draw 101 = .ok (.ldc2_w 159, 3) := by decide +kernel
theorem dX9_draw_104 : decode cX9_draw 104 = .ok (.lrem, 1) := by decide +kernel
theorem dX9_draw_105 : decode cX9_draw 105 = .ok (.iload_n 3, 1) := by decide +kernel
theorem dX9_draw_106 : decode cX9_draw 106 = .ok (.i2l, 1) := by decide +kernel
theorem dX9_draw_107 : decode cX9_draw 107 = .ok (.lcmp, 1) := by decide +kernel
theorem dX9_draw_108 : decode cX9_draw 108 = .ok (.ifCond .ge 7, 3) := by decide +kernel
theorem dX9_draw_111 : decode cX9_draw 111 = .ok (.iconst 1, 1) := by decide +kernel
theorem dX9_draw_112 : decode cX9_draw 112 = .ok (.goto 4, 3) := by decide +kernel
theorem dX9_draw_115 : decode cX9_draw 115 = .ok (.iconst 0, 1) := by decide +kernel
theorem dX9_draw_116 : decode cX9_draw 116 = .ok (.istore 8, 2) := by decide +kernel
theorem dX9_draw_118 : decode cX9_draw 118 = .ok (.aload_n 0, 1) := by decide +kernel
theorem dX9_draw_119 : decode cX9_draw 119 = .ok (.iload 8, 2) := by decide +kernel
theorem dX9_draw_121 : decode cX9_draw 121 = .ok (.invokevirtual 151, 3) := by decide +kernel
theorem dX9_draw_124 : decode cX9_draw 124 = .ok (.iload 6, 2) := by decide +kernel
theorem dX9_draw_126 : decode cX9_draw 126 = .ok (.iload 8, 2) := by decide +kernel
theorem dX9_draw_128 : decode cX9_draw 128 = .ok (.iadd, 1) := by decide +kernel
theorem dX9_draw_129 : decode cX9_draw 129 = .ok (.istore 6, 2) := by decide +kernel
theorem dX9_draw_131 : decode cX9_draw 131 = .ok (.iinc 7 1, 3) := by decide +kernel
theorem dX9_draw_134 : decode cX9_draw 134 = .ok (.goto (-61), 3) := by decide +kernel
theorem dX9_draw_137 : decode cX9_draw 137 = .ok (.iload 6, 2) := by decide +kernel
theorem dX9_draw_139 : decode cX9_draw 139 = .ok (.ireturn, 1) := by decide +kernel
theorem dX9_sets_0 : decode cX9_sets 0 = .ok (.iload_n 1, 1) := by decide +kernel
theorem dX9_sets_1 : decode cX9_sets 1 = .ok (.i2l, 1) := by decide +kernel
theorem dX9_sets_2 : decode cX9_sets 2 = .ok (.lconst 0, 1) := by decide +kernel
theorem dX9_sets_3 : decode cX9_sets 3 = .ok (.lconst 1, 1) := by decide +kernel
theorem dX9_sets_4 : decode cX9_sets 4 = .ok (.invokestatic 138, 3) := by decide +kernel
theorem dX9_sets_7 : decode cX9_sets 7 = .ok (.ifCond .eq 25, 3) := by decide +kernel
theorem dX9_sets_10 : decode cX9_sets 10 = .ok (.iload_n 2, 1) := by decide +kernel
theorem dX9_sets_11 : decode cX9_sets 11 = .ok (.i2l, 1) := by decide +kernel
theorem dX9_sets_12 : decode cX9_sets 12 = .ok (.lconst 0, 1) := by decide +kernel
theorem dX9_sets_13 : decode cX9_sets 13 = .ok (.iload_n 1, 1) := by decide +kernel
theorem dX9_sets_14 : decode cX9_sets 14 = .ok (.ifCond .ne 9, 3) := by decide +kernel
theorem dX9_sets_17 : decode cX9_sets 17 = .ok (.ldc2_w 167, 3) := by decide +kernel
theorem dX9_sets_20 : decode cX9_sets 20 = .ok (.goto 6, 3) := by decide +kernel
theorem dX9_sets_23 : decode cX9_sets 23 = .ok (.ldc2_w 169, 3) := by decide +kernel
theorem dX9_sets_26 : decode cX9_sets 26 = .ok (.invokestatic 138, 3) := by decide +kernel
theorem dX9_sets_29 : decode cX9_sets 29 = .ok (.ifCond .ne 10, 3) := by decide +kernel
theorem dX9_sets_32 : decode cX9_sets 32 = .ok (.aload_n 0, 1) := by decide +kernel
theorem dX9_sets_33 : decode cX9_sets 33 = .ok (.bipush (-2), 2) := by decide +kernel
theorem dX9_sets_35 : decode cX9_sets 35 = .ok (.invokevirtual 142, 3) := by decide +kernel
theorem dX9_sets_38 : decode cX9_sets 38 = .ok (.ireturn, 1) := by decide +kernel
theorem dX9_sets_39 : decode cX9_sets 39 = .ok (.aload_n 0, 1) := by decide +kernel
theorem dX9_sets_40 : decode cX9_sets 40 = .ok (.invokevirtual 148, 3) := by decide +kernel
theorem dX9_sets_43 : decode cX9_sets 43 = .ok (.aload_n 0, 1) := by decide +kernel
theorem dX9_sets_44 : decode cX9_sets 44 = .ok (.getfield 7, 3) := by decide +kernel
theorem dX9_sets_47 : decode cX9_sets 47 = .ok (.bipush 101, 2) := by decide +kernel
theorem dX9_sets_49 : decode cX9_sets 49 = .ok (.iload_n 1, 1) := by decide +kernel
theorem dX9_sets_50 : decode cX9_sets 50 = .ok (.iadd, 1) := by decide +kernel
theorem dX9_sets_51 : decode cX9_sets 51 = .ok (.iaload, 1) := by decide +kernel
theorem dX9_sets_52 : decode cX9_sets 52 = .ok (.istore_n 3, 1) := by decide +kernel
theorem dX9_sets_53 : decode cX9_sets 53 = .ok (.aload_n 0, 1) := by decide +kernel
theorem dX9_sets_54 : decode cX9_sets 54 = .ok (.getfield 7, 3) := by decide +kernel
theorem dX9_sets_57 : decode cX9_sets 57 = .ok (.bipush 101, 2) := by decide +kernel
theorem dX9_sets_59 : decode cX9_sets 59 = .ok (.iload_n 1, 1) := by decide +kernel
theorem dX9_sets_60 : decode cX9_sets 60 = .ok (.iadd, 1) := by decide +kernel
theorem dX9_sets_61 : decode cX9_sets 61 = .ok (.iload_n 2, 1) := by decide +kernel
theorem dX9_sets_62 : decode cX9_sets 62 = .ok (.iastore, 1) := by decide +kernel
theorem dX9_sets_63 : decode cX9_sets 63 = .ok (.iload_n 3, 1) := by decide +kernel
theorem dX9_sets_64 : decode cX9_sets 64 = .ok (.ireturn, 1) := by decide +kernel
theorem dX9_empties_0 : decode cX9_empties 0 = .ok (.aload_n 0, 1) := by decide +kernel
theorem dX9_empties_1 : decode cX9_empties 1 = .ok (.invokevirtual 112, 3) := by decide +kernel
theorem dX9_empties_4 : decode cX9_empties 4 = .ok (.istore_n 1, 1) := by decide +kernel
theorem dX9_empties_5 : decode cX9_empties 5 = .ok (.aload_n 0, 1) := by decide +kernel
theorem dX9_empties_6 : decode cX9_empties 6 = .ok (.invokevirtual 148, 3) := by decide +kernel
theorem dX9_empties_9 : decode cX9_empties 9 = .ok (.aload_n 0, 1) := by decide +kernel
theorem dX9_empties_10 : decode cX9_empties 10 = .ok (.getfield 7, 3) := by decide +kernel
theorem dX9_empties_13 : decode cX9_empties 13 = .ok (.bipush 100, 2) := by decide +kernel
theorem dX9_empties_15 : decode cX9_empties 15 = .ok (.iconst 0, 1) := by decide +kernel
theorem dX9_empties_16 : decode cX9_empties 16 = .ok (.iastore, 1) := by decide +kernel
theorem dX9_empties_17 : decode cX9_empties 17 = .ok (.iload_n 1, 1) := by decide +kernel
theorem dX9_empties_18 : decode cX9_empties 18 = .ok (.ireturn, 1) := by decide +kernel
theorem dX9_drop_0 : decode cX9_drop 0 = .ok (.aload_n 0, 1) := by decide +kernel
theorem dX9_drop_1 : decode cX9_drop 1 = .ok (.invokevirtual 112, 3) := by decide +kernel
theorem dX9_drop_4 : decode cX9_drop 4 = .ok (.ifCond .ne 8, 3) := by decide +kernel
theorem dX9_drop_7 : decode cX9_drop 7 = .ok (.aload_n 0, 1) := by decide +kernel
theorem dX9_drop_8 : decode cX9_drop 8 = .ok (.invokevirtual 171, 3) := by decide +kernel
theorem dX9_drop_11 : decode cX9_drop 11 = .ok (.ireturn, 1) := by decide +kernel
theorem dX9_drop_12 : decode cX9_drop 12 = .ok (.aload_n 0, 1) := by decide +kernel
theorem dX9_drop_13 : decode cX9_drop 13 = .ok (.invokevirtual 148, 3) := by decide +kernel
theorem dX9_drop_16 : decode cX9_drop 16 = .ok (.aload_n 0, 1) := by decide +kernel
theorem dX9_drop_17 : decode cX9_drop 17 = .ok (.getfield 7, 3) := by decide +kernel
theorem dX9_drop_20 : decode cX9_drop 20 = .ok (.bipush 100, 2) := by decide +kernel
theorem dX9_drop_22 : decode cX9_drop 22 = .ok (.dup2, 1) := by decide +kernel
theorem dX9_drop_23 : decode cX9_drop 23 = .ok (.iaload, 1) := by decide +kernel
theorem dX9_drop_24 : decode cX9_drop 24 = .ok (.iconst 1, 1) := by decide +kernel
theorem dX9_drop_25 : decode cX9_drop 25 = .ok (.isub, 1) := by decide +kernel
theorem dX9_drop_26 : decode cX9_drop 26 = .ok (.iastore, 1) := by decide +kernel
theorem dX9_drop_27 : decode cX9_drop 27 = .ok (.aload_n 0, 1) := by decide +kernel
theorem dX9_drop_28 : decode cX9_drop 28 = .ok (.invokevirtual 112, 3) := by decide +kernel
theorem dX9_drop_31 : decode cX9_drop 31 = .ok (.ireturn, 1) := by decide +kernel
theorem dX9_at_0 : decode cX9_at 0 = .ok (.iload_n 1, 1) := by decide +kernel
theorem dX9_at_1 : decode cX9_at 1 = .ok (.i2l, 1) := by decide +kernel
theorem dX9_at_2 : decode cX9_at 2 = .ok (.lconst 0, 1) := by decide +kernel
theorem dX9_at_3 : decode cX9_at 3 = .ok (.aload_n 0, 1) := by decide +kernel
theorem dX9_at_4 : decode cX9_at 4 = .ok (.invokevirtual 112, 3) := by decide +kernel
theorem dX9_at_7 : decode cX9_at 7 = .ok (.iconst 1, 1) := by decide +kernel
theorem dX9_at_8 : decode cX9_at 8 = .ok (.isub, 1) := by decide +kernel
theorem dX9_at_9 : decode cX9_at 9 = .ok (.i2l, 1) := by decide +kernel
theorem dX9_at_10 : decode cX9_at 10 = .ok (.invokestatic 138, 3) := by decide +kernel
theorem dX9_at_13 : decode cX9_at 13 = .ok (.ifCond .eq 12, 3) := by decide +kernel
theorem dX9_at_16 : decode cX9_at 16 = .ok (.aload_n 0, 1) := by decide +kernel
theorem dX9_at_17 : decode cX9_at 17 = .ok (.getfield 7, 3) := by decide +kernel
theorem dX9_at_20 : decode cX9_at 20 = .ok (.iload_n 1, 1) := by decide +kernel
theorem dX9_at_21 : decode cX9_at 21 = .ok (.iaload, 1) := by decide +kernel
theorem dX9_at_22 : decode cX9_at 22 = .ok (.goto 9, 3) := by decide +kernel
theorem dX9_at_25 : decode cX9_at 25 = .ok (.aload_n 0, 1) := by decide +kernel
theorem dX9_at_26 : decode cX9_at 26 = .ok (.bipush (-2), 2) := by decide +kernel
theorem dX9_at_28 : decode cX9_at 28 = .ok (.invokevirtual 142, 3) := by decide +kernel
theorem dX9_at_31 : decode cX9_at 31 = .ok (.ireturn, 1) := by decide +kernel
theorem dX9_guessNow_0 : decode cX9_guessNow 0 = .ok (.aload_n 0, 1) := by decide +kernel
theorem dX9_guessNow_1 : decode cX9_guessNow 1 = .ok (.invokevirtual 132, 3) := by decide +kernel
theorem dX9_guessNow_4 : decode cX9_guessNow 4 = .ok (.istore_n 1, 1) := by decide +kernel
theorem dX9_guessNow_5 : decode cX9_guessNow 5 = .ok (.aload_n 0, 1) := by decide +kernel
theorem dX9_guessNow_6 : decode cX9_guessNow 6 = .ok (.invokevirtual 116, 3) := by decide +kernel
theorem dX9_guessNow_9 : decode cX9_guessNow 9 = .ok (.ireturn, 1) := by decide +kernel
theorem dX9_guess_0 : decode cX9_guess 0 = .ok (.aload_n 0, 1) := by decide +kernel
theorem dX9_guess_1 : decode cX9_guess 1 = .ok (.invokevirtual 174, 3) := by decide +kernel
theorem dX9_guess_4 : decode cX9_guess 4 = .ok (.ireturn, 1) := by decide +kernel
theorem dX9_was_0 : decode cX9_was 0 = .ok (.iload_n 1, 1) := by decide +kernel
theorem dX9_was_1 : decode cX9_was 1 = .ok (.i2l, 1) := by decide +kernel
theorem dX9_was_2 : decode cX9_was 2 = .ok (.lconst 0, 1) := by decide +kernel
theorem dX9_was_3 : decode cX9_was 3 = .ok (.aload_n 0, 1) := by decide +kernel
theorem dX9_was_4 : decode cX9_was 4 = .ok (.invokevirtual 112, 3) := by decide +kernel
theorem dX9_was_7 : decode cX9_was 7 = .ok (.iconst 1, 1) := by decide +kernel
theorem dX9_was_8 : decode cX9_was 8 = .ok (.isub, 1) := by decide +kernel
theorem dX9_was_9 : decode cX9_was 9 = .ok (.i2l, 1) := by decide +kernel
theorem dX9_was_10 : decode cX9_was 10 = .ok (.invokestatic 138, 3) := by decide +kernel
theorem dX9_was_13 : decode cX9_was 13 = .ok (.ifCond .eq 13, 3) := by decide +kernel
theorem dX9_was_16 : decode cX9_was 16 = .ok (.iload_n 2, 1) := by decide +kernel
theorem dX9_was_17 : decode cX9_was 17 = .ok (.i2l, 1) := by decide +kernel
theorem dX9_was_18 : decode cX9_was 18 = .ok (.lconst 0, 1) := by decide +kernel
theorem dX9_was_19 : decode cX9_was 19 = .ok (.lconst 1, 1) := by decide +kernel
theorem dX9_was_20 : decode cX9_was 20 = .ok (.invokestatic 138, 3) := by decide +kernel
theorem dX9_was_23 : decode cX9_was 23 = .ok (.ifCond .ne 10, 3) := by decide +kernel
theorem dX9_was_26 : decode cX9_was 26 = .ok (.aload_n 0, 1) := by decide +kernel
theorem dX9_was_27 : decode cX9_was 27 = .ok (.bipush (-2), 2) := by decide +kernel
theorem dX9_was_29 : decode cX9_was 29 = .ok (.invokevirtual 142, 3) := by decide +kernel
theorem dX9_was_32 : decode cX9_was 32 = .ok (.ireturn, 1) := by decide +kernel
theorem dX9_was_33 : decode cX9_was 33 = .ok (.aload_n 0, 1) := by decide +kernel
theorem dX9_was_34 : decode cX9_was 34 = .ok (.invokevirtual 132, 3) := by decide +kernel
theorem dX9_was_37 : decode cX9_was 37 = .ok (.istore_n 3, 1) := by decide +kernel
theorem dX9_was_38 : decode cX9_was 38 = .ok (.iload_n 2, 1) := by decide +kernel
theorem dX9_was_39 : decode cX9_was 39 = .ok (.ifCond .ne 12, 3) := by decide +kernel
theorem dX9_was_42 : decode cX9_was 42 = .ok (.aload_n 0, 1) := by decide +kernel
theorem dX9_was_43 : decode cX9_was 43 = .ok (.getfield 43, 3) := by decide +kernel
theorem dX9_was_46 : decode cX9_was 46 = .ok (.iload_n 1, 1) := by decide +kernel
theorem dX9_was_47 : decode cX9_was 47 = .ok (.iaload, 1) := by decide +kernel
theorem dX9_was_48 : decode cX9_was 48 = .ok (.goto 8, 3) := by decide +kernel
theorem dX9_was_51 : decode cX9_was 51 = .ok (.aload_n 0, 1) := by decide +kernel
theorem dX9_was_52 : decode cX9_was 52 = .ok (.iload_n 1, 1) := by decide +kernel
theorem dX9_was_53 : decode cX9_was 53 = .ok (.invokevirtual 135, 3) := by decide +kernel
theorem dX9_was_56 : decode cX9_was 56 = .ok (.ireturn, 1) := by decide +kernel
theorem dX9_isNode_0 : decode cX9_isNode 0 = .ok (.iload_n 1, 1) := by decide +kernel
theorem dX9_isNode_1 : decode cX9_isNode 1 = .ok (.i2l, 1) := by decide +kernel
theorem dX9_isNode_2 : decode cX9_isNode 2 = .ok (.lconst 0, 1) := by decide +kernel
theorem dX9_isNode_3 : decode cX9_isNode 3 = .ok (.aload_n 0, 1) := by decide +kernel
theorem dX9_isNode_4 : decode cX9_isNode 4 = .ok (.invokevirtual 123, 3) := by decide +kernel
theorem dX9_isNode_7 : decode cX9_isNode 7 = .ok (.i2l, 1) := by decide +kernel
theorem dX9_isNode_8 : decode cX9_isNode 8 = .ok (.invokestatic 138, 3) := by decide +kernel
theorem dX9_isNode_11 : decode cX9_isNode 11 = .ok (.ifCond .eq 22, 3) := by decide +kernel
theorem dX9_isNode_14 : decode cX9_isNode 14 = .ok (.iload_n 2, 1) := by decide +kernel
theorem dX9_isNode_15 : decode cX9_isNode 15 = .ok (.i2l, 1) := by decide +kernel
theorem dX9_isNode_16 : decode cX9_isNode 16 = .ok (.lconst 0, 1) := by decide +kernel
theorem dX9_isNode_17 : decode cX9_isNode 17 = .ok (.iconst 1, 1) := by decide +kernel
theorem dX9_isNode_18 : decode cX9_isNode 18 = .ok (.iload_n 1, 1) := by decide +kernel
theorem dX9_isNode_19 : decode cX9_isNode 19 = .ok (.ishl, 1) := by decide +kernel
theorem dX9_isNode_20 : decode cX9_isNode 20 = .ok (.iconst 1, 1) := by decide +kernel
theorem dX9_isNode_21 : decode cX9_isNode 21 = .ok (.isub, 1) := by decide +kernel
theorem dX9_isNode_22 : decode cX9_isNode 22 = .ok (.i2l, 1) := by decide +kernel
theorem dX9_isNode_23 : decode cX9_isNode 23 = .ok (.invokestatic 138, 3) := by decide +kernel
theorem dX9_isNode_26 : decode cX9_isNode 26 = .ok (.ifCond .eq 7, 3) := by decide +kernel
theorem dX9_isNode_29 : decode cX9_isNode 29 = .ok (.iconst 1, 1) := by decide +kernel
theorem dX9_isNode_30 : decode cX9_isNode 30 = .ok (.goto 4, 3) := by decide +kernel
theorem dX9_isNode_33 : decode cX9_isNode 33 = .ok (.iconst 0, 1) := by decide +kernel
theorem dX9_isNode_34 : decode cX9_isNode 34 = .ok (.ireturn, 1) := by decide +kernel
theorem dX9_node_0 : decode cX9_node 0 = .ok (.aload_n 0, 1) := by decide +kernel
theorem dX9_node_1 : decode cX9_node 1 = .ok (.iload_n 1, 1) := by decide +kernel
theorem dX9_node_2 : decode cX9_node 2 = .ok (.iload_n 2, 1) := by decide +kernel
theorem dX9_node_3 : decode cX9_node 3 = .ok (.invokevirtual 177, 3) := by decide +kernel
theorem dX9_node_6 : decode cX9_node 6 = .ok (.ifCond .eq 15, 3) := by decide +kernel
theorem dX9_node_9 : decode cX9_node 9 = .ok (.iload_n 3, 1) := by decide +kernel
theorem dX9_node_10 : decode cX9_node 10 = .ok (.i2l, 1) := by decide +kernel
theorem dX9_node_11 : decode cX9_node 11 = .ok (.lconst 0, 1) := by decide +kernel
theorem dX9_node_12 : decode cX9_node 12 = .ok (.ldc2_w 169, 3) := by decide +kernel
theorem dX9_node_15 : decode cX9_node 15 = .ok (.invokestatic 138, 3) := by decide +kernel
theorem dX9_node_18 : decode cX9_node 18 = .ok (.ifCond .ne 10, 3) := by decide +kernel
theorem dX9_node_21 : decode cX9_node 21 = .ok (.aload_n 0, 1) := by decide +kernel
theorem dX9_node_22 : decode cX9_node 22 = .ok (.bipush (-2), 2) := by decide +kernel
theorem dX9_node_24 : decode cX9_node 24 = .ok (.invokevirtual 142, 3) := by decide +kernel
theorem dX9_node_27 : decode cX9_node 27 = .ok (.ireturn, 1) := by decide +kernel
theorem dX9_node_28 : decode cX9_node 28 = .ok (.aload_n 0, 1) := by decide +kernel
theorem dX9_node_29 : decode cX9_node 29 = .ok (.invokevirtual 132, 3) := by decide +kernel
theorem dX9_node_32 : decode cX9_node 32 = .ok (.istore 4, 2) := by decide +kernel
theorem dX9_node_34 : decode cX9_node 34 = .ok (.iload_n 1, 1) := by decide +kernel
theorem dX9_node_35 : decode cX9_node 35 = .ok (.iload_n 2, 1) := by decide +kernel
theorem dX9_node_36 : decode cX9_node 36 = .ok (.invokestatic 88, 3) := by decide +kernel
theorem dX9_node_39 : decode cX9_node 39 = .ok (.istore 5, 2) := by decide +kernel
theorem dX9_node_41 : decode cX9_node 41 = .ok (.iload_n 3, 1) := by decide +kernel
theorem dX9_node_42 : decode cX9_node 42 = .ok (.ifCond .ne 13, 3) := by decide +kernel
theorem dX9_node_45 : decode cX9_node 45 = .ok (.aload_n 0, 1) := by decide +kernel
theorem dX9_node_46 : decode cX9_node 46 = .ok (.getfield 22, 3) := by decide +kernel
theorem dX9_node_49 : decode cX9_node 49 = .ok (.iload 5, 2) := by decide +kernel
theorem dX9_node_51 : decode cX9_node 51 = .ok (.iaload, 1) := by decide +kernel
theorem dX9_node_52 : decode cX9_node 52 = .ok (.goto 52, 3) := by decide +kernel
theorem dX9_node_55 : decode cX9_node 55 = .ok (.iload_n 3, 1) := by decide +kernel
theorem dX9_node_56 : decode cX9_node 56 = .ok (.iconst 1, 1) := by decide +kernel
theorem dX9_node_57 : decode cX9_node 57 = .ok (.if_icmp .ne 13, 3) := by decide +kernel
theorem dX9_node_60 : decode cX9_node 60 = .ok (.aload_n 0, 1) := by decide +kernel
theorem dX9_node_61 : decode cX9_node 61 = .ok (.getfield 25, 3) := by decide +kernel
theorem dX9_node_64 : decode cX9_node 64 = .ok (.iload 5, 2) := by decide +kernel
theorem dX9_node_66 : decode cX9_node 66 = .ok (.iaload, 1) := by decide +kernel
theorem dX9_node_67 : decode cX9_node 67 = .ok (.goto 37, 3) := by decide +kernel
theorem dX9_node_70 : decode cX9_node 70 = .ok (.iload_n 3, 1) := by decide +kernel
theorem dX9_node_71 : decode cX9_node 71 = .ok (.iconst 2, 1) := by decide +kernel
theorem dX9_node_72 : decode cX9_node 72 = .ok (.if_icmp .ne 12, 3) := by decide +kernel
theorem dX9_node_75 : decode cX9_node 75 = .ok (.aload_n 0, 1) := by decide +kernel
theorem dX9_node_76 : decode cX9_node 76 = .ok (.iload 5, 2) := by decide +kernel
theorem dX9_node_78 : decode cX9_node 78 = .ok (.invokevirtual 92, 3) := by decide +kernel
theorem dX9_node_81 : decode cX9_node 81 = .ok (.goto 23, 3) := by decide +kernel
theorem dX9_node_84 : decode cX9_node 84 = .ok (.iload_n 1, 1) := by decide +kernel
theorem dX9_node_85 : decode cX9_node 85 = .ok (.aload_n 0, 1) := by decide +kernel
theorem dX9_node_86 : decode cX9_node 86 = .ok (.invokevirtual 123, 3) := by decide +kernel
theorem dX9_node_89 : decode cX9_node 89 = .ok (.if_icmp .ne 8, 3) := by decide +kernel
theorem dX9_node_92 : decode cX9_node 92 = .ok (.ldc 96, 2) := by decide +kernel
theorem dX9_node_94 : decode cX9_node 94 = .ok (.goto 10, 3) := by decide +kernel
theorem dX9_node_97 : decode cX9_node 97 = .ok (.aload_n 0, 1) := by decide +kernel
theorem dX9_node_98 : decode cX9_node 98 = .ok (.getfield 28, 3) := by decide +kernel
theorem dX9_node_101 : decode cX9_node 101 = .ok (.iload 5, 2) := by decide +kernel
theorem dX9_node_103 : decode cX9_node 103 = .ok (.iaload, 1) := by decide +kernel
theorem dX9_node_104 : decode cX9_node 104 = .ok (.ireturn, 1) := by decide +kernel
theorem dX9_cost_0 : decode cX9_cost 0 = .ok (.aload_n 0, 1) := by decide +kernel
theorem dX9_cost_1 : decode cX9_cost 1 = .ok (.invokevirtual 132, 3) := by decide +kernel
theorem dX9_cost_4 : decode cX9_cost 4 = .ok (.ireturn, 1) := by decide +kernel
theorem dX9_costBy_0 : decode cX9_costBy 0 = .ok (.iload_n 1, 1) := by decide +kernel
theorem dX9_costBy_1 : decode cX9_costBy 1 = .ok (.i2l, 1) := by decide +kernel
theorem dX9_costBy_2 : decode cX9_costBy 2 = .ok (.lconst 0, 1) := by decide +kernel
theorem dX9_costBy_3 : decode cX9_costBy 3 = .ok (.ldc2_w 167, 3) := by decide +kernel
theorem dX9_costBy_6 : decode cX9_costBy 6 = .ok (.invokestatic 138, 3) := by decide +kernel
theorem dX9_costBy_9 : decode cX9_costBy 9 = .ok (.ifCond .eq 24, 3) := by decide +kernel
theorem dX9_costBy_12 : decode cX9_costBy 12 = .ok (.iload_n 2, 1) := by decide +kernel
theorem dX9_costBy_13 : decode cX9_costBy 13 = .ok (.i2l, 1) := by decide +kernel
theorem dX9_costBy_14 : decode cX9_costBy 14 = .ok (.lconst 0, 1) := by decide +kernel
theorem dX9_costBy_15 : decode cX9_costBy 15 = .ok (.ldc2_w 169, 3) := by decide +kernel
theorem dX9_costBy_18 : decode cX9_costBy 18 = .ok (.invokestatic 138, 3) := by decide +kernel
theorem dX9_costBy_21 : decode cX9_costBy 21 = .ok (.ifCond .eq 12, 3) := by decide +kernel
theorem dX9_costBy_24 : decode cX9_costBy 24 = .ok (.aload_n 0, 1) := by decide +kernel
theorem dX9_costBy_25 : decode cX9_costBy 25 = .ok (.iload_n 1, 1) := by decide +kernel
theorem dX9_costBy_26 : decode cX9_costBy 26 = .ok (.iload_n 2, 1) := by decide +kernel
theorem dX9_costBy_27 : decode cX9_costBy 27 = .ok (.invokevirtual 129, 3) := by decide +kernel
theorem dX9_costBy_30 : decode cX9_costBy 30 = .ok (.goto 9, 3) := by decide +kernel
theorem dX9_costBy_33 : decode cX9_costBy 33 = .ok (.aload_n 0, 1) := by decide +kernel
theorem dX9_costBy_34 : decode cX9_costBy 34 = .ok (.bipush (-2), 2) := by decide +kernel
theorem dX9_costBy_36 : decode cX9_costBy 36 = .ok (.invokevirtual 142, 3) := by decide +kernel
theorem dX9_costBy_39 : decode cX9_costBy 39 = .ok (.ireturn, 1) := by decide +kernel
theorem dX9_best_0 : decode cX9_best 0 = .ok (.iload_n 1, 1) := by decide +kernel
theorem dX9_best_1 : decode cX9_best 1 = .ok (.i2l, 1) := by decide +kernel
theorem dX9_best_2 : decode cX9_best 2 = .ok (.lconst 0, 1) := by decide +kernel
theorem dX9_best_3 : decode cX9_best 3 = .ok (.ldc2_w 181, 3) := by decide +kernel
theorem dX9_best_6 : decode cX9_best 6 = .ok (.invokestatic 138, 3) := by decide +kernel
theorem dX9_best_9 : decode cX9_best 9 = .ok (.ifCond .ne 10, 3) := by decide +kernel
theorem dX9_best_12 : decode cX9_best 12 = .ok (.aload_n 0, 1) := by decide +kernel
theorem dX9_best_13 : decode cX9_best 13 = .ok (.bipush (-2), 2) := by decide +kernel
theorem dX9_best_15 : decode cX9_best 15 = .ok (.invokevirtual 142, 3) := by decide +kernel
theorem dX9_best_18 : decode cX9_best 18 = .ok (.ireturn, 1) := by decide +kernel
theorem dX9_best_19 : decode cX9_best 19 = .ok (.iconst 0, 1) := by decide +kernel
theorem dX9_best_20 : decode cX9_best 20 = .ok (.istore_n 2, 1) := by decide +kernel
theorem dX9_best_21 : decode cX9_best 21 = .ok (.aload_n 0, 1) := by decide +kernel
theorem dX9_best_22 : decode cX9_best 22 = .ok (.iconst 0, 1) := by decide +kernel
theorem dX9_best_23 : decode cX9_best 23 = .ok (.iconst 0, 1) := by decide +kernel
theorem dX9_best_24 : decode cX9_best 24 = .ok (.invokevirtual 129, 3) := by decide +kernel
theorem dX9_best_27 : decode cX9_best 27 = .ok (.istore_n 3, 1) := by decide +kernel
theorem dX9_best_28 : decode cX9_best 28 = .ok (.iconst 1, 1) := by decide +kernel
theorem dX9_best_29 : decode cX9_best 29 = .ok (.istore 4, 2) := by decide +kernel
theorem dX9_best_31 : decode cX9_best 31 = .ok (.iload 4, 2) := by decide +kernel
theorem dX9_best_33 : decode cX9_best 33 = .ok (.bipush 28, 2) := by decide +kernel
theorem dX9_best_35 : decode cX9_best 35 = .ok (.if_icmp .ge 49, 3) := by decide +kernel
theorem dX9_best_38 : decode cX9_best 38 = .ok (.aload_n 0, 1) := by decide +kernel
theorem dX9_best_39 : decode cX9_best 39 = .ok (.iload 4, 2) := by decide +kernel
theorem dX9_best_41 : decode cX9_best 41 = .ok (.iconst 4, 1) := by decide +kernel
theorem dX9_best_42 : decode cX9_best 42 = .ok (.idiv, 1) := by decide +kernel
theorem dX9_best_43 : decode cX9_best 43 = .ok (.iload 4, 2) := by decide +kernel
theorem dX9_best_45 : decode cX9_best 45 = .ok (.iconst 4, 1) := by decide +kernel
theorem dX9_best_46 : decode cX9_best 46 = .ok (.irem, 1) := by decide +kernel
theorem dX9_best_47 : decode cX9_best 47 = .ok (.invokevirtual 129, 3) := by decide +kernel
theorem dX9_best_50 : decode cX9_best 50 = .ok (.istore 5, 2) := by decide +kernel
theorem dX9_best_52 : decode cX9_best 52 = .ok (.iload 5, 2) := by decide +kernel
theorem dX9_best_54 : decode cX9_best 54 = .ok (.iload_n 3, 1) := by decide +kernel
theorem dX9_best_55 : decode cX9_best 55 = .ok (.if_icmp .ge 8, 3) := by decide +kernel
theorem dX9_best_58 : decode cX9_best 58 = .ok (.iload 4, 2) := by decide +kernel
theorem dX9_best_60 : decode cX9_best 60 = .ok (.goto 4, 3) := by decide +kernel
theorem dX9_best_63 : decode cX9_best 63 = .ok (.iload_n 2, 1) := by decide +kernel
theorem dX9_best_64 : decode cX9_best 64 = .ok (.istore_n 2, 1) := by decide +kernel
theorem dX9_best_65 : decode cX9_best 65 = .ok (.iload 5, 2) := by decide +kernel
theorem dX9_best_67 : decode cX9_best 67 = .ok (.iload_n 3, 1) := by decide +kernel
theorem dX9_best_68 : decode cX9_best 68 = .ok (.if_icmp .ge 8, 3) := by decide +kernel
theorem dX9_best_71 : decode cX9_best 71 = .ok (.iload 5, 2) := by decide +kernel
theorem dX9_best_73 : decode cX9_best 73 = .ok (.goto 4, 3) := by decide +kernel
theorem dX9_best_76 : decode cX9_best 76 = .ok (.iload_n 3, 1) := by decide +kernel
theorem dX9_best_77 : decode cX9_best 77 = .ok (.istore_n 3, 1) := by decide +kernel
theorem dX9_best_78 : decode cX9_best 78 = .ok (.iinc 4 1, 3) := by decide +kernel
theorem dX9_best_81 : decode cX9_best 81 = .ok (.goto (-50), 3) := by decide +kernel
theorem dX9_best_84 : decode cX9_best 84 = .ok (.iload_n 1, 1) := by decide +kernel
theorem dX9_best_85 : decode cX9_best 85 = .ok (.ifCond .ne 9, 3) := by decide +kernel
theorem dX9_best_88 : decode cX9_best 88 = .ok (.iload_n 2, 1) := by decide +kernel
theorem dX9_best_89 : decode cX9_best 89 = .ok (.iconst 4, 1) := by decide +kernel
theorem dX9_best_90 : decode cX9_best 90 = .ok (.idiv, 1) := by decide +kernel
theorem dX9_best_91 : decode cX9_best 91 = .ok (.goto 15, 3) := by decide +kernel
theorem dX9_best_94 : decode cX9_best 94 = .ok (.iload_n 1, 1) := by decide +kernel
theorem dX9_best_95 : decode cX9_best 95 = .ok (.iconst 1, 1) := by decide +kernel
theorem dX9_best_96 : decode cX9_best 96 = .ok (.if_icmp .ne 9, 3) := by decide +kernel
theorem dX9_best_99 : decode cX9_best 99 = .ok (.iload_n 2, 1) := by decide +kernel
theorem dX9_best_100 : decode cX9_best 100 = .ok (.iconst 4, 1) := by decide +kernel
theorem dX9_best_101 : decode cX9_best 101 = .ok (.irem, 1) := by decide +kernel
theorem dX9_best_102 : decode cX9_best 102 = .ok (.goto 4, 3) := by decide +kernel
theorem dX9_best_105 : decode cX9_best 105 = .ok (.iload_n 3, 1) := by decide +kernel
theorem dX9_best_106 : decode cX9_best 106 = .ok (.ireturn, 1) := by decide +kernel
theorem dX9_follows_0 : decode cX9_follows 0 = .ok (.iload_n 1, 1) := by decide +kernel
theorem dX9_follows_1 : decode cX9_follows 1 = .ok (.i2l, 1) := by decide +kernel
theorem dX9_follows_2 : decode cX9_follows 2 = .ok (.lconst 1, 1) := by decide +kernel
theorem dX9_follows_3 : decode cX9_follows 3 = .ok (.ldc2_w 183, 3) := by decide +kernel
theorem dX9_follows_6 : decode cX9_follows 6 = .ok (.invokestatic 138, 3) := by decide +kernel
theorem dX9_follows_9 : decode cX9_follows 9 = .ok (.ifCond .ne 10, 3) := by decide +kernel
theorem dX9_follows_12 : decode cX9_follows 12 = .ok (.aload_n 0, 1) := by decide +kernel
theorem dX9_follows_13 : decode cX9_follows 13 = .ok (.bipush (-2), 2) := by decide +kernel
theorem dX9_follows_15 : decode cX9_follows 15 = .ok (.invokevirtual 142, 3) := by decide +kernel
theorem dX9_follows_18 : decode cX9_follows 18 = .ok (.ireturn, 1) := by decide +kernel
theorem dX9_follows_19 : decode cX9_follows 19 = .ok (.iconst 0, 1) := by decide +kernel
theorem dX9_follows_20 : decode cX9_follows 20 = .ok (.istore_n 2, 1) := by decide +kernel
theorem dX9_follows_21 : decode cX9_follows 21 = .ok (.aload_n 0, 1) := by decide +kernel
theorem dX9_follows_22 : decode cX9_follows 22 = .ok (.invokevirtual 132, 3) := by decide +kernel
theorem dX9_follows_25 : decode cX9_follows 25 = .ok (.istore_n 3, 1) := by decide +kernel
theorem dX9_follows_26 : decode cX9_follows 26 = .ok (.iconst 0, 1) := by decide +kernel
theorem dX9_follows_27 : decode cX9_follows 27 = .ok (.istore 4, 2) := by decide +kernel
theorem dX9_follows_29 : decode cX9_follows 29 = .ok (.iload 4, 2) := by decide +kernel
theorem dX9_follows_31 : decode cX9_follows 31 = .ok (.iload_n 1, 1) := by decide +kernel
theorem dX9_follows_32 : decode cX9_follows 32 = .ok (.if_icmp .ge 39, 3) := by decide +kernel
theorem dX9_follows_35 : decode cX9_follows 35 = .ok (.aload_n 0, 1) := by decide +kernel
theorem dX9_follows_36 : decode cX9_follows 36 = .ok (.invokevirtual 116, 3) := by decide +kernel
theorem dX9_follows_39 : decode cX9_follows 39 = .ok (.ldc 78, 2) := by decide +kernel
theorem dX9_follows_41 : decode cX9_follows 41 = .ok (.if_icmp .lt 7, 3) := by decide +kernel
theorem dX9_follows_44 : decode cX9_follows 44 = .ok (.iconst 1, 1) := by decide +kernel
theorem dX9_follows_45 : decode cX9_follows 45 = .ok (.goto 4, 3) := by decide +kernel
theorem dX9_follows_48 : decode cX9_follows 48 = .ok (.iconst 0, 1) := by decide +kernel
theorem dX9_follows_49 : decode cX9_follows 49 = .ok (.istore 5, 2) := by decide +kernel
theorem dX9_follows_51 : decode cX9_follows 51 = .ok (.iload_n 2, 1) := by decide +kernel
theorem dX9_follows_52 : decode cX9_follows 52 = .ok (.iload 5, 2) := by decide +kernel
theorem dX9_follows_54 : decode cX9_follows 54 = .ok (.iload 4, 2) := by decide +kernel
theorem dX9_follows_56 : decode cX9_follows 56 = .ok (.ishl, 1) := by decide +kernel
theorem dX9_follows_57 : decode cX9_follows 57 = .ok (.ior, 1) := by decide +kernel
theorem dX9_follows_58 : decode cX9_follows 58 = .ok (.istore_n 2, 1) := by decide +kernel
theorem dX9_follows_59 : decode cX9_follows 59 = .ok (.aload_n 0, 1) := by decide +kernel
theorem dX9_follows_60 : decode cX9_follows 60 = .ok (.iload 5, 2) := by decide +kernel
theorem dX9_follows_62 : decode cX9_follows 62 = .ok (.invokevirtual 119, 3) := by decide +kernel
theorem dX9_follows_65 : decode cX9_follows 65 = .ok (.iinc 4 1, 3) := by decide +kernel
theorem dX9_follows_68 : decode cX9_follows 68 = .ok (.goto (-39), 3) := by decide +kernel
theorem dX9_follows_71 : decode cX9_follows 71 = .ok (.iload_n 2, 1) := by decide +kernel
theorem dX9_follows_72 : decode cX9_follows 72 = .ok (.ireturn, 1) := by decide +kernel
theorem dX9_plants_0 : decode cX9_plants 0 = .ok (.aload_n 0, 1) := by decide +kernel
theorem dX9_plants_1 : decode cX9_plants 1 = .ok (.invokevirtual 132, 3) := by decide +kernel
theorem dX9_plants_4 : decode cX9_plants 4 = .ok (.istore_n 1, 1) := by decide +kernel
theorem dX9_plants_5 : decode cX9_plants 5 = .ok (.aload_n 0, 1) := by decide +kernel
theorem dX9_plants_6 : decode cX9_plants 6 = .ok (.invokevirtual 123, 3) := by decide +kernel
theorem dX9_plants_9 : decode cX9_plants 9 = .ok (.istore_n 2, 1) := by decide +kernel
theorem dX9_plants_10 : decode cX9_plants 10 = .ok (.iload_n 2, 1) := by decide +kernel
theorem dX9_plants_11 : decode cX9_plants 11 = .ok (.ifCond .lt 156, 3) := by decide +kernel
theorem dX9_plants_14 : decode cX9_plants 14 = .ok (.iconst 0, 1) := by decide +kernel
theorem dX9_plants_15 : decode cX9_plants 15 = .ok (.istore_n 3, 1) := by decide +kernel
theorem dX9_plants_16 : decode cX9_plants 16 = .ok (.iload_n 3, 1) := by decide +kernel
theorem dX9_plants_17 : decode cX9_plants 17 = .ok (.iconst 1, 1) := by decide +kernel
theorem dX9_plants_18 : decode cX9_plants 18 = .ok (.iload_n 2, 1) := by decide +kernel
theorem dX9_plants_19 : decode cX9_plants 19 = .ok (.ishl, 1) := by decide +kernel
theorem dX9_plants_20 : decode cX9_plants 20 = .ok (.if_icmp .ge 141, 3) := by decide +kernel
theorem dX9_plants_23 : decode cX9_plants 23 = .ok (.iload_n 2, 1) := by decide +kernel
theorem dX9_plants_24 : decode cX9_plants 24 = .ok (.iload_n 3, 1) := by decide +kernel
theorem dX9_plants_25 : decode cX9_plants 25 = .ok (.invokestatic 88, 3) := by decide +kernel
theorem dX9_plants_28 : decode cX9_plants 28 = .ok (.istore 4, 2) := by decide +kernel
theorem dX9_plants_30 : decode cX9_plants 30 = .ok (.iload_n 2, 1) := by decide +kernel
theorem dX9_plants_31 : decode cX9_plants 31 = .ok (.aload_n 0, 1) := by decide +kernel
theorem dX9_plants_32 : decode cX9_plants 32 = .ok (.invokevirtual 123, 3) := by decide +kernel
theorem dX9_plants_35 : decode cX9_plants 35 = .ok (.if_icmp .ne 7, 3) := by decide +kernel
theorem dX9_plants_38 : decode cX9_plants 38 = .ok (.iconst 1, 1) := by decide +kernel
theorem dX9_plants_39 : decode cX9_plants 39 = .ok (.goto 4, 3) := by decide +kernel
theorem dX9_plants_42 : decode cX9_plants 42 = .ok (.iconst 0, 1) := by decide +kernel
theorem dX9_plants_43 : decode cX9_plants 43 = .ok (.istore 5, 2) := by decide +kernel
theorem dX9_plants_45 : decode cX9_plants 45 = .ok (.iload 5, 2) := by decide +kernel
theorem dX9_plants_47 : decode cX9_plants 47 = .ok (.ifCond .eq 7, 3) := by decide +kernel
theorem dX9_plants_50 : decode cX9_plants 50 = .ok (.iconst 0, 1) := by decide +kernel
theorem dX9_plants_51 : decode cX9_plants 51 = .ok (.goto 32, 3) := by decide +kernel
theorem dX9_plants_54 : decode cX9_plants 54 = .ok (.aload_n 0, 1) := by decide +kernel
theorem dX9_plants_55 : decode cX9_plants 55 = .ok (.getfield 46, 3) := by decide +kernel
theorem dX9_plants_58 : decode cX9_plants 58 = .ok (.iload_n 2, 1) := by decide +kernel
theorem dX9_plants_59 : decode cX9_plants 59 = .ok (.iconst 1, 1) := by decide +kernel
theorem dX9_plants_60 : decode cX9_plants 60 = .ok (.iadd, 1) := by decide +kernel
theorem dX9_plants_61 : decode cX9_plants 61 = .ok (.iload_n 3, 1) := by decide +kernel
theorem dX9_plants_62 : decode cX9_plants 62 = .ok (.invokestatic 88, 3) := by decide +kernel
theorem dX9_plants_65 : decode cX9_plants 65 = .ok (.iaload, 1) := by decide +kernel
theorem dX9_plants_66 : decode cX9_plants 66 = .ok (.aload_n 0, 1) := by decide +kernel
theorem dX9_plants_67 : decode cX9_plants 67 = .ok (.getfield 46, 3) := by decide +kernel
theorem dX9_plants_70 : decode cX9_plants 70 = .ok (.iload_n 2, 1) := by decide +kernel
theorem dX9_plants_71 : decode cX9_plants 71 = .ok (.iconst 1, 1) := by decide +kernel
theorem dX9_plants_72 : decode cX9_plants 72 = .ok (.iadd, 1) := by decide +kernel
theorem dX9_plants_73 : decode cX9_plants 73 = .ok (.iload_n 3, 1) := by decide +kernel
theorem dX9_plants_74 : decode cX9_plants 74 = .ok (.iconst 1, 1) := by decide +kernel
theorem dX9_plants_75 : decode cX9_plants 75 = .ok (.iload_n 2, 1) := by decide +kernel
theorem dX9_plants_76 : decode cX9_plants 76 = .ok (.ishl, 1) := by decide +kernel
theorem dX9_plants_77 : decode cX9_plants 77 = .ok (.iadd, 1) := by decide +kernel
theorem dX9_plants_78 : decode cX9_plants 78 = .ok (.invokestatic 88, 3) := by decide +kernel
theorem dX9_plants_81 : decode cX9_plants 81 = .ok (.iaload, 1) := by decide +kernel
theorem dX9_plants_82 : decode cX9_plants 82 = .ok (.iadd, 1) := by decide +kernel
theorem dX9_plants_83 : decode cX9_plants 83 = .ok (.istore 6, 2) := by decide +kernel
theorem dX9_plants_85 : decode cX9_plants 85 = .ok (.aload_n 0, 1) := by decide +kernel
theorem dX9_plants_86 : decode cX9_plants 86 = .ok (.getfield 49, 3) := by decide +kernel
theorem dX9_plants_89 : decode cX9_plants 89 = .ok (.iload 4, 2) := by decide +kernel
theorem dX9_plants_91 : decode cX9_plants 91 = .ok (.iload 5, 2) := by decide +kernel
theorem dX9_plants_93 : decode cX9_plants 93 = .ok (.ifCond .ne 15, 3) := by decide +kernel
theorem dX9_plants_96 : decode cX9_plants 96 = .ok (.aload_n 0, 1) := by decide +kernel
theorem dX9_plants_97 : decode cX9_plants 97 = .ok (.getfield 31, 3) := by decide +kernel
theorem dX9_plants_100 : decode cX9_plants 100 = .ok (.iload 4, 2) := by decide +kernel
theorem dX9_plants_102 : decode cX9_plants 102 = .ok (.iaload, 1) := by decide +kernel
theorem dX9_plants_103 : decode cX9_plants 103 = .ok (.iload 6, 2) := by decide +kernel
theorem dX9_plants_105 : decode cX9_plants 105 = .ok (.if_icmp .gt 7, 3) := by decide +kernel
theorem dX9_plants_108 : decode cX9_plants 108 = .ok (.iconst 1, 1) := by decide +kernel
theorem dX9_plants_109 : decode cX9_plants 109 = .ok (.goto 4, 3) := by decide +kernel
theorem dX9_plants_112 : decode cX9_plants 112 = .ok (.iconst 0, 1) := by decide +kernel
theorem dX9_plants_113 : decode cX9_plants 113 = .ok (.bastore, 1) := by decide +kernel
theorem dX9_plants_114 : decode cX9_plants 114 = .ok (.aload_n 0, 1) := by decide +kernel
theorem dX9_plants_115 : decode cX9_plants 115 = .ok (.getfield 46, 3) := by decide +kernel
theorem dX9_plants_118 : decode cX9_plants 118 = .ok (.iload 4, 2) := by decide +kernel
theorem dX9_plants_120 : decode cX9_plants 120 = .ok (.aload_n 0, 1) := by decide +kernel
theorem dX9_plants_121 : decode cX9_plants 121 = .ok (.getfield 49, 3) := by decide +kernel
theorem dX9_plants_124 : decode cX9_plants 124 = .ok (.iload 4, 2) := by decide +kernel
theorem dX9_plants_126 : decode cX9_plants 126 = .ok (.baload, 1) := by decide +kernel
theorem dX9_plants_127 : decode cX9_plants 127 = .ok (.ifCond .eq 13, 3) := by decide +kernel
theorem dX9_plants_130 : decode cX9_plants 130 = .ok (.aload_n 0, 1) := by decide +kernel
theorem dX9_plants_131 : decode cX9_plants 131 = .ok (.getfield 31, 3) := by decide +kernel
theorem dX9_plants_134 : decode cX9_plants 134 = .ok (.iload 4, 2) := by decide +kernel
theorem dX9_plants_136 : decode cX9_plants 136 = .ok (.iaload, 1) := by decide +kernel
theorem dX9_plants_137 : decode cX9_plants 137 = .ok (.goto 5, 3) := by decide +kernel
theorem dX9_plants_140 : decode cX9_plants 140 = .ok (.iload 6, 2) := by decide +kernel
theorem dX9_plants_142 : decode cX9_plants 142 = .ok (.iload 5, 2) := by decide +kernel
theorem dX9_plants_144 : decode cX9_plants 144 = .ok (.ifCond .eq 7, 3) := by decide +kernel
theorem dX9_plants_147 : decode cX9_plants 147 = .ok (.iconst 0, 1) := by decide +kernel
theorem dX9_plants_148 : decode cX9_plants 148 = .ok (.goto 5, 3) := by decide +kernel
theorem dX9_plants_151 : decode cX9_plants 151 = .ok (.bipush 8, 2) := by decide +kernel
theorem dX9_plants_153 : decode cX9_plants 153 = .ok (.iadd, 1) := by decide +kernel
theorem dX9_plants_154 : decode cX9_plants 154 = .ok (.iastore, 1) := by decide +kernel
theorem dX9_plants_155 : decode cX9_plants 155 = .ok (.iinc 3 1, 3) := by decide +kernel
theorem dX9_plants_158 : decode cX9_plants 158 = .ok (.goto (-142), 3) := by decide +kernel
theorem dX9_plants_161 : decode cX9_plants 161 = .ok (.iinc 2 (-1), 3) := by decide +kernel
theorem dX9_plants_164 : decode cX9_plants 164 = .ok (.goto (-154), 3) := by decide +kernel
theorem dX9_plants_167 : decode cX9_plants 167 = .ok (.iconst 0, 1) := by decide +kernel
theorem dX9_plants_168 : decode cX9_plants 168 = .ok (.istore_n 2, 1) := by decide +kernel
theorem dX9_plants_169 : decode cX9_plants 169 = .ok (.iload_n 2, 1) := by decide +kernel
theorem dX9_plants_170 : decode cX9_plants 170 = .ok (.aload_n 0, 1) := by decide +kernel
theorem dX9_plants_171 : decode cX9_plants 171 = .ok (.invokevirtual 123, 3) := by decide +kernel
theorem dX9_plants_174 : decode cX9_plants 174 = .ok (.if_icmp .gt 96, 3) := by decide +kernel
theorem dX9_plants_177 : decode cX9_plants 177 = .ok (.iconst 0, 1) := by decide +kernel
theorem dX9_plants_178 : decode cX9_plants 178 = .ok (.istore_n 3, 1) := by decide +kernel
theorem dX9_plants_179 : decode cX9_plants 179 = .ok (.iload_n 3, 1) := by decide +kernel
theorem dX9_plants_180 : decode cX9_plants 180 = .ok (.iconst 1, 1) := by decide +kernel
theorem dX9_plants_181 : decode cX9_plants 181 = .ok (.iload_n 2, 1) := by decide +kernel
theorem dX9_plants_182 : decode cX9_plants 182 = .ok (.ishl, 1) := by decide +kernel
theorem dX9_plants_183 : decode cX9_plants 183 = .ok (.if_icmp .ge 81, 3) := by decide +kernel
theorem dX9_plants_186 : decode cX9_plants 186 = .ok (.iload_n 2, 1) := by decide +kernel
theorem dX9_plants_187 : decode cX9_plants 187 = .ok (.ifCond .eq 27, 3) := by decide +kernel
theorem dX9_plants_190 : decode cX9_plants 190 = .ok (.aload_n 0, 1) := by decide +kernel
theorem dX9_plants_191 : decode cX9_plants 191 = .ok (.getfield 53, 3) := by decide +kernel
theorem dX9_plants_194 : decode cX9_plants 194 = .ok (.iload_n 2, 1) := by decide +kernel
theorem dX9_plants_195 : decode cX9_plants 195 = .ok (.iconst 1, 1) := by decide +kernel
theorem dX9_plants_196 : decode cX9_plants 196 = .ok (.isub, 1) := by decide +kernel
theorem dX9_plants_197 : decode cX9_plants 197 = .ok (.iload_n 3, 1) := by decide +kernel
theorem dX9_plants_198 : decode cX9_plants 198 = .ok (.iconst 1, 1) := by decide +kernel
theorem dX9_plants_199 : decode cX9_plants 199 = .ok (.iload_n 2, 1) := by decide +kernel
theorem dX9_plants_200 : decode cX9_plants 200 = .ok (.iconst 1, 1) := by decide +kernel
theorem dX9_plants_201 : decode cX9_plants 201 = .ok (.isub, 1) := by decide +kernel
theorem dX9_plants_202 : decode cX9_plants 202 = .ok (.ishl, 1) := by decide +kernel
theorem dX9_plants_203 : decode cX9_plants 203 = .ok (.iconst 1, 1) := by decide +kernel
theorem dX9_plants_204 : decode cX9_plants 204 = .ok (.isub, 1) := by decide +kernel
theorem dX9_plants_205 : decode cX9_plants 205 = .ok (.iand, 1) := by decide +kernel
theorem dX9_plants_206 : decode cX9_plants 206 = .ok (.invokestatic 88, 3) := by decide +kernel
theorem dX9_plants_209 : decode cX9_plants 209 = .ok (.iaload, 1) := by decide +kernel
theorem dX9_plants_210 : decode cX9_plants 210 = .ok (.iconst 2, 1) := by decide +kernel
theorem dX9_plants_211 : decode cX9_plants 211 = .ok (.if_icmp .ne 7, 3) := by decide +kernel
theorem dX9_plants_214 : decode cX9_plants 214 = .ok (.iconst 1, 1) := by decide +kernel
theorem dX9_plants_215 : decode cX9_plants 215 = .ok (.goto 4, 3) := by decide +kernel
theorem dX9_plants_218 : decode cX9_plants 218 = .ok (.iconst 0, 1) := by decide +kernel
theorem dX9_plants_219 : decode cX9_plants 219 = .ok (.istore 4, 2) := by decide +kernel
theorem dX9_plants_221 : decode cX9_plants 221 = .ok (.aload_n 0, 1) := by decide +kernel
theorem dX9_plants_222 : decode cX9_plants 222 = .ok (.getfield 53, 3) := by decide +kernel
theorem dX9_plants_225 : decode cX9_plants 225 = .ok (.iload_n 2, 1) := by decide +kernel
theorem dX9_plants_226 : decode cX9_plants 226 = .ok (.iload_n 3, 1) := by decide +kernel
theorem dX9_plants_227 : decode cX9_plants 227 = .ok (.invokestatic 88, 3) := by decide +kernel
theorem dX9_plants_230 : decode cX9_plants 230 = .ok (.iload 4, 2) := by decide +kernel
theorem dX9_plants_232 : decode cX9_plants 232 = .ok (.ifCond .ne 7, 3) := by decide +kernel
theorem dX9_plants_235 : decode cX9_plants 235 = .ok (.iconst 0, 1) := by decide +kernel
theorem dX9_plants_236 : decode cX9_plants 236 = .ok (.goto 21, 3) := by decide +kernel
theorem dX9_plants_239 : decode cX9_plants 239 = .ok (.aload_n 0, 1) := by decide +kernel
theorem dX9_plants_240 : decode cX9_plants 240 = .ok (.getfield 49, 3) := by decide +kernel
theorem dX9_plants_243 : decode cX9_plants 243 = .ok (.iload_n 2, 1) := by decide +kernel
theorem dX9_plants_244 : decode cX9_plants 244 = .ok (.iload_n 3, 1) := by decide +kernel
theorem dX9_plants_245 : decode cX9_plants 245 = .ok (.invokestatic 88, 3) := by decide +kernel
theorem dX9_plants_248 : decode cX9_plants 248 = .ok (.baload, 1) := by decide +kernel
theorem dX9_plants_249 : decode cX9_plants 249 = .ok (.ifCond .eq 7, 3) := by decide +kernel
theorem dX9_plants_252 : decode cX9_plants 252 = .ok (.iconst 1, 1) := by decide +kernel
theorem dX9_plants_253 : decode cX9_plants 253 = .ok (.goto 4, 3) := by decide +kernel
theorem dX9_plants_256 : decode cX9_plants 256 = .ok (.iconst 2, 1) := by decide +kernel
theorem dX9_plants_257 : decode cX9_plants 257 = .ok (.iastore, 1) := by decide +kernel
theorem dX9_plants_258 : decode cX9_plants 258 = .ok (.iinc 3 1, 3) := by decide +kernel
theorem dX9_plants_261 : decode cX9_plants 261 = .ok (.goto (-82), 3) := by decide +kernel
theorem dX9_plants_264 : decode cX9_plants 264 = .ok (.iinc 2 1, 3) := by decide +kernel
theorem dX9_plants_267 : decode cX9_plants 267 = .ok (.goto (-98), 3) := by decide +kernel
theorem dX9_plants_270 : decode cX9_plants 270 = .ok (.return_, 1) := by decide +kernel
theorem dX9_leaves_0 : decode cX9_leaves 0 = .ok (.iconst 0, 1) := by decide +kernel
theorem dX9_leaves_1 : decode cX9_leaves 1 = .ok (.istore_n 2, 1) := by decide +kernel
theorem dX9_leaves_2 : decode cX9_leaves 2 = .ok (.iconst 0, 1) := by decide +kernel
theorem dX9_leaves_3 : decode cX9_leaves 3 = .ok (.istore_n 3, 1) := by decide +kernel
theorem dX9_leaves_4 : decode cX9_leaves 4 = .ok (.iconst 0, 1) := by decide +kernel
theorem dX9_leaves_5 : decode cX9_leaves 5 = .ok (.istore 4, 2) := by decide +kernel
theorem dX9_leaves_7 : decode cX9_leaves 7 = .ok (.iload 4, 2) := by decide +kernel
theorem dX9_leaves_9 : decode cX9_leaves 9 = .ok (.aload_n 0, 1) := by decide +kernel
theorem dX9_leaves_10 : decode cX9_leaves 10 = .ok (.invokevirtual 123, 3) := by decide +kernel
theorem dX9_leaves_13 : decode cX9_leaves 13 = .ok (.if_icmp .gt 75, 3) := by decide +kernel
theorem dX9_leaves_16 : decode cX9_leaves 16 = .ok (.iconst 0, 1) := by decide +kernel
theorem dX9_leaves_17 : decode cX9_leaves 17 = .ok (.istore 5, 2) := by decide +kernel
theorem dX9_leaves_19 : decode cX9_leaves 19 = .ok (.iload 5, 2) := by decide +kernel
theorem dX9_leaves_21 : decode cX9_leaves 21 = .ok (.iconst 1, 1) := by decide +kernel
theorem dX9_leaves_22 : decode cX9_leaves 22 = .ok (.iload 4, 2) := by decide +kernel
theorem dX9_leaves_24 : decode cX9_leaves 24 = .ok (.ishl, 1) := by decide +kernel
theorem dX9_leaves_25 : decode cX9_leaves 25 = .ok (.if_icmp .ge 57, 3) := by decide +kernel
theorem dX9_leaves_28 : decode cX9_leaves 28 = .ok (.aload_n 0, 1) := by decide +kernel
theorem dX9_leaves_29 : decode cX9_leaves 29 = .ok (.getfield 53, 3) := by decide +kernel
theorem dX9_leaves_32 : decode cX9_leaves 32 = .ok (.iload 4, 2) := by decide +kernel
theorem dX9_leaves_34 : decode cX9_leaves 34 = .ok (.iload 5, 2) := by decide +kernel
theorem dX9_leaves_36 : decode cX9_leaves 36 = .ok (.invokestatic 88, 3) := by decide +kernel
theorem dX9_leaves_39 : decode cX9_leaves 39 = .ok (.iaload, 1) := by decide +kernel
theorem dX9_leaves_40 : decode cX9_leaves 40 = .ok (.iconst 1, 1) := by decide +kernel
theorem dX9_leaves_41 : decode cX9_leaves 41 = .ok (.if_icmp .ne 7, 3) := by decide +kernel
theorem dX9_leaves_44 : decode cX9_leaves 44 = .ok (.iconst 1, 1) := by decide +kernel
theorem dX9_leaves_45 : decode cX9_leaves 45 = .ok (.goto 4, 3) := by decide +kernel
theorem dX9_leaves_48 : decode cX9_leaves 48 = .ok (.iconst 0, 1) := by decide +kernel
theorem dX9_leaves_49 : decode cX9_leaves 49 = .ok (.istore 6, 2) := by decide +kernel
theorem dX9_leaves_51 : decode cX9_leaves 51 = .ok (.iload_n 2, 1) := by decide +kernel
theorem dX9_leaves_52 : decode cX9_leaves 52 = .ok (.iload 6, 2) := by decide +kernel
theorem dX9_leaves_54 : decode cX9_leaves 54 = .ok (.ifCond .eq 7, 3) := by decide +kernel
theorem dX9_leaves_57 : decode cX9_leaves 57 = .ok (.iconst 1, 1) := by decide +kernel
theorem dX9_leaves_58 : decode cX9_leaves 58 = .ok (.goto 4, 3) := by decide +kernel
theorem dX9_leaves_61 : decode cX9_leaves 61 = .ok (.iconst 0, 1) := by decide +kernel
theorem dX9_leaves_62 : decode cX9_leaves 62 = .ok (.iadd, 1) := by decide +kernel
theorem dX9_leaves_63 : decode cX9_leaves 63 = .ok (.istore_n 2, 1) := by decide +kernel
theorem dX9_leaves_64 : decode cX9_leaves 64 = .ok (.iload 6, 2) := by decide +kernel
theorem dX9_leaves_66 : decode cX9_leaves 66 = .ok (.ifCond .eq 8, 3) := by decide +kernel
theorem dX9_leaves_69 : decode cX9_leaves 69 = .ok (.iload 4, 2) := by decide +kernel
theorem dX9_leaves_71 : decode cX9_leaves 71 = .ok (.goto 4, 3) := by decide +kernel
theorem dX9_leaves_74 : decode cX9_leaves 74 = .ok (.iload_n 3, 1) := by decide +kernel
theorem dX9_leaves_75 : decode cX9_leaves 75 = .ok (.istore_n 3, 1) := by decide +kernel
theorem dX9_leaves_76 : decode cX9_leaves 76 = .ok (.iinc 5 1, 3) := by decide +kernel
theorem dX9_leaves_79 : decode cX9_leaves 79 = .ok (.goto (-60), 3) := by decide +kernel
theorem dX9_leaves_82 : decode cX9_leaves 82 = .ok (.iinc 4 1, 3) := by decide +kernel
theorem dX9_leaves_85 : decode cX9_leaves 85 = .ok (.goto (-78), 3) := by decide +kernel
theorem dX9_leaves_88 : decode cX9_leaves 88 = .ok (.iload_n 1, 1) := by decide +kernel
theorem dX9_leaves_89 : decode cX9_leaves 89 = .ok (.ifCond .eq 7, 3) := by decide +kernel
theorem dX9_leaves_92 : decode cX9_leaves 92 = .ok (.iload_n 3, 1) := by decide +kernel
theorem dX9_leaves_93 : decode cX9_leaves 93 = .ok (.goto 4, 3) := by decide +kernel
theorem dX9_leaves_96 : decode cX9_leaves 96 = .ok (.iload_n 2, 1) := by decide +kernel
theorem dX9_leaves_97 : decode cX9_leaves 97 = .ok (.ireturn, 1) := by decide +kernel
theorem dX9_treeOf_0 : decode cX9_treeOf 0 = .ok (.aload_n 0, 1) := by decide +kernel
theorem dX9_treeOf_1 : decode cX9_treeOf 1 = .ok (.invokevirtual 185, 3) := by decide +kernel
theorem dX9_treeOf_4 : decode cX9_treeOf 4 = .ok (.iload_n 1, 1) := by decide +kernel
theorem dX9_treeOf_5 : decode cX9_treeOf 5 = .ok (.ifCond .ne 12, 3) := by decide +kernel
theorem dX9_treeOf_8 : decode cX9_treeOf 8 = .ok (.aload_n 0, 1) := by decide +kernel
theorem dX9_treeOf_9 : decode cX9_treeOf 9 = .ok (.getfield 46, 3) := by decide +kernel
theorem dX9_treeOf_12 : decode cX9_treeOf 12 = .ok (.iconst 0, 1) := by decide +kernel
theorem dX9_treeOf_13 : decode cX9_treeOf 13 = .ok (.iaload, 1) := by decide +kernel
theorem dX9_treeOf_14 : decode cX9_treeOf 14 = .ok (.goto 17, 3) := by decide +kernel
theorem dX9_treeOf_17 : decode cX9_treeOf 17 = .ok (.aload_n 0, 1) := by decide +kernel
theorem dX9_treeOf_18 : decode cX9_treeOf 18 = .ok (.iload_n 1, 1) := by decide +kernel
theorem dX9_treeOf_19 : decode cX9_treeOf 19 = .ok (.iconst 2, 1) := by decide +kernel
theorem dX9_treeOf_20 : decode cX9_treeOf 20 = .ok (.if_icmp .ne 7, 3) := by decide +kernel
theorem dX9_treeOf_23 : decode cX9_treeOf 23 = .ok (.iconst 1, 1) := by decide +kernel
theorem dX9_treeOf_24 : decode cX9_treeOf 24 = .ok (.goto 4, 3) := by decide +kernel
theorem dX9_treeOf_27 : decode cX9_treeOf 27 = .ok (.iconst 0, 1) := by decide +kernel
theorem dX9_treeOf_28 : decode cX9_treeOf 28 = .ok (.invokevirtual 188, 3) := by decide +kernel
theorem dX9_treeOf_31 : decode cX9_treeOf 31 = .ok (.ireturn, 1) := by decide +kernel
theorem dX9_tree_0 : decode cX9_tree 0 = .ok (.iload_n 1, 1) := by decide +kernel
theorem dX9_tree_1 : decode cX9_tree 1 = .ok (.i2l, 1) := by decide +kernel
theorem dX9_tree_2 : decode cX9_tree 2 = .ok (.lconst 0, 1) := by decide +kernel
theorem dX9_tree_3 : decode cX9_tree 3 = .ok (.ldc2_w 181, 3) := by decide +kernel
theorem dX9_tree_6 : decode cX9_tree 6 = .ok (.invokestatic 138, 3) := by decide +kernel
theorem dX9_tree_9 : decode cX9_tree 9 = .ok (.ifCond .eq 11, 3) := by decide +kernel
theorem dX9_tree_12 : decode cX9_tree 12 = .ok (.aload_n 0, 1) := by decide +kernel
theorem dX9_tree_13 : decode cX9_tree 13 = .ok (.iload_n 1, 1) := by decide +kernel
theorem dX9_tree_14 : decode cX9_tree 14 = .ok (.invokevirtual 192, 3) := by decide +kernel
theorem dX9_tree_17 : decode cX9_tree 17 = .ok (.goto 9, 3) := by decide +kernel
theorem dX9_tree_20 : decode cX9_tree 20 = .ok (.aload_n 0, 1) := by decide +kernel
theorem dX9_tree_21 : decode cX9_tree 21 = .ok (.bipush (-2), 2) := by decide +kernel
theorem dX9_tree_23 : decode cX9_tree 23 = .ok (.invokevirtual 142, 3) := by decide +kernel
theorem dX9_tree_26 : decode cX9_tree 26 = .ok (.ireturn, 1) := by decide +kernel
theorem dX9_leaf_0 : decode cX9_leaf 0 = .ok (.aload_n 0, 1) := by decide +kernel
theorem dX9_leaf_1 : decode cX9_leaf 1 = .ok (.iload_n 1, 1) := by decide +kernel
theorem dX9_leaf_2 : decode cX9_leaf 2 = .ok (.iload_n 2, 1) := by decide +kernel
theorem dX9_leaf_3 : decode cX9_leaf 3 = .ok (.invokevirtual 177, 3) := by decide +kernel
theorem dX9_leaf_6 : decode cX9_leaf 6 = .ok (.ifCond .ne 10, 3) := by decide +kernel
theorem dX9_leaf_9 : decode cX9_leaf 9 = .ok (.aload_n 0, 1) := by decide +kernel
theorem dX9_leaf_10 : decode cX9_leaf 10 = .ok (.bipush (-2), 2) := by decide +kernel
theorem dX9_leaf_12 : decode cX9_leaf 12 = .ok (.invokevirtual 142, 3) := by decide +kernel
theorem dX9_leaf_15 : decode cX9_leaf 15 = .ok (.ireturn, 1) := by decide +kernel
theorem dX9_leaf_16 : decode cX9_leaf 16 = .ok (.aload_n 0, 1) := by decide +kernel
theorem dX9_leaf_17 : decode cX9_leaf 17 = .ok (.invokevirtual 185, 3) := by decide +kernel
theorem dX9_leaf_20 : decode cX9_leaf 20 = .ok (.aload_n 0, 1) := by decide +kernel
theorem dX9_leaf_21 : decode cX9_leaf 21 = .ok (.getfield 53, 3) := by decide +kernel
theorem dX9_leaf_24 : decode cX9_leaf 24 = .ok (.iload_n 1, 1) := by decide +kernel
theorem dX9_leaf_25 : decode cX9_leaf 25 = .ok (.iload_n 2, 1) := by decide +kernel
theorem dX9_leaf_26 : decode cX9_leaf 26 = .ok (.invokestatic 88, 3) := by decide +kernel
theorem dX9_leaf_29 : decode cX9_leaf 29 = .ok (.iaload, 1) := by decide +kernel
theorem dX9_leaf_30 : decode cX9_leaf 30 = .ok (.ireturn, 1) := by decide +kernel
theorem dX9_goesOut_0 : decode cX9_goesOut 0 = .ok (.aload_n 0, 1) := by decide +kernel
theorem dX9_goesOut_1 : decode cX9_goesOut 1 = .ok (.getfield 195, 3) := by decide +kernel
theorem dX9_goesOut_4 : decode cX9_goesOut 4 = .ok (.ldc2_w 199, 3) := by decide +kernel
theorem dX9_goesOut_7 : decode cX9_goesOut 7 = .ok (.ldiv, 1) := by decide +kernel
theorem dX9_goesOut_8 : decode cX9_goesOut 8 = .ok (.lstore_n 1, 1) := by decide +kernel
theorem dX9_goesOut_9 : decode cX9_goesOut 9 = .ok (.lload_n 1, 1) := by decide +kernel
theorem dX9_goesOut_10 : decode cX9_goesOut 10 = .ok (.ldc2_w 201, 3) := by decide +kernel
theorem dX9_goesOut_13 : decode cX9_goesOut 13 = .ok (.lcmp, 1) := by decide +kernel
theorem dX9_goesOut_14 : decode cX9_goesOut 14 = .ok (.ifCond .le 45, 3) := by decide +kernel
theorem dX9_goesOut_17 : decode cX9_goesOut 17 = .ok (.aload_n 0, 1) := by decide +kernel
theorem dX9_goesOut_18 : decode cX9_goesOut 18 = .ok (.getfield 203, 3) := by decide +kernel
theorem dX9_goesOut_21 : decode cX9_goesOut 21 = .ok (.iconst 1, 1) := by decide +kernel
theorem dX9_goesOut_22 : decode cX9_goesOut 22 = .ok (.isub, 1) := by decide +kernel
theorem dX9_goesOut_23 : decode cX9_goesOut 23 = .ok (.istore_n 3, 1) := by decide +kernel
theorem dX9_goesOut_24 : decode cX9_goesOut 24 = .ok (.aload_n 0, 1) := by decide +kernel
theorem dX9_goesOut_25 : decode cX9_goesOut 25 = .ok (.getfield 56, 3) := by decide +kernel
theorem dX9_goesOut_28 : decode cX9_goesOut 28 = .ok (.iload_n 3, 1) := by decide +kernel
theorem dX9_goesOut_29 : decode cX9_goesOut 29 = .ok (.iaload, 1) := by decide +kernel
theorem dX9_goesOut_30 : decode cX9_goesOut 30 = .ok (.sipush 255, 3) := by decide +kernel
theorem dX9_goesOut_33 : decode cX9_goesOut 33 = .ok (.if_icmp .ne 16, 3) := by decide +kernel
theorem dX9_goesOut_36 : decode cX9_goesOut 36 = .ok (.aload_n 0, 1) := by decide +kernel
theorem dX9_goesOut_37 : decode cX9_goesOut 37 = .ok (.getfield 56, 3) := by decide +kernel
theorem dX9_goesOut_40 : decode cX9_goesOut 40 = .ok (.iload_n 3, 1) := by decide +kernel
theorem dX9_goesOut_41 : decode cX9_goesOut 41 = .ok (.iconst 0, 1) := by decide +kernel
theorem dX9_goesOut_42 : decode cX9_goesOut 42 = .ok (.iastore, 1) := by decide +kernel
theorem dX9_goesOut_43 : decode cX9_goesOut 43 = .ok (.iinc 3 (-1), 3) := by decide +kernel
theorem dX9_goesOut_46 : decode cX9_goesOut 46 = .ok (.goto (-22), 3) := by decide +kernel
theorem dX9_goesOut_49 : decode cX9_goesOut 49 = .ok (.aload_n 0, 1) := by decide +kernel
theorem dX9_goesOut_50 : decode cX9_goesOut 50 = .ok (.getfield 56, 3) := by decide +kernel
theorem dX9_goesOut_53 : decode cX9_goesOut 53 = .ok (.iload_n 3, 1) := by decide +kernel
theorem dX9_goesOut_54 : decode cX9_goesOut 54 = .ok (.dup2, 1) := by decide +kernel
theorem dX9_goesOut_55 : decode cX9_goesOut 55 = .ok (.iaload, 1) := by decide +kernel
theorem dX9_goesOut_56 : decode cX9_goesOut 56 = .ok (.iconst 1, 1) := by decide +kernel
theorem dX9_goesOut_57 : decode cX9_goesOut 57 = .ok (.iadd, 1) := by decide +kernel
theorem dX9_goesOut_58 : decode cX9_goesOut 58 = .ok (.iastore, 1) := by decide +kernel
theorem dX9_goesOut_59 : decode cX9_goesOut 59 = .ok (.aload_n 0, 1) := by decide +kernel
theorem dX9_goesOut_60 : decode cX9_goesOut 60 = .ok (.getfield 56, 3) := by decide +kernel
theorem dX9_goesOut_63 : decode cX9_goesOut 63 = .ok (.aload_n 0, 1) := by decide +kernel
theorem dX9_goesOut_64 : decode cX9_goesOut 64 = .ok (.getfield 203, 3) := by decide +kernel
theorem dX9_goesOut_67 : decode cX9_goesOut 67 = .ok (.lload_n 1, 1) := by decide +kernel
theorem dX9_goesOut_68 : decode cX9_goesOut 68 = .ok (.ldc2_w 206, 3) := by decide +kernel
theorem dX9_goesOut_71 : decode cX9_goesOut 71 = .ok (.lrem, 1) := by decide +kernel
theorem dX9_goesOut_72 : decode cX9_goesOut 72 = .ok (.l2i, 1) := by decide +kernel
theorem dX9_goesOut_73 : decode cX9_goesOut 73 = .ok (.iastore, 1) := by decide +kernel
theorem dX9_goesOut_74 : decode cX9_goesOut 74 = .ok (.aload_n 0, 1) := by decide +kernel
theorem dX9_goesOut_75 : decode cX9_goesOut 75 = .ok (.dup, 1) := by decide +kernel
theorem dX9_goesOut_76 : decode cX9_goesOut 76 = .ok (.getfield 203, 3) := by decide +kernel
theorem dX9_goesOut_79 : decode cX9_goesOut 79 = .ok (.iconst 1, 1) := by decide +kernel
theorem dX9_goesOut_80 : decode cX9_goesOut 80 = .ok (.iadd, 1) := by decide +kernel
theorem dX9_goesOut_81 : decode cX9_goesOut 81 = .ok (.putfield 203, 3) := by decide +kernel
theorem dX9_goesOut_84 : decode cX9_goesOut 84 = .ok (.aload_n 0, 1) := by decide +kernel
theorem dX9_goesOut_85 : decode cX9_goesOut 85 = .ok (.aload_n 0, 1) := by decide +kernel
theorem dX9_goesOut_86 : decode cX9_goesOut 86 = .ok (.getfield 195, 3) := by decide +kernel
theorem dX9_goesOut_89 : decode cX9_goesOut 89 = .ok (.ldc2_w 199, 3) := by decide +kernel
theorem dX9_goesOut_92 : decode cX9_goesOut 92 = .ok (.lrem, 1) := by decide +kernel
theorem dX9_goesOut_93 : decode cX9_goesOut 93 = .ok (.ldc2_w 206, 3) := by decide +kernel
theorem dX9_goesOut_96 : decode cX9_goesOut 96 = .ok (.lmul, 1) := by decide +kernel
theorem dX9_goesOut_97 : decode cX9_goesOut 97 = .ok (.putfield 195, 3) := by decide +kernel
theorem dX9_goesOut_100 : decode cX9_goesOut 100 = .ok (.return_, 1) := by decide +kernel
theorem dX9_writes_0 : decode cX9_writes 0 = .ok (.ldc2_w 208, 3) := by decide +kernel
theorem dX9_writes_3 : decode cX9_writes 3 = .ok (.lstore_n 1, 1) := by decide +kernel
theorem dX9_writes_4 : decode cX9_writes 4 = .ok (.aload_n 0, 1) := by decide +kernel
theorem dX9_writes_5 : decode cX9_writes 5 = .ok (.lconst 0, 1) := by decide +kernel
theorem dX9_writes_6 : decode cX9_writes 6 = .ok (.putfield 195, 3) := by decide +kernel
theorem dX9_writes_9 : decode cX9_writes 9 = .ok (.aload_n 0, 1) := by decide +kernel
theorem dX9_writes_10 : decode cX9_writes 10 = .ok (.iconst 0, 1) := by decide +kernel
theorem dX9_writes_11 : decode cX9_writes 11 = .ok (.putfield 203, 3) := by decide +kernel
theorem dX9_writes_14 : decode cX9_writes 14 = .ok (.aload_n 0, 1) := by decide +kernel
theorem dX9_writes_15 : decode cX9_writes 15 = .ok (.invokevirtual 132, 3) := by decide +kernel
theorem dX9_writes_18 : decode cX9_writes 18 = .ok (.istore_n 3, 1) := by decide +kernel
theorem dX9_writes_19 : decode cX9_writes 19 = .ok (.iconst 0, 1) := by decide +kernel
theorem dX9_writes_20 : decode cX9_writes 20 = .ok (.istore 4, 2) := by decide +kernel
theorem dX9_writes_22 : decode cX9_writes 22 = .ok (.iload 4, 2) := by decide +kernel
theorem dX9_writes_24 : decode cX9_writes 24 = .ok (.aload_n 0, 1) := by decide +kernel
theorem dX9_writes_25 : decode cX9_writes 25 = .ok (.invokevirtual 112, 3) := by decide +kernel
theorem dX9_writes_28 : decode cX9_writes 28 = .ok (.if_icmp .ge 93, 3) := by decide +kernel
theorem dX9_writes_31 : decode cX9_writes 31 = .ok (.lload_n 1, 1) := by decide +kernel
theorem dX9_writes_32 : decode cX9_writes 32 = .ok (.ldc2_w 82, 3) := by decide +kernel
theorem dX9_writes_35 : decode cX9_writes 35 = .ok (.ldiv, 1) := by decide +kernel
theorem dX9_writes_36 : decode cX9_writes 36 = .ok (.aload_n 0, 1) := by decide +kernel
theorem dX9_writes_37 : decode cX9_writes 37 = .ok (.getfield 43, 3) := by decide +kernel
theorem dX9_writes_40 : decode cX9_writes 40 = .ok (.iload 4, 2) := by decide +kernel
theorem dX9_writes_42 : decode cX9_writes 42 = .ok (.iaload, 1) := by decide +kernel
theorem dX9_writes_43 : decode cX9_writes 43 = .ok (.i2l, 1) := by decide +kernel
theorem dX9_writes_44 : decode cX9_writes 44 = .ok (.lmul, 1) := by decide +kernel
theorem dX9_writes_45 : decode cX9_writes 45 = .ok (.lstore 5, 2) := by decide +kernel
theorem dX9_writes_47 : decode cX9_writes 47 = .ok (.aload_n 0, 1) := by decide +kernel
theorem dX9_writes_48 : decode cX9_writes 48 = .ok (.dup, 1) := by decide +kernel
theorem dX9_writes_49 : decode cX9_writes 49 = .ok (.getfield 195, 3) := by decide +kernel
theorem dX9_writes_52 : decode cX9_writes 52 = .ok (.aload_n 0, 1) := by decide +kernel
theorem dX9_writes_53 : decode cX9_writes 53 = .ok (.getfield 7, 3) := by decide +kernel
theorem dX9_writes_56 : decode cX9_writes 56 = .ok (.iload 4, 2) := by decide +kernel
theorem dX9_writes_58 : decode cX9_writes 58 = .ok (.iaload, 1) := by decide +kernel
theorem dX9_writes_59 : decode cX9_writes 59 = .ok (.iconst 1, 1) := by decide +kernel
theorem dX9_writes_60 : decode cX9_writes 60 = .ok (.if_icmp .ne 7, 3) := by decide +kernel
theorem dX9_writes_63 : decode cX9_writes 63 = .ok (.lconst 0, 1) := by decide +kernel
theorem dX9_writes_64 : decode cX9_writes 64 = .ok (.goto 5, 3) := by decide +kernel
theorem dX9_writes_67 : decode cX9_writes 67 = .ok (.lload 5, 2) := by decide +kernel
theorem dX9_writes_69 : decode cX9_writes 69 = .ok (.ladd, 1) := by decide +kernel
theorem dX9_writes_70 : decode cX9_writes 70 = .ok (.putfield 195, 3) := by decide +kernel
theorem dX9_writes_73 : decode cX9_writes 73 = .ok (.aload_n 0, 1) := by decide +kernel
theorem dX9_writes_74 : decode cX9_writes 74 = .ok (.getfield 7, 3) := by decide +kernel
theorem dX9_writes_77 : decode cX9_writes 77 = .ok (.iload 4, 2) := by decide +kernel
theorem dX9_writes_79 : decode cX9_writes 79 = .ok (.iaload, 1) := by decide +kernel
theorem dX9_writes_80 : decode cX9_writes 80 = .ok (.iconst 1, 1) := by decide +kernel
theorem dX9_writes_81 : decode cX9_writes 81 = .ok (.if_icmp .ne 8, 3) := by decide +kernel
theorem dX9_writes_84 : decode cX9_writes 84 = .ok (.lload 5, 2) := by decide +kernel
theorem dX9_writes_86 : decode cX9_writes 86 = .ok (.goto 7, 3) := by decide +kernel
theorem dX9_writes_89 : decode cX9_writes 89 = .ok (.lload_n 1, 1) := by decide +kernel
theorem dX9_writes_90 : decode cX9_writes 90 = .ok (.lload 5, 2) := by decide +kernel
theorem dX9_writes_92 : decode cX9_writes 92 = .ok (.lsub, 1) := by decide +kernel
theorem dX9_writes_93 : decode cX9_writes 93 = .ok (.lstore_n 1, 1) := by decide +kernel
theorem dX9_writes_94 : decode cX9_writes 94 = .ok (.lload_n 1, 1) := by decide +kernel
theorem dX9_writes_95 : decode cX9_writes 95 = .ok (.ldc2_w 199, 3) := by decide +kernel
theorem dX9_writes_98 : decode cX9_writes 98 = .ok (.lcmp, 1) := by decide +kernel
theorem dX9_writes_99 : decode cX9_writes 99 = .ok (.ifCond .ge 16, 3) := by decide +kernel
theorem dX9_writes_102 : decode cX9_writes 102 = .ok (.aload_n 0, 1) := by decide +kernel
theorem dX9_writes_103 : decode cX9_writes 103 = .ok (.invokevirtual 210, 3) := by decide +kernel
theorem dX9_writes_106 : decode cX9_writes 106 = .ok (.lload_n 1, 1) := by decide +kernel
theorem dX9_writes_107 : decode cX9_writes 107 = .ok (.ldc2_w 206, 3) := by decide +kernel
theorem dX9_writes_110 : decode cX9_writes 110 = .ok (.lmul, 1) := by decide +kernel
theorem dX9_writes_111 : decode cX9_writes 111 = .ok (.lstore_n 1, 1) := by decide +kernel
theorem dX9_writes_112 : decode cX9_writes 112 = .ok (.goto (-18), 3) := by decide +kernel
theorem dX9_writes_115 : decode cX9_writes 115 = .ok (.iinc 4 1, 3) := by decide +kernel
theorem dX9_writes_118 : decode cX9_writes 118 = .ok (.goto (-96), 3) := by decide +kernel
theorem dX9_writes_121 : decode cX9_writes 121 = .ok (.iconst 0, 1) := by decide +kernel
theorem dX9_writes_122 : decode cX9_writes 122 = .ok (.istore 4, 2) := by decide +kernel
theorem dX9_writes_124 : decode cX9_writes 124 = .ok (.iload 4, 2) := by decide +kernel
theorem dX9_writes_126 : decode cX9_writes 126 = .ok (.iconst 4, 1) := by decide +kernel
theorem dX9_writes_127 : decode cX9_writes 127 = .ok (.if_icmp .ge 13, 3) := by decide +kernel
theorem dX9_writes_130 : decode cX9_writes 130 = .ok (.aload_n 0, 1) := by decide +kernel
theorem dX9_writes_131 : decode cX9_writes 131 = .ok (.invokevirtual 210, 3) := by decide +kernel
theorem dX9_writes_134 : decode cX9_writes 134 = .ok (.iinc 4 1, 3) := by decide +kernel
theorem dX9_writes_137 : decode cX9_writes 137 = .ok (.goto (-13), 3) := by decide +kernel
theorem dX9_writes_140 : decode cX9_writes 140 = .ok (.return_, 1) := by decide +kernel
theorem dX9_written_0 : decode cX9_written 0 = .ok (.iload_n 1, 1) := by decide +kernel
theorem dX9_written_1 : decode cX9_written 1 = .ok (.iconst (-1), 1) := by decide +kernel
theorem dX9_written_2 : decode cX9_written 2 = .ok (.if_icmp .ge 10, 3) := by decide +kernel
theorem dX9_written_5 : decode cX9_written 5 = .ok (.aload_n 0, 1) := by decide +kernel
theorem dX9_written_6 : decode cX9_written 6 = .ok (.bipush (-10), 2) := by decide +kernel
theorem dX9_written_8 : decode cX9_written 8 = .ok (.invokevirtual 142, 3) := by decide +kernel
theorem dX9_written_11 : decode cX9_written 11 = .ok (.ireturn, 1) := by decide +kernel
theorem dX9_written_12 : decode cX9_written 12 = .ok (.aload_n 0, 1) := by decide +kernel
theorem dX9_written_13 : decode cX9_written 13 = .ok (.invokevirtual 213, 3) := by decide +kernel
theorem dX9_written_16 : decode cX9_written 16 = .ok (.iload_n 1, 1) := by decide +kernel
theorem dX9_written_17 : decode cX9_written 17 = .ok (.iconst (-1), 1) := by decide +kernel
theorem dX9_written_18 : decode cX9_written 18 = .ok (.if_icmp .ne 10, 3) := by decide +kernel
theorem dX9_written_21 : decode cX9_written 21 = .ok (.aload_n 0, 1) := by decide +kernel
theorem dX9_written_22 : decode cX9_written 22 = .ok (.getfield 203, 3) := by decide +kernel
theorem dX9_written_25 : decode cX9_written 25 = .ok (.goto 22, 3) := by decide +kernel
theorem dX9_written_28 : decode cX9_written 28 = .ok (.iload_n 1, 1) := by decide +kernel
theorem dX9_written_29 : decode cX9_written 29 = .ok (.aload_n 0, 1) := by decide +kernel
theorem dX9_written_30 : decode cX9_written 30 = .ok (.getfield 203, 3) := by decide +kernel
theorem dX9_written_33 : decode cX9_written 33 = .ok (.if_icmp .ge 12, 3) := by decide +kernel
theorem dX9_written_36 : decode cX9_written 36 = .ok (.aload_n 0, 1) := by decide +kernel
theorem dX9_written_37 : decode cX9_written 37 = .ok (.getfield 56, 3) := by decide +kernel
theorem dX9_written_40 : decode cX9_written 40 = .ok (.iload_n 1, 1) := by decide +kernel
theorem dX9_written_41 : decode cX9_written 41 = .ok (.iaload, 1) := by decide +kernel
theorem dX9_written_42 : decode cX9_written 42 = .ok (.goto 5, 3) := by decide +kernel
theorem dX9_written_45 : decode cX9_written 45 = .ok (.bipush (-5), 2) := by decide +kernel
theorem dX9_written_47 : decode cX9_written 47 = .ok (.ireturn, 1) := by decide +kernel
theorem dX9_byteAt_0 : decode cX9_byteAt 0 = .ok (.iload_n 1, 1) := by decide +kernel
theorem dX9_byteAt_1 : decode cX9_byteAt 1 = .ok (.aload_n 0, 1) := by decide +kernel
end
section
theorem dX9_byteAt_2 : decode cX9_byteAt 2 = .ok (.getfield 203, 3) := by decide +kernel
theorem dX9_byteAt_5 : decode cX9_byteAt 5 = .ok (.if_icmp .ge 12, 3) := by decide +kernel
theorem dX9_byteAt_8 : decode cX9_byteAt 8 = .ok (.aload_n 0, 1) := by decide +kernel
theorem dX9_byteAt_9 : decode cX9_byteAt 9 = .ok (.getfield 56, 3) := by decide +kernel
theorem dX9_byteAt_12 : decode cX9_byteAt 12 = .ok (.iload_n 1, 1) := by decide +kernel
theorem dX9_byteAt_13 : decode cX9_byteAt 13 = .ok (.iaload, 1) := by decide +kernel
theorem dX9_byteAt_14 : decode cX9_byteAt 14 = .ok (.goto 4, 3) := by decide +kernel
theorem dX9_byteAt_17 : decode cX9_byteAt 17 = .ok (.iconst 0, 1) := by decide +kernel
theorem dX9_byteAt_18 : decode cX9_byteAt 18 = .ok (.ireturn, 1) := by decide +kernel
theorem dX9_reads_0 : decode cX9_reads 0 = .ok (.aload_n 0, 1) := by decide +kernel
theorem dX9_reads_1 : decode cX9_reads 1 = .ok (.invokevirtual 213, 3) := by decide +kernel
theorem dX9_reads_4 : decode cX9_reads 4 = .ok (.iload_n 1, 1) := by decide +kernel
theorem dX9_reads_5 : decode cX9_reads 5 = .ok (.i2l, 1) := by decide +kernel
theorem dX9_reads_6 : decode cX9_reads 6 = .ok (.ldc2_w 216, 3) := by decide +kernel
theorem dX9_reads_9 : decode cX9_reads 9 = .ok (.aload_n 0, 1) := by decide +kernel
theorem dX9_reads_10 : decode cX9_reads 10 = .ok (.getfield 203, 3) := by decide +kernel
theorem dX9_reads_13 : decode cX9_reads 13 = .ok (.iconst 1, 1) := by decide +kernel
theorem dX9_reads_14 : decode cX9_reads 14 = .ok (.isub, 1) := by decide +kernel
theorem dX9_reads_15 : decode cX9_reads 15 = .ok (.i2l, 1) := by decide +kernel
theorem dX9_reads_16 : decode cX9_reads 16 = .ok (.invokestatic 138, 3) := by decide +kernel
theorem dX9_reads_19 : decode cX9_reads 19 = .ok (.ifCond .eq 20, 3) := by decide +kernel
theorem dX9_reads_22 : decode cX9_reads 22 = .ok (.iload_n 1, 1) := by decide +kernel
theorem dX9_reads_23 : decode cX9_reads 23 = .ok (.iconst (-1), 1) := by decide +kernel
theorem dX9_reads_24 : decode cX9_reads 24 = .ok (.if_icmp .eq 22, 3) := by decide +kernel
theorem dX9_reads_27 : decode cX9_reads 27 = .ok (.iload_n 2, 1) := by decide +kernel
theorem dX9_reads_28 : decode cX9_reads 28 = .ok (.i2l, 1) := by decide +kernel
theorem dX9_reads_29 : decode cX9_reads 29 = .ok (.lconst 1, 1) := by decide +kernel
theorem dX9_reads_30 : decode cX9_reads 30 = .ok (.ldc2_w 201, 3) := by decide +kernel
theorem dX9_reads_33 : decode cX9_reads 33 = .ok (.invokestatic 138, 3) := by decide +kernel
theorem dX9_reads_36 : decode cX9_reads 36 = .ok (.ifCond .ne 10, 3) := by decide +kernel
theorem dX9_reads_39 : decode cX9_reads 39 = .ok (.aload_n 0, 1) := by decide +kernel
theorem dX9_reads_40 : decode cX9_reads 40 = .ok (.bipush (-2), 2) := by decide +kernel
theorem dX9_reads_42 : decode cX9_reads 42 = .ok (.invokevirtual 142, 3) := by decide +kernel
theorem dX9_reads_45 : decode cX9_reads 45 = .ok (.ireturn, 1) := by decide +kernel
theorem dX9_reads_46 : decode cX9_reads 46 = .ok (.iload_n 1, 1) := by decide +kernel
theorem dX9_reads_47 : decode cX9_reads 47 = .ok (.iconst (-1), 1) := by decide +kernel
theorem dX9_reads_48 : decode cX9_reads 48 = .ok (.if_icmp .eq 13, 3) := by decide +kernel
theorem dX9_reads_51 : decode cX9_reads 51 = .ok (.aload_n 0, 1) := by decide +kernel
theorem dX9_reads_52 : decode cX9_reads 52 = .ok (.getfield 56, 3) := by decide +kernel
theorem dX9_reads_55 : decode cX9_reads 55 = .ok (.iload_n 1, 1) := by decide +kernel
theorem dX9_reads_56 : decode cX9_reads 56 = .ok (.dup2, 1) := by decide +kernel
theorem dX9_reads_57 : decode cX9_reads 57 = .ok (.iaload, 1) := by decide +kernel
theorem dX9_reads_58 : decode cX9_reads 58 = .ok (.iload_n 2, 1) := by decide +kernel
theorem dX9_reads_59 : decode cX9_reads 59 = .ok (.ixor, 1) := by decide +kernel
theorem dX9_reads_60 : decode cX9_reads 60 = .ok (.iastore, 1) := by decide +kernel
theorem dX9_reads_61 : decode cX9_reads 61 = .ok (.lconst 0, 1) := by decide +kernel
theorem dX9_reads_62 : decode cX9_reads 62 = .ok (.lstore_n 3, 1) := by decide +kernel
theorem dX9_reads_63 : decode cX9_reads 63 = .ok (.ldc2_w 208, 3) := by decide +kernel
theorem dX9_reads_66 : decode cX9_reads 66 = .ok (.lstore 5, 2) := by decide +kernel
theorem dX9_reads_68 : decode cX9_reads 68 = .ok (.iconst 0, 1) := by decide +kernel
theorem dX9_reads_69 : decode cX9_reads 69 = .ok (.istore 7, 2) := by decide +kernel
theorem dX9_reads_71 : decode cX9_reads 71 = .ok (.iload 7, 2) := by decide +kernel
theorem dX9_reads_73 : decode cX9_reads 73 = .ok (.iconst 4, 1) := by decide +kernel
theorem dX9_reads_74 : decode cX9_reads 74 = .ok (.if_icmp .ge 23, 3) := by decide +kernel
theorem dX9_reads_77 : decode cX9_reads 77 = .ok (.ldc2_w 206, 3) := by decide +kernel
theorem dX9_reads_80 : decode cX9_reads 80 = .ok (.lload_n 3, 1) := by decide +kernel
theorem dX9_reads_81 : decode cX9_reads 81 = .ok (.lmul, 1) := by decide +kernel
theorem dX9_reads_82 : decode cX9_reads 82 = .ok (.aload_n 0, 1) := by decide +kernel
theorem dX9_reads_83 : decode cX9_reads 83 = .ok (.iload 7, 2) := by decide +kernel
theorem dX9_reads_85 : decode cX9_reads 85 = .ok (.invokevirtual 218, 3) := by decide +kernel
theorem dX9_reads_88 : decode cX9_reads 88 = .ok (.i2l, 1) := by decide +kernel
theorem dX9_reads_89 : decode cX9_reads 89 = .ok (.ladd, 1) := by decide +kernel
theorem dX9_reads_90 : decode cX9_reads 90 = .ok (.lstore_n 3, 1) := by decide +kernel
theorem dX9_reads_91 : decode cX9_reads 91 = .ok (.iinc 7 1, 3) := by decide +kernel
theorem dX9_reads_94 : decode cX9_reads 94 = .ok (.goto (-23), 3) := by decide +kernel
theorem dX9_reads_97 : decode cX9_reads 97 = .ok (.iconst 0, 1) := by decide +kernel
theorem dX9_reads_98 : decode cX9_reads 98 = .ok (.istore 8, 2) := by decide +kernel
theorem dX9_reads_100 : decode cX9_reads 100 = .ok (.aload_n 0, 1) := by decide +kernel
theorem dX9_reads_101 : decode cX9_reads 101 = .ok (.aload_n 0, 1) := by decide +kernel
theorem dX9_reads_102 : decode cX9_reads 102 = .ok (.invokevirtual 123, 3) := by decide +kernel
theorem dX9_reads_105 : decode cX9_reads 105 = .ok (.aload_n 0, 1) := by decide +kernel
theorem dX9_reads_106 : decode cX9_reads 106 = .ok (.invokevirtual 126, 3) := by decide +kernel
theorem dX9_reads_109 : decode cX9_reads 109 = .ok (.invokevirtual 108, 3) := by decide +kernel
theorem dX9_reads_112 : decode cX9_reads 112 = .ok (.iconst 0, 1) := by decide +kernel
theorem dX9_reads_113 : decode cX9_reads 113 = .ok (.istore 9, 2) := by decide +kernel
theorem dX9_reads_115 : decode cX9_reads 115 = .ok (.iload 9, 2) := by decide +kernel
theorem dX9_reads_117 : decode cX9_reads 117 = .ok (.aload_n 0, 1) := by decide +kernel
theorem dX9_reads_118 : decode cX9_reads 118 = .ok (.invokevirtual 112, 3) := by decide +kernel
theorem dX9_reads_121 : decode cX9_reads 121 = .ok (.if_icmp .ge 135, 3) := by decide +kernel
theorem dX9_reads_124 : decode cX9_reads 124 = .ok (.lload 5, 2) := by decide +kernel
theorem dX9_reads_126 : decode cX9_reads 126 = .ok (.ldc2_w 82, 3) := by decide +kernel
theorem dX9_reads_129 : decode cX9_reads 129 = .ok (.ldiv, 1) := by decide +kernel
theorem dX9_reads_130 : decode cX9_reads 130 = .ok (.aload_n 0, 1) := by decide +kernel
theorem dX9_reads_131 : decode cX9_reads 131 = .ok (.invokevirtual 116, 3) := by decide +kernel
theorem dX9_reads_134 : decode cX9_reads 134 = .ok (.i2l, 1) := by decide +kernel
theorem dX9_reads_135 : decode cX9_reads 135 = .ok (.lmul, 1) := by decide +kernel
theorem dX9_reads_136 : decode cX9_reads 136 = .ok (.lstore 10, 2) := by decide +kernel
theorem dX9_reads_138 : decode cX9_reads 138 = .ok (.lload_n 3, 1) := by decide +kernel
theorem dX9_reads_139 : decode cX9_reads 139 = .ok (.lload 10, 2) := by decide +kernel
theorem dX9_reads_141 : decode cX9_reads 141 = .ok (.lcmp, 1) := by decide +kernel
theorem dX9_reads_142 : decode cX9_reads 142 = .ok (.ifCond .ge 7, 3) := by decide +kernel
theorem dX9_reads_145 : decode cX9_reads 145 = .ok (.iconst 1, 1) := by decide +kernel
theorem dX9_reads_146 : decode cX9_reads 146 = .ok (.goto 4, 3) := by decide +kernel
theorem dX9_reads_149 : decode cX9_reads 149 = .ok (.iconst 0, 1) := by decide +kernel
theorem dX9_reads_150 : decode cX9_reads 150 = .ok (.istore 12, 2) := by decide +kernel
theorem dX9_reads_152 : decode cX9_reads 152 = .ok (.lload_n 3, 1) := by decide +kernel
theorem dX9_reads_153 : decode cX9_reads 153 = .ok (.iload 12, 2) := by decide +kernel
theorem dX9_reads_155 : decode cX9_reads 155 = .ok (.iconst 1, 1) := by decide +kernel
theorem dX9_reads_156 : decode cX9_reads 156 = .ok (.if_icmp .ne 7, 3) := by decide +kernel
theorem dX9_reads_159 : decode cX9_reads 159 = .ok (.lconst 0, 1) := by decide +kernel
theorem dX9_reads_160 : decode cX9_reads 160 = .ok (.goto 5, 3) := by decide +kernel
theorem dX9_reads_163 : decode cX9_reads 163 = .ok (.lload 10, 2) := by decide +kernel
theorem dX9_reads_165 : decode cX9_reads 165 = .ok (.lsub, 1) := by decide +kernel
theorem dX9_reads_166 : decode cX9_reads 166 = .ok (.lstore_n 3, 1) := by decide +kernel
theorem dX9_reads_167 : decode cX9_reads 167 = .ok (.iload 12, 2) := by decide +kernel
theorem dX9_reads_169 : decode cX9_reads 169 = .ok (.iconst 1, 1) := by decide +kernel
theorem dX9_reads_170 : decode cX9_reads 170 = .ok (.if_icmp .ne 8, 3) := by decide +kernel
theorem dX9_reads_173 : decode cX9_reads 173 = .ok (.lload 10, 2) := by decide +kernel
theorem dX9_reads_175 : decode cX9_reads 175 = .ok (.goto 8, 3) := by decide +kernel
theorem dX9_reads_178 : decode cX9_reads 178 = .ok (.lload 5, 2) := by decide +kernel
theorem dX9_reads_180 : decode cX9_reads 180 = .ok (.lload 10, 2) := by decide +kernel
theorem dX9_reads_182 : decode cX9_reads 182 = .ok (.lsub, 1) := by decide +kernel
theorem dX9_reads_183 : decode cX9_reads 183 = .ok (.lstore 5, 2) := by decide +kernel
theorem dX9_reads_185 : decode cX9_reads 185 = .ok (.lload 5, 2) := by decide +kernel
theorem dX9_reads_187 : decode cX9_reads 187 = .ok (.ldc2_w 199, 3) := by decide +kernel
theorem dX9_reads_190 : decode cX9_reads 190 = .ok (.lcmp, 1) := by decide +kernel
theorem dX9_reads_191 : decode cX9_reads 191 = .ok (.ifCond .ge 31, 3) := by decide +kernel
theorem dX9_reads_194 : decode cX9_reads 194 = .ok (.ldc2_w 206, 3) := by decide +kernel
theorem dX9_reads_197 : decode cX9_reads 197 = .ok (.lload_n 3, 1) := by decide +kernel
theorem dX9_reads_198 : decode cX9_reads 198 = .ok (.lmul, 1) := by decide +kernel
theorem dX9_reads_199 : decode cX9_reads 199 = .ok (.aload_n 0, 1) := by decide +kernel
theorem dX9_reads_200 : decode cX9_reads 200 = .ok (.iload 7, 2) := by decide +kernel
theorem dX9_reads_202 : decode cX9_reads 202 = .ok (.invokevirtual 218, 3) := by decide +kernel
theorem dX9_reads_205 : decode cX9_reads 205 = .ok (.i2l, 1) := by decide +kernel
theorem dX9_reads_206 : decode cX9_reads 206 = .ok (.ladd, 1) := by decide +kernel
theorem dX9_reads_207 : decode cX9_reads 207 = .ok (.lstore_n 3, 1) := by decide +kernel
theorem dX9_reads_208 : decode cX9_reads 208 = .ok (.lload 5, 2) := by decide +kernel
theorem dX9_reads_210 : decode cX9_reads 210 = .ok (.ldc2_w 206, 3) := by decide +kernel
theorem dX9_reads_213 : decode cX9_reads 213 = .ok (.lmul, 1) := by decide +kernel
theorem dX9_reads_214 : decode cX9_reads 214 = .ok (.lstore 5, 2) := by decide +kernel
theorem dX9_reads_216 : decode cX9_reads 216 = .ok (.iinc 7 1, 3) := by decide +kernel
theorem dX9_reads_219 : decode cX9_reads 219 = .ok (.goto (-34), 3) := by decide +kernel
theorem dX9_reads_222 : decode cX9_reads 222 = .ok (.aload_n 0, 1) := by decide +kernel
theorem dX9_reads_223 : decode cX9_reads 223 = .ok (.iload 12, 2) := by decide +kernel
theorem dX9_reads_225 : decode cX9_reads 225 = .ok (.invokevirtual 119, 3) := by decide +kernel
theorem dX9_reads_228 : decode cX9_reads 228 = .ok (.iload 8, 2) := by decide +kernel
theorem dX9_reads_230 : decode cX9_reads 230 = .ok (.iload 12, 2) := by decide +kernel
theorem dX9_reads_232 : decode cX9_reads 232 = .ok (.aload_n 0, 1) := by decide +kernel
theorem dX9_reads_233 : decode cX9_reads 233 = .ok (.getfield 7, 3) := by decide +kernel
theorem dX9_reads_236 : decode cX9_reads 236 = .ok (.iload 9, 2) := by decide +kernel
theorem dX9_reads_238 : decode cX9_reads 238 = .ok (.iaload, 1) := by decide +kernel
theorem dX9_reads_239 : decode cX9_reads 239 = .ok (.if_icmp .ne 7, 3) := by decide +kernel
theorem dX9_reads_242 : decode cX9_reads 242 = .ok (.iconst 1, 1) := by decide +kernel
theorem dX9_reads_243 : decode cX9_reads 243 = .ok (.goto 4, 3) := by decide +kernel
theorem dX9_reads_246 : decode cX9_reads 246 = .ok (.iconst 0, 1) := by decide +kernel
theorem dX9_reads_247 : decode cX9_reads 247 = .ok (.iadd, 1) := by decide +kernel
theorem dX9_reads_248 : decode cX9_reads 248 = .ok (.istore 8, 2) := by decide +kernel
theorem dX9_reads_250 : decode cX9_reads 250 = .ok (.iinc 9 1, 3) := by decide +kernel
theorem dX9_reads_253 : decode cX9_reads 253 = .ok (.goto (-138), 3) := by decide +kernel
theorem dX9_reads_256 : decode cX9_reads 256 = .ok (.iload 8, 2) := by decide +kernel
theorem dX9_reads_258 : decode cX9_reads 258 = .ok (.ireturn, 1) := by decide +kernel
theorem dX9_type_0 : decode cX9_type 0 = .ok (.iload_n 1, 1) := by decide +kernel
theorem dX9_type_1 : decode cX9_type 1 = .ok (.i2l, 1) := by decide +kernel
theorem dX9_type_2 : decode cX9_type 2 = .ok (.lconst 0, 1) := by decide +kernel
theorem dX9_type_3 : decode cX9_type 3 = .ok (.ldc2_w 221, 3) := by decide +kernel
theorem dX9_type_6 : decode cX9_type 6 = .ok (.invokestatic 138, 3) := by decide +kernel
theorem dX9_type_9 : decode cX9_type 9 = .ok (.ifCond .ne 10, 3) := by decide +kernel
theorem dX9_type_12 : decode cX9_type 12 = .ok (.aload_n 0, 1) := by decide +kernel
theorem dX9_type_13 : decode cX9_type 13 = .ok (.bipush (-2), 2) := by decide +kernel
theorem dX9_type_15 : decode cX9_type 15 = .ok (.invokevirtual 142, 3) := by decide +kernel
theorem dX9_type_18 : decode cX9_type 18 = .ok (.ireturn, 1) := by decide +kernel
theorem dX9_type_19 : decode cX9_type 19 = .ok (.aload_n 0, 1) := by decide +kernel
theorem dX9_type_20 : decode cX9_type 20 = .ok (.getfield 223, 3) := by decide +kernel
theorem dX9_type_23 : decode cX9_type 23 = .ok (.bipush 120, 2) := by decide +kernel
theorem dX9_type_25 : decode cX9_type 25 = .ok (.if_icmp .ne 8, 3) := by decide +kernel
theorem dX9_type_28 : decode cX9_type 28 = .ok (.aload_n 0, 1) := by decide +kernel
theorem dX9_type_29 : decode cX9_type 29 = .ok (.invokevirtual 145, 3) := by decide +kernel
theorem dX9_type_32 : decode cX9_type 32 = .ok (.ireturn, 1) := by decide +kernel
theorem dX9_type_33 : decode cX9_type 33 = .ok (.aload_n 0, 1) := by decide +kernel
theorem dX9_type_34 : decode cX9_type 34 = .ok (.getfield 59, 3) := by decide +kernel
theorem dX9_type_37 : decode cX9_type 37 = .ok (.aload_n 0, 1) := by decide +kernel
theorem dX9_type_38 : decode cX9_type 38 = .ok (.getfield 223, 3) := by decide +kernel
theorem dX9_type_41 : decode cX9_type 41 = .ok (.iload_n 1, 1) := by decide +kernel
theorem dX9_type_42 : decode cX9_type 42 = .ok (.iastore, 1) := by decide +kernel
theorem dX9_type_43 : decode cX9_type 43 = .ok (.aload_n 0, 1) := by decide +kernel
theorem dX9_type_44 : decode cX9_type 44 = .ok (.dup, 1) := by decide +kernel
theorem dX9_type_45 : decode cX9_type 45 = .ok (.getfield 223, 3) := by decide +kernel
theorem dX9_type_48 : decode cX9_type 48 = .ok (.iconst 1, 1) := by decide +kernel
theorem dX9_type_49 : decode cX9_type 49 = .ok (.iadd, 1) := by decide +kernel
theorem dX9_type_50 : decode cX9_type 50 = .ok (.putfield 223, 3) := by decide +kernel
theorem dX9_type_53 : decode cX9_type 53 = .ok (.aload_n 0, 1) := by decide +kernel
theorem dX9_type_54 : decode cX9_type 54 = .ok (.getfield 223, 3) := by decide +kernel
theorem dX9_type_57 : decode cX9_type 57 = .ok (.ireturn, 1) := by decide +kernel
theorem dX9_clear_0 : decode cX9_clear 0 = .ok (.aload_n 0, 1) := by decide +kernel
theorem dX9_clear_1 : decode cX9_clear 1 = .ok (.getfield 223, 3) := by decide +kernel
theorem dX9_clear_4 : decode cX9_clear 4 = .ok (.istore_n 1, 1) := by decide +kernel
theorem dX9_clear_5 : decode cX9_clear 5 = .ok (.aload_n 0, 1) := by decide +kernel
theorem dX9_clear_6 : decode cX9_clear 6 = .ok (.iconst 0, 1) := by decide +kernel
theorem dX9_clear_7 : decode cX9_clear 7 = .ok (.putfield 223, 3) := by decide +kernel
theorem dX9_clear_10 : decode cX9_clear 10 = .ok (.iload_n 1, 1) := by decide +kernel
theorem dX9_clear_11 : decode cX9_clear 11 = .ok (.ireturn, 1) := by decide +kernel
theorem dX9_here_0 : decode cX9_here 0 = .ok (.aload_n 0, 1) := by decide +kernel
theorem dX9_here_1 : decode cX9_here 1 = .ok (.getfield 226, 3) := by decide +kernel
theorem dX9_here_4 : decode cX9_here 4 = .ok (.aload_n 0, 1) := by decide +kernel
theorem dX9_here_5 : decode cX9_here 5 = .ok (.getfield 223, 3) := by decide +kernel
theorem dX9_here_8 : decode cX9_here 8 = .ok (.if_icmp .ge 30, 3) := by decide +kernel
theorem dX9_here_11 : decode cX9_here 11 = .ok (.aload_n 0, 1) := by decide +kernel
theorem dX9_here_12 : decode cX9_here 12 = .ok (.getfield 59, 3) := by decide +kernel
theorem dX9_here_15 : decode cX9_here 15 = .ok (.aload_n 0, 1) := by decide +kernel
theorem dX9_here_16 : decode cX9_here 16 = .ok (.getfield 226, 3) := by decide +kernel
theorem dX9_here_19 : decode cX9_here 19 = .ok (.iaload, 1) := by decide +kernel
theorem dX9_here_20 : decode cX9_here 20 = .ok (.bipush 32, 2) := by decide +kernel
theorem dX9_here_22 : decode cX9_here 22 = .ok (.if_icmp .ne 16, 3) := by decide +kernel
theorem dX9_here_25 : decode cX9_here 25 = .ok (.aload_n 0, 1) := by decide +kernel
theorem dX9_here_26 : decode cX9_here 26 = .ok (.dup, 1) := by decide +kernel
theorem dX9_here_27 : decode cX9_here 27 = .ok (.getfield 226, 3) := by decide +kernel
theorem dX9_here_30 : decode cX9_here 30 = .ok (.iconst 1, 1) := by decide +kernel
theorem dX9_here_31 : decode cX9_here 31 = .ok (.iadd, 1) := by decide +kernel
theorem dX9_here_32 : decode cX9_here 32 = .ok (.putfield 226, 3) := by decide +kernel
theorem dX9_here_35 : decode cX9_here 35 = .ok (.goto (-35), 3) := by decide +kernel
theorem dX9_here_38 : decode cX9_here 38 = .ok (.aload_n 0, 1) := by decide +kernel
theorem dX9_here_39 : decode cX9_here 39 = .ok (.getfield 226, 3) := by decide +kernel
theorem dX9_here_42 : decode cX9_here 42 = .ok (.aload_n 0, 1) := by decide +kernel
theorem dX9_here_43 : decode cX9_here 43 = .ok (.getfield 223, 3) := by decide +kernel
theorem dX9_here_46 : decode cX9_here 46 = .ok (.if_icmp .ge 15, 3) := by decide +kernel
theorem dX9_here_49 : decode cX9_here 49 = .ok (.aload_n 0, 1) := by decide +kernel
theorem dX9_here_50 : decode cX9_here 50 = .ok (.getfield 59, 3) := by decide +kernel
theorem dX9_here_53 : decode cX9_here 53 = .ok (.aload_n 0, 1) := by decide +kernel
theorem dX9_here_54 : decode cX9_here 54 = .ok (.getfield 226, 3) := by decide +kernel
theorem dX9_here_57 : decode cX9_here 57 = .ok (.iaload, 1) := by decide +kernel
theorem dX9_here_58 : decode cX9_here 58 = .ok (.goto 4, 3) := by decide +kernel
theorem dX9_here_61 : decode cX9_here 61 = .ok (.iconst (-1), 1) := by decide +kernel
theorem dX9_here_62 : decode cX9_here 62 = .ok (.ireturn, 1) := by decide +kernel
theorem dX9_isFigure_0 : decode cX9_isFigure 0 = .ok (.iload_n 1, 1) := by decide +kernel
theorem dX9_isFigure_1 : decode cX9_isFigure 1 = .ok (.aload_n 0, 1) := by decide +kernel
theorem dX9_isFigure_2 : decode cX9_isFigure 2 = .ok (.getfield 223, 3) := by decide +kernel
theorem dX9_isFigure_5 : decode cX9_isFigure 5 = .ok (.if_icmp .ge 26, 3) := by decide +kernel
theorem dX9_isFigure_8 : decode cX9_isFigure 8 = .ok (.aload_n 0, 1) := by decide +kernel
theorem dX9_isFigure_9 : decode cX9_isFigure 9 = .ok (.getfield 59, 3) := by decide +kernel
theorem dX9_isFigure_12 : decode cX9_isFigure 12 = .ok (.iload_n 1, 1) := by decide +kernel
theorem dX9_isFigure_13 : decode cX9_isFigure 13 = .ok (.iaload, 1) := by decide +kernel
theorem dX9_isFigure_14 : decode cX9_isFigure 14 = .ok (.i2l, 1) := by decide +kernel
theorem dX9_isFigure_15 : decode cX9_isFigure 15 = .ok (.ldc2_w 229, 3) := by decide +kernel
theorem dX9_isFigure_18 : decode cX9_isFigure 18 = .ok (.ldc2_w 231, 3) := by decide +kernel
theorem dX9_isFigure_21 : decode cX9_isFigure 21 = .ok (.invokestatic 138, 3) := by decide +kernel
theorem dX9_isFigure_24 : decode cX9_isFigure 24 = .ok (.ifCond .eq 7, 3) := by decide +kernel
theorem dX9_isFigure_27 : decode cX9_isFigure 27 = .ok (.iconst 1, 1) := by decide +kernel
theorem dX9_isFigure_28 : decode cX9_isFigure 28 = .ok (.goto 4, 3) := by decide +kernel
theorem dX9_isFigure_31 : decode cX9_isFigure 31 = .ok (.iconst 0, 1) := by decide +kernel
theorem dX9_isFigure_32 : decode cX9_isFigure 32 = .ok (.ireturn, 1) := by decide +kernel
theorem dX9_times_0 : decode cX9_times 0 = .ok (.aload_n 0, 1) := by decide +kernel
theorem dX9_times_1 : decode cX9_times 1 = .ok (.invokevirtual 233, 3) := by decide +kernel
theorem dX9_times_4 : decode cX9_times 4 = .ok (.istore_n 1, 1) := by decide +kernel
theorem dX9_times_5 : decode cX9_times 5 = .ok (.aload_n 0, 1) := by decide +kernel
theorem dX9_times_6 : decode cX9_times 6 = .ok (.getfield 226, 3) := by decide +kernel
theorem dX9_times_9 : decode cX9_times 9 = .ok (.istore_n 2, 1) := by decide +kernel
theorem dX9_times_10 : decode cX9_times 10 = .ok (.iconst 0, 1) := by decide +kernel
theorem dX9_times_11 : decode cX9_times 11 = .ok (.istore_n 3, 1) := by decide +kernel
theorem dX9_times_12 : decode cX9_times 12 = .ok (.aload_n 0, 1) := by decide +kernel
theorem dX9_times_13 : decode cX9_times 13 = .ok (.iload_n 2, 1) := by decide +kernel
theorem dX9_times_14 : decode cX9_times 14 = .ok (.invokevirtual 236, 3) := by decide +kernel
theorem dX9_times_17 : decode cX9_times 17 = .ok (.ifCond .eq 34, 3) := by decide +kernel
theorem dX9_times_20 : decode cX9_times 20 = .ok (.iload_n 2, 1) := by decide +kernel
theorem dX9_times_21 : decode cX9_times 21 = .ok (.aload_n 0, 1) := by decide +kernel
theorem dX9_times_22 : decode cX9_times 22 = .ok (.getfield 226, 3) := by decide +kernel
theorem dX9_times_25 : decode cX9_times 25 = .ok (.isub, 1) := by decide +kernel
theorem dX9_times_26 : decode cX9_times 26 = .ok (.iconst 3, 1) := by decide +kernel
theorem dX9_times_27 : decode cX9_times 27 = .ok (.if_icmp .ge 24, 3) := by decide +kernel
theorem dX9_times_30 : decode cX9_times 30 = .ok (.bipush 10, 2) := by decide +kernel
theorem dX9_times_32 : decode cX9_times 32 = .ok (.iload_n 3, 1) := by decide +kernel
theorem dX9_times_33 : decode cX9_times 33 = .ok (.imul, 1) := by decide +kernel
theorem dX9_times_34 : decode cX9_times 34 = .ok (.aload_n 0, 1) := by decide +kernel
theorem dX9_times_35 : decode cX9_times 35 = .ok (.getfield 59, 3) := by decide +kernel
theorem dX9_times_38 : decode cX9_times 38 = .ok (.iload_n 2, 1) := by decide +kernel
theorem dX9_times_39 : decode cX9_times 39 = .ok (.iaload, 1) := by decide +kernel
theorem dX9_times_40 : decode cX9_times 40 = .ok (.iadd, 1) := by decide +kernel
theorem dX9_times_41 : decode cX9_times 41 = .ok (.bipush 48, 2) := by decide +kernel
theorem dX9_times_43 : decode cX9_times 43 = .ok (.isub, 1) := by decide +kernel
theorem dX9_times_44 : decode cX9_times 44 = .ok (.istore_n 3, 1) := by decide +kernel
theorem dX9_times_45 : decode cX9_times 45 = .ok (.iinc 2 1, 3) := by decide +kernel
theorem dX9_times_48 : decode cX9_times 48 = .ok (.goto (-36), 3) := by decide +kernel
theorem dX9_times_51 : decode cX9_times 51 = .ok (.iload_n 2, 1) := by decide +kernel
theorem dX9_times_52 : decode cX9_times 52 = .ok (.aload_n 0, 1) := by decide +kernel
theorem dX9_times_53 : decode cX9_times 53 = .ok (.getfield 226, 3) := by decide +kernel
theorem dX9_times_56 : decode cX9_times 56 = .ok (.isub, 1) := by decide +kernel
theorem dX9_times_57 : decode cX9_times 57 = .ok (.i2l, 1) := by decide +kernel
theorem dX9_times_58 : decode cX9_times 58 = .ok (.lconst 1, 1) := by decide +kernel
theorem dX9_times_59 : decode cX9_times 59 = .ok (.ldc2_w 181, 3) := by decide +kernel
theorem dX9_times_62 : decode cX9_times 62 = .ok (.invokestatic 138, 3) := by decide +kernel
theorem dX9_times_65 : decode cX9_times 65 = .ok (.ifCond .eq 11, 3) := by decide +kernel
theorem dX9_times_68 : decode cX9_times 68 = .ok (.iload_n 3, 1) := by decide +kernel
theorem dX9_times_69 : decode cX9_times 69 = .ok (.ifCond .le 7, 3) := by decide +kernel
theorem dX9_times_72 : decode cX9_times 72 = .ok (.iconst 1, 1) := by decide +kernel
theorem dX9_times_73 : decode cX9_times 73 = .ok (.goto 4, 3) := by decide +kernel
theorem dX9_times_76 : decode cX9_times 76 = .ok (.iconst 0, 1) := by decide +kernel
theorem dX9_times_77 : decode cX9_times 77 = .ok (.istore 4, 2) := by decide +kernel
theorem dX9_times_79 : decode cX9_times 79 = .ok (.aload_n 0, 1) := by decide +kernel
theorem dX9_times_80 : decode cX9_times 80 = .ok (.iload 4, 2) := by decide +kernel
theorem dX9_times_82 : decode cX9_times 82 = .ok (.ifCond .eq 7, 3) := by decide +kernel
theorem dX9_times_85 : decode cX9_times 85 = .ok (.iload_n 2, 1) := by decide +kernel
theorem dX9_times_86 : decode cX9_times 86 = .ok (.goto 7, 3) := by decide +kernel
theorem dX9_times_89 : decode cX9_times 89 = .ok (.aload_n 0, 1) := by decide +kernel
theorem dX9_times_90 : decode cX9_times 90 = .ok (.getfield 226, 3) := by decide +kernel
theorem dX9_times_93 : decode cX9_times 93 = .ok (.putfield 226, 3) := by decide +kernel
theorem dX9_times_96 : decode cX9_times 96 = .ok (.iload 4, 2) := by decide +kernel
theorem dX9_times_98 : decode cX9_times 98 = .ok (.ifCond .eq 7, 3) := by decide +kernel
theorem dX9_times_101 : decode cX9_times 101 = .ok (.iload_n 3, 1) := by decide +kernel
theorem dX9_times_102 : decode cX9_times 102 = .ok (.goto 4, 3) := by decide +kernel
theorem dX9_times_105 : decode cX9_times 105 = .ok (.iconst 0, 1) := by decide +kernel
theorem dX9_times_106 : decode cX9_times 106 = .ok (.ireturn, 1) := by decide +kernel
theorem dX9_readsSign_0 : decode cX9_readsSign 0 = .ok (.aload_n 0, 1) := by decide +kernel
theorem dX9_readsSign_1 : decode cX9_readsSign 1 = .ok (.getfield 226, 3) := by decide +kernel
theorem dX9_readsSign_4 : decode cX9_readsSign 4 = .ok (.istore_n 1, 1) := by decide +kernel
theorem dX9_readsSign_5 : decode cX9_readsSign 5 = .ok (.aload_n 0, 1) := by decide +kernel
theorem dX9_readsSign_6 : decode cX9_readsSign 6 = .ok (.getfield 59, 3) := by decide +kernel
theorem dX9_readsSign_9 : decode cX9_readsSign 9 = .ok (.aload_n 0, 1) := by decide +kernel
theorem dX9_readsSign_10 : decode cX9_readsSign 10 = .ok (.getfield 226, 3) := by decide +kernel
theorem dX9_readsSign_13 : decode cX9_readsSign 13 = .ok (.iaload, 1) := by decide +kernel
theorem dX9_readsSign_14 : decode cX9_readsSign 14 = .ok (.bipush 48, 2) := by decide +kernel
theorem dX9_readsSign_16 : decode cX9_readsSign 16 = .ok (.isub, 1) := by decide +kernel
theorem dX9_readsSign_17 : decode cX9_readsSign 17 = .ok (.istore_n 2, 1) := by decide +kernel
theorem dX9_readsSign_18 : decode cX9_readsSign 18 = .ok (.iconst 1, 1) := by decide +kernel
theorem dX9_readsSign_19 : decode cX9_readsSign 19 = .ok (.istore_n 3, 1) := by decide +kernel
theorem dX9_readsSign_20 : decode cX9_readsSign 20 = .ok (.aload_n 0, 1) := by decide +kernel
theorem dX9_readsSign_21 : decode cX9_readsSign 21 = .ok (.invokevirtual 112, 3) := by decide +kernel
theorem dX9_readsSign_24 : decode cX9_readsSign 24 = .ok (.aload_n 0, 1) := by decide +kernel
theorem dX9_readsSign_25 : decode cX9_readsSign 25 = .ok (.getfield 240, 3) := by decide +kernel
theorem dX9_readsSign_28 : decode cX9_readsSign 28 = .ok (.iadd, 1) := by decide +kernel
theorem dX9_readsSign_29 : decode cX9_readsSign 29 = .ok (.bipush 100, 2) := by decide +kernel
theorem dX9_readsSign_31 : decode cX9_readsSign 31 = .ok (.if_icmp .ne 5, 3) := by decide +kernel
theorem dX9_readsSign_34 : decode cX9_readsSign 34 = .ok (.iconst 0, 1) := by decide +kernel
theorem dX9_readsSign_35 : decode cX9_readsSign 35 = .ok (.ireturn, 1) := by decide +kernel
theorem dX9_readsSign_36 : decode cX9_readsSign 36 = .ok (.aload_n 0, 1) := by decide +kernel
theorem dX9_readsSign_37 : decode cX9_readsSign 37 = .ok (.dup, 1) := by decide +kernel
theorem dX9_readsSign_38 : decode cX9_readsSign 38 = .ok (.getfield 226, 3) := by decide +kernel
theorem dX9_readsSign_41 : decode cX9_readsSign 41 = .ok (.iconst 1, 1) := by decide +kernel
theorem dX9_readsSign_42 : decode cX9_readsSign 42 = .ok (.iadd, 1) := by decide +kernel
theorem dX9_readsSign_43 : decode cX9_readsSign 43 = .ok (.putfield 226, 3) := by decide +kernel
theorem dX9_readsSign_46 : decode cX9_readsSign 46 = .ok (.aload_n 0, 1) := by decide +kernel
theorem dX9_readsSign_47 : decode cX9_readsSign 47 = .ok (.invokevirtual 233, 3) := by decide +kernel
theorem dX9_readsSign_50 : decode cX9_readsSign 50 = .ok (.bipush 120, 2) := by decide +kernel
theorem dX9_readsSign_52 : decode cX9_readsSign 52 = .ok (.if_icmp .ne 24, 3) := by decide +kernel
theorem dX9_readsSign_55 : decode cX9_readsSign 55 = .ok (.aload_n 0, 1) := by decide +kernel
theorem dX9_readsSign_56 : decode cX9_readsSign 56 = .ok (.dup, 1) := by decide +kernel
theorem dX9_readsSign_57 : decode cX9_readsSign 57 = .ok (.getfield 226, 3) := by decide +kernel
theorem dX9_readsSign_60 : decode cX9_readsSign 60 = .ok (.iconst 1, 1) := by decide +kernel
theorem dX9_readsSign_61 : decode cX9_readsSign 61 = .ok (.iadd, 1) := by decide +kernel
theorem dX9_readsSign_62 : decode cX9_readsSign 62 = .ok (.putfield 226, 3) := by decide +kernel
theorem dX9_readsSign_65 : decode cX9_readsSign 65 = .ok (.aload_n 0, 1) := by decide +kernel
theorem dX9_readsSign_66 : decode cX9_readsSign 66 = .ok (.invokevirtual 243, 3) := by decide +kernel
theorem dX9_readsSign_69 : decode cX9_readsSign 69 = .ok (.istore_n 3, 1) := by decide +kernel
theorem dX9_readsSign_70 : decode cX9_readsSign 70 = .ok (.iload_n 3, 1) := by decide +kernel
theorem dX9_readsSign_71 : decode cX9_readsSign 71 = .ok (.ifCond .ne 5, 3) := by decide +kernel
theorem dX9_readsSign_74 : decode cX9_readsSign 74 = .ok (.iconst 0, 1) := by decide +kernel
theorem dX9_readsSign_75 : decode cX9_readsSign 75 = .ok (.ireturn, 1) := by decide +kernel
theorem dX9_readsSign_76 : decode cX9_readsSign 76 = .ok (.aload_n 0, 1) := by decide +kernel
theorem dX9_readsSign_77 : decode cX9_readsSign 77 = .ok (.invokevirtual 112, 3) := by decide +kernel
theorem dX9_readsSign_80 : decode cX9_readsSign 80 = .ok (.aload_n 0, 1) := by decide +kernel
theorem dX9_readsSign_81 : decode cX9_readsSign 81 = .ok (.getfield 240, 3) := by decide +kernel
theorem dX9_readsSign_84 : decode cX9_readsSign 84 = .ok (.iadd, 1) := by decide +kernel
theorem dX9_readsSign_85 : decode cX9_readsSign 85 = .ok (.iload_n 3, 1) := by decide +kernel
theorem dX9_readsSign_86 : decode cX9_readsSign 86 = .ok (.iadd, 1) := by decide +kernel
theorem dX9_readsSign_87 : decode cX9_readsSign 87 = .ok (.bipush 100, 2) := by decide +kernel
theorem dX9_readsSign_89 : decode cX9_readsSign 89 = .ok (.if_icmp .le 10, 3) := by decide +kernel
theorem dX9_readsSign_92 : decode cX9_readsSign 92 = .ok (.aload_n 0, 1) := by decide +kernel
theorem dX9_readsSign_93 : decode cX9_readsSign 93 = .ok (.iload_n 1, 1) := by decide +kernel
theorem dX9_readsSign_94 : decode cX9_readsSign 94 = .ok (.putfield 226, 3) := by decide +kernel
theorem dX9_readsSign_97 : decode cX9_readsSign 97 = .ok (.iconst 0, 1) := by decide +kernel
theorem dX9_readsSign_98 : decode cX9_readsSign 98 = .ok (.ireturn, 1) := by decide +kernel
theorem dX9_readsSign_99 : decode cX9_readsSign 99 = .ok (.iconst 0, 1) := by decide +kernel
theorem dX9_readsSign_100 : decode cX9_readsSign 100 = .ok (.istore 4, 2) := by decide +kernel
theorem dX9_readsSign_102 : decode cX9_readsSign 102 = .ok (.iload 4, 2) := by decide +kernel
theorem dX9_readsSign_104 : decode cX9_readsSign 104 = .ok (.iload_n 3, 1) := by decide +kernel
theorem dX9_readsSign_105 : decode cX9_readsSign 105 = .ok (.if_icmp .ge 29, 3) := by decide +kernel
theorem dX9_readsSign_108 : decode cX9_readsSign 108 = .ok (.aload_n 0, 1) := by decide +kernel
theorem dX9_readsSign_109 : decode cX9_readsSign 109 = .ok (.getfield 62, 3) := by decide +kernel
theorem dX9_readsSign_112 : decode cX9_readsSign 112 = .ok (.aload_n 0, 1) := by decide +kernel
theorem dX9_readsSign_113 : decode cX9_readsSign 113 = .ok (.getfield 240, 3) := by decide +kernel
theorem dX9_readsSign_116 : decode cX9_readsSign 116 = .ok (.iload_n 2, 1) := by decide +kernel
theorem dX9_readsSign_117 : decode cX9_readsSign 117 = .ok (.iastore, 1) := by decide +kernel
theorem dX9_readsSign_118 : decode cX9_readsSign 118 = .ok (.aload_n 0, 1) := by decide +kernel
theorem dX9_readsSign_119 : decode cX9_readsSign 119 = .ok (.dup, 1) := by decide +kernel
theorem dX9_readsSign_120 : decode cX9_readsSign 120 = .ok (.getfield 240, 3) := by decide +kernel
theorem dX9_readsSign_123 : decode cX9_readsSign 123 = .ok (.iconst 1, 1) := by decide +kernel
theorem dX9_readsSign_124 : decode cX9_readsSign 124 = .ok (.iadd, 1) := by decide +kernel
theorem dX9_readsSign_125 : decode cX9_readsSign 125 = .ok (.putfield 240, 3) := by decide +kernel
theorem dX9_readsSign_128 : decode cX9_readsSign 128 = .ok (.iinc 4 1, 3) := by decide +kernel
theorem dX9_readsSign_131 : decode cX9_readsSign 131 = .ok (.goto (-29), 3) := by decide +kernel
theorem dX9_readsSign_134 : decode cX9_readsSign 134 = .ok (.iconst 1, 1) := by decide +kernel
theorem dX9_readsSign_135 : decode cX9_readsSign 135 = .ok (.ireturn, 1) := by decide +kernel
theorem dX9_readsMany_0 : decode cX9_readsMany 0 = .ok (.aload_n 0, 1) := by decide +kernel
theorem dX9_readsMany_1 : decode cX9_readsMany 1 = .ok (.getfield 240, 3) := by decide +kernel
theorem dX9_readsMany_4 : decode cX9_readsMany 4 = .ok (.istore_n 1, 1) := by decide +kernel
theorem dX9_readsMany_5 : decode cX9_readsMany 5 = .ok (.aload_n 0, 1) := by decide +kernel
theorem dX9_readsMany_6 : decode cX9_readsMany 6 = .ok (.dup, 1) := by decide +kernel
theorem dX9_readsMany_7 : decode cX9_readsMany 7 = .ok (.getfield 226, 3) := by decide +kernel
theorem dX9_readsMany_10 : decode cX9_readsMany 10 = .ok (.iconst 1, 1) := by decide +kernel
theorem dX9_readsMany_11 : decode cX9_readsMany 11 = .ok (.iadd, 1) := by decide +kernel
theorem dX9_readsMany_12 : decode cX9_readsMany 12 = .ok (.putfield 226, 3) := by decide +kernel
theorem dX9_readsMany_15 : decode cX9_readsMany 15 = .ok (.aload_n 0, 1) := by decide +kernel
theorem dX9_readsMany_16 : decode cX9_readsMany 16 = .ok (.invokevirtual 233, 3) := by decide +kernel
theorem dX9_readsMany_19 : decode cX9_readsMany 19 = .ok (.bipush 41, 2) := by decide +kernel
theorem dX9_readsMany_21 : decode cX9_readsMany 21 = .ok (.if_icmp .eq 43, 3) := by decide +kernel
theorem dX9_readsMany_24 : decode cX9_readsMany 24 = .ok (.aload_n 0, 1) := by decide +kernel
theorem dX9_readsMany_25 : decode cX9_readsMany 25 = .ok (.invokevirtual 233, 3) := by decide +kernel
theorem dX9_readsMany_28 : decode cX9_readsMany 28 = .ok (.bipush 48, 2) := by decide +kernel
theorem dX9_readsMany_30 : decode cX9_readsMany 30 = .ok (.if_icmp .eq 12, 3) := by decide +kernel
theorem dX9_readsMany_33 : decode cX9_readsMany 33 = .ok (.aload_n 0, 1) := by decide +kernel
theorem dX9_readsMany_34 : decode cX9_readsMany 34 = .ok (.invokevirtual 233, 3) := by decide +kernel
theorem dX9_readsMany_37 : decode cX9_readsMany 37 = .ok (.bipush 49, 2) := by decide +kernel
theorem dX9_readsMany_39 : decode cX9_readsMany 39 = .ok (.if_icmp .ne 7, 3) := by decide +kernel
theorem dX9_readsMany_42 : decode cX9_readsMany 42 = .ok (.iconst 1, 1) := by decide +kernel
theorem dX9_readsMany_43 : decode cX9_readsMany 43 = .ok (.goto 4, 3) := by decide +kernel
theorem dX9_readsMany_46 : decode cX9_readsMany 46 = .ok (.iconst 0, 1) := by decide +kernel
theorem dX9_readsMany_47 : decode cX9_readsMany 47 = .ok (.istore_n 2, 1) := by decide +kernel
theorem dX9_readsMany_48 : decode cX9_readsMany 48 = .ok (.iload_n 2, 1) := by decide +kernel
theorem dX9_readsMany_49 : decode cX9_readsMany 49 = .ok (.ifCond .eq 10, 3) := by decide +kernel
theorem dX9_readsMany_52 : decode cX9_readsMany 52 = .ok (.aload_n 0, 1) := by decide +kernel
theorem dX9_readsMany_53 : decode cX9_readsMany 53 = .ok (.invokevirtual 246, 3) := by decide +kernel
theorem dX9_readsMany_56 : decode cX9_readsMany 56 = .ok (.ifCond .ne 5, 3) := by decide +kernel
theorem dX9_readsMany_59 : decode cX9_readsMany 59 = .ok (.iconst 0, 1) := by decide +kernel
theorem dX9_readsMany_60 : decode cX9_readsMany 60 = .ok (.ireturn, 1) := by decide +kernel
theorem dX9_readsMany_61 : decode cX9_readsMany 61 = .ok (.goto (-46), 3) := by decide +kernel
theorem dX9_readsMany_64 : decode cX9_readsMany 64 = .ok (.aload_n 0, 1) := by decide +kernel
theorem dX9_readsMany_65 : decode cX9_readsMany 65 = .ok (.getfield 226, 3) := by decide +kernel
theorem dX9_readsMany_68 : decode cX9_readsMany 68 = .ok (.istore_n 2, 1) := by decide +kernel
theorem dX9_readsMany_69 : decode cX9_readsMany 69 = .ok (.aload_n 0, 1) := by decide +kernel
theorem dX9_readsMany_70 : decode cX9_readsMany 70 = .ok (.getfield 240, 3) := by decide +kernel
theorem dX9_readsMany_73 : decode cX9_readsMany 73 = .ok (.iload_n 1, 1) := by decide +kernel
theorem dX9_readsMany_74 : decode cX9_readsMany 74 = .ok (.isub, 1) := by decide +kernel
theorem dX9_readsMany_75 : decode cX9_readsMany 75 = .ok (.istore_n 3, 1) := by decide +kernel
theorem dX9_readsMany_76 : decode cX9_readsMany 76 = .ok (.iload_n 3, 1) := by decide +kernel
theorem dX9_readsMany_77 : decode cX9_readsMany 77 = .ok (.ifCond .ne 5, 3) := by decide +kernel
theorem dX9_readsMany_80 : decode cX9_readsMany 80 = .ok (.iconst 0, 1) := by decide +kernel
theorem dX9_readsMany_81 : decode cX9_readsMany 81 = .ok (.ireturn, 1) := by decide +kernel
theorem dX9_readsMany_82 : decode cX9_readsMany 82 = .ok (.aload_n 0, 1) := by decide +kernel
theorem dX9_readsMany_83 : decode cX9_readsMany 83 = .ok (.dup, 1) := by decide +kernel
theorem dX9_readsMany_84 : decode cX9_readsMany 84 = .ok (.getfield 226, 3) := by decide +kernel
theorem dX9_readsMany_87 : decode cX9_readsMany 87 = .ok (.iconst 1, 1) := by decide +kernel
theorem dX9_readsMany_88 : decode cX9_readsMany 88 = .ok (.iadd, 1) := by decide +kernel
theorem dX9_readsMany_89 : decode cX9_readsMany 89 = .ok (.putfield 226, 3) := by decide +kernel
theorem dX9_readsMany_92 : decode cX9_readsMany 92 = .ok (.aload_n 0, 1) := by decide +kernel
theorem dX9_readsMany_93 : decode cX9_readsMany 93 = .ok (.invokevirtual 233, 3) := by decide +kernel
theorem dX9_readsMany_96 : decode cX9_readsMany 96 = .ok (.bipush 120, 2) := by decide +kernel
theorem dX9_readsMany_98 : decode cX9_readsMany 98 = .ok (.if_icmp .eq 5, 3) := by decide +kernel
theorem dX9_readsMany_101 : decode cX9_readsMany 101 = .ok (.iconst 0, 1) := by decide +kernel
theorem dX9_readsMany_102 : decode cX9_readsMany 102 = .ok (.ireturn, 1) := by decide +kernel
theorem dX9_readsMany_103 : decode cX9_readsMany 103 = .ok (.aload_n 0, 1) := by decide +kernel
theorem dX9_readsMany_104 : decode cX9_readsMany 104 = .ok (.dup, 1) := by decide +kernel
theorem dX9_readsMany_105 : decode cX9_readsMany 105 = .ok (.getfield 226, 3) := by decide +kernel
theorem dX9_readsMany_108 : decode cX9_readsMany 108 = .ok (.iconst 1, 1) := by decide +kernel
theorem dX9_readsMany_109 : decode cX9_readsMany 109 = .ok (.iadd, 1) := by decide +kernel
theorem dX9_readsMany_110 : decode cX9_readsMany 110 = .ok (.putfield 226, 3) := by decide +kernel
theorem dX9_readsMany_113 : decode cX9_readsMany 113 = .ok (.aload_n 0, 1) := by decide +kernel
theorem dX9_readsMany_114 : decode cX9_readsMany 114 = .ok (.invokevirtual 243, 3) := by decide +kernel
theorem dX9_readsMany_117 : decode cX9_readsMany 117 = .ok (.istore 4, 2) := by decide +kernel
theorem dX9_readsMany_119 : decode cX9_readsMany 119 = .ok (.iload 4, 2) := by decide +kernel
theorem dX9_readsMany_121 : decode cX9_readsMany 121 = .ok (.ifCond .ne 5, 3) := by decide +kernel
theorem dX9_readsMany_124 : decode cX9_readsMany 124 = .ok (.iconst 0, 1) := by decide +kernel
theorem dX9_readsMany_125 : decode cX9_readsMany 125 = .ok (.ireturn, 1) := by decide +kernel
theorem dX9_readsMany_126 : decode cX9_readsMany 126 = .ok (.aload_n 0, 1) := by decide +kernel
theorem dX9_readsMany_127 : decode cX9_readsMany 127 = .ok (.invokevirtual 112, 3) := by decide +kernel
theorem dX9_readsMany_130 : decode cX9_readsMany 130 = .ok (.iload_n 1, 1) := by decide +kernel
theorem dX9_readsMany_131 : decode cX9_readsMany 131 = .ok (.iadd, 1) := by decide +kernel
theorem dX9_readsMany_132 : decode cX9_readsMany 132 = .ok (.iload 4, 2) := by decide +kernel
theorem dX9_readsMany_134 : decode cX9_readsMany 134 = .ok (.iload_n 3, 1) := by decide +kernel
theorem dX9_readsMany_135 : decode cX9_readsMany 135 = .ok (.imul, 1) := by decide +kernel
theorem dX9_readsMany_136 : decode cX9_readsMany 136 = .ok (.iadd, 1) := by decide +kernel
theorem dX9_readsMany_137 : decode cX9_readsMany 137 = .ok (.bipush 100, 2) := by decide +kernel
theorem dX9_readsMany_139 : decode cX9_readsMany 139 = .ok (.if_icmp .le 10, 3) := by decide +kernel
theorem dX9_readsMany_142 : decode cX9_readsMany 142 = .ok (.aload_n 0, 1) := by decide +kernel
theorem dX9_readsMany_143 : decode cX9_readsMany 143 = .ok (.iload_n 2, 1) := by decide +kernel
theorem dX9_readsMany_144 : decode cX9_readsMany 144 = .ok (.putfield 226, 3) := by decide +kernel
theorem dX9_readsMany_147 : decode cX9_readsMany 147 = .ok (.iconst 0, 1) := by decide +kernel
theorem dX9_readsMany_148 : decode cX9_readsMany 148 = .ok (.ireturn, 1) := by decide +kernel
theorem dX9_readsMany_149 : decode cX9_readsMany 149 = .ok (.iload_n 3, 1) := by decide +kernel
theorem dX9_readsMany_150 : decode cX9_readsMany 150 = .ok (.istore 5, 2) := by decide +kernel
theorem dX9_readsMany_152 : decode cX9_readsMany 152 = .ok (.iload 5, 2) := by decide +kernel
theorem dX9_readsMany_154 : decode cX9_readsMany 154 = .ok (.iload 4, 2) := by decide +kernel
theorem dX9_readsMany_156 : decode cX9_readsMany 156 = .ok (.iload_n 3, 1) := by decide +kernel
theorem dX9_readsMany_157 : decode cX9_readsMany 157 = .ok (.imul, 1) := by decide +kernel
theorem dX9_readsMany_158 : decode cX9_readsMany 158 = .ok (.if_icmp .ge 39, 3) := by decide +kernel
theorem dX9_readsMany_161 : decode cX9_readsMany 161 = .ok (.aload_n 0, 1) := by decide +kernel
theorem dX9_readsMany_162 : decode cX9_readsMany 162 = .ok (.getfield 62, 3) := by decide +kernel
theorem dX9_readsMany_165 : decode cX9_readsMany 165 = .ok (.aload_n 0, 1) := by decide +kernel
theorem dX9_readsMany_166 : decode cX9_readsMany 166 = .ok (.getfield 240, 3) := by decide +kernel
theorem dX9_readsMany_169 : decode cX9_readsMany 169 = .ok (.aload_n 0, 1) := by decide +kernel
theorem dX9_readsMany_170 : decode cX9_readsMany 170 = .ok (.getfield 62, 3) := by decide +kernel
theorem dX9_readsMany_173 : decode cX9_readsMany 173 = .ok (.aload_n 0, 1) := by decide +kernel
theorem dX9_readsMany_174 : decode cX9_readsMany 174 = .ok (.getfield 240, 3) := by decide +kernel
theorem dX9_readsMany_177 : decode cX9_readsMany 177 = .ok (.iload_n 3, 1) := by decide +kernel
theorem dX9_readsMany_178 : decode cX9_readsMany 178 = .ok (.isub, 1) := by decide +kernel
theorem dX9_readsMany_179 : decode cX9_readsMany 179 = .ok (.iaload, 1) := by decide +kernel
theorem dX9_readsMany_180 : decode cX9_readsMany 180 = .ok (.iastore, 1) := by decide +kernel
theorem dX9_readsMany_181 : decode cX9_readsMany 181 = .ok (.aload_n 0, 1) := by decide +kernel
theorem dX9_readsMany_182 : decode cX9_readsMany 182 = .ok (.dup, 1) := by decide +kernel
theorem dX9_readsMany_183 : decode cX9_readsMany 183 = .ok (.getfield 240, 3) := by decide +kernel
theorem dX9_readsMany_186 : decode cX9_readsMany 186 = .ok (.iconst 1, 1) := by decide +kernel
theorem dX9_readsMany_187 : decode cX9_readsMany 187 = .ok (.iadd, 1) := by decide +kernel
theorem dX9_readsMany_188 : decode cX9_readsMany 188 = .ok (.putfield 240, 3) := by decide +kernel
theorem dX9_readsMany_191 : decode cX9_readsMany 191 = .ok (.iinc 5 1, 3) := by decide +kernel
theorem dX9_readsMany_194 : decode cX9_readsMany 194 = .ok (.goto (-42), 3) := by decide +kernel
theorem dX9_readsMany_197 : decode cX9_readsMany 197 = .ok (.iconst 1, 1) := by decide +kernel
theorem dX9_readsMany_198 : decode cX9_readsMany 198 = .ok (.ireturn, 1) := by decide +kernel
theorem dX9_told_0 : decode cX9_told 0 = .ok (.aload_n 0, 1) := by decide +kernel
theorem dX9_told_1 : decode cX9_told 1 = .ok (.iconst 0, 1) := by decide +kernel
theorem dX9_told_2 : decode cX9_told 2 = .ok (.putfield 226, 3) := by decide +kernel
theorem dX9_told_5 : decode cX9_told 5 = .ok (.aload_n 0, 1) := by decide +kernel
theorem dX9_told_6 : decode cX9_told 6 = .ok (.iconst 0, 1) := by decide +kernel
theorem dX9_told_7 : decode cX9_told 7 = .ok (.putfield 240, 3) := by decide +kernel
theorem dX9_told_10 : decode cX9_told 10 = .ok (.aload_n 0, 1) := by decide +kernel
theorem dX9_told_11 : decode cX9_told 11 = .ok (.invokevirtual 233, 3) := by decide +kernel
theorem dX9_told_14 : decode cX9_told 14 = .ok (.iconst (-1), 1) := by decide +kernel
theorem dX9_told_15 : decode cX9_told 15 = .ok (.if_icmp .eq 61, 3) := by decide +kernel
theorem dX9_told_18 : decode cX9_told 18 = .ok (.aload_n 0, 1) := by decide +kernel
theorem dX9_told_19 : decode cX9_told 19 = .ok (.invokevirtual 233, 3) := by decide +kernel
theorem dX9_told_22 : decode cX9_told 22 = .ok (.istore_n 1, 1) := by decide +kernel
theorem dX9_told_23 : decode cX9_told 23 = .ok (.iload_n 1, 1) := by decide +kernel
theorem dX9_told_24 : decode cX9_told 24 = .ok (.bipush 40, 2) := by decide +kernel
theorem dX9_told_26 : decode cX9_told 26 = .ok (.if_icmp .ne 10, 3) := by decide +kernel
theorem dX9_told_29 : decode cX9_told 29 = .ok (.aload_n 0, 1) := by decide +kernel
theorem dX9_told_30 : decode cX9_told 30 = .ok (.invokevirtual 250, 3) := by decide +kernel
theorem dX9_told_33 : decode cX9_told 33 = .ok (.goto 27, 3) := by decide +kernel
theorem dX9_told_36 : decode cX9_told 36 = .ok (.iload_n 1, 1) := by decide +kernel
theorem dX9_told_37 : decode cX9_told 37 = .ok (.bipush 48, 2) := by decide +kernel
theorem dX9_told_39 : decode cX9_told 39 = .ok (.if_icmp .eq 9, 3) := by decide +kernel
theorem dX9_told_42 : decode cX9_told 42 = .ok (.iload_n 1, 1) := by decide +kernel
theorem dX9_told_43 : decode cX9_told 43 = .ok (.bipush 49, 2) := by decide +kernel
theorem dX9_told_45 : decode cX9_told 45 = .ok (.if_icmp .ne 14, 3) := by decide +kernel
theorem dX9_told_48 : decode cX9_told 48 = .ok (.aload_n 0, 1) := by decide +kernel
theorem dX9_told_49 : decode cX9_told 49 = .ok (.invokevirtual 246, 3) := by decide +kernel
theorem dX9_told_52 : decode cX9_told 52 = .ok (.ifCond .eq 7, 3) := by decide +kernel
theorem dX9_told_55 : decode cX9_told 55 = .ok (.iconst 1, 1) := by decide +kernel
theorem dX9_told_56 : decode cX9_told 56 = .ok (.goto 4, 3) := by decide +kernel
theorem dX9_told_59 : decode cX9_told 59 = .ok (.iconst 0, 1) := by decide +kernel
theorem dX9_told_60 : decode cX9_told 60 = .ok (.istore_n 2, 1) := by decide +kernel
theorem dX9_told_61 : decode cX9_told 61 = .ok (.iload_n 2, 1) := by decide +kernel
theorem dX9_told_62 : decode cX9_told 62 = .ok (.ifCond .ne 11, 3) := by decide +kernel
theorem dX9_told_65 : decode cX9_told 65 = .ok (.bipush (-10), 2) := by decide +kernel
theorem dX9_told_67 : decode cX9_told 67 = .ok (.aload_n 0, 1) := by decide +kernel
theorem dX9_told_68 : decode cX9_told 68 = .ok (.getfield 226, 3) := by decide +kernel
theorem dX9_told_71 : decode cX9_told 71 = .ok (.isub, 1) := by decide +kernel
theorem dX9_told_72 : decode cX9_told 72 = .ok (.ireturn, 1) := by decide +kernel
theorem dX9_told_73 : decode cX9_told 73 = .ok (.goto (-63), 3) := by decide +kernel
theorem dX9_told_76 : decode cX9_told 76 = .ok (.aload_n 0, 1) := by decide +kernel
theorem dX9_told_77 : decode cX9_told 77 = .ok (.invokevirtual 148, 3) := by decide +kernel
theorem dX9_told_80 : decode cX9_told 80 = .ok (.iconst 0, 1) := by decide +kernel
theorem dX9_told_81 : decode cX9_told 81 = .ok (.istore_n 1, 1) := by decide +kernel
theorem dX9_told_82 : decode cX9_told 82 = .ok (.iload_n 1, 1) := by decide +kernel
theorem dX9_told_83 : decode cX9_told 83 = .ok (.aload_n 0, 1) := by decide +kernel
theorem dX9_told_84 : decode cX9_told 84 = .ok (.getfield 240, 3) := by decide +kernel
theorem dX9_told_87 : decode cX9_told 87 = .ok (.if_icmp .ge 19, 3) := by decide +kernel
theorem dX9_told_90 : decode cX9_told 90 = .ok (.aload_n 0, 1) := by decide +kernel
theorem dX9_told_91 : decode cX9_told 91 = .ok (.aload_n 0, 1) := by decide +kernel
theorem dX9_told_92 : decode cX9_told 92 = .ok (.getfield 62, 3) := by decide +kernel
theorem dX9_told_95 : decode cX9_told 95 = .ok (.iload_n 1, 1) := by decide +kernel
theorem dX9_told_96 : decode cX9_told 96 = .ok (.iaload, 1) := by decide +kernel
theorem dX9_told_97 : decode cX9_told 97 = .ok (.invokevirtual 151, 3) := by decide +kernel
theorem dX9_told_100 : decode cX9_told 100 = .ok (.iinc 1 1, 3) := by decide +kernel
theorem dX9_told_103 : decode cX9_told 103 = .ok (.goto (-21), 3) := by decide +kernel
theorem dX9_told_106 : decode cX9_told 106 = .ok (.aload_n 0, 1) := by decide +kernel
theorem dX9_told_107 : decode cX9_told 107 = .ok (.getfield 240, 3) := by decide +kernel
theorem dX9_told_110 : decode cX9_told 110 = .ok (.ireturn, 1) := by decide +kernel
theorem dX9_back_0 : decode cX9_back 0 = .ok (.aload_n 0, 1) := by decide +kernel
theorem dX9_back_1 : decode cX9_back 1 = .ok (.getfield 65, 3) := by decide +kernel
theorem dX9_back_4 : decode cX9_back 4 = .ok (.ifCond .ne 8, 3) := by decide +kernel
theorem dX9_back_7 : decode cX9_back 7 = .ok (.aload_n 0, 1) := by decide +kernel
theorem dX9_back_8 : decode cX9_back 8 = .ok (.invokevirtual 171, 3) := by decide +kernel
theorem dX9_back_11 : decode cX9_back 11 = .ok (.ireturn, 1) := by decide +kernel
theorem dX9_back_12 : decode cX9_back 12 = .ok (.aload_n 0, 1) := by decide +kernel
theorem dX9_back_13 : decode cX9_back 13 = .ok (.dup, 1) := by decide +kernel
theorem dX9_back_14 : decode cX9_back 14 = .ok (.getfield 65, 3) := by decide +kernel
theorem dX9_back_17 : decode cX9_back 17 = .ok (.iconst 1, 1) := by decide +kernel
theorem dX9_back_18 : decode cX9_back 18 = .ok (.isub, 1) := by decide +kernel
theorem dX9_back_19 : decode cX9_back 19 = .ok (.putfield 65, 3) := by decide +kernel
theorem dX9_back_22 : decode cX9_back 22 = .ok (.iconst 0, 1) := by decide +kernel
theorem dX9_back_23 : decode cX9_back 23 = .ok (.istore_n 1, 1) := by decide +kernel
theorem dX9_back_24 : decode cX9_back 24 = .ok (.iload_n 1, 1) := by decide +kernel
theorem dX9_back_25 : decode cX9_back 25 = .ok (.bipush 103, 2) := by decide +kernel
theorem dX9_back_27 : decode cX9_back 27 = .ok (.if_icmp .ge 29, 3) := by decide +kernel
theorem dX9_back_30 : decode cX9_back 30 = .ok (.aload_n 0, 1) := by decide +kernel
theorem dX9_back_31 : decode cX9_back 31 = .ok (.getfield 7, 3) := by decide +kernel
theorem dX9_back_34 : decode cX9_back 34 = .ok (.iload_n 1, 1) := by decide +kernel
theorem dX9_back_35 : decode cX9_back 35 = .ok (.aload_n 0, 1) := by decide +kernel
theorem dX9_back_36 : decode cX9_back 36 = .ok (.getfield 13, 3) := by decide +kernel
theorem dX9_back_39 : decode cX9_back 39 = .ok (.bipush 103, 2) := by decide +kernel
theorem dX9_back_41 : decode cX9_back 41 = .ok (.aload_n 0, 1) := by decide +kernel
theorem dX9_back_42 : decode cX9_back 42 = .ok (.getfield 65, 3) := by decide +kernel
theorem dX9_back_45 : decode cX9_back 45 = .ok (.imul, 1) := by decide +kernel
theorem dX9_back_46 : decode cX9_back 46 = .ok (.iload_n 1, 1) := by decide +kernel
theorem dX9_back_47 : decode cX9_back 47 = .ok (.iadd, 1) := by decide +kernel
theorem dX9_back_48 : decode cX9_back 48 = .ok (.iaload, 1) := by decide +kernel
theorem dX9_back_49 : decode cX9_back 49 = .ok (.iastore, 1) := by decide +kernel
theorem dX9_back_50 : decode cX9_back 50 = .ok (.iinc 1 1, 3) := by decide +kernel
theorem dX9_back_53 : decode cX9_back 53 = .ok (.goto (-29), 3) := by decide +kernel
theorem dX9_back_56 : decode cX9_back 56 = .ok (.aload_n 0, 1) := by decide +kernel
theorem dX9_back_57 : decode cX9_back 57 = .ok (.getfield 65, 3) := by decide +kernel
theorem dX9_back_60 : decode cX9_back 60 = .ok (.ireturn, 1) := by decide +kernel
theorem dX9_counted_0 : decode cX9_counted 0 = .ok (.iload_n 1, 1) := by decide +kernel
theorem dX9_counted_1 : decode cX9_counted 1 = .ok (.tableswitch 60 3 7 #[35, 40, 45, 50, 55], 35) := by decide +kernel
theorem dX9_counted_36 : decode cX9_counted 36 = .ok (.aload_n 0, 1) := by decide +kernel
theorem dX9_counted_37 : decode cX9_counted 37 = .ok (.getfield 223, 3) := by decide +kernel
theorem dX9_counted_40 : decode cX9_counted 40 = .ok (.ireturn, 1) := by decide +kernel
theorem dX9_counted_41 : decode cX9_counted 41 = .ok (.aload_n 0, 1) := by decide +kernel
theorem dX9_counted_42 : decode cX9_counted 42 = .ok (.invokevirtual 112, 3) := by decide +kernel
theorem dX9_counted_45 : decode cX9_counted 45 = .ok (.ireturn, 1) := by decide +kernel
theorem dX9_counted_46 : decode cX9_counted 46 = .ok (.aload_n 0, 1) := by decide +kernel
theorem dX9_counted_47 : decode cX9_counted 47 = .ok (.invokevirtual 123, 3) := by decide +kernel
theorem dX9_counted_50 : decode cX9_counted 50 = .ok (.ireturn, 1) := by decide +kernel
theorem dX9_counted_51 : decode cX9_counted 51 = .ok (.aload_n 0, 1) := by decide +kernel
theorem dX9_counted_52 : decode cX9_counted 52 = .ok (.invokevirtual 126, 3) := by decide +kernel
theorem dX9_counted_55 : decode cX9_counted 55 = .ok (.ireturn, 1) := by decide +kernel
theorem dX9_counted_56 : decode cX9_counted 56 = .ok (.aload_n 0, 1) := by decide +kernel
theorem dX9_counted_57 : decode cX9_counted 57 = .ok (.getfield 65, 3) := by decide +kernel
theorem dX9_counted_60 : decode cX9_counted 60 = .ok (.ireturn, 1) := by decide +kernel
theorem dX9_counted_61 : decode cX9_counted 61 = .ok (.aload_n 0, 1) := by decide +kernel
theorem dX9_counted_62 : decode cX9_counted 62 = .ok (.getfield 16, 3) := by decide +kernel
theorem dX9_counted_65 : decode cX9_counted 65 = .ok (.iload_n 1, 1) := by decide +kernel
theorem dX9_counted_66 : decode cX9_counted 66 = .ok (.iaload, 1) := by decide +kernel
theorem dX9_counted_67 : decode cX9_counted 67 = .ok (.ireturn, 1) := by decide +kernel
theorem dX9_count_0 : decode cX9_count 0 = .ok (.iload_n 1, 1) := by decide +kernel
theorem dX9_count_1 : decode cX9_count 1 = .ok (.i2l, 1) := by decide +kernel
theorem dX9_count_2 : decode cX9_count 2 = .ok (.lconst 0, 1) := by decide +kernel
theorem dX9_count_3 : decode cX9_count 3 = .ok (.ldc2_w 253, 3) := by decide +kernel
theorem dX9_count_6 : decode cX9_count 6 = .ok (.invokestatic 138, 3) := by decide +kernel
theorem dX9_count_9 : decode cX9_count 9 = .ok (.ifCond .eq 11, 3) := by decide +kernel
theorem dX9_count_12 : decode cX9_count 12 = .ok (.aload_n 0, 1) := by decide +kernel
theorem dX9_count_13 : decode cX9_count 13 = .ok (.iload_n 1, 1) := by decide +kernel
theorem dX9_count_14 : decode cX9_count 14 = .ok (.invokevirtual 255, 3) := by decide +kernel
theorem dX9_count_17 : decode cX9_count 17 = .ok (.goto 9, 3) := by decide +kernel
theorem dX9_count_20 : decode cX9_count 20 = .ok (.aload_n 0, 1) := by decide +kernel
theorem dX9_count_21 : decode cX9_count 21 = .ok (.bipush (-2), 2) := by decide +kernel
theorem dX9_count_23 : decode cX9_count 23 = .ok (.invokevirtual 142, 3) := by decide +kernel
theorem dX9_count_26 : decode cX9_count 26 = .ok (.ireturn, 1) := by decide +kernel
theorem dX9_digest_0 : decode cX9_digest 0 = .ok (.ldc2_w 258, 3) := by decide +kernel
theorem dX9_digest_3 : decode cX9_digest 3 = .ok (.lstore_n 1, 1) := by decide +kernel
theorem dX9_digest_4 : decode cX9_digest 4 = .ok (.iconst 0, 1) := by decide +kernel
theorem dX9_digest_5 : decode cX9_digest 5 = .ok (.istore_n 3, 1) := by decide +kernel
theorem dX9_digest_6 : decode cX9_digest 6 = .ok (.iload_n 3, 1) := by decide +kernel
theorem dX9_digest_7 : decode cX9_digest 7 = .ok (.bipush 8, 2) := by decide +kernel
theorem dX9_digest_9 : decode cX9_digest 9 = .ok (.if_icmp .ge 22, 3) := by decide +kernel
theorem dX9_digest_12 : decode cX9_digest 12 = .ok (.ldc2_w 260, 3) := by decide +kernel
theorem dX9_digest_15 : decode cX9_digest 15 = .ok (.lload_n 1, 1) := by decide +kernel
theorem dX9_digest_16 : decode cX9_digest 16 = .ok (.lmul, 1) := by decide +kernel
theorem dX9_digest_17 : decode cX9_digest 17 = .ok (.aload_n 0, 1) := by decide +kernel
theorem dX9_digest_18 : decode cX9_digest 18 = .ok (.iload_n 3, 1) := by decide +kernel
theorem dX9_digest_19 : decode cX9_digest 19 = .ok (.invokevirtual 255, 3) := by decide +kernel
theorem dX9_digest_22 : decode cX9_digest 22 = .ok (.i2l, 1) := by decide +kernel
theorem dX9_digest_23 : decode cX9_digest 23 = .ok (.ladd, 1) := by decide +kernel
theorem dX9_digest_24 : decode cX9_digest 24 = .ok (.lstore_n 1, 1) := by decide +kernel
theorem dX9_digest_25 : decode cX9_digest 25 = .ok (.iinc 3 1, 3) := by decide +kernel
theorem dX9_digest_28 : decode cX9_digest 28 = .ok (.goto (-22), 3) := by decide +kernel
theorem dX9_digest_31 : decode cX9_digest 31 = .ok (.iconst 0, 1) := by decide +kernel
theorem dX9_digest_32 : decode cX9_digest 32 = .ok (.istore_n 3, 1) := by decide +kernel
theorem dX9_digest_33 : decode cX9_digest 33 = .ok (.iload_n 3, 1) := by decide +kernel
theorem dX9_digest_34 : decode cX9_digest 34 = .ok (.aload_n 0, 1) := by decide +kernel
theorem dX9_digest_35 : decode cX9_digest 35 = .ok (.invokevirtual 112, 3) := by decide +kernel
theorem dX9_digest_38 : decode cX9_digest 38 = .ok (.if_icmp .ge 23, 3) := by decide +kernel
theorem dX9_digest_41 : decode cX9_digest 41 = .ok (.ldc2_w 260, 3) := by decide +kernel
theorem dX9_digest_44 : decode cX9_digest 44 = .ok (.lload_n 1, 1) := by decide +kernel
theorem dX9_digest_45 : decode cX9_digest 45 = .ok (.lmul, 1) := by decide +kernel
theorem dX9_digest_46 : decode cX9_digest 46 = .ok (.aload_n 0, 1) := by decide +kernel
theorem dX9_digest_47 : decode cX9_digest 47 = .ok (.getfield 7, 3) := by decide +kernel
theorem dX9_digest_50 : decode cX9_digest 50 = .ok (.iload_n 3, 1) := by decide +kernel
theorem dX9_digest_51 : decode cX9_digest 51 = .ok (.iaload, 1) := by decide +kernel
theorem dX9_digest_52 : decode cX9_digest 52 = .ok (.i2l, 1) := by decide +kernel
theorem dX9_digest_53 : decode cX9_digest 53 = .ok (.ladd, 1) := by decide +kernel
theorem dX9_digest_54 : decode cX9_digest 54 = .ok (.lstore_n 1, 1) := by decide +kernel
theorem dX9_digest_55 : decode cX9_digest 55 = .ok (.iinc 3 1, 3) := by decide +kernel
theorem dX9_digest_58 : decode cX9_digest 58 = .ok (.goto (-25), 3) := by decide +kernel
theorem dX9_digest_61 : decode cX9_digest 61 = .ok (.ldc2_w 260, 3) := by decide +kernel
theorem dX9_digest_64 : decode cX9_digest 64 = .ok (.lload_n 1, 1) := by decide +kernel
theorem dX9_digest_65 : decode cX9_digest 65 = .ok (.lmul, 1) := by decide +kernel
theorem dX9_digest_66 : decode cX9_digest 66 = .ok (.aload_n 0, 1) := by decide +kernel
theorem dX9_digest_67 : decode cX9_digest 67 = .ok (.invokevirtual 174, 3) := by decide +kernel
theorem dX9_digest_70 : decode cX9_digest 70 = .ok (.i2l, 1) := by decide +kernel
theorem dX9_digest_71 : decode cX9_digest 71 = .ok (.ladd, 1) := by decide +kernel
theorem dX9_digest_72 : decode cX9_digest 72 = .ok (.lstore_n 1, 1) := by decide +kernel
theorem dX9_digest_73 : decode cX9_digest 73 = .ok (.ldc2_w 260, 3) := by decide +kernel
theorem dX9_digest_76 : decode cX9_digest 76 = .ok (.lload_n 1, 1) := by decide +kernel
theorem dX9_digest_77 : decode cX9_digest 77 = .ok (.lmul, 1) := by decide +kernel
theorem dX9_digest_78 : decode cX9_digest 78 = .ok (.aload_n 0, 1) := by decide +kernel
theorem dX9_digest_79 : decode cX9_digest 79 = .ok (.invokevirtual 132, 3) := by decide +kernel
theorem dX9_digest_82 : decode cX9_digest 82 = .ok (.i2l, 1) := by decide +kernel
theorem dX9_digest_83 : decode cX9_digest 83 = .ok (.ladd, 1) := by decide +kernel
theorem dX9_digest_84 : decode cX9_digest 84 = .ok (.lstore_n 1, 1) := by decide +kernel
theorem dX9_digest_85 : decode cX9_digest 85 = .ok (.ldc2_w 260, 3) := by decide +kernel
theorem dX9_digest_88 : decode cX9_digest 88 = .ok (.lload_n 1, 1) := by decide +kernel
theorem dX9_digest_89 : decode cX9_digest 89 = .ok (.lmul, 1) := by decide +kernel
theorem dX9_digest_90 : decode cX9_digest 90 = .ok (.aload_n 0, 1) := by decide +kernel
theorem dX9_digest_91 : decode cX9_digest 91 = .ok (.iconst 0, 1) := by decide +kernel
theorem dX9_digest_92 : decode cX9_digest 92 = .ok (.invokevirtual 192, 3) := by decide +kernel
theorem dX9_digest_95 : decode cX9_digest 95 = .ok (.i2l, 1) := by decide +kernel
theorem dX9_digest_96 : decode cX9_digest 96 = .ok (.ladd, 1) := by decide +kernel
theorem dX9_digest_97 : decode cX9_digest 97 = .ok (.lstore_n 1, 1) := by decide +kernel
theorem dX9_digest_98 : decode cX9_digest 98 = .ok (.aload_n 0, 1) := by decide +kernel
theorem dX9_digest_99 : decode cX9_digest 99 = .ok (.invokevirtual 213, 3) := by decide +kernel
theorem dX9_digest_102 : decode cX9_digest 102 = .ok (.iconst 0, 1) := by decide +kernel
theorem dX9_digest_103 : decode cX9_digest 103 = .ok (.istore_n 3, 1) := by decide +kernel
theorem dX9_digest_104 : decode cX9_digest 104 = .ok (.iload_n 3, 1) := by decide +kernel
theorem dX9_digest_105 : decode cX9_digest 105 = .ok (.aload_n 0, 1) := by decide +kernel
theorem dX9_digest_106 : decode cX9_digest 106 = .ok (.getfield 203, 3) := by decide +kernel
theorem dX9_digest_109 : decode cX9_digest 109 = .ok (.if_icmp .ge 23, 3) := by decide +kernel
theorem dX9_digest_112 : decode cX9_digest 112 = .ok (.ldc2_w 260, 3) := by decide +kernel
theorem dX9_digest_115 : decode cX9_digest 115 = .ok (.lload_n 1, 1) := by decide +kernel
theorem dX9_digest_116 : decode cX9_digest 116 = .ok (.lmul, 1) := by decide +kernel
theorem dX9_digest_117 : decode cX9_digest 117 = .ok (.aload_n 0, 1) := by decide +kernel
theorem dX9_digest_118 : decode cX9_digest 118 = .ok (.getfield 56, 3) := by decide +kernel
theorem dX9_digest_121 : decode cX9_digest 121 = .ok (.iload_n 3, 1) := by decide +kernel
theorem dX9_digest_122 : decode cX9_digest 122 = .ok (.iaload, 1) := by decide +kernel
theorem dX9_digest_123 : decode cX9_digest 123 = .ok (.i2l, 1) := by decide +kernel
theorem dX9_digest_124 : decode cX9_digest 124 = .ok (.ladd, 1) := by decide +kernel
theorem dX9_digest_125 : decode cX9_digest 125 = .ok (.lstore_n 1, 1) := by decide +kernel
theorem dX9_digest_126 : decode cX9_digest 126 = .ok (.iinc 3 1, 3) := by decide +kernel
theorem dX9_digest_129 : decode cX9_digest 129 = .ok (.goto (-25), 3) := by decide +kernel
theorem dX9_digest_132 : decode cX9_digest 132 = .ok (.lload_n 1, 1) := by decide +kernel
theorem dX9_digest_133 : decode cX9_digest 133 = .ok (.lreturn, 1) := by decide +kernel
theorem dJ9_max_7cf53_0 : decode cJ9_max_7cf53 0 = .ok (.iload_n 0, 1) := by decide +kernel
theorem dJ9_max_7cf53_1 : decode cJ9_max_7cf53 1 = .ok (.iload_n 1, 1) := by decide +kernel
theorem dJ9_max_7cf53_2 : decode cJ9_max_7cf53 2 = .ok (.if_icmp .lt 7, 3) := by decide +kernel
theorem dJ9_max_7cf53_5 : decode cJ9_max_7cf53 5 = .ok (.iload_n 0, 1) := by decide +kernel
theorem dJ9_max_7cf53_6 : decode cJ9_max_7cf53 6 = .ok (.goto 4, 3) := by decide +kernel
theorem dJ9_max_7cf53_9 : decode cJ9_max_7cf53 9 = .ok (.iload_n 1, 1) := by decide +kernel
theorem dJ9_max_7cf53_10 : decode cJ9_max_7cf53 10 = .ok (.ireturn, 1) := by decide +kernel
theorem dJ9_min_7cf53_0 : decode cJ9_min_7cf53 0 = .ok (.iload_n 0, 1) := by decide +kernel
theorem dJ9_min_7cf53_1 : decode cJ9_min_7cf53 1 = .ok (.iload_n 1, 1) := by decide +kernel
theorem dJ9_min_7cf53_2 : decode cJ9_min_7cf53 2 = .ok (.if_icmp .gt 7, 3) := by decide +kernel
theorem dJ9_min_7cf53_5 : decode cJ9_min_7cf53 5 = .ok (.iload_n 0, 1) := by decide +kernel
theorem dJ9_min_7cf53_6 : decode cJ9_min_7cf53 6 = .ok (.goto 4, 3) := by decide +kernel
theorem dJ9_min_7cf53_9 : decode cJ9_min_7cf53 9 = .ok (.iload_n 1, 1) := by decide +kernel
theorem dJ9_min_7cf53_10 : decode cJ9_min_7cf53 10 = .ok (.ireturn, 1) := by decide +kernel
theorem dL_law_0 : decode cL_law 0 = .ok (.new 7, 3) := by decide +kernel
theorem dL_law_3 : decode cL_law 3 = .ok (.dup, 1) := by decide +kernel
theorem dL_law_4 : decode cL_law 4 = .ok (.invokespecial 9, 3) := by decide +kernel
theorem dL_law_7 : decode cL_law 7 = .ok (.astore_n 1, 1) := by decide +kernel
theorem dL_law_8 : decode cL_law 8 = .ok (.new 10, 3) := by decide +kernel
theorem dL_law_11 : decode cL_law 11 = .ok (.dup, 1) := by decide +kernel
theorem dL_law_12 : decode cL_law 12 = .ok (.invokespecial 12, 3) := by decide +kernel
theorem dL_law_15 : decode cL_law 15 = .ok (.astore_n 2, 1) := by decide +kernel
theorem dL_law_16 : decode cL_law 16 = .ok (.iconst 0, 1) := by decide +kernel
theorem dL_law_17 : decode cL_law 17 = .ok (.istore_n 3, 1) := by decide +kernel
theorem dL_law_18 : decode cL_law 18 = .ok (.iload_n 3, 1) := by decide +kernel
theorem dL_law_19 : decode cL_law 19 = .ok (.aload_n 0, 1) := by decide +kernel
theorem dL_law_20 : decode cL_law 20 = .ok (.arraylength, 1) := by decide +kernel
theorem dL_law_21 : decode cL_law 21 = .ok (.iconst 4, 1) := by decide +kernel
theorem dL_law_22 : decode cL_law 22 = .ok (.isub, 1) := by decide +kernel
theorem dL_law_23 : decode cL_law 23 = .ok (.if_icmp .gt 730, 3) := by decide +kernel
theorem dL_law_26 : decode cL_law 26 = .ok (.aload_n 0, 1) := by decide +kernel
theorem dL_law_27 : decode cL_law 27 = .ok (.iload_n 3, 1) := by decide +kernel
theorem dL_law_28 : decode cL_law 28 = .ok (.iaload, 1) := by decide +kernel
theorem dL_law_29 : decode cL_law 29 = .ok (.bipush 31, 2) := by decide +kernel
theorem dL_law_31 : decode cL_law 31 = .ok (.iand, 1) := by decide +kernel
theorem dL_law_32 : decode cL_law 32 = .ok (.tableswitch 715 0 23 #[112, 135, 198, 241, 274, 287, 300, 323, 336, 369, 412, 425, 458, 481, 504, 527, 560, 583, 616, 639, 652, 665, 678, 701], 112) := by decide +kernel
theorem dL_law_144 : decode cL_law 144 = .ok (.aload_n 1, 1) := by decide +kernel
theorem dL_law_145 : decode cL_law 145 = .ok (.aload_n 0, 1) := by decide +kernel
theorem dL_law_146 : decode cL_law 146 = .ok (.iload_n 3, 1) := by decide +kernel
theorem dL_law_147 : decode cL_law 147 = .ok (.iconst 1, 1) := by decide +kernel
theorem dL_law_148 : decode cL_law 148 = .ok (.iadd, 1) := by decide +kernel
theorem dL_law_149 : decode cL_law 149 = .ok (.iaload, 1) := by decide +kernel
theorem dL_law_150 : decode cL_law 150 = .ok (.invokevirtual 13, 3) := by decide +kernel
theorem dL_law_153 : decode cL_law 153 = .ok (.aload_n 2, 1) := by decide +kernel
theorem dL_law_154 : decode cL_law 154 = .ok (.aload_n 0, 1) := by decide +kernel
theorem dL_law_155 : decode cL_law 155 = .ok (.iload_n 3, 1) := by decide +kernel
theorem dL_law_156 : decode cL_law 156 = .ok (.iconst 1, 1) := by decide +kernel
theorem dL_law_157 : decode cL_law 157 = .ok (.iadd, 1) := by decide +kernel
theorem dL_law_158 : decode cL_law 158 = .ok (.iaload, 1) := by decide +kernel
theorem dL_law_159 : decode cL_law 159 = .ok (.invokevirtual 17, 3) := by decide +kernel
theorem dL_law_162 : decode cL_law 162 = .ok (.if_icmp .eq 585, 3) := by decide +kernel
theorem dL_law_165 : decode cL_law 165 = .ok (.iconst 0, 1) := by decide +kernel
theorem dL_law_166 : decode cL_law 166 = .ok (.ireturn, 1) := by decide +kernel
theorem dL_law_167 : decode cL_law 167 = .ok (.aload_n 1, 1) := by decide +kernel
theorem dL_law_168 : decode cL_law 168 = .ok (.aload_n 0, 1) := by decide +kernel
theorem dL_law_169 : decode cL_law 169 = .ok (.iload_n 3, 1) := by decide +kernel
theorem dL_law_170 : decode cL_law 170 = .ok (.iconst 1, 1) := by decide +kernel
theorem dL_law_171 : decode cL_law 171 = .ok (.iadd, 1) := by decide +kernel
theorem dL_law_172 : decode cL_law 172 = .ok (.iaload, 1) := by decide +kernel
theorem dL_law_173 : decode cL_law 173 = .ok (.i2l, 1) := by decide +kernel
theorem dL_law_174 : decode cL_law 174 = .ok (.bipush 32, 2) := by decide +kernel
theorem dL_law_176 : decode cL_law 176 = .ok (.lshl, 1) := by decide +kernel
theorem dL_law_177 : decode cL_law 177 = .ok (.aload_n 0, 1) := by decide +kernel
theorem dL_law_178 : decode cL_law 178 = .ok (.iload_n 3, 1) := by decide +kernel
theorem dL_law_179 : decode cL_law 179 = .ok (.iconst 2, 1) := by decide +kernel
theorem dL_law_180 : decode cL_law 180 = .ok (.iadd, 1) := by decide +kernel
theorem dL_law_181 : decode cL_law 181 = .ok (.iaload, 1) := by decide +kernel
theorem dL_law_182 : decode cL_law 182 = .ok (.i2l, 1) := by decide +kernel
theorem dL_law_183 : decode cL_law 183 = .ok (.ldc2_w 18, 3) := by decide +kernel
theorem dL_law_186 : decode cL_law 186 = .ok (.land, 1) := by decide +kernel
theorem dL_law_187 : decode cL_law 187 = .ok (.lor, 1) := by decide +kernel
theorem dL_law_188 : decode cL_law 188 = .ok (.aload_n 0, 1) := by decide +kernel
theorem dL_law_189 : decode cL_law 189 = .ok (.iload_n 3, 1) := by decide +kernel
theorem dL_law_190 : decode cL_law 190 = .ok (.iconst 3, 1) := by decide +kernel
theorem dL_law_191 : decode cL_law 191 = .ok (.iadd, 1) := by decide +kernel
theorem dL_law_192 : decode cL_law 192 = .ok (.iaload, 1) := by decide +kernel
theorem dL_law_193 : decode cL_law 193 = .ok (.invokevirtual 20, 3) := by decide +kernel
theorem dL_law_196 : decode cL_law 196 = .ok (.aload_n 2, 1) := by decide +kernel
theorem dL_law_197 : decode cL_law 197 = .ok (.aload_n 0, 1) := by decide +kernel
theorem dL_law_198 : decode cL_law 198 = .ok (.iload_n 3, 1) := by decide +kernel
theorem dL_law_199 : decode cL_law 199 = .ok (.iconst 1, 1) := by decide +kernel
theorem dL_law_200 : decode cL_law 200 = .ok (.iadd, 1) := by decide +kernel
theorem dL_law_201 : decode cL_law 201 = .ok (.iaload, 1) := by decide +kernel
theorem dL_law_202 : decode cL_law 202 = .ok (.i2l, 1) := by decide +kernel
theorem dL_law_203 : decode cL_law 203 = .ok (.bipush 32, 2) := by decide +kernel
theorem dL_law_205 : decode cL_law 205 = .ok (.lshl, 1) := by decide +kernel
theorem dL_law_206 : decode cL_law 206 = .ok (.aload_n 0, 1) := by decide +kernel
theorem dL_law_207 : decode cL_law 207 = .ok (.iload_n 3, 1) := by decide +kernel
theorem dL_law_208 : decode cL_law 208 = .ok (.iconst 2, 1) := by decide +kernel
theorem dL_law_209 : decode cL_law 209 = .ok (.iadd, 1) := by decide +kernel
theorem dL_law_210 : decode cL_law 210 = .ok (.iaload, 1) := by decide +kernel
theorem dL_law_211 : decode cL_law 211 = .ok (.i2l, 1) := by decide +kernel
theorem dL_law_212 : decode cL_law 212 = .ok (.ldc2_w 18, 3) := by decide +kernel
theorem dL_law_215 : decode cL_law 215 = .ok (.land, 1) := by decide +kernel
theorem dL_law_216 : decode cL_law 216 = .ok (.lor, 1) := by decide +kernel
theorem dL_law_217 : decode cL_law 217 = .ok (.aload_n 0, 1) := by decide +kernel
theorem dL_law_218 : decode cL_law 218 = .ok (.iload_n 3, 1) := by decide +kernel
theorem dL_law_219 : decode cL_law 219 = .ok (.iconst 3, 1) := by decide +kernel
theorem dL_law_220 : decode cL_law 220 = .ok (.iadd, 1) := by decide +kernel
theorem dL_law_221 : decode cL_law 221 = .ok (.iaload, 1) := by decide +kernel
theorem dL_law_222 : decode cL_law 222 = .ok (.invokevirtual 24, 3) := by decide +kernel
theorem dL_law_225 : decode cL_law 225 = .ok (.if_icmp .eq 522, 3) := by decide +kernel
theorem dL_law_228 : decode cL_law 228 = .ok (.iconst 0, 1) := by decide +kernel
theorem dL_law_229 : decode cL_law 229 = .ok (.ireturn, 1) := by decide +kernel
theorem dL_law_230 : decode cL_law 230 = .ok (.aload_n 1, 1) := by decide +kernel
theorem dL_law_231 : decode cL_law 231 = .ok (.aload_n 0, 1) := by decide +kernel
theorem dL_law_232 : decode cL_law 232 = .ok (.iload_n 3, 1) := by decide +kernel
theorem dL_law_233 : decode cL_law 233 = .ok (.iconst 1, 1) := by decide +kernel
theorem dL_law_234 : decode cL_law 234 = .ok (.iadd, 1) := by decide +kernel
theorem dL_law_235 : decode cL_law 235 = .ok (.iaload, 1) := by decide +kernel
theorem dL_law_236 : decode cL_law 236 = .ok (.aload_n 0, 1) := by decide +kernel
theorem dL_law_237 : decode cL_law 237 = .ok (.iload_n 3, 1) := by decide +kernel
theorem dL_law_238 : decode cL_law 238 = .ok (.iconst 2, 1) := by decide +kernel
theorem dL_law_239 : decode cL_law 239 = .ok (.iadd, 1) := by decide +kernel
theorem dL_law_240 : decode cL_law 240 = .ok (.iaload, 1) := by decide +kernel
theorem dL_law_241 : decode cL_law 241 = .ok (.aload_n 0, 1) := by decide +kernel
theorem dL_law_242 : decode cL_law 242 = .ok (.iload_n 3, 1) := by decide +kernel
theorem dL_law_243 : decode cL_law 243 = .ok (.iconst 3, 1) := by decide +kernel
theorem dL_law_244 : decode cL_law 244 = .ok (.iadd, 1) := by decide +kernel
theorem dL_law_245 : decode cL_law 245 = .ok (.iaload, 1) := by decide +kernel
theorem dL_law_246 : decode cL_law 246 = .ok (.invokevirtual 25, 3) := by decide +kernel
theorem dL_law_249 : decode cL_law 249 = .ok (.aload_n 2, 1) := by decide +kernel
theorem dL_law_250 : decode cL_law 250 = .ok (.aload_n 0, 1) := by decide +kernel
theorem dL_law_251 : decode cL_law 251 = .ok (.iload_n 3, 1) := by decide +kernel
theorem dL_law_252 : decode cL_law 252 = .ok (.iconst 1, 1) := by decide +kernel
theorem dL_law_253 : decode cL_law 253 = .ok (.iadd, 1) := by decide +kernel
theorem dL_law_254 : decode cL_law 254 = .ok (.iaload, 1) := by decide +kernel
theorem dL_law_255 : decode cL_law 255 = .ok (.aload_n 0, 1) := by decide +kernel
theorem dL_law_256 : decode cL_law 256 = .ok (.iload_n 3, 1) := by decide +kernel
theorem dL_law_257 : decode cL_law 257 = .ok (.iconst 2, 1) := by decide +kernel
theorem dL_law_258 : decode cL_law 258 = .ok (.iadd, 1) := by decide +kernel
theorem dL_law_259 : decode cL_law 259 = .ok (.iaload, 1) := by decide +kernel
theorem dL_law_260 : decode cL_law 260 = .ok (.aload_n 0, 1) := by decide +kernel
theorem dL_law_261 : decode cL_law 261 = .ok (.iload_n 3, 1) := by decide +kernel
theorem dL_law_262 : decode cL_law 262 = .ok (.iconst 3, 1) := by decide +kernel
theorem dL_law_263 : decode cL_law 263 = .ok (.iadd, 1) := by decide +kernel
theorem dL_law_264 : decode cL_law 264 = .ok (.iaload, 1) := by decide +kernel
theorem dL_law_265 : decode cL_law 265 = .ok (.invokevirtual 29, 3) := by decide +kernel
theorem dL_law_268 : decode cL_law 268 = .ok (.if_icmp .eq 479, 3) := by decide +kernel
theorem dL_law_271 : decode cL_law 271 = .ok (.iconst 0, 1) := by decide +kernel
theorem dL_law_272 : decode cL_law 272 = .ok (.ireturn, 1) := by decide +kernel
theorem dL_law_273 : decode cL_law 273 = .ok (.aload_n 1, 1) := by decide +kernel
theorem dL_law_274 : decode cL_law 274 = .ok (.aload_n 0, 1) := by decide +kernel
theorem dL_law_275 : decode cL_law 275 = .ok (.iload_n 3, 1) := by decide +kernel
theorem dL_law_276 : decode cL_law 276 = .ok (.iconst 1, 1) := by decide +kernel
theorem dL_law_277 : decode cL_law 277 = .ok (.iadd, 1) := by decide +kernel
theorem dL_law_278 : decode cL_law 278 = .ok (.iaload, 1) := by decide +kernel
theorem dL_law_279 : decode cL_law 279 = .ok (.aload_n 0, 1) := by decide +kernel
theorem dL_law_280 : decode cL_law 280 = .ok (.iload_n 3, 1) := by decide +kernel
theorem dL_law_281 : decode cL_law 281 = .ok (.iconst 2, 1) := by decide +kernel
theorem dL_law_282 : decode cL_law 282 = .ok (.iadd, 1) := by decide +kernel
theorem dL_law_283 : decode cL_law 283 = .ok (.iaload, 1) := by decide +kernel
theorem dL_law_284 : decode cL_law 284 = .ok (.invokevirtual 30, 3) := by decide +kernel
theorem dL_law_287 : decode cL_law 287 = .ok (.aload_n 2, 1) := by decide +kernel
theorem dL_law_288 : decode cL_law 288 = .ok (.aload_n 0, 1) := by decide +kernel
theorem dL_law_289 : decode cL_law 289 = .ok (.iload_n 3, 1) := by decide +kernel
theorem dL_law_290 : decode cL_law 290 = .ok (.iconst 1, 1) := by decide +kernel
theorem dL_law_291 : decode cL_law 291 = .ok (.iadd, 1) := by decide +kernel
theorem dL_law_292 : decode cL_law 292 = .ok (.iaload, 1) := by decide +kernel
theorem dL_law_293 : decode cL_law 293 = .ok (.aload_n 0, 1) := by decide +kernel
theorem dL_law_294 : decode cL_law 294 = .ok (.iload_n 3, 1) := by decide +kernel
theorem dL_law_295 : decode cL_law 295 = .ok (.iconst 2, 1) := by decide +kernel
theorem dL_law_296 : decode cL_law 296 = .ok (.iadd, 1) := by decide +kernel
theorem dL_law_297 : decode cL_law 297 = .ok (.iaload, 1) := by decide +kernel
theorem dL_law_298 : decode cL_law 298 = .ok (.invokevirtual 34, 3) := by decide +kernel
theorem dL_law_301 : decode cL_law 301 = .ok (.if_icmp .eq 446, 3) := by decide +kernel
theorem dL_law_304 : decode cL_law 304 = .ok (.iconst 0, 1) := by decide +kernel
theorem dL_law_305 : decode cL_law 305 = .ok (.ireturn, 1) := by decide +kernel
theorem dL_law_306 : decode cL_law 306 = .ok (.aload_n 1, 1) := by decide +kernel
theorem dL_law_307 : decode cL_law 307 = .ok (.invokevirtual 35, 3) := by decide +kernel
theorem dL_law_310 : decode cL_law 310 = .ok (.aload_n 2, 1) := by decide +kernel
theorem dL_law_311 : decode cL_law 311 = .ok (.invokevirtual 39, 3) := by decide +kernel
theorem dL_law_314 : decode cL_law 314 = .ok (.if_icmp .eq 433, 3) := by decide +kernel
theorem dL_law_317 : decode cL_law 317 = .ok (.iconst 0, 1) := by decide +kernel
theorem dL_law_318 : decode cL_law 318 = .ok (.ireturn, 1) := by decide +kernel
theorem dL_law_319 : decode cL_law 319 = .ok (.aload_n 1, 1) := by decide +kernel
theorem dL_law_320 : decode cL_law 320 = .ok (.invokevirtual 40, 3) := by decide +kernel
theorem dL_law_323 : decode cL_law 323 = .ok (.aload_n 2, 1) := by decide +kernel
theorem dL_law_324 : decode cL_law 324 = .ok (.invokevirtual 43, 3) := by decide +kernel
theorem dL_law_327 : decode cL_law 327 = .ok (.if_icmp .eq 420, 3) := by decide +kernel
theorem dL_law_330 : decode cL_law 330 = .ok (.iconst 0, 1) := by decide +kernel
theorem dL_law_331 : decode cL_law 331 = .ok (.ireturn, 1) := by decide +kernel
theorem dL_law_332 : decode cL_law 332 = .ok (.aload_n 1, 1) := by decide +kernel
theorem dL_law_333 : decode cL_law 333 = .ok (.aload_n 0, 1) := by decide +kernel
theorem dL_law_334 : decode cL_law 334 = .ok (.iload_n 3, 1) := by decide +kernel
theorem dL_law_335 : decode cL_law 335 = .ok (.iconst 1, 1) := by decide +kernel
theorem dL_law_336 : decode cL_law 336 = .ok (.iadd, 1) := by decide +kernel
theorem dL_law_337 : decode cL_law 337 = .ok (.iaload, 1) := by decide +kernel
theorem dL_law_338 : decode cL_law 338 = .ok (.invokevirtual 44, 3) := by decide +kernel
theorem dL_law_341 : decode cL_law 341 = .ok (.aload_n 2, 1) := by decide +kernel
theorem dL_law_342 : decode cL_law 342 = .ok (.aload_n 0, 1) := by decide +kernel
theorem dL_law_343 : decode cL_law 343 = .ok (.iload_n 3, 1) := by decide +kernel
theorem dL_law_344 : decode cL_law 344 = .ok (.iconst 1, 1) := by decide +kernel
theorem dL_law_345 : decode cL_law 345 = .ok (.iadd, 1) := by decide +kernel
theorem dL_law_346 : decode cL_law 346 = .ok (.iaload, 1) := by decide +kernel
theorem dL_law_347 : decode cL_law 347 = .ok (.invokevirtual 47, 3) := by decide +kernel
theorem dL_law_350 : decode cL_law 350 = .ok (.if_icmp .eq 397, 3) := by decide +kernel
theorem dL_law_353 : decode cL_law 353 = .ok (.iconst 0, 1) := by decide +kernel
theorem dL_law_354 : decode cL_law 354 = .ok (.ireturn, 1) := by decide +kernel
theorem dL_law_355 : decode cL_law 355 = .ok (.aload_n 1, 1) := by decide +kernel
theorem dL_law_356 : decode cL_law 356 = .ok (.invokevirtual 48, 3) := by decide +kernel
theorem dL_law_359 : decode cL_law 359 = .ok (.aload_n 2, 1) := by decide +kernel
theorem dL_law_360 : decode cL_law 360 = .ok (.invokevirtual 51, 3) := by decide +kernel
theorem dL_law_363 : decode cL_law 363 = .ok (.if_icmp .eq 384, 3) := by decide +kernel
theorem dL_law_366 : decode cL_law 366 = .ok (.iconst 0, 1) := by decide +kernel
theorem dL_law_367 : decode cL_law 367 = .ok (.ireturn, 1) := by decide +kernel
theorem dL_law_368 : decode cL_law 368 = .ok (.aload_n 1, 1) := by decide +kernel
theorem dL_law_369 : decode cL_law 369 = .ok (.aload_n 0, 1) := by decide +kernel
theorem dL_law_370 : decode cL_law 370 = .ok (.iload_n 3, 1) := by decide +kernel
theorem dL_law_371 : decode cL_law 371 = .ok (.iconst 1, 1) := by decide +kernel
theorem dL_law_372 : decode cL_law 372 = .ok (.iadd, 1) := by decide +kernel
theorem dL_law_373 : decode cL_law 373 = .ok (.iaload, 1) := by decide +kernel
theorem dL_law_374 : decode cL_law 374 = .ok (.aload_n 0, 1) := by decide +kernel
theorem dL_law_375 : decode cL_law 375 = .ok (.iload_n 3, 1) := by decide +kernel
theorem dL_law_376 : decode cL_law 376 = .ok (.iconst 2, 1) := by decide +kernel
theorem dL_law_377 : decode cL_law 377 = .ok (.iadd, 1) := by decide +kernel
theorem dL_law_378 : decode cL_law 378 = .ok (.iaload, 1) := by decide +kernel
theorem dL_law_379 : decode cL_law 379 = .ok (.invokevirtual 52, 3) := by decide +kernel
theorem dL_law_382 : decode cL_law 382 = .ok (.aload_n 2, 1) := by decide +kernel
theorem dL_law_383 : decode cL_law 383 = .ok (.aload_n 0, 1) := by decide +kernel
theorem dL_law_384 : decode cL_law 384 = .ok (.iload_n 3, 1) := by decide +kernel
theorem dL_law_385 : decode cL_law 385 = .ok (.iconst 1, 1) := by decide +kernel
theorem dL_law_386 : decode cL_law 386 = .ok (.iadd, 1) := by decide +kernel
theorem dL_law_387 : decode cL_law 387 = .ok (.iaload, 1) := by decide +kernel
theorem dL_law_388 : decode cL_law 388 = .ok (.aload_n 0, 1) := by decide +kernel
theorem dL_law_389 : decode cL_law 389 = .ok (.iload_n 3, 1) := by decide +kernel
theorem dL_law_390 : decode cL_law 390 = .ok (.iconst 2, 1) := by decide +kernel
theorem dL_law_391 : decode cL_law 391 = .ok (.iadd, 1) := by decide +kernel
theorem dL_law_392 : decode cL_law 392 = .ok (.iaload, 1) := by decide +kernel
theorem dL_law_393 : decode cL_law 393 = .ok (.invokevirtual 55, 3) := by decide +kernel
theorem dL_law_396 : decode cL_law 396 = .ok (.if_icmp .eq 351, 3) := by decide +kernel
theorem dL_law_399 : decode cL_law 399 = .ok (.iconst 0, 1) := by decide +kernel
theorem dL_law_400 : decode cL_law 400 = .ok (.ireturn, 1) := by decide +kernel
theorem dL_law_401 : decode cL_law 401 = .ok (.aload_n 1, 1) := by decide +kernel
theorem dL_law_402 : decode cL_law 402 = .ok (.aload_n 0, 1) := by decide +kernel
theorem dL_law_403 : decode cL_law 403 = .ok (.iload_n 3, 1) := by decide +kernel
theorem dL_law_404 : decode cL_law 404 = .ok (.iconst 1, 1) := by decide +kernel
theorem dL_law_405 : decode cL_law 405 = .ok (.iadd, 1) := by decide +kernel
theorem dL_law_406 : decode cL_law 406 = .ok (.iaload, 1) := by decide +kernel
theorem dL_law_407 : decode cL_law 407 = .ok (.aload_n 0, 1) := by decide +kernel
theorem dL_law_408 : decode cL_law 408 = .ok (.iload_n 3, 1) := by decide +kernel
theorem dL_law_409 : decode cL_law 409 = .ok (.iconst 2, 1) := by decide +kernel
theorem dL_law_410 : decode cL_law 410 = .ok (.iadd, 1) := by decide +kernel
theorem dL_law_411 : decode cL_law 411 = .ok (.iaload, 1) := by decide +kernel
theorem dL_law_412 : decode cL_law 412 = .ok (.aload_n 0, 1) := by decide +kernel
theorem dL_law_413 : decode cL_law 413 = .ok (.iload_n 3, 1) := by decide +kernel
theorem dL_law_414 : decode cL_law 414 = .ok (.iconst 3, 1) := by decide +kernel
theorem dL_law_415 : decode cL_law 415 = .ok (.iadd, 1) := by decide +kernel
theorem dL_law_416 : decode cL_law 416 = .ok (.iaload, 1) := by decide +kernel
theorem dL_law_417 : decode cL_law 417 = .ok (.invokevirtual 56, 3) := by decide +kernel
theorem dL_law_420 : decode cL_law 420 = .ok (.aload_n 2, 1) := by decide +kernel
theorem dL_law_421 : decode cL_law 421 = .ok (.aload_n 0, 1) := by decide +kernel
theorem dL_law_422 : decode cL_law 422 = .ok (.iload_n 3, 1) := by decide +kernel
theorem dL_law_423 : decode cL_law 423 = .ok (.iconst 1, 1) := by decide +kernel
theorem dL_law_424 : decode cL_law 424 = .ok (.iadd, 1) := by decide +kernel
theorem dL_law_425 : decode cL_law 425 = .ok (.iaload, 1) := by decide +kernel
theorem dL_law_426 : decode cL_law 426 = .ok (.aload_n 0, 1) := by decide +kernel
theorem dL_law_427 : decode cL_law 427 = .ok (.iload_n 3, 1) := by decide +kernel
theorem dL_law_428 : decode cL_law 428 = .ok (.iconst 2, 1) := by decide +kernel
theorem dL_law_429 : decode cL_law 429 = .ok (.iadd, 1) := by decide +kernel
theorem dL_law_430 : decode cL_law 430 = .ok (.iaload, 1) := by decide +kernel
theorem dL_law_431 : decode cL_law 431 = .ok (.aload_n 0, 1) := by decide +kernel
theorem dL_law_432 : decode cL_law 432 = .ok (.iload_n 3, 1) := by decide +kernel
theorem dL_law_433 : decode cL_law 433 = .ok (.iconst 3, 1) := by decide +kernel
theorem dL_law_434 : decode cL_law 434 = .ok (.iadd, 1) := by decide +kernel
theorem dL_law_435 : decode cL_law 435 = .ok (.iaload, 1) := by decide +kernel
theorem dL_law_436 : decode cL_law 436 = .ok (.invokevirtual 59, 3) := by decide +kernel
theorem dL_law_439 : decode cL_law 439 = .ok (.if_icmp .eq 308, 3) := by decide +kernel
theorem dL_law_442 : decode cL_law 442 = .ok (.iconst 0, 1) := by decide +kernel
theorem dL_law_443 : decode cL_law 443 = .ok (.ireturn, 1) := by decide +kernel
theorem dL_law_444 : decode cL_law 444 = .ok (.aload_n 1, 1) := by decide +kernel
theorem dL_law_445 : decode cL_law 445 = .ok (.invokevirtual 60, 3) := by decide +kernel
theorem dL_law_448 : decode cL_law 448 = .ok (.aload_n 2, 1) := by decide +kernel
theorem dL_law_449 : decode cL_law 449 = .ok (.invokevirtual 63, 3) := by decide +kernel
theorem dL_law_452 : decode cL_law 452 = .ok (.if_icmp .eq 295, 3) := by decide +kernel
theorem dL_law_455 : decode cL_law 455 = .ok (.iconst 0, 1) := by decide +kernel
theorem dL_law_456 : decode cL_law 456 = .ok (.ireturn, 1) := by decide +kernel
theorem dL_law_457 : decode cL_law 457 = .ok (.aload_n 1, 1) := by decide +kernel
theorem dL_law_458 : decode cL_law 458 = .ok (.aload_n 0, 1) := by decide +kernel
theorem dL_law_459 : decode cL_law 459 = .ok (.iload_n 3, 1) := by decide +kernel
theorem dL_law_460 : decode cL_law 460 = .ok (.iconst 1, 1) := by decide +kernel
theorem dL_law_461 : decode cL_law 461 = .ok (.iadd, 1) := by decide +kernel
theorem dL_law_462 : decode cL_law 462 = .ok (.iaload, 1) := by decide +kernel
theorem dL_law_463 : decode cL_law 463 = .ok (.aload_n 0, 1) := by decide +kernel
theorem dL_law_464 : decode cL_law 464 = .ok (.iload_n 3, 1) := by decide +kernel
theorem dL_law_465 : decode cL_law 465 = .ok (.iconst 2, 1) := by decide +kernel
theorem dL_law_466 : decode cL_law 466 = .ok (.iadd, 1) := by decide +kernel
theorem dL_law_467 : decode cL_law 467 = .ok (.iaload, 1) := by decide +kernel
theorem dL_law_468 : decode cL_law 468 = .ok (.invokevirtual 64, 3) := by decide +kernel
theorem dL_law_471 : decode cL_law 471 = .ok (.aload_n 2, 1) := by decide +kernel
theorem dL_law_472 : decode cL_law 472 = .ok (.aload_n 0, 1) := by decide +kernel
theorem dL_law_473 : decode cL_law 473 = .ok (.iload_n 3, 1) := by decide +kernel
theorem dL_law_474 : decode cL_law 474 = .ok (.iconst 1, 1) := by decide +kernel
theorem dL_law_475 : decode cL_law 475 = .ok (.iadd, 1) := by decide +kernel
theorem dL_law_476 : decode cL_law 476 = .ok (.iaload, 1) := by decide +kernel
theorem dL_law_477 : decode cL_law 477 = .ok (.aload_n 0, 1) := by decide +kernel
theorem dL_law_478 : decode cL_law 478 = .ok (.iload_n 3, 1) := by decide +kernel
theorem dL_law_479 : decode cL_law 479 = .ok (.iconst 2, 1) := by decide +kernel
theorem dL_law_480 : decode cL_law 480 = .ok (.iadd, 1) := by decide +kernel
theorem dL_law_481 : decode cL_law 481 = .ok (.iaload, 1) := by decide +kernel
theorem dL_law_482 : decode cL_law 482 = .ok (.invokevirtual 67, 3) := by decide +kernel
theorem dL_law_485 : decode cL_law 485 = .ok (.if_icmp .eq 262, 3) := by decide +kernel
theorem dL_law_488 : decode cL_law 488 = .ok (.iconst 0, 1) := by decide +kernel
theorem dL_law_489 : decode cL_law 489 = .ok (.ireturn, 1) := by decide +kernel
theorem dL_law_490 : decode cL_law 490 = .ok (.aload_n 1, 1) := by decide +kernel
theorem dL_law_491 : decode cL_law 491 = .ok (.aload_n 0, 1) := by decide +kernel
theorem dL_law_492 : decode cL_law 492 = .ok (.iload_n 3, 1) := by decide +kernel
theorem dL_law_493 : decode cL_law 493 = .ok (.iconst 1, 1) := by decide +kernel
theorem dL_law_494 : decode cL_law 494 = .ok (.iadd, 1) := by decide +kernel
theorem dL_law_495 : decode cL_law 495 = .ok (.iaload, 1) := by decide +kernel
theorem dL_law_496 : decode cL_law 496 = .ok (.invokevirtual 68, 3) := by decide +kernel
theorem dL_law_499 : decode cL_law 499 = .ok (.aload_n 2, 1) := by decide +kernel
theorem dL_law_500 : decode cL_law 500 = .ok (.aload_n 0, 1) := by decide +kernel
theorem dL_law_501 : decode cL_law 501 = .ok (.iload_n 3, 1) := by decide +kernel
theorem dL_law_502 : decode cL_law 502 = .ok (.iconst 1, 1) := by decide +kernel
theorem dL_law_503 : decode cL_law 503 = .ok (.iadd, 1) := by decide +kernel
theorem dL_law_504 : decode cL_law 504 = .ok (.iaload, 1) := by decide +kernel
theorem dL_law_505 : decode cL_law 505 = .ok (.invokevirtual 71, 3) := by decide +kernel
theorem dL_law_508 : decode cL_law 508 = .ok (.if_icmp .eq 239, 3) := by decide +kernel
theorem dL_law_511 : decode cL_law 511 = .ok (.iconst 0, 1) := by decide +kernel
theorem dL_law_512 : decode cL_law 512 = .ok (.ireturn, 1) := by decide +kernel
theorem dL_law_513 : decode cL_law 513 = .ok (.aload_n 1, 1) := by decide +kernel
theorem dL_law_514 : decode cL_law 514 = .ok (.aload_n 0, 1) := by decide +kernel
theorem dL_law_515 : decode cL_law 515 = .ok (.iload_n 3, 1) := by decide +kernel
theorem dL_law_516 : decode cL_law 516 = .ok (.iconst 1, 1) := by decide +kernel
theorem dL_law_517 : decode cL_law 517 = .ok (.iadd, 1) := by decide +kernel
theorem dL_law_518 : decode cL_law 518 = .ok (.iaload, 1) := by decide +kernel
theorem dL_law_519 : decode cL_law 519 = .ok (.invokevirtual 72, 3) := by decide +kernel
theorem dL_law_522 : decode cL_law 522 = .ok (.aload_n 2, 1) := by decide +kernel
theorem dL_law_523 : decode cL_law 523 = .ok (.aload_n 0, 1) := by decide +kernel
theorem dL_law_524 : decode cL_law 524 = .ok (.iload_n 3, 1) := by decide +kernel
theorem dL_law_525 : decode cL_law 525 = .ok (.iconst 1, 1) := by decide +kernel
theorem dL_law_526 : decode cL_law 526 = .ok (.iadd, 1) := by decide +kernel
theorem dL_law_527 : decode cL_law 527 = .ok (.iaload, 1) := by decide +kernel
theorem dL_law_528 : decode cL_law 528 = .ok (.invokevirtual 75, 3) := by decide +kernel
theorem dL_law_531 : decode cL_law 531 = .ok (.if_icmp .eq 216, 3) := by decide +kernel
theorem dL_law_534 : decode cL_law 534 = .ok (.iconst 0, 1) := by decide +kernel
theorem dL_law_535 : decode cL_law 535 = .ok (.ireturn, 1) := by decide +kernel
theorem dL_law_536 : decode cL_law 536 = .ok (.aload_n 1, 1) := by decide +kernel
theorem dL_law_537 : decode cL_law 537 = .ok (.aload_n 0, 1) := by decide +kernel
theorem dL_law_538 : decode cL_law 538 = .ok (.iload_n 3, 1) := by decide +kernel
theorem dL_law_539 : decode cL_law 539 = .ok (.iconst 1, 1) := by decide +kernel
theorem dL_law_540 : decode cL_law 540 = .ok (.iadd, 1) := by decide +kernel
theorem dL_law_541 : decode cL_law 541 = .ok (.iaload, 1) := by decide +kernel
theorem dL_law_542 : decode cL_law 542 = .ok (.invokevirtual 76, 3) := by decide +kernel
theorem dL_law_545 : decode cL_law 545 = .ok (.aload_n 2, 1) := by decide +kernel
theorem dL_law_546 : decode cL_law 546 = .ok (.aload_n 0, 1) := by decide +kernel
theorem dL_law_547 : decode cL_law 547 = .ok (.iload_n 3, 1) := by decide +kernel
theorem dL_law_548 : decode cL_law 548 = .ok (.iconst 1, 1) := by decide +kernel
theorem dL_law_549 : decode cL_law 549 = .ok (.iadd, 1) := by decide +kernel
theorem dL_law_550 : decode cL_law 550 = .ok (.iaload, 1) := by decide +kernel
theorem dL_law_551 : decode cL_law 551 = .ok (.invokevirtual 79, 3) := by decide +kernel
theorem dL_law_554 : decode cL_law 554 = .ok (.if_icmp .eq 193, 3) := by decide +kernel
theorem dL_law_557 : decode cL_law 557 = .ok (.iconst 0, 1) := by decide +kernel
theorem dL_law_558 : decode cL_law 558 = .ok (.ireturn, 1) := by decide +kernel
theorem dL_law_559 : decode cL_law 559 = .ok (.aload_n 1, 1) := by decide +kernel
theorem dL_law_560 : decode cL_law 560 = .ok (.aload_n 0, 1) := by decide +kernel
theorem dL_law_561 : decode cL_law 561 = .ok (.iload_n 3, 1) := by decide +kernel
theorem dL_law_562 : decode cL_law 562 = .ok (.iconst 1, 1) := by decide +kernel
theorem dL_law_563 : decode cL_law 563 = .ok (.iadd, 1) := by decide +kernel
theorem dL_law_564 : decode cL_law 564 = .ok (.iaload, 1) := by decide +kernel
theorem dL_law_565 : decode cL_law 565 = .ok (.aload_n 0, 1) := by decide +kernel
theorem dL_law_566 : decode cL_law 566 = .ok (.iload_n 3, 1) := by decide +kernel
theorem dL_law_567 : decode cL_law 567 = .ok (.iconst 2, 1) := by decide +kernel
theorem dL_law_568 : decode cL_law 568 = .ok (.iadd, 1) := by decide +kernel
theorem dL_law_569 : decode cL_law 569 = .ok (.iaload, 1) := by decide +kernel
theorem dL_law_570 : decode cL_law 570 = .ok (.invokevirtual 80, 3) := by decide +kernel
theorem dL_law_573 : decode cL_law 573 = .ok (.aload_n 2, 1) := by decide +kernel
theorem dL_law_574 : decode cL_law 574 = .ok (.aload_n 0, 1) := by decide +kernel
theorem dL_law_575 : decode cL_law 575 = .ok (.iload_n 3, 1) := by decide +kernel
theorem dL_law_576 : decode cL_law 576 = .ok (.iconst 1, 1) := by decide +kernel
theorem dL_law_577 : decode cL_law 577 = .ok (.iadd, 1) := by decide +kernel
theorem dL_law_578 : decode cL_law 578 = .ok (.iaload, 1) := by decide +kernel
theorem dL_law_579 : decode cL_law 579 = .ok (.aload_n 0, 1) := by decide +kernel
theorem dL_law_580 : decode cL_law 580 = .ok (.iload_n 3, 1) := by decide +kernel
theorem dL_law_581 : decode cL_law 581 = .ok (.iconst 2, 1) := by decide +kernel
theorem dL_law_582 : decode cL_law 582 = .ok (.iadd, 1) := by decide +kernel
theorem dL_law_583 : decode cL_law 583 = .ok (.iaload, 1) := by decide +kernel
theorem dL_law_584 : decode cL_law 584 = .ok (.invokevirtual 83, 3) := by decide +kernel
theorem dL_law_587 : decode cL_law 587 = .ok (.if_icmp .eq 160, 3) := by decide +kernel
theorem dL_law_590 : decode cL_law 590 = .ok (.iconst 0, 1) := by decide +kernel
theorem dL_law_591 : decode cL_law 591 = .ok (.ireturn, 1) := by decide +kernel
theorem dL_law_592 : decode cL_law 592 = .ok (.aload_n 1, 1) := by decide +kernel
theorem dL_law_593 : decode cL_law 593 = .ok (.aload_n 0, 1) := by decide +kernel
theorem dL_law_594 : decode cL_law 594 = .ok (.iload_n 3, 1) := by decide +kernel
theorem dL_law_595 : decode cL_law 595 = .ok (.iconst 1, 1) := by decide +kernel
theorem dL_law_596 : decode cL_law 596 = .ok (.iadd, 1) := by decide +kernel
theorem dL_law_597 : decode cL_law 597 = .ok (.iaload, 1) := by decide +kernel
theorem dL_law_598 : decode cL_law 598 = .ok (.invokevirtual 84, 3) := by decide +kernel
theorem dL_law_601 : decode cL_law 601 = .ok (.aload_n 2, 1) := by decide +kernel
theorem dL_law_602 : decode cL_law 602 = .ok (.aload_n 0, 1) := by decide +kernel
theorem dL_law_603 : decode cL_law 603 = .ok (.iload_n 3, 1) := by decide +kernel
theorem dL_law_604 : decode cL_law 604 = .ok (.iconst 1, 1) := by decide +kernel
theorem dL_law_605 : decode cL_law 605 = .ok (.iadd, 1) := by decide +kernel
theorem dL_law_606 : decode cL_law 606 = .ok (.iaload, 1) := by decide +kernel
theorem dL_law_607 : decode cL_law 607 = .ok (.invokevirtual 87, 3) := by decide +kernel
theorem dL_law_610 : decode cL_law 610 = .ok (.if_icmp .eq 137, 3) := by decide +kernel
theorem dL_law_613 : decode cL_law 613 = .ok (.iconst 0, 1) := by decide +kernel
theorem dL_law_614 : decode cL_law 614 = .ok (.ireturn, 1) := by decide +kernel
theorem dL_law_615 : decode cL_law 615 = .ok (.aload_n 1, 1) := by decide +kernel
theorem dL_law_616 : decode cL_law 616 = .ok (.aload_n 0, 1) := by decide +kernel
theorem dL_law_617 : decode cL_law 617 = .ok (.iload_n 3, 1) := by decide +kernel
theorem dL_law_618 : decode cL_law 618 = .ok (.iconst 1, 1) := by decide +kernel
theorem dL_law_619 : decode cL_law 619 = .ok (.iadd, 1) := by decide +kernel
theorem dL_law_620 : decode cL_law 620 = .ok (.iaload, 1) := by decide +kernel
theorem dL_law_621 : decode cL_law 621 = .ok (.aload_n 0, 1) := by decide +kernel
theorem dL_law_622 : decode cL_law 622 = .ok (.iload_n 3, 1) := by decide +kernel
theorem dL_law_623 : decode cL_law 623 = .ok (.iconst 2, 1) := by decide +kernel
theorem dL_law_624 : decode cL_law 624 = .ok (.iadd, 1) := by decide +kernel
theorem dL_law_625 : decode cL_law 625 = .ok (.iaload, 1) := by decide +kernel
theorem dL_law_626 : decode cL_law 626 = .ok (.invokevirtual 88, 3) := by decide +kernel
theorem dL_law_629 : decode cL_law 629 = .ok (.aload_n 2, 1) := by decide +kernel
theorem dL_law_630 : decode cL_law 630 = .ok (.aload_n 0, 1) := by decide +kernel
theorem dL_law_631 : decode cL_law 631 = .ok (.iload_n 3, 1) := by decide +kernel
theorem dL_law_632 : decode cL_law 632 = .ok (.iconst 1, 1) := by decide +kernel
theorem dL_law_633 : decode cL_law 633 = .ok (.iadd, 1) := by decide +kernel
theorem dL_law_634 : decode cL_law 634 = .ok (.iaload, 1) := by decide +kernel
theorem dL_law_635 : decode cL_law 635 = .ok (.aload_n 0, 1) := by decide +kernel
theorem dL_law_636 : decode cL_law 636 = .ok (.iload_n 3, 1) := by decide +kernel
theorem dL_law_637 : decode cL_law 637 = .ok (.iconst 2, 1) := by decide +kernel
theorem dL_law_638 : decode cL_law 638 = .ok (.iadd, 1) := by decide +kernel
theorem dL_law_639 : decode cL_law 639 = .ok (.iaload, 1) := by decide +kernel
theorem dL_law_640 : decode cL_law 640 = .ok (.invokevirtual 91, 3) := by decide +kernel
theorem dL_law_643 : decode cL_law 643 = .ok (.if_icmp .eq 104, 3) := by decide +kernel
theorem dL_law_646 : decode cL_law 646 = .ok (.iconst 0, 1) := by decide +kernel
theorem dL_law_647 : decode cL_law 647 = .ok (.ireturn, 1) := by decide +kernel
theorem dL_law_648 : decode cL_law 648 = .ok (.aload_n 1, 1) := by decide +kernel
theorem dL_law_649 : decode cL_law 649 = .ok (.aload_n 0, 1) := by decide +kernel
theorem dL_law_650 : decode cL_law 650 = .ok (.iload_n 3, 1) := by decide +kernel
theorem dL_law_651 : decode cL_law 651 = .ok (.iconst 1, 1) := by decide +kernel
theorem dL_law_652 : decode cL_law 652 = .ok (.iadd, 1) := by decide +kernel
theorem dL_law_653 : decode cL_law 653 = .ok (.iaload, 1) := by decide +kernel
theorem dL_law_654 : decode cL_law 654 = .ok (.invokevirtual 92, 3) := by decide +kernel
theorem dL_law_657 : decode cL_law 657 = .ok (.aload_n 2, 1) := by decide +kernel
theorem dL_law_658 : decode cL_law 658 = .ok (.aload_n 0, 1) := by decide +kernel
theorem dL_law_659 : decode cL_law 659 = .ok (.iload_n 3, 1) := by decide +kernel
theorem dL_law_660 : decode cL_law 660 = .ok (.iconst 1, 1) := by decide +kernel
theorem dL_law_661 : decode cL_law 661 = .ok (.iadd, 1) := by decide +kernel
theorem dL_law_662 : decode cL_law 662 = .ok (.iaload, 1) := by decide +kernel
theorem dL_law_663 : decode cL_law 663 = .ok (.invokevirtual 95, 3) := by decide +kernel
theorem dL_law_666 : decode cL_law 666 = .ok (.if_icmp .eq 81, 3) := by decide +kernel
theorem dL_law_669 : decode cL_law 669 = .ok (.iconst 0, 1) := by decide +kernel
theorem dL_law_670 : decode cL_law 670 = .ok (.ireturn, 1) := by decide +kernel
theorem dL_law_671 : decode cL_law 671 = .ok (.aload_n 1, 1) := by decide +kernel
theorem dL_law_672 : decode cL_law 672 = .ok (.invokevirtual 96, 3) := by decide +kernel
theorem dL_law_675 : decode cL_law 675 = .ok (.aload_n 2, 1) := by decide +kernel
theorem dL_law_676 : decode cL_law 676 = .ok (.invokevirtual 99, 3) := by decide +kernel
theorem dL_law_679 : decode cL_law 679 = .ok (.if_icmp .eq 68, 3) := by decide +kernel
theorem dL_law_682 : decode cL_law 682 = .ok (.iconst 0, 1) := by decide +kernel
theorem dL_law_683 : decode cL_law 683 = .ok (.ireturn, 1) := by decide +kernel
theorem dL_law_684 : decode cL_law 684 = .ok (.aload_n 1, 1) := by decide +kernel
theorem dL_law_685 : decode cL_law 685 = .ok (.invokevirtual 100, 3) := by decide +kernel
theorem dL_law_688 : decode cL_law 688 = .ok (.aload_n 2, 1) := by decide +kernel
theorem dL_law_689 : decode cL_law 689 = .ok (.invokevirtual 103, 3) := by decide +kernel
theorem dL_law_692 : decode cL_law 692 = .ok (.if_icmp .eq 55, 3) := by decide +kernel
theorem dL_law_695 : decode cL_law 695 = .ok (.iconst 0, 1) := by decide +kernel
theorem dL_law_696 : decode cL_law 696 = .ok (.ireturn, 1) := by decide +kernel
theorem dL_law_697 : decode cL_law 697 = .ok (.aload_n 1, 1) := by decide +kernel
theorem dL_law_698 : decode cL_law 698 = .ok (.invokevirtual 104, 3) := by decide +kernel
theorem dL_law_701 : decode cL_law 701 = .ok (.aload_n 2, 1) := by decide +kernel
theorem dL_law_702 : decode cL_law 702 = .ok (.invokevirtual 107, 3) := by decide +kernel
theorem dL_law_705 : decode cL_law 705 = .ok (.if_icmp .eq 42, 3) := by decide +kernel
theorem dL_law_708 : decode cL_law 708 = .ok (.iconst 0, 1) := by decide +kernel
theorem dL_law_709 : decode cL_law 709 = .ok (.ireturn, 1) := by decide +kernel
theorem dL_law_710 : decode cL_law 710 = .ok (.aload_n 1, 1) := by decide +kernel
theorem dL_law_711 : decode cL_law 711 = .ok (.aload_n 0, 1) := by decide +kernel
theorem dL_law_712 : decode cL_law 712 = .ok (.iload_n 3, 1) := by decide +kernel
theorem dL_law_713 : decode cL_law 713 = .ok (.iconst 1, 1) := by decide +kernel
theorem dL_law_714 : decode cL_law 714 = .ok (.iadd, 1) := by decide +kernel
theorem dL_law_715 : decode cL_law 715 = .ok (.iaload, 1) := by decide +kernel
theorem dL_law_716 : decode cL_law 716 = .ok (.invokevirtual 108, 3) := by decide +kernel
theorem dL_law_719 : decode cL_law 719 = .ok (.aload_n 2, 1) := by decide +kernel
theorem dL_law_720 : decode cL_law 720 = .ok (.aload_n 0, 1) := by decide +kernel
theorem dL_law_721 : decode cL_law 721 = .ok (.iload_n 3, 1) := by decide +kernel
theorem dL_law_722 : decode cL_law 722 = .ok (.iconst 1, 1) := by decide +kernel
theorem dL_law_723 : decode cL_law 723 = .ok (.iadd, 1) := by decide +kernel
theorem dL_law_724 : decode cL_law 724 = .ok (.iaload, 1) := by decide +kernel
theorem dL_law_725 : decode cL_law 725 = .ok (.invokevirtual 111, 3) := by decide +kernel
theorem dL_law_728 : decode cL_law 728 = .ok (.if_icmp .eq 19, 3) := by decide +kernel
theorem dL_law_731 : decode cL_law 731 = .ok (.iconst 0, 1) := by decide +kernel
theorem dL_law_732 : decode cL_law 732 = .ok (.ireturn, 1) := by decide +kernel
theorem dL_law_733 : decode cL_law 733 = .ok (.aload_n 1, 1) := by decide +kernel
theorem dL_law_734 : decode cL_law 734 = .ok (.invokevirtual 112, 3) := by decide +kernel
theorem dL_law_737 : decode cL_law 737 = .ok (.aload_n 2, 1) := by decide +kernel
theorem dL_law_738 : decode cL_law 738 = .ok (.invokevirtual 116, 3) := by decide +kernel
theorem dL_law_741 : decode cL_law 741 = .ok (.lcmp, 1) := by decide +kernel
theorem dL_law_742 : decode cL_law 742 = .ok (.ifCond .eq 5, 3) := by decide +kernel
theorem dL_law_745 : decode cL_law 745 = .ok (.iconst 0, 1) := by decide +kernel
theorem dL_law_746 : decode cL_law 746 = .ok (.ireturn, 1) := by decide +kernel
theorem dL_law_747 : decode cL_law 747 = .ok (.iinc 3 4, 3) := by decide +kernel
theorem dL_law_750 : decode cL_law 750 = .ok (.goto (-732), 3) := by decide +kernel
theorem dL_law_753 : decode cL_law 753 = .ok (.iconst 1, 1) := by decide +kernel
theorem dL_law_754 : decode cL_law 754 = .ok (.ireturn, 1) := by decide +kernel
end
section
/-! ===== the base: pure programs' words, contracts' forms, rows in this claim's forms ===== -/
-- pure programs: a value with a name, a guard, a call
def lt_ {α β : Type} (a : α) (f : α → β) : β := f a
def gd_ {β : Type} (P : Prop) [Decidable P] (x : Option β) : Option β := if P then x else none
def bd_ {α β : Type} (o : Option α) (f : α → Option β) : Option β := o.bind f
def b2_ {α γ β : Type} (o : Option (α × γ)) (f : α → γ → Option β) : Option β := o.bind (fun u => f u.1 u.2)
def b3_ {α γ δ β : Type} (o : Option (α × γ × δ)) (f : α → γ → δ → Option β) : Option β := o.bind (fun u => f u.1 u.2.1 u.2.2)
theorem lt_e {α β : Type} {a : α} {f : α → Option β} {r : β} (h : lt_ a f = some r) : ∃ x, x = a ∧ f x = some r := ⟨a, rfl, h⟩
theorem gd_e {β : Type} {P : Prop} [Decidable P] {x : Option β} {r : β} (h : gd_ P x = some r) : P ∧ x = some r := by
  unfold gd_ at h
  by_cases hp : P
  · rw [if_pos hp] at h; exact ⟨hp, h⟩
  · rw [if_neg hp] at h; cases h
theorem bd_e {α β : Type} {o : Option α} {f : α → Option β} {r : β} (h : bd_ o f = some r) : ∃ u, o = some u ∧ f u = some r := by
  cases o with
  | none => cases h
  | some u => exact ⟨u, rfl, h⟩
theorem b2_e {α γ β : Type} {o : Option (α × γ)} {f : α → γ → Option β} {r : β} (h : b2_ o f = some r) : ∃ u v, o = some (u, v) ∧ f u v = some r := by
  cases o with
  | none => cases h
  | some u => exact ⟨u.1, u.2, rfl, h⟩
theorem b3_e {α γ δ β : Type} {o : Option (α × γ × δ)} {f : α → γ → δ → Option β} {r : β} (h : b3_ o f = some r) : ∃ u v w, o = some (u, v, w) ∧ f u v w = some r := by
  cases o with
  | none => cases h
  | some u => exact ⟨u.1, u.2.1, u.2.2, rfl, h⟩
theorem it_p {β : Type} {P : Prop} [Decidable P] {x y : Option β} {r : β} (h : (if P then x else y) = some r) (hp : P) : x = some r := by rw [if_pos hp] at h; exact h
theorem it_n {β : Type} {P : Prop} [Decidable P] {x y : Option β} {r : β} (h : (if P then x else y) = some r) (hp : ¬ P) : y = some r := by rw [if_neg hp] at h; exact h
abbrev ix_ (i : Int32) (n : Nat) : Prop := ¬ (i < 0 ∨ n ≤ i.toNatClampNeg)
def fu_ : Nat := 5000
theorem lt_sb {α β : Type} {a x : α} {f : α → Option β} {r : β} (h : lt_ a f = some r) (e : x = a) : f x = some r := by subst e; exact h
theorem sw_ne {x k : Int32} (h : ¬ x = k) : x.toInt ≠ k.toInt := fun e => h (Int32.toInt_inj.mp e)
theorem sw_0 : (0 : Int32).toInt = 0 := by decide
theorem sw_1 : (1 : Int32).toInt = 1 := by decide
theorem sw_2 : (2 : Int32).toInt = 2 := by decide
theorem sw_3 : (3 : Int32).toInt = 3 := by decide
theorem sw_4 : (4 : Int32).toInt = 4 := by decide
theorem sw_5 : (5 : Int32).toInt = 5 := by decide
theorem sw_6 : (6 : Int32).toInt = 6 := by decide
theorem sw_7 : (7 : Int32).toInt = 7 := by decide
-- the run's data: the classes' numbers and slots, the array classes
abbrev xG : Type := va_G × ClassId × ClassId × ClassId
def xT (G : xG) : List (ClassId × FieldType) := [(G.2.1, .int), (G.2.2.1, .boolean), (G.2.2.2, .object "TreeOdds$State")]
def nst_ : List (String × Nat × MethodName) := [(RX8, 11, yX3_init), (RX2, 44, yX8_kept), (RX2, 48, yX8_nodeOf), (RX2, 74, yX8_opinion), (RX8, 25, yX1_init), (RX8, 32, yX0_init), (RX8, 39, yX7_init), (RX8, 46, yX6_init), (RX5, 24, yX4_init), (RX3, 35, yX8_within), (RX3, 43, yX8_ofSign), (RX3, 47, yX8_bitsOf), (RX2, 60, yX8_ofSign), (RX2, 63, yX8_bitsOf), (RX2, 84, yX8_quotient), (RX3, 55, yX8_kept), (RX2, 56, yX8_within), (RX0, 38, yX8_nodeOf), (RX7, 50, yX8_within), (RX6, 37, yX8_within), (RX6, 41, yX8_kept)]
def xN (U : State) : Prop := ∀ q ∈ nst_, va_Nw (.methodLinkNest q.1 q.2.1 q.2.2 RX8) U
def xKN (G : xG) (U : State) : Prop := va_K G.1 vwCl (xT G) U ∧ xN U
theorem xKN.moved {G : xG} {s U : State} (hW : s.WarmedH U.vm) (h : xKN G s) : xKN G U := ⟨va_K.moved hW.alike h.1, fun q hq => va_Nw.warmM hW (h.2 q hq)⟩
theorem xKN.calling {G : xG} {U : State} {g : JFrame} {mk : MethodId} {a : Array Value} (h : xKN G U) : xKN G (U.calling g mk a) := ⟨va_K.moved (u := U) (U := U.calling g mk a) (Vm.Alike.refl U.vm) h.1, fun q hq => va_Nw.same (u := U) (U := U.calling g mk a) rfl rfl (h.2 q hq)⟩
-- contracts' forms
def xPc (G : xG) (av : List Value) (ws : va_W) (sz : Nat) : Array Value → State → Prop := va_Pc av (fun U => U.heap.size = sz ∧ va_P G.1 vwCl ws U.heap ∧ xKN G U ∧ va_D (fun _ => True) ws)
def xB (G : xG) (A : Nat → Prop) (ws' : va_W) : Unit → State → Prop := fun _ t => va_P G.1 vwCl ws' t.heap ∧ va_D A ws'
def xQo (G : xG) (o : Option Value) (A : Nat → Prop) (ws' : va_W) : Array Value → State → Outcome → State → Prop := fun _ st oc t => oc = .returned o ∧ (va_P G.1 vwCl ws' t.heap ∧ va_D A ws') ∧ va_F A st t
def xPs (av : List Value) : Array Value → State → Prop := fun v _ => v = av.toArray
def xQs (o : Option Value) : Array Value → State → Outcome → State → Prop := fun _ st oc t => oc = .returned o ∧ t.heap = st.heap
def xWs (y : MethodName) (bytes : ByteArray) (n : Nat) (ret : Option FieldType) : List Cond := .code y bytes n ret :: wsL_law
/-- a contract over a world: from ws to ws', the answer o, nothing made -/
def xM (l : Launch) (y : MethodName) (bytes : ByteArray) (n : Nat) (ret : Option FieldType) (fr lo : Nat) (G : xG) (av : List Value) (ws ws' : va_W) (o : Option Value) : Prop :=
  ∀ sz : Nat, Met l y (xWs y bytes n ret) { frames := fr, cells := 0, slots := 0, locals := lo } (xPc G av ws sz) (xQo G o (va_A ws sz) ws') 0 0 (va_A ws sz)
/-- a contract of a method without a world -/
def xMs (l : Launch) (y : MethodName) (bytes : ByteArray) (n : Nat) (ret : Option FieldType) (fr lo : Nat) (av : List Value) (o : Option Value) : Prop :=
  Met l y (xWs y bytes n ret) { frames := fr, cells := 0, slots := 0, locals := lo } (xPs av) (xQs o) 0 0 (fun _ => False)
-- what holds of the method that runs
def xC (p : Program) (s : State) (m : MethodId) (meth : Method) (c : Code) (cc : ByteArray) (nL : Nat) (ret : Option FieldType) (own : String) (args : Array Value) : Prop :=
  p.tables.exec = Jvm.exec ∧ c.code = cc ∧ c.maxLocals = nL ∧ s.vm.findClass own = some m.cls ∧ (∀ w ∈ wsL_law, w.before args s = true) ∧ meth.sig.returnType = ret ∧ meth.locks = false
def xS (G : xG) (A : Nat → Prop) (H0 : Heap) (ws : va_W) (H : Heap) (locs : List Loc) : Prop := va_P G.1 vwCl ws H ∧ va_D A ws ∧ va_S A H0 H locs
set_option maxRecDepth 100000 in
theorem xgood : wsL_law.all goodWord = true := by decide +kernel
theorem xws_ok {y : MethodName} {bytes : ByteArray} {n : Nat} {ret : Option FieldType} {args : Array Value} {s : State} (hts : ∀ w ∈ wsL_law, w.before args s = true) (hc : Cond.code y bytes n ret ∈ wsL_law) : ∀ w ∈ xWs y bytes n ret, ∀ (a' : Array Value) (U : State), s.WarmedH U.vm → w.before a' U = true := by
  intro w hw a' U hW
  have hm : w ∈ wsL_law := by
    rcases List.mem_cons.mp hw with h | h
    · rw [h]; exact hc
    · exact h
  exact word_at hW (good_of_word (List.all_eq_true.mp xgood w hm)) (hts w hm)
theorem xMi {l : Launch} {y : MethodName} {cc : ByteArray} {n : Nat} {ret : Option FieldType} {fr lo : Nat} {G : xG} {av : List Value} {ws ws' : va_W} {o : Option Value} (hy : plainName y.cls = true) (hlen : (lg_sl av).length ≤ n)
    (body : ∀ (p : Program) (e : Env) (s : State) (m : MethodId) (below : List Frame) (meth : Method) (c : Code) (A : Nat → Prop), xC p s m meth c cc n ret y.cls av.toArray → xKN G s → (∀ q, s.heap.size ≤ q → A q) → xS G A s.heap ws s.heap [] → ∀ ls : Array Slot, lv_has ls n (lv_args 0 av) → W p l e { frames := fr, cells := 0, slots := 0, locals := lo } s m av.toArray below meth c s.heap [] 0 0 (MQ below (xQo G o A ws') av.toArray s 0 0 A) (F0 m 0 ls [])) : xM l y cc n ret fr lo G av ws ws' o := by
  intro sz
  refine Met.ofW (cc := cc) (maxL := n) (ret := ret) hy rfl ?_
  intro p e s m args below meth c s₁ B hml hv
  obtain ⟨rfl, hsz, hP, hK, hD0⟩ := hv
  subst hsz
  have hts := atoms_spec (ws := xWs y cc n ret) B.pre
  have hl := lv_entry av (n := n) hlen
  rw [lg_entry_eq]
  refine body p e s m below meth c (va_A ws s.heap.size) ⟨B.exec, B.bytes, hml, findClass_of_methodNamed B.named, fun w hw => hts w (List.mem_cons_of_mem _ hw), B.returns, B.notSynchronized⟩ hK (fun q h => Or.inr h) ⟨hP, hD0.self, va_S.rf⟩ _ hl
theorem xMsi {l : Launch} {y : MethodName} {cc : ByteArray} {n : Nat} {ret : Option FieldType} {fr lo : Nat} {av : List Value} {o : Option Value} (hy : plainName y.cls = true) (hlen : (lg_sl av).length ≤ n)
    (body : ∀ (p : Program) (e : Env) (s : State) (m : MethodId) (below : List Frame) (meth : Method) (c : Code), xC p s m meth c cc n ret y.cls av.toArray → ∀ ls : Array Slot, lv_has ls n (lv_args 0 av) → W p l e { frames := fr, cells := 0, slots := 0, locals := lo } s m av.toArray below meth c s.heap [] 0 0 (MQ below (xQs o) av.toArray s 0 0 (fun _ => False)) (F0 m 0 ls [])) : xMs l y cc n ret fr lo av o := by
  refine Met.ofW (cc := cc) (maxL := n) (ret := ret) hy rfl ?_
  intro p e s m args below meth c s₁ B hml hv
  have hv : args = av.toArray := hv
  subst hv
  have hts := atoms_spec (ws := xWs y cc n ret) B.pre
  have hl := lv_entry av (n := n) hlen
  rw [lg_entry_eq]
  exact body p e s m below meth c ⟨B.exec, B.bytes, hml, findClass_of_methodNamed B.named, fun w hw => hts w (List.mem_cons_of_mem _ hw), B.returns, B.notSynchronized⟩ _ hl
section XR
variable {p : Program} {l : Launch} {e : Env} {R : Room} {s : State} {m : MethodId} {args : Array Value} {below : List Frame} {meth : Method} {c : Code} {H H0 : Heap} {locs : List Loc} {cells slots : Nat} {Q : State → Prop} {cc : ByteArray} {nL pc index : Nat} {ret : Option FieldType} {own : String} {G : xG} {A : Nat → Prop} {ws ws' : va_W} {ls : Array Slot} {rest : List Value} {a ci : Nat} {fs : List Value} {C : String} {T : u_T} {N : Nat} {v : Value}
theorem x_get (C0 : xC p s m meth c cc nL ret own args) (KN : xKN G s) (X : xS G A H0 ws H locs) (q0 : Nat) (he : ws[q0]? = some (a, .inr (ci, fs))) (hc : vwCl[ci]? = some (C, T, N)) (hin : ∀ w ∈ u_ws C T N, w ∈ wsL_law) (k : Nat) (hk : k < N) (hw : Cond.fieldLink own index (T k).1 (T k).2.1 (T k).2.2.1 ∈ wsL_law) (hv : fs[k]? = some v) (hdg : decode cc pc = .ok (.getfield index, 3))
    (kk : W p l e R s m args below meth c H locs cells slots Q (F0 m (pc + 3) ls (v :: rest))) : W p l e R s m args below meth c H locs cells slots Q (F0 m pc ls (.ref a :: rest)) :=
  va_get C0.1 C0.2.1 C0.2.2.2.2.1 hin C0.2.2.2.1 KN.1 X.1 q0 he hc k hk (C0.2.2.2.2.1 _ hw) (fun _ h => h) hv hdg kk
theorem x_put (C0 : xC p s m meth c cc nL ret own args) (KN : xKN G s) (X : xS G A H0 ws H locs) (q0 : Nat) (he : ws[q0]? = some (a, .inr (ci, fs))) (hc : vwCl[ci]? = some (C, T, N)) (hin : ∀ w ∈ u_ws C T N, w ∈ wsL_law) {ty0 : Nat → FieldType} (hty : ∀ k, k < N → parseFieldDescriptor (T k).2.2.1 = some (ty0 k)) (hnm : ∀ a, a < N → ∀ b, b < N → a ≠ b → (T a).2.1 ≠ (T b).2.1) (k : Nat) (hk : k < N) (hw : Cond.fieldLink own index (T k).1 (T k).2.1 (T k).2.2.1 ∈ wsL_law) (hfin : (T k).2.2.2 = false) (hn : narrow (ty0 k) v = v) (hfit : fits (ty0 k) v = true) (hl : k < fs.length) (hs : ws.set q0 (a, .inr (ci, fs.set k v)) = ws') (hdg : decode cc pc = .ok (.putfield index, 3))
    (kk : ∀ (H1 : Heap) (locs1 : List Loc), xS G A H0 ws' H1 locs1 → W p l e R s m args below meth c H1 locs1 cells slots Q (F0 m (pc + 3) ls rest)) : W p l e R s m args below meth c H locs cells slots Q (F0 m pc ls (v :: .ref a :: rest)) := by
  subst hs
  exact va_put C0.1 C0.2.1 C0.2.2.2.2.1 hin ty0 hty hnm C0.2.2.2.1 KN.1 X.1 X.2.1 X.2.2 q0 he hc k hk (C0.2.2.2.2.1 _ hw) (fun _ h => h) hfin (hty k hk) hn hfit hl hdg (fun H1 locs1 h1 h2 h3 => kk H1 locs1 ⟨h1, h2, h3⟩)
theorem x_ald (C0 : xC p s m meth c cc nL ret own args) (KN : xKN G s) (X : xS G A H0 ws H locs) (q0 : Nat) {n : Nat} {f : Nat → Int32} (ha : ws[q0]? = some (a, .inl (G.2.1, n, .inl f))) {i : Int32} (hin : ix_ i n) (hdg : decode cc pc = .ok (.iaload, 1))
    (kk : W p l e R s m args below meth c H locs cells slots Q (F0 m (pc + 1) ls (.int (f i.toNatClampNeg) :: rest))) : W p l e R s m args below meth c H locs cells slots Q (F0 m pc ls (.int i :: .ref a :: rest)) :=
  va_iald C0.1 C0.2.1 KN.1 X.1 q0 0 ha rfl hin hdg kk
theorem x_zld (C0 : xC p s m meth c cc nL ret own args) (KN : xKN G s) (X : xS G A H0 ws H locs) (q0 : Nat) {n : Nat} {f : Nat → Int32} (ha : ws[q0]? = some (a, .inl (G.2.2.1, n, .inl f))) {i : Int32} (hin : ix_ i n) (hdg : decode cc pc = .ok (.baload, 1))
    (kk : W p l e R s m args below meth c H locs cells slots Q (F0 m (pc + 1) ls (.int (f i.toNatClampNeg) :: rest))) : W p l e R s m args below meth c H locs cells slots Q (F0 m pc ls (.int i :: .ref a :: rest)) :=
  va_zald C0.1 C0.2.1 KN.1 X.1 q0 1 ha rfl hin hdg kk
theorem x_ast (C0 : xC p s m meth c cc nL ret own args) (KN : xKN G s) (X : xS G A H0 ws H locs) (q0 : Nat) {n : Nat} {f : Nat → Int32} (ha : ws[q0]? = some (a, .inl (G.2.1, n, .inl f))) {i x : Int32} (hin : ix_ i n) (hs : ws.set q0 (a, .inl (G.2.1, n, .inl (upd f i.toNatClampNeg x))) = ws') (hdg : decode cc pc = .ok (.iastore, 1))
    (kk : ∀ (H1 : Heap) (locs1 : List Loc), xS G A H0 ws' H1 locs1 → W p l e R s m args below meth c H1 locs1 cells slots Q (F0 m (pc + 1) ls rest)) : W p l e R s m args below meth c H locs cells slots Q (F0 m pc ls (.int x :: .int i :: .ref a :: rest)) := by
  subst hs
  exact va_iast C0.1 C0.2.1 KN.1 X.1 X.2.1 X.2.2 q0 0 ha rfl hin hdg (fun H1 locs1 h1 h2 h3 => kk H1 locs1 ⟨h1, h2, h3⟩)
theorem x_zst (C0 : xC p s m meth c cc nL ret own args) (KN : xKN G s) (X : xS G A H0 ws H locs) (q0 : Nat) {n : Nat} {f : Nat → Int32} (ha : ws[q0]? = some (a, .inl (G.2.2.1, n, .inl f))) {i x : Int32} (hin : ix_ i n) (hs : ws.set q0 (a, .inl (G.2.2.1, n, .inl (upd f i.toNatClampNeg (vp_nar .boolean x)))) = ws') (hdg : decode cc pc = .ok (.bastore, 1))
    (kk : ∀ (H1 : Heap) (locs1 : List Loc), xS G A H0 ws' H1 locs1 → W p l e R s m args below meth c H1 locs1 cells slots Q (F0 m (pc + 1) ls rest)) : W p l e R s m args below meth c H locs cells slots Q (F0 m pc ls (.int x :: .int i :: .ref a :: rest)) := by
  subst hs
  exact va_zast C0.1 C0.2.1 KN.1 X.1 X.2.1 X.2.2 q0 1 ha rfl hin hdg (fun H1 locs1 h1 h2 h3 => kk H1 locs1 ⟨h1, h2, h3⟩)
theorem x_ldc (C0 : xC p s m meth c cc nL ret own args) {v : Int32} (hw : Cond.constant own index v ∈ wsL_law) (hdg : decode cc pc = .ok (.ldc index, 2)) (k : W p l e R s m args below meth c H locs cells slots Q (F0 m (pc + 2) ls (.int v :: rest))) : W p l e R s m args below meth c H locs cells slots Q (F0 m pc ls rest) := lv_ldc C0.1 C0.2.1 C0.2.2.2.1 (C0.2.2.2.2.1 _ hw) hdg k
theorem x_ldc2 (C0 : xC p s m meth c cc nL ret own args) {v : Int64} (hw : Cond.constantLong own index v ∈ wsL_law) (hdg : decode cc pc = .ok (.ldc2_w index, 3)) (k : W p l e R s m args below meth c H locs cells slots Q (F0 m (pc + 3) ls (.long v :: rest))) : W p l e R s m args below meth c H locs cells slots Q (F0 m pc ls rest) := lv_ldc2 C0.1 C0.2.1 C0.2.2.2.1 (C0.2.2.2.2.1 _ hw) hdg k
theorem x_ldcw (C0 : xC p s m meth c cc nL ret own args) {v : Int32} (hw : Cond.constant own index v ∈ wsL_law) (hdg : decode cc pc = .ok (.ldc_w index, 3)) (k : W p l e R s m args below meth c H locs cells slots Q (F0 m (pc + 3) ls (.int v :: rest))) : W p l e R s m args below meth c H locs cells slots Q (F0 m pc ls rest) := lv_ldcw C0.1 C0.2.1 C0.2.2.2.1 (C0.2.2.2.2.1 _ hw) hdg k
theorem x_mmax (C0 : xC p s m meth c cc nL ret own args) (hsz : ls.size = nL) (hl : Cond.methodLink own index Lib.Math.max.name ∈ wsL_law) (hs : Cond.static Lib.Math.max.name ∈ wsL_law) (hi : Cond.initialized "java/lang/Math" ∈ wsL_law) (hc : Cond.code Lib.Math.max.name Lib.Math.max.code 2 (some .int) ∈ wsL_law) (hf : 1 ≤ R.frames) (hlo : (rest.map fun v => v.category).sum + 13 ≤ R.locals) (hcs : cells ≤ R.cells ∧ slots ≤ R.slots) {x y : Int32} (hdg : decode cc pc = .ok (.invokestatic index, 3)) (kk : W p l e R s m args below meth c H locs cells slots Q (F0 m (pc + 3) ls (.int (if x < y then y else x) :: rest))) : W p l e R s m args below meth c H locs cells slots Q (F0 m pc ls (.int y :: .int x :: rest)) :=
  va_mmax C0.1 C0.2.1 (by rw [C0.2.2.1, hsz]) C0.2.2.2.1 (C0.2.2.2.2.1 _ hl) (C0.2.2.2.2.1 _ hs) (C0.2.2.2.2.1 _ hi) (C0.2.2.2.2.1 _ hc) hf hlo hcs.1 hcs.2 hdg kk
theorem x_mmin (C0 : xC p s m meth c cc nL ret own args) (hsz : ls.size = nL) (hl : Cond.methodLink own index Lib.Math.min.name ∈ wsL_law) (hs : Cond.static Lib.Math.min.name ∈ wsL_law) (hi : Cond.initialized "java/lang/Math" ∈ wsL_law) (hc : Cond.code Lib.Math.min.name Lib.Math.min.code 2 (some .int) ∈ wsL_law) (hf : 1 ≤ R.frames) (hlo : (rest.map fun v => v.category).sum + 13 ≤ R.locals) (hcs : cells ≤ R.cells ∧ slots ≤ R.slots) {x y : Int32} (hdg : decode cc pc = .ok (.invokestatic index, 3)) (kk : W p l e R s m args below meth c H locs cells slots Q (F0 m (pc + 3) ls (.int (if y < x then y else x) :: rest))) : W p l e R s m args below meth c H locs cells slots Q (F0 m pc ls (.int y :: .int x :: rest)) :=
  va_mmin C0.1 C0.2.1 (by rw [C0.2.2.1, hsz]) C0.2.2.2.1 (C0.2.2.2.2.1 _ hl) (C0.2.2.2.2.1 _ hs) (C0.2.2.2.2.1 _ hi) (C0.2.2.2.2.1 _ hc) hf hlo hcs.1 hcs.2 hdg kk
-- ends
theorem x_iret (C0 : xC p s m meth c cc nL (some .int) own args) (X : xS G A s.heap ws H locs) {v : Int32} (hdg : decode cc pc = .ok (.ireturn, 1)) : W p l e R s m args below meth c H locs cells slots (MQ below (xQo G (some (.int v)) A ws) args s cells slots A) (F0 m pc ls [.int v]) :=
  W.iret C0.1 C0.2.1 C0.2.2.2.2.2.1 (fun t ht _ => ⟨rfl, ⟨by rw [ht]; exact X.1, X.2.1⟩, X.2.2.F ht⟩) X.2.2.2.2 hdg (hlocks := C0.2.2.2.2.2.2)
theorem x_lret (C0 : xC p s m meth c cc nL (some .long) own args) (X : xS G A s.heap ws H locs) {v : Int64} (hdg : decode cc pc = .ok (.lreturn, 1)) : W p l e R s m args below meth c H locs cells slots (MQ below (xQo G (some (.long v)) A ws) args s cells slots A) (F0 m pc ls [.long v]) :=
  W.lret C0.1 C0.2.1 C0.2.2.2.2.2.1 (fun t ht _ => ⟨rfl, ⟨by rw [ht]; exact X.1, X.2.1⟩, X.2.2.F ht⟩) X.2.2.2.2 hdg (hlocks := C0.2.2.2.2.2.2)
theorem x_zret (C0 : xC p s m meth c cc nL (some .boolean) own args) (X : xS G A s.heap ws H locs) {v : Int32} (hz : v = 0 ∨ v = 1) (hdg : decode cc pc = .ok (.ireturn, 1)) : W p l e R s m args below meth c H locs cells slots (MQ below (xQo G (some (.int v)) A ws) args s cells slots A) (F0 m pc ls [.int v]) :=
  W.zret C0.1 C0.2.1 C0.2.2.2.2.2.1 (by rcases hz with rfl | rfl <;> rfl) (fun t ht _ => ⟨rfl, ⟨by rw [ht]; exact X.1, X.2.1⟩, X.2.2.F ht⟩) X.2.2.2.2 hdg (hlocks := C0.2.2.2.2.2.2)
theorem x_vret (C0 : xC p s m meth c cc nL none own args) (X : xS G A s.heap ws H locs) (hdg : decode cc pc = .ok (.return_, 1)) : W p l e R s m args below meth c H locs cells slots (MQ below (xQo G none A ws) args s cells slots A) (F0 m pc ls []) :=
  W.vret C0.1 C0.2.1 C0.2.2.2.2.2.1 (fun t ht _ => ⟨rfl, ⟨by rw [ht]; exact X.1, X.2.1⟩, X.2.2.F ht⟩) X.2.2.2.2 hdg (hlocks := C0.2.2.2.2.2.2)
theorem s_iret (C0 : xC p s m meth c cc nL (some .int) own args) {v : Int32} (hdg : decode cc pc = .ok (.ireturn, 1)) : W p l e R s m args below meth c s.heap [] cells slots (MQ below (xQs (some (.int v))) args s cells slots (fun _ => False)) (F0 m pc ls [.int v]) :=
  W.iret C0.1 C0.2.1 C0.2.2.2.2.2.1 (fun t ht _ => ⟨rfl, ht⟩) (fun q h => by cases h) hdg (hlocks := C0.2.2.2.2.2.2)
theorem s_zret (C0 : xC p s m meth c cc nL (some .boolean) own args) {v : Int32} (hz : v = 0 ∨ v = 1) (hdg : decode cc pc = .ok (.ireturn, 1)) : W p l e R s m args below meth c s.heap [] cells slots (MQ below (xQs (some (.int v))) args s cells slots (fun _ => False)) (F0 m pc ls [.int v]) :=
  W.zret C0.1 C0.2.1 C0.2.2.2.2.2.1 (by rcases hz with rfl | rfl <;> rfl) (fun t ht _ => ⟨rfl, ht⟩) (fun q h => by cases h) hdg (hlocks := C0.2.2.2.2.2.2)
theorem s_lret (C0 : xC p s m meth c cc nL (some .long) own args) {v : Int64} (hdg : decode cc pc = .ok (.lreturn, 1)) : W p l e R s m args below meth c s.heap [] cells slots (MQ below (xQs (some (.long v))) args s cells slots (fun _ => False)) (F0 m pc ls [.long v]) :=
  W.lret C0.1 C0.2.1 C0.2.2.2.2.2.1 (fun t ht _ => ⟨rfl, ht⟩) (fun q h => by cases h) hdg (hlocks := C0.2.2.2.2.2.2)
-- calls
variable {y : MethodName} {bytes : ByteArray} {mL : Nat} {rt : Option FieldType} {fr lo : Nat} {As : List Value} {o : Option Value} {st0 : List Value}
theorem xpre_s : PreS s H (xPs As) As := ⟨fun _ _ _ _ q => q, fun _ _ _ => rfl⟩
theorem xgo_s (hr : va_Run p l e R s m args below meth c H locs cells slots 0 0 (F0 m pc ls st0) rest (xQs o As.toArray) (fun _ => False)) (kk : W p l e R s m args below meth c H locs cells slots Q (F0 m (pc + 3) ls (o.toList ++ rest))) : W p l e R s m args below meth c H locs cells slots Q (F0 m pc ls st0) := by
  intro T hT X
  obtain ⟨v, st₀, t, T', L, h0, X', hL, e1, e2, ⟨hv, hh⟩, st⟩ := hr T hT X
  cases hv
  obtain ⟨t2, a1, b1⟩ := kk T' (by rw [e1, hh, h0]) (Stand.forget X' (fun q h => (hL q h).elim))
  exact ⟨t2, st t2 a1, b1⟩
/-- a static method of the own class -/
theorem x_cs (C0 : xC p s m meth c cc nL ret own args) (hM : xMs l y bytes mL rt fr lo As o) (hc : Cond.code y bytes mL rt ∈ wsL_law) (hl : Cond.methodLink own index y ∈ wsL_law) (hs : Cond.static y ∈ wsL_law) (hi : Cond.initialized y.cls ∈ wsL_law) (hd : y.cls ≠ "java/lang/invoke/MethodHandle" ∧ y.cls ≠ "java/lang/invoke/VarHandle" ∧ (parseMethodDescriptor y.desc).map (fun d => d.parameters.length) = some As.length) (hR : fr + 1 ≤ R.frames ∧ 8 + (mL + 11) + lo ≤ R.locals) (hsz : ls.size = nL) (hst : st0 = As.reverse ++ rest) (hrm : (rest.map fun v => v.category).sum ≤ 8) (hcs : cells ≤ R.cells ∧ slots ≤ R.slots) (hdg : decode cc pc = .ok (.invokestatic index, 3))
    (kk : W p l e R s m args below meth c H locs cells slots Q (F0 m (pc + 3) ls (o.toList ++ rest))) : W p l e R s m args below meth c H locs cells slots Q (F0 m pc ls st0) := by
  have hts := C0.2.2.2.2.1
  refine xgo_s (As := As) (va_runS (n := As.length) (Ts := wsL_law) (own := own) ⟨C0.1, C0.2.1, C0.2.2.1, C0.2.2.2.1, hts⟩ hM ⟨⟨rfl, rfl, hR.1, hR.2, xws_ok hts hc, List.mem_cons_self, hts _ hc, hts _ hi, ⟨hd.1, hd.2.1⟩, fun sig h => ?_, hts _ hl⟩, hts _ hs⟩ xpre_s rfl rfl hsz hst (lv_room hrm) hdg hcs) kk
  have h2 := hd.2.2
  rw [h] at h2
  exact (Option.some.inj h2).symm
/-- a static method of a nest mate -/
theorem x_csN (C0 : xC p s m meth c cc nL ret own args) (KN : xKN G s) (hM : xMs l y bytes mL rt fr lo As o) (hc : Cond.code y bytes mL rt ∈ wsL_law) (hl : (own, index, y) ∈ nst_) (hs : Cond.static y ∈ wsL_law) (hi : Cond.initialized y.cls ∈ wsL_law) (hd : y.cls ≠ "java/lang/invoke/MethodHandle" ∧ y.cls ≠ "java/lang/invoke/VarHandle" ∧ (parseMethodDescriptor y.desc).map (fun d => d.parameters.length) = some As.length) (hR : fr + 1 ≤ R.frames ∧ 8 + (mL + 11) + lo ≤ R.locals) (hsz : ls.size = nL) (hst : st0 = As.reverse ++ rest) (hrm : (rest.map fun v => v.category).sum ≤ 8) (hcs : cells ≤ R.cells ∧ slots ≤ R.slots) (hdg : decode cc pc = .ok (.invokestatic index, 3))
    (kk : W p l e R s m args below meth c H locs cells slots Q (F0 m (pc + 3) ls (o.toList ++ rest))) : W p l e R s m args below meth c H locs cells slots Q (F0 m pc ls st0) := by
  have hts := C0.2.2.2.2.1
  refine xgo_s (As := As) (va_runSN (n := As.length) (Ts := wsL_law) (own := own) (host := RX8) ⟨C0.1, C0.2.1, C0.2.2.1, C0.2.2.2.1, hts⟩ hM ⟨⟨⟨rfl, rfl, hR.1, hR.2, xws_ok hts hc, List.mem_cons_self⟩, hts _ hc, hts _ hi, ⟨hd.1, hd.2.1⟩, fun sig h => ?_, va_Nw.use rfl (KN.2 _ hl)⟩, hts _ hs, trivial⟩ xpre_s rfl rfl hsz hst (lv_room hrm) hdg hcs) kk
  have h2 := hd.2.2
  rw [h] at h2
  exact (Option.some.inj h2).symm
theorem xblind {G : xG} {av : List Value} {ws : va_W} {sz : Nat} : FrameBlind (xPc G av ws sz) := fun a U g mk q => by
  obtain ⟨q0, q1, qP, qK, qD⟩ := q
  exact ⟨q0, q1, qP, qK.calling, qD⟩
/-- behind a call over a part of the world -/
theorem xgo_w {wc wc' wr : va_W} (X : xS G A H0 ws H locs) (hA : ∀ q, H0.size ≤ q → A q) (isC isR isJ : List Nat) (hC : isC.map (fun i => ws[i]?) = wc.map some) (hR : isR.map (fun i => ws[i]?) = wr.map some) (hn : va_nd isR = true) (hdis : ∀ i ∈ isR, i ∉ isC) (hJ : isJ.map (fun i => (wr ++ wc')[i]?) = ws'.map some) (hnJ : va_nd isJ = true) {av : Array Value}
    (hr : va_Run p l e R s m args below meth c H locs cells slots 0 0 (F0 m pc ls st0) rest (xQo G o (va_A wc H.size) wc' av) (va_A wc H.size)) (kk : ∀ (H1 : Heap) (locs1 : List Loc), xS G A H0 ws' H1 locs1 → W p l e R s m args below meth c H1 locs1 cells slots Q (F0 m (pc + 3) ls (o.toList ++ rest))) : W p l e R s m args below meth c H locs cells slots Q (F0 m pc ls st0) := by
  intro T hT Xt
  obtain ⟨v, st₀, t, T', L, h0, X', hL, e1, e2, ⟨hv, ⟨hP1, hD1⟩, hz, hk⟩, st⟩ := hr T hT Xt
  cases hv
  rw [h0] at hz hk
  have hF := va_free X.2.1 X.2.2 hA isC hC
  have hS := X.2.2
  rw [← e1] at hP1
  obtain ⟨hPj, hDj⟩ := va_join (wr := wr) (w1 := wc') X.1 X.2.1 isC isR hC hR hn hdis (H1 := T'.heap) (fun q h1 h2 => by rw [e1]; exact hk q h1 h2) hF hP1 hD1
  have hPs : va_P G.1 vwCl ws' T'.heap := by
    intro k q hq
    have h1 : (isJ.map (fun i => (wr ++ wc')[i]?))[k]? = some (some q) := by rw [hJ, List.getElem?_map, hq]; rfl
    rw [List.getElem?_map] at h1
    cases hi : isJ[k]? with
    | none => rw [hi] at h1; cases h1
    | some i => rw [hi] at h1; exact hPj i q (Option.some.inj h1)
  obtain ⟨t2, a1, b1⟩ := kk T'.heap (locs ++ L) ⟨hPs, hDj.sub isJ hnJ hJ, ⟨Nat.le_trans hS.1 (by rw [e1]; exact hz), fun q h1 h2 => by rw [e1, hk q (Nat.lt_of_lt_of_le h1 hS.1) (fun z => h2 (hF q z))]; exact hS.2.1 q h1 h2, fun q hq => by
      rcases List.mem_append.mp hq with h | h
      · exact hS.2.2 q h
      · exact hF _ (hL q h)⟩⟩ T' rfl X'
  exact ⟨t2, st t2 a1, b1⟩
/-- an instance method, over a part of the world -/
theorem x_cv {wc wc' wr : va_W} {b qr : Nat} {Cr : vw_C} (C0 : xC p s m meth c cc nL ret own args) (KN : xKN G s) (X : xS G A H0 ws H locs) (hA : ∀ q, H0.size ≤ q → A q) (isC isR isJ : List Nat) (hC : isC.map (fun i => ws[i]?) = wc.map some) (hnC : va_nd isC = true) (hRr : isR.map (fun i => ws[i]?) = wr.map some) (hn : va_nd isR = true) (hdis : ∀ i ∈ isR, i ∉ isC) (hJ : isJ.map (fun i => (wr ++ wc')[i]?) = ws'.map some) (hnJ : va_nd isJ = true)
    (hM : xM l y bytes mL rt fr lo G (.ref b :: As) wc wc' o) (hrc : vwCl[ci]? = some Cr) (hre : ws[qr]? = some (b, .inr (ci, fs))) (hcl : y.cls = Cr.1) (hc : Cond.code y bytes mL rt ∈ wsL_law) (hl : Cond.methodLink own index y ∈ wsL_law) (hin : Cond.instanceMethod y ∈ wsL_law) (hse : Cond.selects y.cls y y ∈ wsL_law) (hi : Cond.initialized y.cls ∈ wsL_law) (hd : y.cls ≠ "java/lang/invoke/MethodHandle" ∧ y.cls ≠ "java/lang/invoke/VarHandle" ∧ (parseMethodDescriptor y.desc).map (fun d => d.parameters.length) = some As.length) (hR : fr + 1 ≤ R.frames ∧ 8 + (mL + 11) + lo ≤ R.locals) (hsz : ls.size = nL) (hst : st0 = As.reverse ++ .ref b :: rest) (hrm : (rest.map fun v => v.category).sum ≤ 8) (hcs : cells ≤ R.cells ∧ slots ≤ R.slots) (hdg : decode cc pc = .ok (.invokevirtual index, 3))
    (kk : ∀ (H1 : Heap) (locs1 : List Loc), xS G A H0 ws' H1 locs1 → W p l e R s m args below meth c H1 locs1 cells slots Q (F0 m (pc + 3) ls (o.toList ++ rest))) : W p l e R s m args below meth c H locs cells slots Q (F0 m pc ls st0) := by
  have hts := C0.2.2.2.2.1
  have hPc : va_P G.1 vwCl wc H := by
    intro k q hq
    have h1 : (isC.map (fun i => ws[i]?))[k]? = some (some q) := by rw [hC, List.getElem?_map, hq]; rfl
    rw [List.getElem?_map] at h1
    cases hi : isC[k]? with
    | none => rw [hi] at h1; cases h1
    | some i => rw [hi] at h1; exact X.1 i q (Option.some.inj h1)
  have hDc : va_D (fun _ => True) wc := (X.2.1.sub isC hnC hC).weaken (fun _ _ _ _ => trivial)
  have hlen : ∀ sig, parseMethodDescriptor y.desc = some sig → As.length = sig.parameters.length := fun sig h => by
    have h2 := hd.2.2
    rw [h] at h2
    exact (Option.some.inj h2).symm
  have hrv : ∃ cell : Cell, H[b]? = some cell ∧ cell.vm.isStatics = false ∧ s.vm.findClass y.cls = some cell.cls := by
    rw [hcl]
    exact va_recv KN.1 X.1 hrc hre
  exact xgo_w X hA isC isR isJ hC hRr hn hdis hJ hnJ (va_runV (n := As.length) (Ts := wsL_law) (own := own) (C := y.cls) (As := As) (rest := rest) ⟨C0.1, C0.2.1, C0.2.2.1, C0.2.2.2.1, hts⟩ (hM H.size) ⟨⟨rfl, rfl, hR.1, hR.2, xws_ok hts hc, List.mem_cons_self, hts _ hc, hts _ hi, ⟨hd.1, hd.2.1⟩, hlen, hts _ hl⟩, hts _ hin, hts _ hse⟩ ⟨xblind, hrv, fun U hU hW => ⟨rfl, by rw [hU], by rw [hU]; exact hPc, KN.moved hW, hDc⟩⟩ rfl rfl hsz hst (lv_room hrm) hdg hcs) kk
end XR
end
section
/-! ===== states of objects as values; their cells ===== -/
abbrev tt_State : Type := (Nat → Int32) × Int32 × Int32 × Int32
def gf_State_signs (S : tt_State) : (Nat → Int32) := S.1
def sf_State_signs (S : tt_State) (v : (Nat → Int32)) : tt_State := (v, S.2)
def gf_State_length (S : tt_State) : Int32 := S.2.1
def sf_State_length (S : tt_State) (v : Int32) : tt_State := (S.1, v, S.2.2)
def gf_State_depth (S : tt_State) : Int32 := S.2.2.1
def sf_State_depth (S : tt_State) (v : Int32) : tt_State := (S.1, S.2.1, v, S.2.2.2)
def gf_State_guesser (S : tt_State) : Int32 := S.2.2.2
def sf_State_guesser (S : tt_State) (v : Int32) : tt_State := (S.1, S.2.1, S.2.2.1, v)
def wd_State (G : xG) (a : Nat → Nat) (S : tt_State) : va_W := [(a 0, .inr (4, [.ref (a 1), .int (gf_State_length S), .int (gf_State_depth S), .int (gf_State_guesser S)])),
  (a 1, .inl (G.2.1, 100, .inl (gf_State_signs S)))]
abbrev tt_Pasts : Type := (Nat → Int32) × (Nat → Int32) × (Nat → Int32) × (Nat → Int32) × (Nat → Int32) × (Nat → Int32) × Int32 × Int32 × Int32
def gf_Pasts_zeros (S : tt_Pasts) : (Nat → Int32) := S.1
def sf_Pasts_zeros (S : tt_Pasts) (v : (Nat → Int32)) : tt_Pasts := (v, S.2)
def gf_Pasts_ones (S : tt_Pasts) : (Nat → Int32) := S.2.1
def sf_Pasts_ones (S : tt_Pasts) (v : (Nat → Int32)) : tt_Pasts := (S.1, v, S.2.2)
def gf_Pasts_weights (S : tt_Pasts) : (Nat → Int32) := S.2.2.1
def sf_Pasts_weights (S : tt_Pasts) (v : (Nat → Int32)) : tt_Pasts := (S.1, S.2.1, v, S.2.2.2)
def gf_Pasts_paidAlone (S : tt_Pasts) : (Nat → Int32) := S.2.2.2.1
def sf_Pasts_paidAlone (S : tt_Pasts) (v : (Nat → Int32)) : tt_Pasts := (S.1, S.2.1, S.2.2.1, v, S.2.2.2.2)
def gf_Pasts_owns (S : tt_Pasts) : (Nat → Int32) := S.2.2.2.2.1
def sf_Pasts_owns (S : tt_Pasts) (v : (Nat → Int32)) : tt_Pasts := (S.1, S.2.1, S.2.2.1, S.2.2.2.1, v, S.2.2.2.2.2)
def gf_Pasts_guesses (S : tt_Pasts) : (Nat → Int32) := S.2.2.2.2.2.1
def sf_Pasts_guesses (S : tt_Pasts) (v : (Nat → Int32)) : tt_Pasts := (S.1, S.2.1, S.2.2.1, S.2.2.2.1, S.2.2.2.2.1, v, S.2.2.2.2.2.2)
def gf_Pasts_depth (S : tt_Pasts) : Int32 := S.2.2.2.2.2.2.1
def sf_Pasts_depth (S : tt_Pasts) (v : Int32) : tt_Pasts := (S.1, S.2.1, S.2.2.1, S.2.2.2.1, S.2.2.2.2.1, S.2.2.2.2.2.1, v, S.2.2.2.2.2.2.2)
def gf_Pasts_guesser (S : tt_Pasts) : Int32 := S.2.2.2.2.2.2.2.1
def sf_Pasts_guesser (S : tt_Pasts) (v : Int32) : tt_Pasts := (S.1, S.2.1, S.2.2.1, S.2.2.2.1, S.2.2.2.2.1, S.2.2.2.2.2.1, S.2.2.2.2.2.2.1, v, S.2.2.2.2.2.2.2.2)
def gf_Pasts_past (S : tt_Pasts) : Int32 := S.2.2.2.2.2.2.2.2
def sf_Pasts_past (S : tt_Pasts) (v : Int32) : tt_Pasts := (S.1, S.2.1, S.2.2.1, S.2.2.2.1, S.2.2.2.2.1, S.2.2.2.2.2.1, S.2.2.2.2.2.2.1, S.2.2.2.2.2.2.2.1, v)
def wd_Pasts (G : xG) (a : Nat → Nat) (S : tt_Pasts) : va_W := [(a 0, .inr (2, [.ref (a 1), .ref (a 2), .ref (a 3), .ref (a 4), .ref (a 5), .ref (a 6), .int (gf_Pasts_depth S), .int (gf_Pasts_guesser S), .int (gf_Pasts_past S)])),
  (a 1, .inl (G.2.1, 128, .inl (gf_Pasts_zeros S))),
  (a 2, .inl (G.2.1, 128, .inl (gf_Pasts_ones S))),
  (a 3, .inl (G.2.1, 128, .inl (gf_Pasts_weights S))),
  (a 4, .inl (G.2.1, 128, .inl (gf_Pasts_paidAlone S))),
  (a 5, .inl (G.2.1, 7, .inl (gf_Pasts_owns S))),
  (a 6, .inl (G.2.1, 7, .inl (gf_Pasts_guesses S)))]
abbrev tt_Row : Type := (Nat → Int32) × (Nat → Int32) × (Nat → Int32) × tt_Pasts × Int32 × Int32
def gf_Row_signs (S : tt_Row) : (Nat → Int32) := S.1
def sf_Row_signs (S : tt_Row) (v : (Nat → Int32)) : tt_Row := (v, S.2)
def gf_Row_foretold (S : tt_Row) : (Nat → Int32) := S.2.1
def sf_Row_foretold (S : tt_Row) (v : (Nat → Int32)) : tt_Row := (S.1, v, S.2.2)
def gf_Row_paid (S : tt_Row) : (Nat → Int32) := S.2.2.1
def sf_Row_paid (S : tt_Row) (v : (Nat → Int32)) : tt_Row := (S.1, S.2.1, v, S.2.2.2)
def gf_Row_pasts (S : tt_Row) : tt_Pasts := S.2.2.2.1
def sf_Row_pasts (S : tt_Row) (v : tt_Pasts) : tt_Row := (S.1, S.2.1, S.2.2.1, v, S.2.2.2.2)
def gf_Row_length (S : tt_Row) : Int32 := S.2.2.2.2.1
def sf_Row_length (S : tt_Row) (v : Int32) : tt_Row := (S.1, S.2.1, S.2.2.1, S.2.2.2.1, v, S.2.2.2.2.2)
def gf_Row_paidInAll (S : tt_Row) : Int32 := S.2.2.2.2.2
def sf_Row_paidInAll (S : tt_Row) (v : Int32) : tt_Row := (S.1, S.2.1, S.2.2.1, S.2.2.2.1, S.2.2.2.2.1, v)
def wd_Row (G : xG) (a : Nat → Nat) (S : tt_Row) : va_W := [(a 0, .inr (3, [.ref (a 1), .ref (a 2), .ref (a 3), .ref (a 4), .int (gf_Row_length S), .int (gf_Row_paidInAll S)])),
  (a 1, .inl (G.2.1, 100, .inl (gf_Row_signs S))),
  (a 2, .inl (G.2.1, 100, .inl (gf_Row_foretold S))),
  (a 3, .inl (G.2.1, 100, .inl (gf_Row_paid S))),
  (a 4, .inr (2, [.ref (a 5), .ref (a 6), .ref (a 7), .ref (a 8), .ref (a 9), .ref (a 10), .int (gf_Pasts_depth (gf_Row_pasts S)), .int (gf_Pasts_guesser (gf_Row_pasts S)), .int (gf_Pasts_past (gf_Row_pasts S))])),
  (a 5, .inl (G.2.1, 128, .inl (gf_Pasts_zeros (gf_Row_pasts S)))),
  (a 6, .inl (G.2.1, 128, .inl (gf_Pasts_ones (gf_Row_pasts S)))),
  (a 7, .inl (G.2.1, 128, .inl (gf_Pasts_weights (gf_Row_pasts S)))),
  (a 8, .inl (G.2.1, 128, .inl (gf_Pasts_paidAlone (gf_Row_pasts S)))),
  (a 9, .inl (G.2.1, 7, .inl (gf_Pasts_owns (gf_Row_pasts S)))),
  (a 10, .inl (G.2.1, 7, .inl (gf_Pasts_guesses (gf_Row_pasts S))))]
abbrev tt_Contest : Type := (Nat → Int32) × Int32 × Int32 × Int32 × Int32
def gf_Contest_judged (S : tt_Contest) : (Nat → Int32) := S.1
def sf_Contest_judged (S : tt_Contest) (v : (Nat → Int32)) : tt_Contest := (v, S.2)
def gf_Contest_length (S : tt_Contest) : Int32 := S.2.1
def sf_Contest_length (S : tt_Contest) (v : Int32) : tt_Contest := (S.1, v, S.2.2)
def gf_Contest_depth (S : tt_Contest) : Int32 := S.2.2.1
def sf_Contest_depth (S : tt_Contest) (v : Int32) : tt_Contest := (S.1, S.2.1, v, S.2.2.2)
def gf_Contest_guesser (S : tt_Contest) : Int32 := S.2.2.2.1
def sf_Contest_guesser (S : tt_Contest) (v : Int32) : tt_Contest := (S.1, S.2.1, S.2.2.1, v, S.2.2.2.2)
def gf_Contest_price (S : tt_Contest) : Int32 := S.2.2.2.2
def sf_Contest_price (S : tt_Contest) (v : Int32) : tt_Contest := (S.1, S.2.1, S.2.2.1, S.2.2.2.1, v)
def wd_Contest (G : xG) (a : Nat → Nat) (S : tt_Contest) : va_W := [(a 0, .inr (1, [.ref (a 1), .int (gf_Contest_length S), .int (gf_Contest_depth S), .int (gf_Contest_guesser S), .int (gf_Contest_price S)])),
  (a 1, .inl (G.2.1, 100, .inl (gf_Contest_judged S)))]
abbrev tt_BestTree : Type := (Nat → Int32) × (Nat → Int32) × Int32 × Int32
def gf_BestTree_prices (S : tt_BestTree) : (Nat → Int32) := S.1
def sf_BestTree_prices (S : tt_BestTree) (v : (Nat → Int32)) : tt_BestTree := (v, S.2)
def gf_BestTree_kinds (S : tt_BestTree) : (Nat → Int32) := S.2.1
def sf_BestTree_kinds (S : tt_BestTree) (v : (Nat → Int32)) : tt_BestTree := (S.1, v, S.2.2)
def gf_BestTree_leaves (S : tt_BestTree) : Int32 := S.2.2.1
def sf_BestTree_leaves (S : tt_BestTree) (v : Int32) : tt_BestTree := (S.1, S.2.1, v, S.2.2.2)
def gf_BestTree_deepest (S : tt_BestTree) : Int32 := S.2.2.2
def sf_BestTree_deepest (S : tt_BestTree) (v : Int32) : tt_BestTree := (S.1, S.2.1, S.2.2.1, v)
def wd_BestTree (G : xG) (a : Nat → Nat) (S : tt_BestTree) : va_W := [(a 0, .inr (0, [.ref (a 1), .ref (a 2), .int (gf_BestTree_leaves S), .int (gf_BestTree_deepest S)])),
  (a 1, .inl (G.2.1, 128, .inl (gf_BestTree_prices S))),
  (a 2, .inl (G.2.1, 128, .inl (gf_BestTree_kinds S)))]
abbrev tt_Writing : Type := (Nat → Int32) × Int32 × Int64 × Int64 × Int64 × Int32
def gf_Writing_bytes (S : tt_Writing) : (Nat → Int32) := S.1
def sf_Writing_bytes (S : tt_Writing) (v : (Nat → Int32)) : tt_Writing := (v, S.2)
def gf_Writing_length (S : tt_Writing) : Int32 := S.2.1
def sf_Writing_length (S : tt_Writing) (v : Int32) : tt_Writing := (S.1, v, S.2.2)
def gf_Writing_low (S : tt_Writing) : Int64 := S.2.2.1
def sf_Writing_low (S : tt_Writing) (v : Int64) : tt_Writing := (S.1, S.2.1, v, S.2.2.2)
def gf_Writing_range (S : tt_Writing) : Int64 := S.2.2.2.1
def sf_Writing_range (S : tt_Writing) (v : Int64) : tt_Writing := (S.1, S.2.1, S.2.2.1, v, S.2.2.2.2)
def gf_Writing_code (S : tt_Writing) : Int64 := S.2.2.2.2.1
def sf_Writing_code (S : tt_Writing) (v : Int64) : tt_Writing := (S.1, S.2.1, S.2.2.1, S.2.2.2.1, v, S.2.2.2.2.2)
def gf_Writing_nextByte (S : tt_Writing) : Int32 := S.2.2.2.2.2
def sf_Writing_nextByte (S : tt_Writing) (v : Int32) : tt_Writing := (S.1, S.2.1, S.2.2.1, S.2.2.2.1, S.2.2.2.2.1, v)
def wd_Writing (G : xG) (a : Nat → Nat) (S : tt_Writing) : va_W := [(a 0, .inr (7, [.ref (a 1), .int (gf_Writing_length S), .long (gf_Writing_low S), .long (gf_Writing_range S), .long (gf_Writing_code S), .int (gf_Writing_nextByte S)])),
  (a 1, .inl (G.2.1, 204, .inl (gf_Writing_bytes S)))]
abbrev tt_Text : Type := (Nat → Int32) × (Nat → Int32) × Int32 × Int32 × Int32 × Int32 × Int32 × Int32
def gf_Text_bytes (S : tt_Text) : (Nat → Int32) := S.1
def sf_Text_bytes (S : tt_Text) (v : (Nat → Int32)) : tt_Text := (v, S.2)
def gf_Text_signs (S : tt_Text) : (Nat → Int32) := S.2.1
def sf_Text_signs (S : tt_Text) (v : (Nat → Int32)) : tt_Text := (S.1, v, S.2.2)
def gf_Text_length (S : tt_Text) : Int32 := S.2.2.1
def sf_Text_length (S : tt_Text) (v : Int32) : tt_Text := (S.1, S.2.1, v, S.2.2.2)
def gf_Text_found (S : tt_Text) : Int32 := S.2.2.2.1
def sf_Text_found (S : tt_Text) (v : Int32) : tt_Text := (S.1, S.2.1, S.2.2.1, v, S.2.2.2.2)
def gf_Text_fault (S : tt_Text) : Int32 := S.2.2.2.2.1
def sf_Text_fault (S : tt_Text) (v : Int32) : tt_Text := (S.1, S.2.1, S.2.2.1, S.2.2.2.1, v, S.2.2.2.2.2)
def gf_Text_room (S : tt_Text) : Int32 := S.2.2.2.2.2.1
def sf_Text_room (S : tt_Text) (v : Int32) : tt_Text := (S.1, S.2.1, S.2.2.1, S.2.2.2.1, S.2.2.2.2.1, v, S.2.2.2.2.2.2)
def gf_Text_cursor (S : tt_Text) : Int32 := S.2.2.2.2.2.2.1
def sf_Text_cursor (S : tt_Text) (v : Int32) : tt_Text := (S.1, S.2.1, S.2.2.1, S.2.2.2.1, S.2.2.2.2.1, S.2.2.2.2.2.1, v, S.2.2.2.2.2.2.2)
def gf_Text_groupStart (S : tt_Text) : Int32 := S.2.2.2.2.2.2.2
def sf_Text_groupStart (S : tt_Text) (v : Int32) : tt_Text := (S.1, S.2.1, S.2.2.1, S.2.2.2.1, S.2.2.2.2.1, S.2.2.2.2.2.1, S.2.2.2.2.2.2.1, v)
def wd_Text (G : xG) (a : Nat → Nat) (S : tt_Text) : va_W := [(a 0, .inr (6, [.ref (a 1), .ref (a 2), .int (gf_Text_length S), .int (gf_Text_found S), .int (gf_Text_fault S), .int (gf_Text_room S), .int (gf_Text_cursor S), .int (gf_Text_groupStart S)])),
  (a 1, .inl (G.2.1, 120, .inl (gf_Text_bytes S))),
  (a 2, .inl (G.2.1, 100, .inl (gf_Text_signs S)))]
abbrev tt_States : Type := (Nat → tt_State) × Int32 × Int32
def gf_States_ring (S : tt_States) : (Nat → tt_State) := S.1
def sf_States_ring (S : tt_States) (v : (Nat → tt_State)) : tt_States := (v, S.2)
def gf_States_size (S : tt_States) : Int32 := S.2.1
def sf_States_size (S : tt_States) (v : Int32) : tt_States := (S.1, v, S.2.2)
def gf_States_top (S : tt_States) : Int32 := S.2.2
def sf_States_top (S : tt_States) (v : Int32) : tt_States := (S.1, S.2.1, v)
def wd_States (G : xG) (a : Nat → Nat) (S : tt_States) : va_W := [(a 0, .inr (5, [.ref (a 1), .int (gf_States_size S), .int (gf_States_top S)])),
  (a 1, .inl (G.2.2.2, 6, .inr (.inr (.inr (.inr (fun i => some (a (2 + 2 * i)))))))),
  (a 2, .inr (4, [.ref (a 3), .int (gf_State_length ((gf_States_ring S) 0)), .int (gf_State_depth ((gf_States_ring S) 0)), .int (gf_State_guesser ((gf_States_ring S) 0))])),
  (a 3, .inl (G.2.1, 100, .inl (gf_State_signs ((gf_States_ring S) 0)))),
  (a 4, .inr (4, [.ref (a 5), .int (gf_State_length ((gf_States_ring S) 1)), .int (gf_State_depth ((gf_States_ring S) 1)), .int (gf_State_guesser ((gf_States_ring S) 1))])),
  (a 5, .inl (G.2.1, 100, .inl (gf_State_signs ((gf_States_ring S) 1)))),
  (a 6, .inr (4, [.ref (a 7), .int (gf_State_length ((gf_States_ring S) 2)), .int (gf_State_depth ((gf_States_ring S) 2)), .int (gf_State_guesser ((gf_States_ring S) 2))])),
  (a 7, .inl (G.2.1, 100, .inl (gf_State_signs ((gf_States_ring S) 2)))),
  (a 8, .inr (4, [.ref (a 9), .int (gf_State_length ((gf_States_ring S) 3)), .int (gf_State_depth ((gf_States_ring S) 3)), .int (gf_State_guesser ((gf_States_ring S) 3))])),
  (a 9, .inl (G.2.1, 100, .inl (gf_State_signs ((gf_States_ring S) 3)))),
  (a 10, .inr (4, [.ref (a 11), .int (gf_State_length ((gf_States_ring S) 4)), .int (gf_State_depth ((gf_States_ring S) 4)), .int (gf_State_guesser ((gf_States_ring S) 4))])),
  (a 11, .inl (G.2.1, 100, .inl (gf_State_signs ((gf_States_ring S) 4)))),
  (a 12, .inr (4, [.ref (a 13), .int (gf_State_length ((gf_States_ring S) 5)), .int (gf_State_depth ((gf_States_ring S) 5)), .int (gf_State_guesser ((gf_States_ring S) 5))])),
  (a 13, .inl (G.2.1, 100, .inl (gf_State_signs ((gf_States_ring S) 5))))]
abbrev tt_TreeOdds : Type := tt_Row × tt_Pasts × tt_Contest × tt_BestTree × tt_Writing × tt_Text × tt_States × Int32 × Int32 × Int32
def gf_TreeOdds_row (S : tt_TreeOdds) : tt_Row := S.1
def sf_TreeOdds_row (S : tt_TreeOdds) (v : tt_Row) : tt_TreeOdds := (v, S.2)
def gf_TreeOdds_spare (S : tt_TreeOdds) : tt_Pasts := S.2.1
def sf_TreeOdds_spare (S : tt_TreeOdds) (v : tt_Pasts) : tt_TreeOdds := (S.1, v, S.2.2)
def gf_TreeOdds_contest (S : tt_TreeOdds) : tt_Contest := S.2.2.1
def sf_TreeOdds_contest (S : tt_TreeOdds) (v : tt_Contest) : tt_TreeOdds := (S.1, S.2.1, v, S.2.2.2)
def gf_TreeOdds_bestTree (S : tt_TreeOdds) : tt_BestTree := S.2.2.2.1
def sf_TreeOdds_bestTree (S : tt_TreeOdds) (v : tt_BestTree) : tt_TreeOdds := (S.1, S.2.1, S.2.2.1, v, S.2.2.2.2)
def gf_TreeOdds_writing (S : tt_TreeOdds) : tt_Writing := S.2.2.2.2.1
def sf_TreeOdds_writing (S : tt_TreeOdds) (v : tt_Writing) : tt_TreeOdds := (S.1, S.2.1, S.2.2.1, S.2.2.2.1, v, S.2.2.2.2.2)
def gf_TreeOdds_text (S : tt_TreeOdds) : tt_Text := S.2.2.2.2.2.1
def sf_TreeOdds_text (S : tt_TreeOdds) (v : tt_Text) : tt_TreeOdds := (S.1, S.2.1, S.2.2.1, S.2.2.2.1, S.2.2.2.2.1, v, S.2.2.2.2.2.2)
def gf_TreeOdds_states (S : tt_TreeOdds) : tt_States := S.2.2.2.2.2.2.1
def sf_TreeOdds_states (S : tt_TreeOdds) (v : tt_States) : tt_TreeOdds := (S.1, S.2.1, S.2.2.1, S.2.2.2.1, S.2.2.2.2.1, S.2.2.2.2.2.1, v, S.2.2.2.2.2.2.2)
def gf_TreeOdds_timesBad (S : tt_TreeOdds) : Int32 := S.2.2.2.2.2.2.2.1
def sf_TreeOdds_timesBad (S : tt_TreeOdds) (v : Int32) : tt_TreeOdds := (S.1, S.2.1, S.2.2.1, S.2.2.2.1, S.2.2.2.2.1, S.2.2.2.2.2.1, S.2.2.2.2.2.2.1, v, S.2.2.2.2.2.2.2.2)
def gf_TreeOdds_timesNo (S : tt_TreeOdds) : Int32 := S.2.2.2.2.2.2.2.2.1
def sf_TreeOdds_timesNo (S : tt_TreeOdds) (v : Int32) : tt_TreeOdds := (S.1, S.2.1, S.2.2.1, S.2.2.2.1, S.2.2.2.2.1, S.2.2.2.2.2.1, S.2.2.2.2.2.2.1, S.2.2.2.2.2.2.2.1, v, S.2.2.2.2.2.2.2.2.2)
def gf_TreeOdds_timesFull (S : tt_TreeOdds) : Int32 := S.2.2.2.2.2.2.2.2.2
def sf_TreeOdds_timesFull (S : tt_TreeOdds) (v : Int32) : tt_TreeOdds := (S.1, S.2.1, S.2.2.1, S.2.2.2.1, S.2.2.2.2.1, S.2.2.2.2.2.1, S.2.2.2.2.2.2.1, S.2.2.2.2.2.2.2.1, S.2.2.2.2.2.2.2.2.1, v)
def wd_TreeOdds (G : xG) (a : Nat → Nat) (S : tt_TreeOdds) : va_W := [(a 0, .inr (8, [.ref (a 1), .ref (a 12), .ref (a 19), .ref (a 21), .ref (a 24), .ref (a 26), .ref (a 29), .int (gf_TreeOdds_timesBad S), .int (gf_TreeOdds_timesNo S), .int (gf_TreeOdds_timesFull S)])),
  (a 1, .inr (3, [.ref (a 2), .ref (a 3), .ref (a 4), .ref (a 5), .int (gf_Row_length (gf_TreeOdds_row S)), .int (gf_Row_paidInAll (gf_TreeOdds_row S))])),
  (a 2, .inl (G.2.1, 100, .inl (gf_Row_signs (gf_TreeOdds_row S)))),
  (a 3, .inl (G.2.1, 100, .inl (gf_Row_foretold (gf_TreeOdds_row S)))),
  (a 4, .inl (G.2.1, 100, .inl (gf_Row_paid (gf_TreeOdds_row S)))),
  (a 5, .inr (2, [.ref (a 6), .ref (a 7), .ref (a 8), .ref (a 9), .ref (a 10), .ref (a 11), .int (gf_Pasts_depth (gf_Row_pasts (gf_TreeOdds_row S))), .int (gf_Pasts_guesser (gf_Row_pasts (gf_TreeOdds_row S))), .int (gf_Pasts_past (gf_Row_pasts (gf_TreeOdds_row S)))])),
  (a 6, .inl (G.2.1, 128, .inl (gf_Pasts_zeros (gf_Row_pasts (gf_TreeOdds_row S))))),
  (a 7, .inl (G.2.1, 128, .inl (gf_Pasts_ones (gf_Row_pasts (gf_TreeOdds_row S))))),
  (a 8, .inl (G.2.1, 128, .inl (gf_Pasts_weights (gf_Row_pasts (gf_TreeOdds_row S))))),
  (a 9, .inl (G.2.1, 128, .inl (gf_Pasts_paidAlone (gf_Row_pasts (gf_TreeOdds_row S))))),
  (a 10, .inl (G.2.1, 7, .inl (gf_Pasts_owns (gf_Row_pasts (gf_TreeOdds_row S))))),
  (a 11, .inl (G.2.1, 7, .inl (gf_Pasts_guesses (gf_Row_pasts (gf_TreeOdds_row S))))),
  (a 12, .inr (2, [.ref (a 13), .ref (a 14), .ref (a 15), .ref (a 16), .ref (a 17), .ref (a 18), .int (gf_Pasts_depth (gf_TreeOdds_spare S)), .int (gf_Pasts_guesser (gf_TreeOdds_spare S)), .int (gf_Pasts_past (gf_TreeOdds_spare S))])),
  (a 13, .inl (G.2.1, 128, .inl (gf_Pasts_zeros (gf_TreeOdds_spare S)))),
  (a 14, .inl (G.2.1, 128, .inl (gf_Pasts_ones (gf_TreeOdds_spare S)))),
  (a 15, .inl (G.2.1, 128, .inl (gf_Pasts_weights (gf_TreeOdds_spare S)))),
  (a 16, .inl (G.2.1, 128, .inl (gf_Pasts_paidAlone (gf_TreeOdds_spare S)))),
  (a 17, .inl (G.2.1, 7, .inl (gf_Pasts_owns (gf_TreeOdds_spare S)))),
  (a 18, .inl (G.2.1, 7, .inl (gf_Pasts_guesses (gf_TreeOdds_spare S)))),
  (a 19, .inr (1, [.ref (a 20), .int (gf_Contest_length (gf_TreeOdds_contest S)), .int (gf_Contest_depth (gf_TreeOdds_contest S)), .int (gf_Contest_guesser (gf_TreeOdds_contest S)), .int (gf_Contest_price (gf_TreeOdds_contest S))])),
  (a 20, .inl (G.2.1, 100, .inl (gf_Contest_judged (gf_TreeOdds_contest S)))),
  (a 21, .inr (0, [.ref (a 22), .ref (a 23), .int (gf_BestTree_leaves (gf_TreeOdds_bestTree S)), .int (gf_BestTree_deepest (gf_TreeOdds_bestTree S))])),
  (a 22, .inl (G.2.1, 128, .inl (gf_BestTree_prices (gf_TreeOdds_bestTree S)))),
  (a 23, .inl (G.2.1, 128, .inl (gf_BestTree_kinds (gf_TreeOdds_bestTree S)))),
  (a 24, .inr (7, [.ref (a 25), .int (gf_Writing_length (gf_TreeOdds_writing S)), .long (gf_Writing_low (gf_TreeOdds_writing S)), .long (gf_Writing_range (gf_TreeOdds_writing S)), .long (gf_Writing_code (gf_TreeOdds_writing S)), .int (gf_Writing_nextByte (gf_TreeOdds_writing S))])),
  (a 25, .inl (G.2.1, 204, .inl (gf_Writing_bytes (gf_TreeOdds_writing S)))),
  (a 26, .inr (6, [.ref (a 27), .ref (a 28), .int (gf_Text_length (gf_TreeOdds_text S)), .int (gf_Text_found (gf_TreeOdds_text S)), .int (gf_Text_fault (gf_TreeOdds_text S)), .int (gf_Text_room (gf_TreeOdds_text S)), .int (gf_Text_cursor (gf_TreeOdds_text S)), .int (gf_Text_groupStart (gf_TreeOdds_text S))])),
  (a 27, .inl (G.2.1, 120, .inl (gf_Text_bytes (gf_TreeOdds_text S)))),
  (a 28, .inl (G.2.1, 100, .inl (gf_Text_signs (gf_TreeOdds_text S)))),
  (a 29, .inr (5, [.ref (a 30), .int (gf_States_size (gf_TreeOdds_states S)), .int (gf_States_top (gf_TreeOdds_states S))])),
  (a 30, .inl (G.2.2.2, 6, .inr (.inr (.inr (.inr (fun i => some (a (31 + 2 * i)))))))),
  (a 31, .inr (4, [.ref (a 32), .int (gf_State_length ((gf_States_ring (gf_TreeOdds_states S)) 0)), .int (gf_State_depth ((gf_States_ring (gf_TreeOdds_states S)) 0)), .int (gf_State_guesser ((gf_States_ring (gf_TreeOdds_states S)) 0))])),
  (a 32, .inl (G.2.1, 100, .inl (gf_State_signs ((gf_States_ring (gf_TreeOdds_states S)) 0)))),
  (a 33, .inr (4, [.ref (a 34), .int (gf_State_length ((gf_States_ring (gf_TreeOdds_states S)) 1)), .int (gf_State_depth ((gf_States_ring (gf_TreeOdds_states S)) 1)), .int (gf_State_guesser ((gf_States_ring (gf_TreeOdds_states S)) 1))])),
  (a 34, .inl (G.2.1, 100, .inl (gf_State_signs ((gf_States_ring (gf_TreeOdds_states S)) 1)))),
  (a 35, .inr (4, [.ref (a 36), .int (gf_State_length ((gf_States_ring (gf_TreeOdds_states S)) 2)), .int (gf_State_depth ((gf_States_ring (gf_TreeOdds_states S)) 2)), .int (gf_State_guesser ((gf_States_ring (gf_TreeOdds_states S)) 2))])),
  (a 36, .inl (G.2.1, 100, .inl (gf_State_signs ((gf_States_ring (gf_TreeOdds_states S)) 2)))),
  (a 37, .inr (4, [.ref (a 38), .int (gf_State_length ((gf_States_ring (gf_TreeOdds_states S)) 3)), .int (gf_State_depth ((gf_States_ring (gf_TreeOdds_states S)) 3)), .int (gf_State_guesser ((gf_States_ring (gf_TreeOdds_states S)) 3))])),
  (a 38, .inl (G.2.1, 100, .inl (gf_State_signs ((gf_States_ring (gf_TreeOdds_states S)) 3)))),
  (a 39, .inr (4, [.ref (a 40), .int (gf_State_length ((gf_States_ring (gf_TreeOdds_states S)) 4)), .int (gf_State_depth ((gf_States_ring (gf_TreeOdds_states S)) 4)), .int (gf_State_guesser ((gf_States_ring (gf_TreeOdds_states S)) 4))])),
  (a 40, .inl (G.2.1, 100, .inl (gf_State_signs ((gf_States_ring (gf_TreeOdds_states S)) 4)))),
  (a 41, .inr (4, [.ref (a 42), .int (gf_State_length ((gf_States_ring (gf_TreeOdds_states S)) 5)), .int (gf_State_depth ((gf_States_ring (gf_TreeOdds_states S)) 5)), .int (gf_State_guesser ((gf_States_ring (gf_TreeOdds_states S)) 5))])),
  (a 42, .inl (G.2.1, 100, .inl (gf_State_signs ((gf_States_ring (gf_TreeOdds_states S)) 5))))]
abbrev tt_Model : Type := (Nat → Int32) × (Nat → Int32) × Int32 × (Nat → Int32) × (Nat → Int32) × Int32 × Int32 × Int32 × (Nat → Int32) × (Nat → Int32) × (Nat → Int32) × (Nat → Int32) × (Nat → Int32) × (Nat → Int32) × (Nat → Int32) × (Nat → Int32) × (Nat → Int32) × (Nat → Int32) × (Nat → Int32) × (Nat → Int32) × Int32 × Int64 × (Nat → Int32) × Int32 × Int32 × (Nat → Int32) × Int32
def gf_Model_now (S : tt_Model) : (Nat → Int32) := S.1
def sf_Model_now (S : tt_Model) (v : (Nat → Int32)) : tt_Model := (v, S.2)
def gf_Model_past (S : tt_Model) : (Nat → Int32) := S.2.1
def sf_Model_past (S : tt_Model) (v : (Nat → Int32)) : tt_Model := (S.1, v, S.2.2)
def gf_Model_states (S : tt_Model) : Int32 := S.2.2.1
def sf_Model_states (S : tt_Model) (v : Int32) : tt_Model := (S.1, S.2.1, v, S.2.2.2)
def gf_Model_refused (S : tt_Model) : (Nat → Int32) := S.2.2.2.1
def sf_Model_refused (S : tt_Model) (v : (Nat → Int32)) : tt_Model := (S.1, S.2.1, S.2.2.1, v, S.2.2.2.2)
def gf_Model_line (S : tt_Model) : (Nat → Int32) := S.2.2.2.2.1
def sf_Model_line (S : tt_Model) (v : (Nat → Int32)) : tt_Model := (S.1, S.2.1, S.2.2.1, S.2.2.2.1, v, S.2.2.2.2.2)
def gf_Model_came (S : tt_Model) : Int32 := S.2.2.2.2.2.1
def sf_Model_came (S : tt_Model) (v : Int32) : tt_Model := (S.1, S.2.1, S.2.2.1, S.2.2.2.1, S.2.2.2.2.1, v, S.2.2.2.2.2.2)
def gf_Model_byDepth (S : tt_Model) : Int32 := S.2.2.2.2.2.2.1
def sf_Model_byDepth (S : tt_Model) (v : Int32) : tt_Model := (S.1, S.2.1, S.2.2.1, S.2.2.2.1, S.2.2.2.2.1, S.2.2.2.2.2.1, v, S.2.2.2.2.2.2.2)
def gf_Model_byGuesser (S : tt_Model) : Int32 := S.2.2.2.2.2.2.2.1
def sf_Model_byGuesser (S : tt_Model) (v : Int32) : tt_Model := (S.1, S.2.1, S.2.2.1, S.2.2.2.1, S.2.2.2.2.1, S.2.2.2.2.2.1, S.2.2.2.2.2.2.1, v, S.2.2.2.2.2.2.2.2)
def gf_Model_noughts (S : tt_Model) : (Nat → Int32) := S.2.2.2.2.2.2.2.2.1
def sf_Model_noughts (S : tt_Model) (v : (Nat → Int32)) : tt_Model := (S.1, S.2.1, S.2.2.1, S.2.2.2.1, S.2.2.2.2.1, S.2.2.2.2.2.1, S.2.2.2.2.2.2.1, S.2.2.2.2.2.2.2.1, v, S.2.2.2.2.2.2.2.2.2)
def gf_Model_ones (S : tt_Model) : (Nat → Int32) := S.2.2.2.2.2.2.2.2.2.1
def sf_Model_ones (S : tt_Model) (v : (Nat → Int32)) : tt_Model := (S.1, S.2.1, S.2.2.1, S.2.2.2.1, S.2.2.2.2.1, S.2.2.2.2.2.1, S.2.2.2.2.2.2.1, S.2.2.2.2.2.2.2.1, S.2.2.2.2.2.2.2.2.1, v, S.2.2.2.2.2.2.2.2.2.2)
def gf_Model_weights (S : tt_Model) : (Nat → Int32) := S.2.2.2.2.2.2.2.2.2.2.1
def sf_Model_weights (S : tt_Model) (v : (Nat → Int32)) : tt_Model := (S.1, S.2.1, S.2.2.1, S.2.2.2.1, S.2.2.2.2.1, S.2.2.2.2.2.1, S.2.2.2.2.2.2.1, S.2.2.2.2.2.2.2.1, S.2.2.2.2.2.2.2.2.1, S.2.2.2.2.2.2.2.2.2.1, v, S.2.2.2.2.2.2.2.2.2.2.2)
def gf_Model_ownCost (S : tt_Model) : (Nat → Int32) := S.2.2.2.2.2.2.2.2.2.2.2.1
def sf_Model_ownCost (S : tt_Model) (v : (Nat → Int32)) : tt_Model := (S.1, S.2.1, S.2.2.1, S.2.2.2.1, S.2.2.2.2.1, S.2.2.2.2.2.1, S.2.2.2.2.2.2.1, S.2.2.2.2.2.2.2.1, S.2.2.2.2.2.2.2.2.1, S.2.2.2.2.2.2.2.2.2.1, S.2.2.2.2.2.2.2.2.2.2.1, v, S.2.2.2.2.2.2.2.2.2.2.2.2)
def gf_Model_way (S : tt_Model) : (Nat → Int32) := S.2.2.2.2.2.2.2.2.2.2.2.2.1
def sf_Model_way (S : tt_Model) (v : (Nat → Int32)) : tt_Model := (S.1, S.2.1, S.2.2.1, S.2.2.2.1, S.2.2.2.2.1, S.2.2.2.2.2.1, S.2.2.2.2.2.2.1, S.2.2.2.2.2.2.2.1, S.2.2.2.2.2.2.2.2.1, S.2.2.2.2.2.2.2.2.2.1, S.2.2.2.2.2.2.2.2.2.2.1, S.2.2.2.2.2.2.2.2.2.2.2.1, v, S.2.2.2.2.2.2.2.2.2.2.2.2.2)
def gf_Model_own (S : tt_Model) : (Nat → Int32) := S.2.2.2.2.2.2.2.2.2.2.2.2.2.1
def sf_Model_own (S : tt_Model) (v : (Nat → Int32)) : tt_Model := (S.1, S.2.1, S.2.2.1, S.2.2.2.1, S.2.2.2.2.1, S.2.2.2.2.2.1, S.2.2.2.2.2.2.1, S.2.2.2.2.2.2.2.1, S.2.2.2.2.2.2.2.2.1, S.2.2.2.2.2.2.2.2.2.1, S.2.2.2.2.2.2.2.2.2.2.1, S.2.2.2.2.2.2.2.2.2.2.2.1, S.2.2.2.2.2.2.2.2.2.2.2.2.1, v, S.2.2.2.2.2.2.2.2.2.2.2.2.2.2)
def gf_Model_mixed (S : tt_Model) : (Nat → Int32) := S.2.2.2.2.2.2.2.2.2.2.2.2.2.2.1
def sf_Model_mixed (S : tt_Model) (v : (Nat → Int32)) : tt_Model := (S.1, S.2.1, S.2.2.1, S.2.2.2.1, S.2.2.2.2.1, S.2.2.2.2.2.1, S.2.2.2.2.2.2.1, S.2.2.2.2.2.2.2.1, S.2.2.2.2.2.2.2.2.1, S.2.2.2.2.2.2.2.2.2.1, S.2.2.2.2.2.2.2.2.2.2.1, S.2.2.2.2.2.2.2.2.2.2.2.1, S.2.2.2.2.2.2.2.2.2.2.2.2.1, S.2.2.2.2.2.2.2.2.2.2.2.2.2.1, v, S.2.2.2.2.2.2.2.2.2.2.2.2.2.2.2)
def gf_Model_guessAt (S : tt_Model) : (Nat → Int32) := S.2.2.2.2.2.2.2.2.2.2.2.2.2.2.2.1
def sf_Model_guessAt (S : tt_Model) (v : (Nat → Int32)) : tt_Model := (S.1, S.2.1, S.2.2.1, S.2.2.2.1, S.2.2.2.2.1, S.2.2.2.2.2.1, S.2.2.2.2.2.2.1, S.2.2.2.2.2.2.2.1, S.2.2.2.2.2.2.2.2.1, S.2.2.2.2.2.2.2.2.2.1, S.2.2.2.2.2.2.2.2.2.2.1, S.2.2.2.2.2.2.2.2.2.2.2.1, S.2.2.2.2.2.2.2.2.2.2.2.2.1, S.2.2.2.2.2.2.2.2.2.2.2.2.2.1, S.2.2.2.2.2.2.2.2.2.2.2.2.2.2.1, v, S.2.2.2.2.2.2.2.2.2.2.2.2.2.2.2.2)
def gf_Model_treeCost (S : tt_Model) : (Nat → Int32) := S.2.2.2.2.2.2.2.2.2.2.2.2.2.2.2.2.1
def sf_Model_treeCost (S : tt_Model) (v : (Nat → Int32)) : tt_Model := (S.1, S.2.1, S.2.2.1, S.2.2.2.1, S.2.2.2.2.1, S.2.2.2.2.2.1, S.2.2.2.2.2.2.1, S.2.2.2.2.2.2.2.1, S.2.2.2.2.2.2.2.2.1, S.2.2.2.2.2.2.2.2.2.1, S.2.2.2.2.2.2.2.2.2.2.1, S.2.2.2.2.2.2.2.2.2.2.2.1, S.2.2.2.2.2.2.2.2.2.2.2.2.1, S.2.2.2.2.2.2.2.2.2.2.2.2.2.1, S.2.2.2.2.2.2.2.2.2.2.2.2.2.2.1, S.2.2.2.2.2.2.2.2.2.2.2.2.2.2.2.1, v, S.2.2.2.2.2.2.2.2.2.2.2.2.2.2.2.2.2)
def gf_Model_isLeaf (S : tt_Model) : (Nat → Int32) := S.2.2.2.2.2.2.2.2.2.2.2.2.2.2.2.2.2.1
def sf_Model_isLeaf (S : tt_Model) (v : (Nat → Int32)) : tt_Model := (S.1, S.2.1, S.2.2.1, S.2.2.2.1, S.2.2.2.2.1, S.2.2.2.2.2.1, S.2.2.2.2.2.2.1, S.2.2.2.2.2.2.2.1, S.2.2.2.2.2.2.2.2.1, S.2.2.2.2.2.2.2.2.2.1, S.2.2.2.2.2.2.2.2.2.2.1, S.2.2.2.2.2.2.2.2.2.2.2.1, S.2.2.2.2.2.2.2.2.2.2.2.2.1, S.2.2.2.2.2.2.2.2.2.2.2.2.2.1, S.2.2.2.2.2.2.2.2.2.2.2.2.2.2.1, S.2.2.2.2.2.2.2.2.2.2.2.2.2.2.2.1, S.2.2.2.2.2.2.2.2.2.2.2.2.2.2.2.2.1, v, S.2.2.2.2.2.2.2.2.2.2.2.2.2.2.2.2.2.2)
def gf_Model_inTree (S : tt_Model) : (Nat → Int32) := S.2.2.2.2.2.2.2.2.2.2.2.2.2.2.2.2.2.2.1
def sf_Model_inTree (S : tt_Model) (v : (Nat → Int32)) : tt_Model := (S.1, S.2.1, S.2.2.1, S.2.2.2.1, S.2.2.2.2.1, S.2.2.2.2.2.1, S.2.2.2.2.2.2.1, S.2.2.2.2.2.2.2.1, S.2.2.2.2.2.2.2.2.1, S.2.2.2.2.2.2.2.2.2.1, S.2.2.2.2.2.2.2.2.2.2.1, S.2.2.2.2.2.2.2.2.2.2.2.1, S.2.2.2.2.2.2.2.2.2.2.2.2.1, S.2.2.2.2.2.2.2.2.2.2.2.2.2.1, S.2.2.2.2.2.2.2.2.2.2.2.2.2.2.1, S.2.2.2.2.2.2.2.2.2.2.2.2.2.2.2.1, S.2.2.2.2.2.2.2.2.2.2.2.2.2.2.2.2.1, S.2.2.2.2.2.2.2.2.2.2.2.2.2.2.2.2.2.1, v, S.2.2.2.2.2.2.2.2.2.2.2.2.2.2.2.2.2.2.2)
def gf_Model_out (S : tt_Model) : (Nat → Int32) := S.2.2.2.2.2.2.2.2.2.2.2.2.2.2.2.2.2.2.2.1
def sf_Model_out (S : tt_Model) (v : (Nat → Int32)) : tt_Model := (S.1, S.2.1, S.2.2.1, S.2.2.2.1, S.2.2.2.2.1, S.2.2.2.2.2.1, S.2.2.2.2.2.2.1, S.2.2.2.2.2.2.2.1, S.2.2.2.2.2.2.2.2.1, S.2.2.2.2.2.2.2.2.2.1, S.2.2.2.2.2.2.2.2.2.2.1, S.2.2.2.2.2.2.2.2.2.2.2.1, S.2.2.2.2.2.2.2.2.2.2.2.2.1, S.2.2.2.2.2.2.2.2.2.2.2.2.2.1, S.2.2.2.2.2.2.2.2.2.2.2.2.2.2.1, S.2.2.2.2.2.2.2.2.2.2.2.2.2.2.2.1, S.2.2.2.2.2.2.2.2.2.2.2.2.2.2.2.2.1, S.2.2.2.2.2.2.2.2.2.2.2.2.2.2.2.2.2.1, S.2.2.2.2.2.2.2.2.2.2.2.2.2.2.2.2.2.2.1, v, S.2.2.2.2.2.2.2.2.2.2.2.2.2.2.2.2.2.2.2.2)
def gf_Model_outLong (S : tt_Model) : Int32 := S.2.2.2.2.2.2.2.2.2.2.2.2.2.2.2.2.2.2.2.2.1
def sf_Model_outLong (S : tt_Model) (v : Int32) : tt_Model := (S.1, S.2.1, S.2.2.1, S.2.2.2.1, S.2.2.2.2.1, S.2.2.2.2.2.1, S.2.2.2.2.2.2.1, S.2.2.2.2.2.2.2.1, S.2.2.2.2.2.2.2.2.1, S.2.2.2.2.2.2.2.2.2.1, S.2.2.2.2.2.2.2.2.2.2.1, S.2.2.2.2.2.2.2.2.2.2.2.1, S.2.2.2.2.2.2.2.2.2.2.2.2.1, S.2.2.2.2.2.2.2.2.2.2.2.2.2.1, S.2.2.2.2.2.2.2.2.2.2.2.2.2.2.1, S.2.2.2.2.2.2.2.2.2.2.2.2.2.2.2.1, S.2.2.2.2.2.2.2.2.2.2.2.2.2.2.2.2.1, S.2.2.2.2.2.2.2.2.2.2.2.2.2.2.2.2.2.1, S.2.2.2.2.2.2.2.2.2.2.2.2.2.2.2.2.2.2.1, S.2.2.2.2.2.2.2.2.2.2.2.2.2.2.2.2.2.2.2.1, v, S.2.2.2.2.2.2.2.2.2.2.2.2.2.2.2.2.2.2.2.2.2)
def gf_Model_low (S : tt_Model) : Int64 := S.2.2.2.2.2.2.2.2.2.2.2.2.2.2.2.2.2.2.2.2.2.1
def sf_Model_low (S : tt_Model) (v : Int64) : tt_Model := (S.1, S.2.1, S.2.2.1, S.2.2.2.1, S.2.2.2.2.1, S.2.2.2.2.2.1, S.2.2.2.2.2.2.1, S.2.2.2.2.2.2.2.1, S.2.2.2.2.2.2.2.2.1, S.2.2.2.2.2.2.2.2.2.1, S.2.2.2.2.2.2.2.2.2.2.1, S.2.2.2.2.2.2.2.2.2.2.2.1, S.2.2.2.2.2.2.2.2.2.2.2.2.1, S.2.2.2.2.2.2.2.2.2.2.2.2.2.1, S.2.2.2.2.2.2.2.2.2.2.2.2.2.2.1, S.2.2.2.2.2.2.2.2.2.2.2.2.2.2.2.1, S.2.2.2.2.2.2.2.2.2.2.2.2.2.2.2.2.1, S.2.2.2.2.2.2.2.2.2.2.2.2.2.2.2.2.2.1, S.2.2.2.2.2.2.2.2.2.2.2.2.2.2.2.2.2.2.1, S.2.2.2.2.2.2.2.2.2.2.2.2.2.2.2.2.2.2.2.1, S.2.2.2.2.2.2.2.2.2.2.2.2.2.2.2.2.2.2.2.2.1, v, S.2.2.2.2.2.2.2.2.2.2.2.2.2.2.2.2.2.2.2.2.2.2)
def gf_Model_text (S : tt_Model) : (Nat → Int32) := S.2.2.2.2.2.2.2.2.2.2.2.2.2.2.2.2.2.2.2.2.2.2.1
def sf_Model_text (S : tt_Model) (v : (Nat → Int32)) : tt_Model := (S.1, S.2.1, S.2.2.1, S.2.2.2.1, S.2.2.2.2.1, S.2.2.2.2.2.1, S.2.2.2.2.2.2.1, S.2.2.2.2.2.2.2.1, S.2.2.2.2.2.2.2.2.1, S.2.2.2.2.2.2.2.2.2.1, S.2.2.2.2.2.2.2.2.2.2.1, S.2.2.2.2.2.2.2.2.2.2.2.1, S.2.2.2.2.2.2.2.2.2.2.2.2.1, S.2.2.2.2.2.2.2.2.2.2.2.2.2.1, S.2.2.2.2.2.2.2.2.2.2.2.2.2.2.1, S.2.2.2.2.2.2.2.2.2.2.2.2.2.2.2.1, S.2.2.2.2.2.2.2.2.2.2.2.2.2.2.2.2.1, S.2.2.2.2.2.2.2.2.2.2.2.2.2.2.2.2.2.1, S.2.2.2.2.2.2.2.2.2.2.2.2.2.2.2.2.2.2.1, S.2.2.2.2.2.2.2.2.2.2.2.2.2.2.2.2.2.2.2.1, S.2.2.2.2.2.2.2.2.2.2.2.2.2.2.2.2.2.2.2.2.1, S.2.2.2.2.2.2.2.2.2.2.2.2.2.2.2.2.2.2.2.2.2.1, v, S.2.2.2.2.2.2.2.2.2.2.2.2.2.2.2.2.2.2.2.2.2.2.2)
def gf_Model_textLong (S : tt_Model) : Int32 := S.2.2.2.2.2.2.2.2.2.2.2.2.2.2.2.2.2.2.2.2.2.2.2.1
def sf_Model_textLong (S : tt_Model) (v : Int32) : tt_Model := (S.1, S.2.1, S.2.2.1, S.2.2.2.1, S.2.2.2.2.1, S.2.2.2.2.2.1, S.2.2.2.2.2.2.1, S.2.2.2.2.2.2.2.1, S.2.2.2.2.2.2.2.2.1, S.2.2.2.2.2.2.2.2.2.1, S.2.2.2.2.2.2.2.2.2.2.1, S.2.2.2.2.2.2.2.2.2.2.2.1, S.2.2.2.2.2.2.2.2.2.2.2.2.1, S.2.2.2.2.2.2.2.2.2.2.2.2.2.1, S.2.2.2.2.2.2.2.2.2.2.2.2.2.2.1, S.2.2.2.2.2.2.2.2.2.2.2.2.2.2.2.1, S.2.2.2.2.2.2.2.2.2.2.2.2.2.2.2.2.1, S.2.2.2.2.2.2.2.2.2.2.2.2.2.2.2.2.2.1, S.2.2.2.2.2.2.2.2.2.2.2.2.2.2.2.2.2.2.1, S.2.2.2.2.2.2.2.2.2.2.2.2.2.2.2.2.2.2.2.1, S.2.2.2.2.2.2.2.2.2.2.2.2.2.2.2.2.2.2.2.2.1, S.2.2.2.2.2.2.2.2.2.2.2.2.2.2.2.2.2.2.2.2.2.1, S.2.2.2.2.2.2.2.2.2.2.2.2.2.2.2.2.2.2.2.2.2.2.1, v, S.2.2.2.2.2.2.2.2.2.2.2.2.2.2.2.2.2.2.2.2.2.2.2.2)
def gf_Model_place (S : tt_Model) : Int32 := S.2.2.2.2.2.2.2.2.2.2.2.2.2.2.2.2.2.2.2.2.2.2.2.2.1
def sf_Model_place (S : tt_Model) (v : Int32) : tt_Model := (S.1, S.2.1, S.2.2.1, S.2.2.2.1, S.2.2.2.2.1, S.2.2.2.2.2.1, S.2.2.2.2.2.2.1, S.2.2.2.2.2.2.2.1, S.2.2.2.2.2.2.2.2.1, S.2.2.2.2.2.2.2.2.2.1, S.2.2.2.2.2.2.2.2.2.2.1, S.2.2.2.2.2.2.2.2.2.2.2.1, S.2.2.2.2.2.2.2.2.2.2.2.2.1, S.2.2.2.2.2.2.2.2.2.2.2.2.2.1, S.2.2.2.2.2.2.2.2.2.2.2.2.2.2.1, S.2.2.2.2.2.2.2.2.2.2.2.2.2.2.2.1, S.2.2.2.2.2.2.2.2.2.2.2.2.2.2.2.2.1, S.2.2.2.2.2.2.2.2.2.2.2.2.2.2.2.2.2.1, S.2.2.2.2.2.2.2.2.2.2.2.2.2.2.2.2.2.2.1, S.2.2.2.2.2.2.2.2.2.2.2.2.2.2.2.2.2.2.2.1, S.2.2.2.2.2.2.2.2.2.2.2.2.2.2.2.2.2.2.2.2.1, S.2.2.2.2.2.2.2.2.2.2.2.2.2.2.2.2.2.2.2.2.2.1, S.2.2.2.2.2.2.2.2.2.2.2.2.2.2.2.2.2.2.2.2.2.2.1, S.2.2.2.2.2.2.2.2.2.2.2.2.2.2.2.2.2.2.2.2.2.2.2.1, v, S.2.2.2.2.2.2.2.2.2.2.2.2.2.2.2.2.2.2.2.2.2.2.2.2.2)
def gf_Model_read (S : tt_Model) : (Nat → Int32) := S.2.2.2.2.2.2.2.2.2.2.2.2.2.2.2.2.2.2.2.2.2.2.2.2.2.1
def sf_Model_read (S : tt_Model) (v : (Nat → Int32)) : tt_Model := (S.1, S.2.1, S.2.2.1, S.2.2.2.1, S.2.2.2.2.1, S.2.2.2.2.2.1, S.2.2.2.2.2.2.1, S.2.2.2.2.2.2.2.1, S.2.2.2.2.2.2.2.2.1, S.2.2.2.2.2.2.2.2.2.1, S.2.2.2.2.2.2.2.2.2.2.1, S.2.2.2.2.2.2.2.2.2.2.2.1, S.2.2.2.2.2.2.2.2.2.2.2.2.1, S.2.2.2.2.2.2.2.2.2.2.2.2.2.1, S.2.2.2.2.2.2.2.2.2.2.2.2.2.2.1, S.2.2.2.2.2.2.2.2.2.2.2.2.2.2.2.1, S.2.2.2.2.2.2.2.2.2.2.2.2.2.2.2.2.1, S.2.2.2.2.2.2.2.2.2.2.2.2.2.2.2.2.2.1, S.2.2.2.2.2.2.2.2.2.2.2.2.2.2.2.2.2.2.1, S.2.2.2.2.2.2.2.2.2.2.2.2.2.2.2.2.2.2.2.1, S.2.2.2.2.2.2.2.2.2.2.2.2.2.2.2.2.2.2.2.2.1, S.2.2.2.2.2.2.2.2.2.2.2.2.2.2.2.2.2.2.2.2.2.1, S.2.2.2.2.2.2.2.2.2.2.2.2.2.2.2.2.2.2.2.2.2.2.1, S.2.2.2.2.2.2.2.2.2.2.2.2.2.2.2.2.2.2.2.2.2.2.2.1, S.2.2.2.2.2.2.2.2.2.2.2.2.2.2.2.2.2.2.2.2.2.2.2.2.1, v, S.2.2.2.2.2.2.2.2.2.2.2.2.2.2.2.2.2.2.2.2.2.2.2.2.2.2)
def gf_Model_readLong (S : tt_Model) : Int32 := S.2.2.2.2.2.2.2.2.2.2.2.2.2.2.2.2.2.2.2.2.2.2.2.2.2.2
def sf_Model_readLong (S : tt_Model) (v : Int32) : tt_Model := (S.1, S.2.1, S.2.2.1, S.2.2.2.1, S.2.2.2.2.1, S.2.2.2.2.2.1, S.2.2.2.2.2.2.1, S.2.2.2.2.2.2.2.1, S.2.2.2.2.2.2.2.2.1, S.2.2.2.2.2.2.2.2.2.1, S.2.2.2.2.2.2.2.2.2.2.1, S.2.2.2.2.2.2.2.2.2.2.2.1, S.2.2.2.2.2.2.2.2.2.2.2.2.1, S.2.2.2.2.2.2.2.2.2.2.2.2.2.1, S.2.2.2.2.2.2.2.2.2.2.2.2.2.2.1, S.2.2.2.2.2.2.2.2.2.2.2.2.2.2.2.1, S.2.2.2.2.2.2.2.2.2.2.2.2.2.2.2.2.1, S.2.2.2.2.2.2.2.2.2.2.2.2.2.2.2.2.2.1, S.2.2.2.2.2.2.2.2.2.2.2.2.2.2.2.2.2.2.1, S.2.2.2.2.2.2.2.2.2.2.2.2.2.2.2.2.2.2.2.1, S.2.2.2.2.2.2.2.2.2.2.2.2.2.2.2.2.2.2.2.2.1, S.2.2.2.2.2.2.2.2.2.2.2.2.2.2.2.2.2.2.2.2.2.1, S.2.2.2.2.2.2.2.2.2.2.2.2.2.2.2.2.2.2.2.2.2.2.1, S.2.2.2.2.2.2.2.2.2.2.2.2.2.2.2.2.2.2.2.2.2.2.2.1, S.2.2.2.2.2.2.2.2.2.2.2.2.2.2.2.2.2.2.2.2.2.2.2.2.1, S.2.2.2.2.2.2.2.2.2.2.2.2.2.2.2.2.2.2.2.2.2.2.2.2.2.1, v)
def wd_Model (G : xG) (a : Nat → Nat) (S : tt_Model) : va_W := [(a 0, .inr (9, [.ref (a 1), .ref (a 2), .int (gf_Model_states S), .ref (a 3), .ref (a 4), .int (gf_Model_came S), .int (gf_Model_byDepth S), .int (gf_Model_byGuesser S), .ref (a 5), .ref (a 6), .ref (a 7), .ref (a 8), .ref (a 9), .ref (a 10), .ref (a 11), .ref (a 12), .ref (a 13), .ref (a 14), .ref (a 15), .ref (a 16), .int (gf_Model_outLong S), .long (gf_Model_low S), .ref (a 17), .int (gf_Model_textLong S), .int (gf_Model_place S), .ref (a 18), .int (gf_Model_readLong S)])),
  (a 1, .inl (G.2.1, 103, .inl (gf_Model_now S))),
  (a 2, .inl (G.2.1, 618, .inl (gf_Model_past S))),
  (a 3, .inl (G.2.1, 3, .inl (gf_Model_refused S))),
  (a 4, .inl (G.2.1, 128, .inl (gf_Model_line S))),
  (a 5, .inl (G.2.1, 127, .inl (gf_Model_noughts S))),
  (a 6, .inl (G.2.1, 127, .inl (gf_Model_ones S))),
  (a 7, .inl (G.2.1, 127, .inl (gf_Model_weights S))),
  (a 8, .inl (G.2.1, 127, .inl (gf_Model_ownCost S))),
  (a 9, .inl (G.2.1, 7, .inl (gf_Model_way S))),
  (a 10, .inl (G.2.1, 7, .inl (gf_Model_own S))),
  (a 11, .inl (G.2.1, 7, .inl (gf_Model_mixed S))),
  (a 12, .inl (G.2.1, 128, .inl (gf_Model_guessAt S))),
  (a 13, .inl (G.2.1, 127, .inl (gf_Model_treeCost S))),
  (a 14, .inl (G.2.2.1, 127, .inl (gf_Model_isLeaf S))),
  (a 15, .inl (G.2.1, 127, .inl (gf_Model_inTree S))),
  (a 16, .inl (G.2.1, 256, .inl (gf_Model_out S))),
  (a 17, .inl (G.2.1, 120, .inl (gf_Model_text S))),
  (a 18, .inl (G.2.1, 128, .inl (gf_Model_read S)))]
end
section
def fn_X8_within (x0 : Int32) (x1 : Int32) (x2 : Int32) : Option Int32 :=
  if x0 < x1 then some (0 : Int32) else if x2 < x0 then some (0 : Int32) else some (1 : Int32)
def fn_X8_kept (x0 : Int64) (x2 : Int32) (x3 : Int32) : Option Int32 :=
  if x2.toInt64 ≤ x0 then if x0 ≤ x3.toInt64 then some x0.toInt32 else some x3 else some x2
def fn_X8_nodeOf (x0 : Int32) (x1 : Int32) : Option Int32 :=
  bd_ (fn_X8_kept x0.toInt64 (0 : Int32) (6 : Int32)) fun r_1 => lt_ ((1 : Int32) <<< (r_1 &&& 31)) fun y_3 => some (y_3 ||| (x1 &&& (y_3 - (1 : Int32))))
def fn_X8_quotient (x0 : Int64) (x2 : Int64) : Option Int64 :=
  if (1 : Int64) ≤ x2 then gd_ (¬ x2 = 0) (some (x0 / x2)) else some (0 : Int64)
def fn_X8_opinion_97 (x3 : Int64) (x5 : Int64) : Option Int32 :=
  bd_ (fn_X8_quotient ((65536 : Int64) * x3) x5) fun r_6 => bd_ (fn_X8_kept r_6 (1 : Int32) (65535 : Int32)) fun r_8 => some r_8
def fn_X8_opinion (x0 : Int32) (x1 : Int32) (x2 : Int32) : Option Int32 :=
  lt_ ((((2 : Int32) * x2) + (1 : Int32)).toInt64) fun y_1 => lt_ (((((2 : Int32) * x1) + ((2 : Int32) * x2)) + (2 : Int32)).toInt64) fun y_2 => if x0 = (1 : Int32) then lt_ ((x2 + (1 : Int32)).toInt64) fun y_14 => lt_ (((x1 + x2) + (2 : Int32)).toInt64) fun y_15 => fn_X8_opinion_97 y_14 y_15 else if x0 = (2 : Int32) then lt_ ((((4 : Int32) * x2) + (1 : Int32)).toInt64) fun y_12 => lt_ (((((4 : Int32) * x1) + ((4 : Int32) * x2)) + (2 : Int32)).toInt64) fun y_13 => fn_X8_opinion_97 y_12 y_13 else if x0 = (3 : Int32) then lt_ ((((2 : Int32) * (x2 / (2 : Int32))) + (1 : Int32)).toInt64) fun y_10 => lt_ (((((2 : Int32) * (x1 / (2 : Int32))) + ((2 : Int32) * (x2 / (2 : Int32)))) + (2 : Int32)).toInt64) fun y_11 => fn_X8_opinion_97 y_10 y_11 else fn_X8_opinion_97 y_1 y_2
def fn_X8_ofSign (x0 : Int32) (x1 : Int32) : Option Int32 :=
  if x0 = (1 : Int32) then some x1 else some ((65536 : Int32) - x1)
def fl_X8_bitsOf_6 (k26 : Int32 → Int32 → Option Int32) : Nat → Int32 → Int32 → Int32 → Option Int32
  | 0, _, _, _ => none
  | n + 1, x0, x1, x2 =>
  if x2 ≤ 0 then k26 x0 x1 else if (x0 >>> (x2 &&& 31)) = 0 then lt_ (x2 - (1 : Int32)) fun y_3 => lt_ (x2 + (-1 : Int32)) fun y_4 => fl_X8_bitsOf_6 k26 n x0 y_3 y_4 else k26 x0 x1
def fn_X8_bitsOf_44 (x1 : Int32) (t0 : Int32) : Option Int32 :=
  some (((16 : Int32) * ((16 : Int32) - x1)) - (t0 &&& (15 : Int32)))
def fn_X8_bitsOf_26 (x0 : Int32) (x1 : Int32) : Option Int32 :=
  if x1 < (4 : Int32) then fn_X8_bitsOf_44 x1 (x0 <<< (((4 : Int32) - x1) &&& 31)) else fn_X8_bitsOf_44 x1 (x0 >>> ((x1 - (4 : Int32)) &&& 31))
def fn_X8_bitsOf (x0 : Int32) : Option Int32 :=
  fl_X8_bitsOf_6 (fun (x0_e26_5 : Int32) (x1_e26_5 : Int32) => fn_X8_bitsOf_26 x0_e26_5 x1_e26_5) fu_ x0 (15 : Int32) (15 : Int32)

theorem hd_X8_within : yX8_within.cls ≠ "java/lang/invoke/MethodHandle" ∧ yX8_within.cls ≠ "java/lang/invoke/VarHandle" ∧ (parseMethodDescriptor yX8_within.desc).map (fun d => d.parameters.length) = some 3 := by decide +kernel
set_option maxHeartbeats 4000000 in
set_option maxRecDepth 100000 in
theorem ct_X8_within (l : Launch) (x0 : Int32) (x1 : Int32) (x2 : Int32) (ro : Int32) (hf : fn_X8_within x0 x1 x2 = some ro) : xMs l yX8_within cX8_within 3 (some .boolean) 0 0 [.int x0, .int x1, .int x2] (some (.int ro)) := by
  refine xMsi (by decide) (Nat.le_of_ble_eq_true rfl) ?_
  intro p e s m below meth c C0 ls hl
  have hx := C0.1
  have hb := C0.2.1
  have C0 : xC p s m meth c cX8_within 3 (some .boolean) RX8 _ := C0
  have hl : lv_has ls 3 [(0, .int x0), (1, .int x1), (2, .int x2)] := hl
  unfold fn_X8_within at hf
  refine lv_iload_n (pc := 0) hx hb dX8_within_0 rfl (lv_at hl 0 rfl) ?_
  refine lv_iload_n (pc := 1) hx hb dX8_within_1 rfl (lv_at hl 1 rfl) ?_
  refine lv_icmp_lt (pc := 2) (tgt := 14) hx hb dX8_within_2 (by decide) (fun c_1 => ?_) (fun c_1 => ?_)
  · have hf := it_p hf c_1
    refine lv_iconst (pc := 14) (v := 0) hx hb dX8_within_14 (by decide) ?_
    cases hf
    exact s_zret (pc := 15) C0 (by decide) dX8_within_15
  · have hf := it_n hf c_1
    refine lv_iload_n (pc := 5) hx hb dX8_within_5 rfl (lv_at hl 0 rfl) ?_
    refine lv_iload_n (pc := 6) hx hb dX8_within_6 rfl (lv_at hl 2 rfl) ?_
    refine lv_icmp_gt (pc := 7) (tgt := 14) hx hb dX8_within_7 (by decide) (fun c_2 => ?_) (fun c_2 => ?_)
    · have hf := it_p hf c_2
      refine lv_iconst (pc := 14) (v := 0) hx hb dX8_within_14 (by decide) ?_
      cases hf
      exact s_zret (pc := 15) C0 (by decide) dX8_within_15
    · have hf := it_n hf c_2
      refine lv_iconst (pc := 10) (v := 1) hx hb dX8_within_10 (by decide) ?_
      refine lv_goto (pc := 11) (tgt := 15) hx hb dX8_within_11 (by decide) ?_
      cases hf
      exact s_zret (pc := 15) C0 (by decide) dX8_within_15
theorem hd_X8_kept : yX8_kept.cls ≠ "java/lang/invoke/MethodHandle" ∧ yX8_kept.cls ≠ "java/lang/invoke/VarHandle" ∧ (parseMethodDescriptor yX8_kept.desc).map (fun d => d.parameters.length) = some 3 := by decide +kernel
set_option maxHeartbeats 4000000 in
set_option maxRecDepth 100000 in
theorem ct_X8_kept (l : Launch) (x0 : Int64) (x2 : Int32) (x3 : Int32) (ro : Int32) (hf : fn_X8_kept x0 x2 x3 = some ro) : xMs l yX8_kept cX8_kept 4 (some .int) 0 0 [.long x0, .int x2, .int x3] (some (.int ro)) := by
  refine xMsi (by decide) (Nat.le_of_ble_eq_true rfl) ?_
  intro p e s m below meth c C0 ls hl
  have hx := C0.1
  have hb := C0.2.1
  have C0 : xC p s m meth c cX8_kept 4 (some .int) RX8 _ := C0
  have hl : lv_has ls 4 [(0, .long x0), (2, .int x2), (3, .int x3)] := hl
  unfold fn_X8_kept at hf
  refine lv_lload_n (pc := 0) hx hb dX8_kept_0 rfl (lv_at hl 0 rfl) ?_
  refine lv_iload_n (pc := 1) hx hb dX8_kept_1 rfl (lv_at hl 1 rfl) ?_
  refine lv_i2l (pc := 2) (v := x2.toInt64) hx hb dX8_kept_2 rfl ?_
  refine W.lcmp (pc := 3) hx hb dX8_kept_3 ?_
  refine lv_if_ge (pc := 4) (tgt := 11) hx hb dX8_kept_4 (by decide) (fun c_1 => ?_) (fun c_1 => ?_)
  · have hf := it_p hf ((lg_cmp_ge x0 x2.toInt64).mp c_1)
    refine lv_lload_n (pc := 11) hx hb dX8_kept_11 rfl (lv_at hl 0 rfl) ?_
    refine lv_iload_n (pc := 12) hx hb dX8_kept_12 rfl (lv_at hl 2 rfl) ?_
    refine lv_i2l (pc := 13) (v := x3.toInt64) hx hb dX8_kept_13 rfl ?_
    refine W.lcmp (pc := 14) hx hb dX8_kept_14 ?_
    refine lv_if_le (pc := 15) (tgt := 22) hx hb dX8_kept_15 (by decide) (fun c_2 => ?_) (fun c_2 => ?_)
    · have hf := it_p hf ((lg_cmp_le x0 x3.toInt64).mp c_2)
      refine lv_lload_n (pc := 22) hx hb dX8_kept_22 rfl (lv_at hl 0 rfl) ?_
      refine lv_l2i (pc := 23) (v := x0.toInt32) hx hb dX8_kept_23 rfl ?_
      cases hf
      exact s_iret (pc := 24) C0 dX8_kept_24
    · have hf := it_n hf (fun z => c_2 ((lg_cmp_le x0 x3.toInt64).mpr z))
      refine lv_iload_n (pc := 18) hx hb dX8_kept_18 rfl (lv_at hl 2 rfl) ?_
      refine lv_goto (pc := 19) (tgt := 24) hx hb dX8_kept_19 (by decide) ?_
      cases hf
      exact s_iret (pc := 24) C0 dX8_kept_24
  · have hf := it_n hf (fun z => c_1 ((lg_cmp_ge x0 x2.toInt64).mpr z))
    refine lv_iload_n (pc := 7) hx hb dX8_kept_7 rfl (lv_at hl 1 rfl) ?_
    refine lv_goto (pc := 8) (tgt := 24) hx hb dX8_kept_8 (by decide) ?_
    cases hf
    exact s_iret (pc := 24) C0 dX8_kept_24
theorem hd_X8_nodeOf : yX8_nodeOf.cls ≠ "java/lang/invoke/MethodHandle" ∧ yX8_nodeOf.cls ≠ "java/lang/invoke/VarHandle" ∧ (parseMethodDescriptor yX8_nodeOf.desc).map (fun d => d.parameters.length) = some 2 := by decide +kernel
set_option maxHeartbeats 4000000 in
set_option maxRecDepth 100000 in
theorem ct_X8_nodeOf (l : Launch) (x0 : Int32) (x1 : Int32) (ro : Int32) (hf : fn_X8_nodeOf x0 x1 = some ro) : xMs l yX8_nodeOf cX8_nodeOf 3 (some .int) 1 23 [.int x0, .int x1] (some (.int ro)) := by
  refine xMsi (by decide) (Nat.le_of_ble_eq_true rfl) ?_
  intro p e s m below meth c C0 ls hl
  have hx := C0.1
  have hb := C0.2.1
  have C0 : xC p s m meth c cX8_nodeOf 3 (some .int) RX8 _ := C0
  have hl : lv_has ls 3 [(0, .int x0), (1, .int x1)] := hl
  unfold fn_X8_nodeOf at hf
  refine lv_iconst (pc := 0) (v := 1) hx hb dX8_nodeOf_0 (by decide) ?_
  refine lv_iload_n (pc := 1) hx hb dX8_nodeOf_1 rfl (lv_at hl 0 rfl) ?_
  refine lv_i2l (pc := 2) (v := x0.toInt64) hx hb dX8_nodeOf_2 rfl ?_
  refine lv_iconst (pc := 3) (v := 0) hx hb dX8_nodeOf_3 (by decide) ?_
  refine lv_bipush (pc := 4) (v := 6) hx hb dX8_nodeOf_4 (by decide) ?_
  obtain ⟨r_1, h_2, hf⟩ := bd_e hf
  refine x_cs (pc := 6) (As := [.long x0.toInt64, .int (0 : Int32), .int (6 : Int32)]) (rest := [.int (1 : Int32)]) C0 (ct_X8_kept l x0.toInt64 (0 : Int32) (6 : Int32) r_1 h_2) kw_4_2 kw_4_5 kw_4_1 kw_1_2 hd_X8_kept ⟨by decide, by decide⟩ hl.1 rfl (Nat.le_of_ble_eq_true rfl) ⟨Nat.zero_le _, Nat.zero_le _⟩ dX8_nodeOf_6 ?_
  refine W.eq (g2 := F0 m 9 ls [.int r_1, .int (1 : Int32)]) rfl ?_
  refine lv_ishl (pc := 9) hx hb dX8_nodeOf_9 ?_
  refine lv_topi (fun y_3 ey_3 => ?_)
  have hf := lt_sb hf ey_3
  refine lv_istore_n (pc := 10) (lv' := [(2, .int y_3), (0, .int x0), (1, .int x1)]) hx hb dX8_nodeOf_10 rfl hl (by decide) rfl (fun ls hl => ?_)
  refine lv_iload_n (pc := 11) hx hb dX8_nodeOf_11 rfl (lv_at hl 0 rfl) ?_
  refine lv_iload_n (pc := 12) hx hb dX8_nodeOf_12 rfl (lv_at hl 2 rfl) ?_
  refine lv_iload_n (pc := 13) hx hb dX8_nodeOf_13 rfl (lv_at hl 0 rfl) ?_
  refine lv_iconst (pc := 14) (v := 1) hx hb dX8_nodeOf_14 (by decide) ?_
  refine lv_isub (pc := 15) hx hb dX8_nodeOf_15 ?_
  refine lv_iand (pc := 16) hx hb dX8_nodeOf_16 ?_
  refine lv_ior (pc := 17) hx hb dX8_nodeOf_17 ?_
  cases hf
  exact s_iret (pc := 18) C0 dX8_nodeOf_18
theorem hd_X8_quotient : yX8_quotient.cls ≠ "java/lang/invoke/MethodHandle" ∧ yX8_quotient.cls ≠ "java/lang/invoke/VarHandle" ∧ (parseMethodDescriptor yX8_quotient.desc).map (fun d => d.parameters.length) = some 2 := by decide +kernel
set_option maxHeartbeats 4000000 in
set_option maxRecDepth 100000 in
theorem ct_X8_quotient (l : Launch) (x0 : Int64) (x2 : Int64) (ro : Int64) (hf : fn_X8_quotient x0 x2 = some ro) : xMs l yX8_quotient cX8_quotient 4 (some .long) 0 0 [.long x0, .long x2] (some (.long ro)) := by
  refine xMsi (by decide) (Nat.le_of_ble_eq_true rfl) ?_
  intro p e s m below meth c C0 ls hl
  have hx := C0.1
  have hb := C0.2.1
  have C0 : xC p s m meth c cX8_quotient 4 (some .long) RX8 _ := C0
  have hl : lv_has ls 4 [(0, .long x0), (2, .long x2)] := hl
  unfold fn_X8_quotient at hf
  refine lv_lload_n (pc := 0) hx hb dX8_quotient_0 rfl (lv_at hl 1 rfl) ?_
  refine lv_lconst (pc := 1) (v := 1) hx hb dX8_quotient_1 (by decide) ?_
  refine W.lcmp (pc := 2) hx hb dX8_quotient_2 ?_
  refine lv_if_ge (pc := 3) (tgt := 10) hx hb dX8_quotient_3 (by decide) (fun c_1 => ?_) (fun c_1 => ?_)
  · have hf := it_p hf ((lg_cmp_ge x2 (1 : Int64)).mp c_1)
    refine lv_lload_n (pc := 10) hx hb dX8_quotient_10 rfl (lv_at hl 0 rfl) ?_
    refine lv_lload_n (pc := 11) hx hb dX8_quotient_11 rfl (lv_at hl 1 rfl) ?_
    obtain ⟨g_2, hf⟩ := gd_e hf
    refine lv_ldiv (pc := 12) hx hb dX8_quotient_12 g_2 ?_
    cases hf
    exact s_lret (pc := 13) C0 dX8_quotient_13
  · have hf := it_n hf (fun z => c_1 ((lg_cmp_ge x2 (1 : Int64)).mpr z))
    refine lv_lconst (pc := 6) (v := 0) hx hb dX8_quotient_6 (by decide) ?_
    refine lv_goto (pc := 7) (tgt := 13) hx hb dX8_quotient_7 (by decide) ?_
    cases hf
    exact s_lret (pc := 13) C0 dX8_quotient_13
set_option maxHeartbeats 4000000 in
set_option maxRecDepth 100000 in
theorem lb_X8_opinion_97 {l : Launch} {p : Program} {e : Env} {s : State} {m : MethodId} {args : Array Value} {below : List Frame} {meth : Method} {c : Code} (C0 : xC p s m meth c cX8_opinion 7 (some .int) RX8 args) (ro : Int32) : ∀ (x3 : Int64) (x5 : Int64), fn_X8_opinion_97 x3 x5 = some ro → ∀ (ls : Array Slot), lv_has ls 7 [(3, .long x3), (5, .long x5)] → W p l e ({ frames := 1, cells := 0, slots := 0, locals := 23 }) s m args below meth c s.heap [] 0 0 (MQ below (xQs (some (.int ro))) args s 0 0 (fun _ => False)) (F0 m 97 ls []) := by
  have hx := C0.1
  have hb := C0.2.1
  intro x3 x5 hf ls hl
  unfold fn_X8_opinion_97 at hf
  refine x_ldc2 (pc := 97) C0 kw_4_12 dX8_opinion_97 ?_
  refine lv_lload_n (pc := 100) hx hb dX8_opinion_100 rfl (lv_at hl 0 rfl) ?_
  refine lv_lmul (pc := 101) hx hb dX8_opinion_101 ?_
  refine lv_lload (pc := 102) hx hb dX8_opinion_102 (lv_at hl 1 rfl) ?_
  obtain ⟨r_6, h_7, hf⟩ := bd_e hf
  refine x_cs (pc := 104) (As := [.long ((65536 : Int64) * x3), .long x5]) (rest := []) C0 (ct_X8_quotient l ((65536 : Int64) * x3) x5 r_6 h_7) kw_4_16 kw_4_14 kw_4_15 kw_1_2 hd_X8_quotient ⟨by decide, by decide⟩ hl.1 rfl (Nat.le_of_ble_eq_true rfl) ⟨Nat.zero_le _, Nat.zero_le _⟩ dX8_opinion_104 ?_
  refine W.eq (g2 := F0 m 107 ls [.long r_6]) rfl ?_
  refine lv_iconst (pc := 107) (v := 1) hx hb dX8_opinion_107 (by decide) ?_
  refine x_ldcw (pc := 108) C0 kw_4_13 dX8_opinion_108 ?_
  obtain ⟨r_8, h_9, hf⟩ := bd_e hf
  refine x_cs (pc := 111) (As := [.long r_6, .int (1 : Int32), .int (65535 : Int32)]) (rest := []) C0 (ct_X8_kept l r_6 (1 : Int32) (65535 : Int32) r_8 h_9) kw_4_2 kw_4_5 kw_4_1 kw_1_2 hd_X8_kept ⟨by decide, by decide⟩ hl.1 rfl (Nat.le_of_ble_eq_true rfl) ⟨Nat.zero_le _, Nat.zero_le _⟩ dX8_opinion_111 ?_
  refine W.eq (g2 := F0 m 114 ls [.int r_8]) rfl ?_
  cases hf
  exact s_iret (pc := 114) C0 dX8_opinion_114
theorem hd_X8_opinion : yX8_opinion.cls ≠ "java/lang/invoke/MethodHandle" ∧ yX8_opinion.cls ≠ "java/lang/invoke/VarHandle" ∧ (parseMethodDescriptor yX8_opinion.desc).map (fun d => d.parameters.length) = some 3 := by decide +kernel
set_option maxHeartbeats 4000000 in
set_option maxRecDepth 100000 in
theorem ct_X8_opinion (l : Launch) (x0 : Int32) (x1 : Int32) (x2 : Int32) (ro : Int32) (hf : fn_X8_opinion x0 x1 x2 = some ro) : xMs l yX8_opinion cX8_opinion 7 (some .int) 1 23 [.int x0, .int x1, .int x2] (some (.int ro)) := by
  refine xMsi (by decide) (Nat.le_of_ble_eq_true rfl) ?_
  intro p e s m below meth c C0 ls hl
  have hx := C0.1
  have hb := C0.2.1
  have C0 : xC p s m meth c cX8_opinion 7 (some .int) RX8 _ := C0
  have hl : lv_has ls 7 [(0, .int x0), (1, .int x1), (2, .int x2)] := hl
  unfold fn_X8_opinion at hf
  refine lv_iconst (pc := 0) (v := 2) hx hb dX8_opinion_0 (by decide) ?_
  refine lv_iload_n (pc := 1) hx hb dX8_opinion_1 rfl (lv_at hl 2 rfl) ?_
  refine lv_imul (pc := 2) hx hb dX8_opinion_2 ?_
  refine lv_iconst (pc := 3) (v := 1) hx hb dX8_opinion_3 (by decide) ?_
  refine lv_iadd (pc := 4) hx hb dX8_opinion_4 ?_
  refine lv_i2l (pc := 5) (v := (((2 : Int32) * x2) + (1 : Int32)).toInt64) hx hb dX8_opinion_5 rfl ?_
  refine lv_topl (fun y_1 ey_1 => ?_)
  have hf := lt_sb hf ey_1
  refine lv_lstore_n (pc := 6) (lv' := [(3, .long y_1), (0, .int x0), (1, .int x1), (2, .int x2)]) hx hb dX8_opinion_6 rfl hl (by decide) rfl (fun ls hl => ?_)
  refine lv_iconst (pc := 7) (v := 2) hx hb dX8_opinion_7 (by decide) ?_
  refine lv_iload_n (pc := 8) hx hb dX8_opinion_8 rfl (lv_at hl 2 rfl) ?_
  refine lv_imul (pc := 9) hx hb dX8_opinion_9 ?_
  refine lv_iconst (pc := 10) (v := 2) hx hb dX8_opinion_10 (by decide) ?_
  refine lv_iload_n (pc := 11) hx hb dX8_opinion_11 rfl (lv_at hl 3 rfl) ?_
  refine lv_imul (pc := 12) hx hb dX8_opinion_12 ?_
  refine lv_iadd (pc := 13) hx hb dX8_opinion_13 ?_
  refine lv_iconst (pc := 14) (v := 2) hx hb dX8_opinion_14 (by decide) ?_
  refine lv_iadd (pc := 15) hx hb dX8_opinion_15 ?_
  refine lv_i2l (pc := 16) (v := ((((2 : Int32) * x1) + ((2 : Int32) * x2)) + (2 : Int32)).toInt64) hx hb dX8_opinion_16 rfl ?_
  refine lv_topl (fun y_2 ey_2 => ?_)
  have hf := lt_sb hf ey_2
  refine lv_lstore (pc := 17) (lv' := [(5, .long y_2), (3, .long y_1), (0, .int x0), (1, .int x1), (2, .int x2)]) hx hb dX8_opinion_17 hl (by decide) rfl (fun ls hl => ?_)
  refine lv_iload_n (pc := 19) hx hb dX8_opinion_19 rfl (lv_at hl 2 rfl) ?_
  refine lv_iconst (pc := 20) (v := 1) hx hb dX8_opinion_20 (by decide) ?_
  refine lv_icmp_ne (pc := 21) (tgt := 40) hx hb dX8_opinion_21 (by decide) (fun c_3 => ?_) (fun c_3 => ?_)
  · have hf := it_n hf c_3
    refine lv_iload_n (pc := 40) hx hb dX8_opinion_40 rfl (lv_at hl 2 rfl) ?_
    refine lv_iconst (pc := 41) (v := 2) hx hb dX8_opinion_41 (by decide) ?_
    refine lv_icmp_ne (pc := 42) (tgt := 67) hx hb dX8_opinion_42 (by decide) (fun c_4 => ?_) (fun c_4 => ?_)
    · have hf := it_n hf c_4
      refine lv_iload_n (pc := 67) hx hb dX8_opinion_67 rfl (lv_at hl 2 rfl) ?_
      refine lv_iconst (pc := 68) (v := 3) hx hb dX8_opinion_68 (by decide) ?_
      refine lv_icmp_ne (pc := 69) (tgt := 97) hx hb dX8_opinion_69 (by decide) (fun c_5 => ?_) (fun c_5 => ?_)
      · have hf := it_n hf c_5
        exact lb_X8_opinion_97 C0 _  _ _ hf _ (lv_sub hl [1, 0] rfl)
      · have hf := it_p hf c_5
        refine lv_iconst (pc := 72) (v := 2) hx hb dX8_opinion_72 (by decide) ?_
        refine lv_iload_n (pc := 73) hx hb dX8_opinion_73 rfl (lv_at hl 4 rfl) ?_
        refine lv_iconst (pc := 74) (v := 2) hx hb dX8_opinion_74 (by decide) ?_
        refine lv_idiv (pc := 75) hx hb dX8_opinion_75 (by decide) ?_
        refine lv_imul (pc := 76) hx hb dX8_opinion_76 ?_
        refine lv_iconst (pc := 77) (v := 1) hx hb dX8_opinion_77 (by decide) ?_
        refine lv_iadd (pc := 78) hx hb dX8_opinion_78 ?_
        refine lv_i2l (pc := 79) (v := (((2 : Int32) * (x2 / (2 : Int32))) + (1 : Int32)).toInt64) hx hb dX8_opinion_79 rfl ?_
        refine lv_topl (fun y_10 ey_10 => ?_)
        have hf := lt_sb hf ey_10
        refine lv_lstore_n (pc := 80) (lv' := [(3, .long y_10), (5, .long y_2), (0, .int x0), (1, .int x1), (2, .int x2)]) hx hb dX8_opinion_80 rfl hl (by decide) rfl (fun ls hl => ?_)
        refine lv_iconst (pc := 81) (v := 2) hx hb dX8_opinion_81 (by decide) ?_
        refine lv_iload_n (pc := 82) hx hb dX8_opinion_82 rfl (lv_at hl 3 rfl) ?_
        refine lv_iconst (pc := 83) (v := 2) hx hb dX8_opinion_83 (by decide) ?_
        refine lv_idiv (pc := 84) hx hb dX8_opinion_84 (by decide) ?_
        refine lv_imul (pc := 85) hx hb dX8_opinion_85 ?_
        refine lv_iconst (pc := 86) (v := 2) hx hb dX8_opinion_86 (by decide) ?_
        refine lv_iload_n (pc := 87) hx hb dX8_opinion_87 rfl (lv_at hl 4 rfl) ?_
        refine lv_iconst (pc := 88) (v := 2) hx hb dX8_opinion_88 (by decide) ?_
        refine lv_idiv (pc := 89) hx hb dX8_opinion_89 (by decide) ?_
        refine lv_imul (pc := 90) hx hb dX8_opinion_90 ?_
        refine lv_iadd (pc := 91) hx hb dX8_opinion_91 ?_
        refine lv_iconst (pc := 92) (v := 2) hx hb dX8_opinion_92 (by decide) ?_
        refine lv_iadd (pc := 93) hx hb dX8_opinion_93 ?_
        refine lv_i2l (pc := 94) (v := ((((2 : Int32) * (x1 / (2 : Int32))) + ((2 : Int32) * (x2 / (2 : Int32)))) + (2 : Int32)).toInt64) hx hb dX8_opinion_94 rfl ?_
        refine lv_topl (fun y_11 ey_11 => ?_)
        have hf := lt_sb hf ey_11
        refine lv_lstore (pc := 95) (lv' := [(5, .long y_11), (3, .long y_10), (0, .int x0), (1, .int x1), (2, .int x2)]) hx hb dX8_opinion_95 hl (by decide) rfl (fun ls hl => ?_)
        exact lb_X8_opinion_97 C0 _  _ _ hf _ (lv_sub hl [1, 0] rfl)
    · have hf := it_p hf c_4
      refine lv_iconst (pc := 45) (v := 4) hx hb dX8_opinion_45 (by decide) ?_
      refine lv_iload_n (pc := 46) hx hb dX8_opinion_46 rfl (lv_at hl 4 rfl) ?_
      refine lv_imul (pc := 47) hx hb dX8_opinion_47 ?_
      refine lv_iconst (pc := 48) (v := 1) hx hb dX8_opinion_48 (by decide) ?_
      refine lv_iadd (pc := 49) hx hb dX8_opinion_49 ?_
      refine lv_i2l (pc := 50) (v := (((4 : Int32) * x2) + (1 : Int32)).toInt64) hx hb dX8_opinion_50 rfl ?_
      refine lv_topl (fun y_12 ey_12 => ?_)
      have hf := lt_sb hf ey_12
      refine lv_lstore_n (pc := 51) (lv' := [(3, .long y_12), (5, .long y_2), (0, .int x0), (1, .int x1), (2, .int x2)]) hx hb dX8_opinion_51 rfl hl (by decide) rfl (fun ls hl => ?_)
      refine lv_iconst (pc := 52) (v := 4) hx hb dX8_opinion_52 (by decide) ?_
      refine lv_iload_n (pc := 53) hx hb dX8_opinion_53 rfl (lv_at hl 3 rfl) ?_
      refine lv_imul (pc := 54) hx hb dX8_opinion_54 ?_
      refine lv_iconst (pc := 55) (v := 4) hx hb dX8_opinion_55 (by decide) ?_
      refine lv_iload_n (pc := 56) hx hb dX8_opinion_56 rfl (lv_at hl 4 rfl) ?_
      refine lv_imul (pc := 57) hx hb dX8_opinion_57 ?_
      refine lv_iadd (pc := 58) hx hb dX8_opinion_58 ?_
      refine lv_iconst (pc := 59) (v := 2) hx hb dX8_opinion_59 (by decide) ?_
      refine lv_iadd (pc := 60) hx hb dX8_opinion_60 ?_
      refine lv_i2l (pc := 61) (v := ((((4 : Int32) * x1) + ((4 : Int32) * x2)) + (2 : Int32)).toInt64) hx hb dX8_opinion_61 rfl ?_
      refine lv_topl (fun y_13 ey_13 => ?_)
      have hf := lt_sb hf ey_13
      refine lv_lstore (pc := 62) (lv' := [(5, .long y_13), (3, .long y_12), (0, .int x0), (1, .int x1), (2, .int x2)]) hx hb dX8_opinion_62 hl (by decide) rfl (fun ls hl => ?_)
      refine lv_goto (pc := 64) (tgt := 97) hx hb dX8_opinion_64 (by decide) ?_
      exact lb_X8_opinion_97 C0 _  _ _ hf _ (lv_sub hl [1, 0] rfl)
  · have hf := it_p hf c_3
    refine lv_iload_n (pc := 24) hx hb dX8_opinion_24 rfl (lv_at hl 4 rfl) ?_
    refine lv_iconst (pc := 25) (v := 1) hx hb dX8_opinion_25 (by decide) ?_
    refine lv_iadd (pc := 26) hx hb dX8_opinion_26 ?_
    refine lv_i2l (pc := 27) (v := (x2 + (1 : Int32)).toInt64) hx hb dX8_opinion_27 rfl ?_
    refine lv_topl (fun y_14 ey_14 => ?_)
    have hf := lt_sb hf ey_14
    refine lv_lstore_n (pc := 28) (lv' := [(3, .long y_14), (5, .long y_2), (0, .int x0), (1, .int x1), (2, .int x2)]) hx hb dX8_opinion_28 rfl hl (by decide) rfl (fun ls hl => ?_)
    refine lv_iload_n (pc := 29) hx hb dX8_opinion_29 rfl (lv_at hl 3 rfl) ?_
    refine lv_iload_n (pc := 30) hx hb dX8_opinion_30 rfl (lv_at hl 4 rfl) ?_
    refine lv_iadd (pc := 31) hx hb dX8_opinion_31 ?_
    refine lv_iconst (pc := 32) (v := 2) hx hb dX8_opinion_32 (by decide) ?_
    refine lv_iadd (pc := 33) hx hb dX8_opinion_33 ?_
    refine lv_i2l (pc := 34) (v := ((x1 + x2) + (2 : Int32)).toInt64) hx hb dX8_opinion_34 rfl ?_
    refine lv_topl (fun y_15 ey_15 => ?_)
    have hf := lt_sb hf ey_15
    refine lv_lstore (pc := 35) (lv' := [(5, .long y_15), (3, .long y_14), (0, .int x0), (1, .int x1), (2, .int x2)]) hx hb dX8_opinion_35 hl (by decide) rfl (fun ls hl => ?_)
    refine lv_goto (pc := 37) (tgt := 97) hx hb dX8_opinion_37 (by decide) ?_
    exact lb_X8_opinion_97 C0 _  _ _ hf _ (lv_sub hl [1, 0] rfl)
theorem hd_X8_ofSign : yX8_ofSign.cls ≠ "java/lang/invoke/MethodHandle" ∧ yX8_ofSign.cls ≠ "java/lang/invoke/VarHandle" ∧ (parseMethodDescriptor yX8_ofSign.desc).map (fun d => d.parameters.length) = some 2 := by decide +kernel
set_option maxHeartbeats 4000000 in
set_option maxRecDepth 100000 in
theorem ct_X8_ofSign (l : Launch) (x0 : Int32) (x1 : Int32) (ro : Int32) (hf : fn_X8_ofSign x0 x1 = some ro) : xMs l yX8_ofSign cX8_ofSign 2 (some .int) 0 0 [.int x0, .int x1] (some (.int ro)) := by
  refine xMsi (by decide) (Nat.le_of_ble_eq_true rfl) ?_
  intro p e s m below meth c C0 ls hl
  have hx := C0.1
  have hb := C0.2.1
  have C0 : xC p s m meth c cX8_ofSign 2 (some .int) RX8 _ := C0
  have hl : lv_has ls 2 [(0, .int x0), (1, .int x1)] := hl
  unfold fn_X8_ofSign at hf
  refine lv_iload_n (pc := 0) hx hb dX8_ofSign_0 rfl (lv_at hl 0 rfl) ?_
  refine lv_iconst (pc := 1) (v := 1) hx hb dX8_ofSign_1 (by decide) ?_
  refine lv_icmp_ne (pc := 2) (tgt := 9) hx hb dX8_ofSign_2 (by decide) (fun c_1 => ?_) (fun c_1 => ?_)
  · have hf := it_n hf c_1
    refine x_ldc (pc := 9) C0 kw_9_23 dX8_ofSign_9 ?_
    refine lv_iload_n (pc := 11) hx hb dX8_ofSign_11 rfl (lv_at hl 1 rfl) ?_
    refine lv_isub (pc := 12) hx hb dX8_ofSign_12 ?_
    cases hf
    exact s_iret (pc := 13) C0 dX8_ofSign_13
  · have hf := it_p hf c_1
    refine lv_iload_n (pc := 5) hx hb dX8_ofSign_5 rfl (lv_at hl 1 rfl) ?_
    refine lv_goto (pc := 6) (tgt := 13) hx hb dX8_ofSign_6 (by decide) ?_
    cases hf
    exact s_iret (pc := 13) C0 dX8_ofSign_13
set_option maxHeartbeats 4000000 in
set_option maxRecDepth 100000 in
theorem lb_X8_bitsOf_6 {l : Launch} {p : Program} {e : Env} {s : State} {m : MethodId} {args : Array Value} {below : List Frame} {meth : Method} {c : Code} (C0 : xC p s m meth c cX8_bitsOf 3 (some .int) RX8 args) (ro : Int32) (k26 : Int32 → Int32 → Option Int32) (hk26 : ∀ (x0 : Int32) (x1 : Int32), k26 x0 x1 = some ro → ∀ (ls : Array Slot), lv_has ls 3 [(0, .int x0), (1, .int x1)] → W p l e ({ frames := 0, cells := 0, slots := 0, locals := 0 }) s m args below meth c s.heap [] 0 0 (MQ below (xQs (some (.int ro))) args s 0 0 (fun _ => False)) (F0 m 26 ls [])) : ∀ (n : Nat) (x0 : Int32) (x1 : Int32) (x2 : Int32), fl_X8_bitsOf_6 k26 n x0 x1 x2 = some ro → ∀ (ls : Array Slot), lv_has ls 3 [(0, .int x0), (1, .int x1), (2, .int x2)] → W p l e ({ frames := 0, cells := 0, slots := 0, locals := 0 }) s m args below meth c s.heap [] 0 0 (MQ below (xQs (some (.int ro))) args s 0 0 (fun _ => False)) (F0 m 6 ls []) := by
  have hx := C0.1
  have hb := C0.2.1
  intro n
  induction n with
  | zero =>
    intro x0 x1 x2 hf
    have hf : none = some ro := hf
    cases hf
  | succ n ih =>
    intro x0 x1 x2 hf ls hl
    rw [fl_X8_bitsOf_6] at hf
    refine lv_iload_n (pc := 6) hx hb dX8_bitsOf_6 rfl (lv_at hl 2 rfl) ?_
    refine lv_if_le (pc := 7) (tgt := 26) hx hb dX8_bitsOf_7 (by decide) (fun c_1 => ?_) (fun c_1 => ?_)
    · have hf := it_p hf c_1
      exact hk26 _ _ hf _ (lv_sub hl [0, 1] rfl)
    · have hf := it_n hf c_1
      refine lv_iload_n (pc := 10) hx hb dX8_bitsOf_10 rfl (lv_at hl 0 rfl) ?_
      refine lv_iload_n (pc := 11) hx hb dX8_bitsOf_11 rfl (lv_at hl 2 rfl) ?_
      refine lv_ishr (pc := 12) hx hb dX8_bitsOf_12 ?_
      refine lv_if_ne (pc := 13) (tgt := 26) hx hb dX8_bitsOf_13 (by decide) (fun c_2 => ?_) (fun c_2 => ?_)
      · have hf := it_n hf c_2
        exact hk26 _ _ hf _ (lv_sub hl [0, 1] rfl)
      · have hf := it_p hf c_2
        refine lv_iload_n (pc := 16) hx hb dX8_bitsOf_16 rfl (lv_at hl 2 rfl) ?_
        refine lv_iconst (pc := 17) (v := 1) hx hb dX8_bitsOf_17 (by decide) ?_
        refine lv_isub (pc := 18) hx hb dX8_bitsOf_18 ?_
        refine lv_topi (fun y_3 ey_3 => ?_)
        have hf := lt_sb hf ey_3
        refine lv_istore_n (pc := 19) (lv' := [(1, .int y_3), (0, .int x0), (2, .int x2)]) hx hb dX8_bitsOf_19 rfl hl (by decide) rfl (fun ls hl => ?_)
        obtain ⟨y_4, ey_4⟩ : ∃ y : Int32, y = x2 + (-1 : Int32) := ⟨_, rfl⟩
        have hf := lt_sb hf ey_4
        refine lv_iinc (pc := 20) (v := y_4) (lv' := [(2, .int y_4), (1, .int y_3), (0, .int x0)]) hx hb dX8_bitsOf_20 hl (k := 2) rfl (by rw [ey_4]; rfl) (by decide) rfl (fun ls hl => ?_)
        refine lv_goto (pc := 23) (tgt := 6) hx hb dX8_bitsOf_23 (by decide) ?_
        exact ih _ _ _ hf _ (lv_sub hl [2, 1, 0] rfl)
set_option maxHeartbeats 4000000 in
set_option maxRecDepth 100000 in
theorem lb_X8_bitsOf_44 {l : Launch} {p : Program} {e : Env} {s : State} {m : MethodId} {args : Array Value} {below : List Frame} {meth : Method} {c : Code} (C0 : xC p s m meth c cX8_bitsOf 3 (some .int) RX8 args) (ro : Int32) : ∀ (x1 : Int32) (t0 : Int32), fn_X8_bitsOf_44 x1 t0 = some ro → ∀ (ls : Array Slot), lv_has ls 3 [(1, .int x1)] → W p l e ({ frames := 0, cells := 0, slots := 0, locals := 0 }) s m args below meth c s.heap [] 0 0 (MQ below (xQs (some (.int ro))) args s 0 0 (fun _ => False)) (F0 m 44 ls [.int t0]) := by
  have hx := C0.1
  have hb := C0.2.1
  intro x1 t0 hf ls hl
  unfold fn_X8_bitsOf_44 at hf
  refine lv_istore_n (pc := 44) (lv' := [(2, .int t0), (1, .int x1)]) hx hb dX8_bitsOf_44 rfl hl (by decide) rfl (fun ls hl => ?_)
  refine lv_bipush (pc := 45) (v := 16) hx hb dX8_bitsOf_45 (by decide) ?_
  refine lv_bipush (pc := 47) (v := 16) hx hb dX8_bitsOf_47 (by decide) ?_
  refine lv_iload_n (pc := 49) hx hb dX8_bitsOf_49 rfl (lv_at hl 1 rfl) ?_
  refine lv_isub (pc := 50) hx hb dX8_bitsOf_50 ?_
  refine lv_imul (pc := 51) hx hb dX8_bitsOf_51 ?_
  refine lv_iload_n (pc := 52) hx hb dX8_bitsOf_52 rfl (lv_at hl 0 rfl) ?_
  refine lv_bipush (pc := 53) (v := 15) hx hb dX8_bitsOf_53 (by decide) ?_
  refine lv_iand (pc := 55) hx hb dX8_bitsOf_55 ?_
  refine lv_isub (pc := 56) hx hb dX8_bitsOf_56 ?_
  cases hf
  exact s_iret (pc := 57) C0 dX8_bitsOf_57
set_option maxHeartbeats 4000000 in
set_option maxRecDepth 100000 in
theorem lb_X8_bitsOf_26 {l : Launch} {p : Program} {e : Env} {s : State} {m : MethodId} {args : Array Value} {below : List Frame} {meth : Method} {c : Code} (C0 : xC p s m meth c cX8_bitsOf 3 (some .int) RX8 args) (ro : Int32) : ∀ (x0 : Int32) (x1 : Int32), fn_X8_bitsOf_26 x0 x1 = some ro → ∀ (ls : Array Slot), lv_has ls 3 [(0, .int x0), (1, .int x1)] → W p l e ({ frames := 0, cells := 0, slots := 0, locals := 0 }) s m args below meth c s.heap [] 0 0 (MQ below (xQs (some (.int ro))) args s 0 0 (fun _ => False)) (F0 m 26 ls []) := by
  have hx := C0.1
  have hb := C0.2.1
  intro x0 x1 hf ls hl
  unfold fn_X8_bitsOf_26 at hf
  refine lv_iload_n (pc := 26) hx hb dX8_bitsOf_26 rfl (lv_at hl 1 rfl) ?_
  refine lv_iconst (pc := 27) (v := 4) hx hb dX8_bitsOf_27 (by decide) ?_
  refine lv_icmp_lt (pc := 28) (tgt := 39) hx hb dX8_bitsOf_28 (by decide) (fun c_6 => ?_) (fun c_6 => ?_)
  · have hf := it_p hf c_6
    refine lv_iload_n (pc := 39) hx hb dX8_bitsOf_39 rfl (lv_at hl 0 rfl) ?_
    refine lv_iconst (pc := 40) (v := 4) hx hb dX8_bitsOf_40 (by decide) ?_
    refine lv_iload_n (pc := 41) hx hb dX8_bitsOf_41 rfl (lv_at hl 1 rfl) ?_
    refine lv_isub (pc := 42) hx hb dX8_bitsOf_42 ?_
    refine lv_ishl (pc := 43) hx hb dX8_bitsOf_43 ?_
    exact lb_X8_bitsOf_44 C0 _  _ _ hf _ (lv_sub hl [1] rfl)
  · have hf := it_n hf c_6
    refine lv_iload_n (pc := 31) hx hb dX8_bitsOf_31 rfl (lv_at hl 0 rfl) ?_
    refine lv_iload_n (pc := 32) hx hb dX8_bitsOf_32 rfl (lv_at hl 1 rfl) ?_
    refine lv_iconst (pc := 33) (v := 4) hx hb dX8_bitsOf_33 (by decide) ?_
    refine lv_isub (pc := 34) hx hb dX8_bitsOf_34 ?_
    refine lv_ishr (pc := 35) hx hb dX8_bitsOf_35 ?_
    refine lv_goto (pc := 36) (tgt := 44) hx hb dX8_bitsOf_36 (by decide) ?_
    exact lb_X8_bitsOf_44 C0 _  _ _ hf _ (lv_sub hl [1] rfl)
theorem hd_X8_bitsOf : yX8_bitsOf.cls ≠ "java/lang/invoke/MethodHandle" ∧ yX8_bitsOf.cls ≠ "java/lang/invoke/VarHandle" ∧ (parseMethodDescriptor yX8_bitsOf.desc).map (fun d => d.parameters.length) = some 1 := by decide +kernel
set_option maxHeartbeats 4000000 in
set_option maxRecDepth 100000 in
theorem ct_X8_bitsOf (l : Launch) (x0 : Int32) (ro : Int32) (hf : fn_X8_bitsOf x0 = some ro) : xMs l yX8_bitsOf cX8_bitsOf 3 (some .int) 0 0 [.int x0] (some (.int ro)) := by
  refine xMsi (by decide) (Nat.le_of_ble_eq_true rfl) ?_
  intro p e s m below meth c C0 ls hl
  have hx := C0.1
  have hb := C0.2.1
  have C0 : xC p s m meth c cX8_bitsOf 3 (some .int) RX8 _ := C0
  have hl : lv_has ls 3 [(0, .int x0)] := hl
  unfold fn_X8_bitsOf at hf
  refine lv_bipush (pc := 0) (v := 15) hx hb dX8_bitsOf_0 (by decide) ?_
  refine lv_istore_n (pc := 2) (lv' := [(1, .int (15 : Int32)), (0, .int x0)]) hx hb dX8_bitsOf_2 rfl hl (by decide) rfl (fun ls hl => ?_)
  refine lv_bipush (pc := 3) (v := 15) hx hb dX8_bitsOf_3 (by decide) ?_
  refine lv_istore_n (pc := 5) (lv' := [(2, .int (15 : Int32)), (1, .int (15 : Int32)), (0, .int x0)]) hx hb dX8_bitsOf_5 rfl hl (by decide) rfl (fun ls hl => ?_)
  refine lb_X8_bitsOf_6 C0 _ _ ?_ _ _ _ _ hf _ (lv_sub hl [2, 1, 0] rfl)
  · intro x0_e26_5 x1_e26_5 hf ls hl
    exact lb_X8_bitsOf_26 C0 _  _ _ hf _ (lv_sub hl [0, 1] rfl)
end
section
def fn_X2_mix (S0 : tt_Pasts) (x1 : Int32) (x2 : Int32) : Option Int32 :=
  gd_ (ix_ x1 128) (lt_ (((gf_Pasts_weights S0) x1.toNatClampNeg).toInt64) fun y_2 => gd_ (ix_ x2 7) (gd_ (ix_ (x2 + (1 : Int32)) 7) (lt_ ((y_2 * (((gf_Pasts_owns S0) x2.toNatClampNeg).toInt64)) + (((65536 : Int64) - y_2) * (((gf_Pasts_guesses S0) (x2 + (1 : Int32)).toNatClampNeg).toInt64))) fun y_5 => bd_ (fn_X8_kept (y_5 / (65536 : Int64)) (1 : Int32) (65535 : Int32)) fun r_6 => some r_6)))
def fn_X2_lookAhead_71 (k5 : tt_Pasts → Int32 → Option tt_Pasts) (S0 : tt_Pasts) (x1 : Int32) (t1 : Int32) (t2 : Int32) : Option tt_Pasts :=
  gd_ (ix_ t1 7) (lt_ (sf_Pasts_guesses S0 (upd (gf_Pasts_guesses S0) t1.toNatClampNeg t2)) fun S_14 => lt_ (x1 + (-1 : Int32)) fun y_15 => k5 S_14 y_15)
def fl_X2_lookAhead_5 (k78 : tt_Pasts → Option tt_Pasts) : Nat → tt_Pasts → Int32 → Option tt_Pasts
  | 0, _, _ => none
  | n + 1, S0, x1 =>
  if x1 < 0 then k78 S0 else bd_ (fn_X8_nodeOf x1 (gf_Pasts_past S0)) fun r_3 => gd_ (ix_ r_3 128) (gd_ (ix_ r_3 128) (bd_ (fn_X8_opinion (gf_Pasts_guesser S0) ((gf_Pasts_zeros S0) r_3.toNatClampNeg) ((gf_Pasts_ones S0) r_3.toNatClampNeg)) fun r_7 => gd_ (ix_ x1 7) (lt_ (sf_Pasts_owns S0 (upd (gf_Pasts_owns S0) x1.toNatClampNeg r_7)) fun S_10 => if (gf_Pasts_depth S_10) ≤ x1 then gd_ (ix_ x1 7) (fn_X2_lookAhead_71 (fl_X2_lookAhead_5 k78 n) S_10 x1 x1 ((gf_Pasts_owns S_10) x1.toNatClampNeg)) else bd_ (fn_X2_mix S_10 r_3 x1) fun r_16 => fn_X2_lookAhead_71 (fl_X2_lookAhead_5 k78 n) S_10 x1 x1 r_16)))
def fn_X2_lookAhead (S0 : tt_Pasts) : Option tt_Pasts :=
  lt_ (gf_Pasts_depth S0) fun y_1 => fl_X2_lookAhead_5 (fun (S0_e78_18 : tt_Pasts) => some S0_e78_18) fu_ S0 y_1
def fl_X2_begin_34 (k79 : tt_Pasts → Option tt_Pasts) : Nat → tt_Pasts → Int32 → Option tt_Pasts
  | 0, _, _ => none
  | n + 1, S0, x3 =>
  if ((2 : Int32) <<< ((gf_Pasts_depth S0) &&& 31)) ≤ x3 then k79 S0 else gd_ (ix_ x3 128) (lt_ (sf_Pasts_zeros S0 (upd (gf_Pasts_zeros S0) x3.toNatClampNeg (0 : Int32))) fun S_12 => gd_ (ix_ x3 128) (lt_ (sf_Pasts_ones S_12 (upd (gf_Pasts_ones S_12) x3.toNatClampNeg (0 : Int32))) fun S_14 => gd_ (ix_ x3 128) (lt_ (sf_Pasts_weights S_14 (upd (gf_Pasts_weights S_14) x3.toNatClampNeg (32768 : Int32))) fun S_16 => gd_ (ix_ x3 128) (lt_ (sf_Pasts_paidAlone S_16 (upd (gf_Pasts_paidAlone S_16) x3.toNatClampNeg (0 : Int32))) fun S_18 => lt_ (x3 + (1 : Int32)) fun y_19 => fl_X2_begin_34 k79 n S_18 y_19))))
def fn_X2_begin (S0 : tt_Pasts) (x1 : Int32) (x2 : Int32) : Option tt_Pasts :=
  bd_ (fn_X8_kept x1.toInt64 (0 : Int32) (6 : Int32)) fun r_1 => lt_ (sf_Pasts_depth S0 r_1) fun S_3 => bd_ (fn_X8_kept x2.toInt64 (0 : Int32) (3 : Int32)) fun r_4 => lt_ (sf_Pasts_guesser S_3 r_4) fun S_6 => lt_ (sf_Pasts_past S_6 (0 : Int32)) fun S_7 => bd_ (fn_X8_nodeOf (0 : Int32) (0 : Int32)) fun r_8 => fl_X2_begin_34 (fun (S0_e79_20 : tt_Pasts) => bd_ (fn_X2_lookAhead S0_e79_20) fun P_21 => some P_21) fu_ S_7 r_8
def fn_X2_has (S0 : tt_Pasts) (x1 : Int32) (x2 : Int32) : Option Int32 :=
  bd_ (fn_X8_within x1 (0 : Int32) (gf_Pasts_depth S0)) fun r_1 => if r_1 = 0 then some (0 : Int32) else bd_ (fn_X8_within x2 (0 : Int32) (((1 : Int32) <<< (x1 &&& 31)) - (1 : Int32))) fun r_4 => if r_4 = 0 then some (0 : Int32) else some (1 : Int32)
def fn_X2_next (S0 : tt_Pasts) : Option Int32 :=
  gd_ (ix_ (0 : Int32) 7) (some ((gf_Pasts_guesses S0) (0 : Int32).toNatClampNeg))
def fn_X2_tally_50 (S0 : tt_Pasts) (x1 : Int32) : Option tt_Pasts :=
  gd_ (ix_ x1 128) (gd_ (ix_ x1 128) (lt_ (sf_Pasts_zeros S0 (upd (gf_Pasts_zeros S0) x1.toNatClampNeg (((gf_Pasts_zeros S0) x1.toNatClampNeg) / (2 : Int32)))) fun S_9 => gd_ (ix_ x1 128) (gd_ (ix_ x1 128) (lt_ (sf_Pasts_ones S_9 (upd (gf_Pasts_ones S_9) x1.toNatClampNeg (((gf_Pasts_ones S_9) x1.toNatClampNeg) / (2 : Int32)))) fun S_12 => some S_12))))
def fn_X2_tally_28 (S0 : tt_Pasts) (x1 : Int32) : Option tt_Pasts :=
  gd_ (ix_ x1 128) (if (60 : Int32) < ((gf_Pasts_zeros S0) x1.toNatClampNeg) then fn_X2_tally_50 S0 x1 else gd_ (ix_ x1 128) (if ((gf_Pasts_ones S0) x1.toNatClampNeg) ≤ (60 : Int32) then some S0 else fn_X2_tally_50 S0 x1))
def fn_X2_tally (S0 : tt_Pasts) (x1 : Int32) (x2 : Int32) : Option tt_Pasts :=
  if x2 = (1 : Int32) then gd_ (ix_ x1 128) (gd_ (ix_ x1 128) (lt_ (sf_Pasts_ones S0 (upd (gf_Pasts_ones S0) x1.toNatClampNeg (((gf_Pasts_ones S0) x1.toNatClampNeg) + (1 : Int32)))) fun S_17 => fn_X2_tally_28 S_17 x1)) else gd_ (ix_ x1 128) (gd_ (ix_ x1 128) (lt_ (sf_Pasts_zeros S0 (upd (gf_Pasts_zeros S0) x1.toNatClampNeg (((gf_Pasts_zeros S0) x1.toNatClampNeg) + (1 : Int32)))) fun S_4 => fn_X2_tally_28 S_4 x1))
def fn_X2_weighAnew (S0 : tt_Pasts) (x1 : Int32) (x2 : Int32) (x3 : Int32) : Option tt_Pasts :=
  gd_ (ix_ x1 128) (lt_ (((gf_Pasts_weights S0) x1.toNatClampNeg).toInt64) fun y_2 => gd_ (ix_ x2 7) (bd_ (fn_X8_ofSign x3 ((gf_Pasts_owns S0) x2.toNatClampNeg)) fun r_4 => lt_ (y_2 * r_4.toInt64) fun y_6 => gd_ (ix_ (x2 + (1 : Int32)) 7) (bd_ (fn_X8_ofSign x3 ((gf_Pasts_guesses S0) (x2 + (1 : Int32)).toNatClampNeg)) fun r_8 => lt_ (((65536 : Int64) - y_2) * r_8.toInt64) fun y_10 => bd_ (fn_X8_quotient ((65536 : Int64) * y_6) (y_6 + y_10)) fun r_11 => bd_ (fn_X8_kept r_11 (64 : Int32) (65472 : Int32)) fun r_13 => gd_ (ix_ x1 128) (lt_ (sf_Pasts_weights S0 (upd (gf_Pasts_weights S0) x1.toNatClampNeg r_13)) fun S_16 => some S_16))))
def fn_X2_take_56 (k2 : tt_Pasts → Int32 → Int32 → Option tt_Pasts) (S0 : tt_Pasts) (x1 : Int32) (x2 : Int32) (x3 : Int32) : Option tt_Pasts :=
  bd_ (fn_X2_tally S0 x3 x1) fun P_13 => lt_ (x2 + (1 : Int32)) fun y_15 => k2 P_13 x1 y_15
def fl_X2_take_2 (k68 : tt_Pasts → Int32 → Option tt_Pasts) : Nat → tt_Pasts → Int32 → Int32 → Option tt_Pasts
  | 0, _, _, _ => none
  | n + 1, S0, x1, x2 =>
  if (gf_Pasts_depth S0) < x2 then k68 S0 x1 else bd_ (fn_X8_nodeOf x2 (gf_Pasts_past S0)) fun r_2 => gd_ (ix_ r_2 128) (gd_ (ix_ x2 7) (bd_ (fn_X8_ofSign x1 ((gf_Pasts_owns S0) x2.toNatClampNeg)) fun r_6 => bd_ (fn_X8_bitsOf r_6) fun r_8 => gd_ (ix_ r_2 128) (lt_ (sf_Pasts_paidAlone S0 (upd (gf_Pasts_paidAlone S0) r_2.toNatClampNeg (((gf_Pasts_paidAlone S0) r_2.toNatClampNeg) + r_8))) fun S_11 => if (gf_Pasts_depth S_11) ≤ x2 then fn_X2_take_56 (fl_X2_take_2 k68 n) S_11 x1 x2 r_2 else bd_ (fn_X2_weighAnew S_11 r_2 x2 x1) fun P_16 => fn_X2_take_56 (fl_X2_take_2 k68 n) P_16 x1 x2 r_2)))
def fn_X2_take (S0 : tt_Pasts) (x1 : Int32) : Option tt_Pasts :=
  fl_X2_take_2 (fun (S0_e68_18 : tt_Pasts) (x1_e68_18 : Int32) => lt_ (sf_Pasts_past S0_e68_18 ((((gf_Pasts_past S0_e68_18) <<< ((1 : Int32) &&& 31)) ||| x1_e68_18) &&& (63 : Int32))) fun S_19 => bd_ (fn_X2_lookAhead S_19) fun P_20 => some P_20) fu_ S0 x1 (0 : Int32)
theorem cu_C0 {G : xG} {a : Nat → Nat} {S0 : tt_Pasts} : [0, 1, 2, 3, 4, 5, 6].map (fun i => (wd_Pasts G a S0)[i]?) = (wd_Pasts G a S0 : va_W).map some := rfl
theorem cu_R0 {G : xG} {a : Nat → Nat} {S0 : tt_Pasts} : ([] : List Nat).map (fun i => (wd_Pasts G a S0)[i]?) = ([] : va_W).map some := rfl
theorem cu_J0 {G : xG} {a : Nat → Nat} {S0 : tt_Pasts}  : [0, 1, 2, 3, 4, 5, 6].map (fun i => (([] : va_W) ++ (wd_Pasts G a S0))[i]?) = (wd_Pasts G a S0 : va_W).map some := rfl
theorem cu_C1 {G : xG} {a : Nat → Nat} {S0 : tt_Pasts} : [0, 1, 2, 3, 4, 5, 6].map (fun i => (wd_Pasts G a S0)[i]?) = (wd_Pasts G a S0 : va_W).map some := rfl
theorem cu_R1 {G : xG} {a : Nat → Nat} {S0 : tt_Pasts} : ([] : List Nat).map (fun i => (wd_Pasts G a S0)[i]?) = ([] : va_W).map some := rfl
theorem cu_J1 {G : xG} {a : Nat → Nat} {S0 : tt_Pasts} {P0 : tt_Pasts} : [0, 1, 2, 3, 4, 5, 6].map (fun i => (([] : va_W) ++ (wd_Pasts G a P0))[i]?) = (wd_Pasts G a P0 : va_W).map some := rfl
theorem hd_X2_mix : yX2_mix.cls ≠ "java/lang/invoke/MethodHandle" ∧ yX2_mix.cls ≠ "java/lang/invoke/VarHandle" ∧ (parseMethodDescriptor yX2_mix.desc).map (fun d => d.parameters.length) = some 2 := by decide +kernel
set_option maxHeartbeats 4000000 in
set_option maxRecDepth 100000 in
theorem ct_X2_mix (l : Launch) (G : xG) (a : Nat → Nat) (S0 : tt_Pasts) (x1 : Int32) (x2 : Int32) (ro : Int32) (hf : fn_X2_mix S0 x1 x2 = some ro) : xM l yX2_mix cX2_mix 7 (some .int) 1 23 G [.ref (a 0), .int x1, .int x2] (wd_Pasts G a S0) (wd_Pasts G a S0) (some (.int ro)) := by
  refine xMi (by decide) (Nat.le_of_ble_eq_true rfl) ?_
  intro p e s m below meth c A C0 KN hA X ls hl
  have hx := C0.1
  have hb := C0.2.1
  have C0 : xC p s m meth c cX2_mix 7 (some .int) RX2 _ := C0
  have hl : lv_has ls 7 [(0, .ref (a 0)), (1, .int x1), (2, .int x2)] := hl
  unfold fn_X2_mix at hf
  refine lv_aload_n (pc := 0) hx hb dX2_mix_0 rfl (lv_at hl 0 rfl) ?_
  refine x_get (pc := 1) (ci := 2) C0 KN X 0 rfl rfl inlX2 2 (by decide) kw_3_13 rfl dX2_mix_1 ?_
  refine lv_iload_n (pc := 4) hx hb dX2_mix_4 rfl (lv_at hl 1 rfl) ?_
  obtain ⟨g_1, hf⟩ := gd_e hf
  refine x_ald (pc := 5) C0 KN X 3 rfl g_1 dX2_mix_5 ?_
  refine W.eq (g2 := F0 m 6 ls [.int ((gf_Pasts_weights S0) x1.toNatClampNeg)]) rfl ?_
  refine lv_i2l (pc := 6) (v := ((gf_Pasts_weights S0) x1.toNatClampNeg).toInt64) hx hb dX2_mix_6 rfl ?_
  refine lv_topl (fun y_2 ey_2 => ?_)
  have hf := lt_sb hf ey_2
  refine lv_lstore_n (pc := 7) (lv' := [(3, .long y_2), (0, .ref (a 0)), (1, .int x1), (2, .int x2)]) hx hb dX2_mix_7 rfl hl (by decide) rfl (fun ls hl => ?_)
  refine lv_lload_n (pc := 8) hx hb dX2_mix_8 rfl (lv_at hl 0 rfl) ?_
  refine lv_aload_n (pc := 9) hx hb dX2_mix_9 rfl (lv_at hl 1 rfl) ?_
  refine x_get (pc := 10) (ci := 2) C0 KN X 0 rfl rfl inlX2 4 (by decide) kw_3_15 rfl dX2_mix_10 ?_
  refine lv_iload_n (pc := 13) hx hb dX2_mix_13 rfl (lv_at hl 3 rfl) ?_
  obtain ⟨g_3, hf⟩ := gd_e hf
  refine x_ald (pc := 14) C0 KN X 5 rfl g_3 dX2_mix_14 ?_
  refine W.eq (g2 := F0 m 15 ls [.int ((gf_Pasts_owns S0) x2.toNatClampNeg), .long y_2]) rfl ?_
  refine lv_i2l (pc := 15) (v := ((gf_Pasts_owns S0) x2.toNatClampNeg).toInt64) hx hb dX2_mix_15 rfl ?_
  refine lv_lmul (pc := 16) hx hb dX2_mix_16 ?_
  refine x_ldc2 (pc := 17) C0 kw_4_21 dX2_mix_17 ?_
  refine lv_lload_n (pc := 20) hx hb dX2_mix_20 rfl (lv_at hl 0 rfl) ?_
  refine lv_lsub (pc := 21) hx hb dX2_mix_21 ?_
  refine lv_aload_n (pc := 22) hx hb dX2_mix_22 rfl (lv_at hl 1 rfl) ?_
  refine x_get (pc := 23) (ci := 2) C0 KN X 0 rfl rfl inlX2 5 (by decide) kw_3_16 rfl dX2_mix_23 ?_
  refine lv_iload_n (pc := 26) hx hb dX2_mix_26 rfl (lv_at hl 3 rfl) ?_
  refine lv_iconst (pc := 27) (v := 1) hx hb dX2_mix_27 (by decide) ?_
  refine lv_iadd (pc := 28) hx hb dX2_mix_28 ?_
  obtain ⟨g_4, hf⟩ := gd_e hf
  refine x_ald (pc := 29) C0 KN X 6 rfl g_4 dX2_mix_29 ?_
  refine W.eq (g2 := F0 m 30 ls [.int ((gf_Pasts_guesses S0) (x2 + (1 : Int32)).toNatClampNeg), .long ((65536 : Int64) - y_2), .long (y_2 * (((gf_Pasts_owns S0) x2.toNatClampNeg).toInt64))]) rfl ?_
  refine lv_i2l (pc := 30) (v := ((gf_Pasts_guesses S0) (x2 + (1 : Int32)).toNatClampNeg).toInt64) hx hb dX2_mix_30 rfl ?_
  refine lv_lmul (pc := 31) hx hb dX2_mix_31 ?_
  refine lv_ladd (pc := 32) hx hb dX2_mix_32 ?_
  refine lv_topl (fun y_5 ey_5 => ?_)
  have hf := lt_sb hf ey_5
  refine lv_lstore (pc := 33) (lv' := [(5, .long y_5), (3, .long y_2), (0, .ref (a 0)), (1, .int x1), (2, .int x2)]) hx hb dX2_mix_33 hl (by decide) rfl (fun ls hl => ?_)
  refine lv_lload (pc := 35) hx hb dX2_mix_35 (lv_at hl 0 rfl) ?_
  refine x_ldc2 (pc := 37) C0 kw_4_21 dX2_mix_37 ?_
  refine lv_ldiv (pc := 40) hx hb dX2_mix_40 (by decide) ?_
  refine lv_iconst (pc := 41) (v := 1) hx hb dX2_mix_41 (by decide) ?_
  refine x_ldc (pc := 42) C0 kw_4_22 dX2_mix_42 ?_
  obtain ⟨r_6, h_7, hf⟩ := bd_e hf
  refine x_csN (pc := 44) (As := [.long (y_5 / (65536 : Int64)), .int (1 : Int32), .int (65535 : Int32)]) (rest := []) C0 KN (ct_X8_kept l (y_5 / (65536 : Int64)) (1 : Int32) (65535 : Int32) r_6 h_7) kw_4_2 (List.mem_of_getElem? (i := 1) rfl) kw_4_1 kw_1_2 hd_X8_kept ⟨by decide, by decide⟩ hl.1 rfl (Nat.le_of_ble_eq_true rfl) ⟨Nat.zero_le _, Nat.zero_le _⟩ dX2_mix_44 ?_
  refine W.eq (g2 := F0 m 47 ls [.int r_6]) rfl ?_
  cases hf
  exact x_iret (pc := 47) C0 X dX2_mix_47
set_option maxHeartbeats 4000000 in
set_option maxRecDepth 100000 in
theorem lb_X2_lookAhead_71 {l : Launch} {p : Program} {e : Env} {s : State} {m : MethodId} {args : Array Value} {below : List Frame} {meth : Method} {c : Code} {G : xG} {A : Nat → Prop} {a : Nat → Nat} (C0 : xC p s m meth c cX2_lookAhead 3 (none) RX2 args) (KN : xKN G s) (hA : ∀ q, s.heap.size ≤ q → A q) (So0 : tt_Pasts) (k5 : tt_Pasts → Int32 → Option tt_Pasts) (hk5 : ∀ (S0 : tt_Pasts) (x1 : Int32), k5 S0 x1 = some So0 → ∀ (H : Heap) (locs : List Loc) (ls : Array Slot), xS G A s.heap (wd_Pasts G a S0) H locs → lv_has ls 3 [(0, .ref (a 0)), (1, .int x1)] → W p l e ({ frames := 2, cells := 0, slots := 0, locals := 49 }) s m args below meth c H locs 0 0 (MQ below (xQo G none A (wd_Pasts G a So0)) args s 0 0 A) (F0 m 5 ls [])) : ∀ (S0 : tt_Pasts) (x1 : Int32) (t1 : Int32) (t2 : Int32), fn_X2_lookAhead_71 k5 S0 x1 t1 t2 = some So0 → ∀ (H : Heap) (locs : List Loc) (ls : Array Slot), xS G A s.heap (wd_Pasts G a S0) H locs → lv_has ls 3 [(0, .ref (a 0)), (1, .int x1)] → W p l e ({ frames := 2, cells := 0, slots := 0, locals := 49 }) s m args below meth c H locs 0 0 (MQ below (xQo G none A (wd_Pasts G a So0)) args s 0 0 A) (F0 m 71 ls [.int t2, .int t1, .ref (a 6)]) := by
  have hx := C0.1
  have hb := C0.2.1
  intro S0 x1 t1 t2 hf H locs ls X hl
  unfold fn_X2_lookAhead_71 at hf
  obtain ⟨g_13, hf⟩ := gd_e hf
  obtain ⟨S_14, eS_14, hf⟩ := lt_e hf
  refine x_ast (pc := 71) (ws' := wd_Pasts G a S_14) C0 KN X 6 rfl g_13 (by subst eS_14; rfl) dX2_lookAhead_71 (fun H locs X => ?_)
  obtain ⟨y_15, ey_15⟩ : ∃ y : Int32, y = x1 + (-1 : Int32) := ⟨_, rfl⟩
  have hf := lt_sb hf ey_15
  refine lv_iinc (pc := 72) (v := y_15) (lv' := [(1, .int y_15), (0, .ref (a 0))]) hx hb dX2_lookAhead_72 hl (k := 1) rfl (by rw [ey_15]; rfl) (by decide) rfl (fun ls hl => ?_)
  refine lv_goto (pc := 75) (tgt := 5) hx hb dX2_lookAhead_75 (by decide) ?_
  exact hk5 _ _ hf _ _ _ X (lv_sub hl [1, 0] rfl)
set_option maxHeartbeats 4000000 in
set_option maxRecDepth 100000 in
theorem lb_X2_lookAhead_5 {l : Launch} {p : Program} {e : Env} {s : State} {m : MethodId} {args : Array Value} {below : List Frame} {meth : Method} {c : Code} {G : xG} {A : Nat → Prop} {a : Nat → Nat} (C0 : xC p s m meth c cX2_lookAhead 3 (none) RX2 args) (KN : xKN G s) (hA : ∀ q, s.heap.size ≤ q → A q) (So0 : tt_Pasts) (k78 : tt_Pasts → Option tt_Pasts) (hk78 : ∀ (S0 : tt_Pasts), k78 S0 = some So0 → ∀ (H : Heap) (locs : List Loc) (ls : Array Slot), xS G A s.heap (wd_Pasts G a S0) H locs → lv_has ls 3 [(0, .ref (a 0))] → W p l e ({ frames := 2, cells := 0, slots := 0, locals := 49 }) s m args below meth c H locs 0 0 (MQ below (xQo G none A (wd_Pasts G a So0)) args s 0 0 A) (F0 m 78 ls [])) : ∀ (n : Nat) (S0 : tt_Pasts) (x1 : Int32), fl_X2_lookAhead_5 k78 n S0 x1 = some So0 → ∀ (H : Heap) (locs : List Loc) (ls : Array Slot), xS G A s.heap (wd_Pasts G a S0) H locs → lv_has ls 3 [(0, .ref (a 0)), (1, .int x1)] → W p l e ({ frames := 2, cells := 0, slots := 0, locals := 49 }) s m args below meth c H locs 0 0 (MQ below (xQo G none A (wd_Pasts G a So0)) args s 0 0 A) (F0 m 5 ls []) := by
  have hx := C0.1
  have hb := C0.2.1
  intro n
  induction n with
  | zero =>
    intro S0 x1 hf
    have hf : none = some So0 := hf
    cases hf
  | succ n ih =>
    intro S0 x1 hf H locs ls X hl
    rw [fl_X2_lookAhead_5] at hf
    refine lv_iload_n (pc := 5) hx hb dX2_lookAhead_5 rfl (lv_at hl 1 rfl) ?_
    refine lv_if_lt (pc := 6) (tgt := 78) hx hb dX2_lookAhead_6 (by decide) (fun c_2 => ?_) (fun c_2 => ?_)
    · have hf := it_p hf c_2
      exact hk78 _ hf _ _ _ X (lv_sub hl [0] rfl)
    · have hf := it_n hf c_2
      refine lv_iload_n (pc := 9) hx hb dX2_lookAhead_9 rfl (lv_at hl 1 rfl) ?_
      refine lv_aload_n (pc := 10) hx hb dX2_lookAhead_10 rfl (lv_at hl 0 rfl) ?_
      refine x_get (pc := 11) (ci := 2) C0 KN X 0 rfl rfl inlX2 8 (by decide) kw_3_19 rfl dX2_lookAhead_11 ?_
      refine W.eq (g2 := F0 m 14 ls [.int (gf_Pasts_past S0), .int x1]) rfl ?_
      obtain ⟨r_3, h_4, hf⟩ := bd_e hf
      refine x_csN (pc := 14) (As := [.int x1, .int (gf_Pasts_past S0)]) (rest := []) C0 KN (ct_X8_nodeOf l x1 (gf_Pasts_past S0) r_3 h_4) kw_4_4 (List.mem_of_getElem? (i := 2) rfl) kw_4_3 kw_1_2 hd_X8_nodeOf ⟨by decide, by decide⟩ hl.1 rfl (Nat.le_of_ble_eq_true rfl) ⟨Nat.zero_le _, Nat.zero_le _⟩ dX2_lookAhead_14 ?_
      refine W.eq (g2 := F0 m 17 ls [.int r_3]) rfl ?_
      refine lv_istore_n (pc := 17) (lv' := [(2, .int r_3), (0, .ref (a 0)), (1, .int x1)]) hx hb dX2_lookAhead_17 rfl hl (by decide) rfl (fun ls hl => ?_)
      refine lv_aload_n (pc := 18) hx hb dX2_lookAhead_18 rfl (lv_at hl 1 rfl) ?_
      refine x_get (pc := 19) (ci := 2) C0 KN X 0 rfl rfl inlX2 4 (by decide) kw_3_15 rfl dX2_lookAhead_19 ?_
      refine lv_iload_n (pc := 22) hx hb dX2_lookAhead_22 rfl (lv_at hl 2 rfl) ?_
      refine lv_aload_n (pc := 23) hx hb dX2_lookAhead_23 rfl (lv_at hl 1 rfl) ?_
      refine x_get (pc := 24) (ci := 2) C0 KN X 0 rfl rfl inlX2 7 (by decide) kw_3_18 rfl dX2_lookAhead_24 ?_
      refine W.eq (g2 := F0 m 27 ls [.int (gf_Pasts_guesser S0), .int x1, .ref (a 5)]) rfl ?_
      refine lv_aload_n (pc := 27) hx hb dX2_lookAhead_27 rfl (lv_at hl 1 rfl) ?_
      refine x_get (pc := 28) (ci := 2) C0 KN X 0 rfl rfl inlX2 0 (by decide) kw_3_11 rfl dX2_lookAhead_28 ?_
      refine lv_iload_n (pc := 31) hx hb dX2_lookAhead_31 rfl (lv_at hl 0 rfl) ?_
      obtain ⟨g_5, hf⟩ := gd_e hf
      refine x_ald (pc := 32) C0 KN X 1 rfl g_5 dX2_lookAhead_32 ?_
      refine W.eq (g2 := F0 m 33 ls [.int ((gf_Pasts_zeros S0) r_3.toNatClampNeg), .int (gf_Pasts_guesser S0), .int x1, .ref (a 5)]) rfl ?_
      refine lv_aload_n (pc := 33) hx hb dX2_lookAhead_33 rfl (lv_at hl 1 rfl) ?_
      refine x_get (pc := 34) (ci := 2) C0 KN X 0 rfl rfl inlX2 1 (by decide) kw_3_12 rfl dX2_lookAhead_34 ?_
      refine lv_iload_n (pc := 37) hx hb dX2_lookAhead_37 rfl (lv_at hl 0 rfl) ?_
      obtain ⟨g_6, hf⟩ := gd_e hf
      refine x_ald (pc := 38) C0 KN X 2 rfl g_6 dX2_lookAhead_38 ?_
      refine W.eq (g2 := F0 m 39 ls [.int ((gf_Pasts_ones S0) r_3.toNatClampNeg), .int ((gf_Pasts_zeros S0) r_3.toNatClampNeg), .int (gf_Pasts_guesser S0), .int x1, .ref (a 5)]) rfl ?_
      obtain ⟨r_7, h_8, hf⟩ := bd_e hf
      refine x_csN (pc := 39) (As := [.int (gf_Pasts_guesser S0), .int ((gf_Pasts_zeros S0) r_3.toNatClampNeg), .int ((gf_Pasts_ones S0) r_3.toNatClampNeg)]) (rest := [.int x1, .ref (a 5)]) C0 KN (ct_X8_opinion l (gf_Pasts_guesser S0) ((gf_Pasts_zeros S0) r_3.toNatClampNeg) ((gf_Pasts_ones S0) r_3.toNatClampNeg) r_7 h_8) kw_4_11 (List.mem_of_getElem? (i := 3) rfl) kw_4_10 kw_1_2 hd_X8_opinion ⟨by decide, by decide⟩ hl.1 rfl (Nat.le_of_ble_eq_true rfl) ⟨Nat.zero_le _, Nat.zero_le _⟩ dX2_lookAhead_39 ?_
      refine W.eq (g2 := F0 m 42 ls [.int r_7, .int x1, .ref (a 5)]) rfl ?_
      obtain ⟨g_9, hf⟩ := gd_e hf
      obtain ⟨S_10, eS_10, hf⟩ := lt_e hf
      refine x_ast (pc := 42) (ws' := wd_Pasts G a S_10) C0 KN X 5 rfl g_9 (by subst eS_10; rfl) dX2_lookAhead_42 (fun H locs X => ?_)
      refine lv_aload_n (pc := 43) hx hb dX2_lookAhead_43 rfl (lv_at hl 1 rfl) ?_
      refine x_get (pc := 44) (ci := 2) C0 KN X 0 rfl rfl inlX2 5 (by decide) kw_3_16 rfl dX2_lookAhead_44 ?_
      refine lv_iload_n (pc := 47) hx hb dX2_lookAhead_47 rfl (lv_at hl 2 rfl) ?_
      refine lv_iload_n (pc := 48) hx hb dX2_lookAhead_48 rfl (lv_at hl 2 rfl) ?_
      refine lv_aload_n (pc := 49) hx hb dX2_lookAhead_49 rfl (lv_at hl 1 rfl) ?_
      refine x_get (pc := 50) (ci := 2) C0 KN X 0 rfl rfl inlX2 6 (by decide) kw_3_17 rfl dX2_lookAhead_50 ?_
      refine W.eq (g2 := F0 m 53 ls [.int (gf_Pasts_depth S_10), .int x1, .int x1, .ref (a 6)]) rfl ?_
      refine lv_icmp_ge (pc := 53) (tgt := 65) hx hb dX2_lookAhead_53 (by decide) (fun c_11 => ?_) (fun c_11 => ?_)
      · have hf := it_p hf c_11
        refine lv_aload_n (pc := 65) hx hb dX2_lookAhead_65 rfl (lv_at hl 1 rfl) ?_
        refine x_get (pc := 66) (ci := 2) C0 KN X 0 rfl rfl inlX2 4 (by decide) kw_3_15 rfl dX2_lookAhead_66 ?_
        refine lv_iload_n (pc := 69) hx hb dX2_lookAhead_69 rfl (lv_at hl 2 rfl) ?_
        obtain ⟨g_12, hf⟩ := gd_e hf
        refine x_ald (pc := 70) C0 KN X 5 rfl g_12 dX2_lookAhead_70 ?_
        refine W.eq (g2 := F0 m 71 ls [.int ((gf_Pasts_owns S_10) x1.toNatClampNeg), .int x1, .ref (a 6)]) rfl ?_
        exact lb_X2_lookAhead_71 C0 KN hA _ (fl_X2_lookAhead_5 k78 n) ih _ _ _ _ hf _ _ _ X (lv_sub hl [1, 2] rfl)
      · have hf := it_n hf c_11
        refine lv_aload_n (pc := 56) hx hb dX2_lookAhead_56 rfl (lv_at hl 1 rfl) ?_
        refine lv_iload_n (pc := 57) hx hb dX2_lookAhead_57 rfl (lv_at hl 0 rfl) ?_
        refine lv_iload_n (pc := 58) hx hb dX2_lookAhead_58 rfl (lv_at hl 2 rfl) ?_
        obtain ⟨r_16, h_17, hf⟩ := bd_e hf
        refine x_cv (pc := 59) (ws' := wd_Pasts G a S_10) (As := [.int r_3, .int x1]) (rest := [.int x1, .ref (a 6)]) (ci := 2) (qr := 0) C0 KN X hA [0, 1, 2, 3, 4, 5, 6] [] [0, 1, 2, 3, 4, 5, 6] cu_C0 rfl cu_R0 rfl (by decide) (cu_J0 (S0 := S_10)) rfl (ct_X2_mix l G a S_10 r_3 x1 r_16 h_17) rfl rfl rfl kw_4_20 kw_4_17 kw_4_18 kw_4_19 kw_1_19 hd_X2_mix ⟨by decide, by decide⟩ hl.1 rfl (Nat.le_of_ble_eq_true rfl) ⟨Nat.zero_le _, Nat.zero_le _⟩ dX2_lookAhead_59 (fun H locs X => ?_)
        refine W.eq (g2 := F0 m 62 ls [.int r_16, .int x1, .ref (a 6)]) rfl ?_
        refine lv_goto (pc := 62) (tgt := 71) hx hb dX2_lookAhead_62 (by decide) ?_
        exact lb_X2_lookAhead_71 C0 KN hA _ (fl_X2_lookAhead_5 k78 n) ih _ _ _ _ hf _ _ _ X (lv_sub hl [1, 2] rfl)
theorem hd_X2_lookAhead : yX2_lookAhead.cls ≠ "java/lang/invoke/MethodHandle" ∧ yX2_lookAhead.cls ≠ "java/lang/invoke/VarHandle" ∧ (parseMethodDescriptor yX2_lookAhead.desc).map (fun d => d.parameters.length) = some 0 := by decide +kernel
set_option maxHeartbeats 4000000 in
set_option maxRecDepth 100000 in
theorem ct_X2_lookAhead (l : Launch) (G : xG) (a : Nat → Nat) (S0 : tt_Pasts) (So0 : tt_Pasts) (hf : fn_X2_lookAhead S0 = some So0) : xM l yX2_lookAhead cX2_lookAhead 3 (none) 2 49 G [.ref (a 0)] (wd_Pasts G a S0) (wd_Pasts G a So0) none := by
  refine xMi (by decide) (Nat.le_of_ble_eq_true rfl) ?_
  intro p e s m below meth c A C0 KN hA X ls hl
  have hx := C0.1
  have hb := C0.2.1
  have C0 : xC p s m meth c cX2_lookAhead 3 (none) RX2 _ := C0
  have hl : lv_has ls 3 [(0, .ref (a 0))] := hl
  unfold fn_X2_lookAhead at hf
  refine lv_aload_n (pc := 0) hx hb dX2_lookAhead_0 rfl (lv_at hl 0 rfl) ?_
  refine x_get (pc := 1) (ci := 2) C0 KN X 0 rfl rfl inlX2 6 (by decide) kw_3_17 rfl dX2_lookAhead_1 ?_
  refine W.eq (g2 := F0 m 4 ls [.int (gf_Pasts_depth S0)]) rfl ?_
  refine lv_topi (fun y_1 ey_1 => ?_)
  have hf := lt_sb hf ey_1
  refine lv_istore_n (pc := 4) (lv' := [(1, .int y_1), (0, .ref (a 0))]) hx hb dX2_lookAhead_4 rfl hl (by decide) rfl (fun ls hl => ?_)
  refine lb_X2_lookAhead_5 C0 KN hA _ _ ?_ _ _ _ hf _ _ _ X (lv_sub hl [1, 0] rfl)
  · intro S0_e78_18 hf H locs ls X hl
    cases hf
    exact x_vret (pc := 78) C0 X dX2_lookAhead_78
set_option maxHeartbeats 4000000 in
set_option maxRecDepth 100000 in
theorem lb_X2_begin_34 {l : Launch} {p : Program} {e : Env} {s : State} {m : MethodId} {args : Array Value} {below : List Frame} {meth : Method} {c : Code} {G : xG} {A : Nat → Prop} {a : Nat → Nat} (C0 : xC p s m meth c cX2_begin 4 (none) RX2 args) (KN : xKN G s) (hA : ∀ q, s.heap.size ≤ q → A q) (So0 : tt_Pasts) (k79 : tt_Pasts → Option tt_Pasts) (hk79 : ∀ (S0 : tt_Pasts), k79 S0 = some So0 → ∀ (H : Heap) (locs : List Loc) (ls : Array Slot), xS G A s.heap (wd_Pasts G a S0) H locs → lv_has ls 4 [(0, .ref (a 0))] → W p l e ({ frames := 3, cells := 0, slots := 0, locals := 71 }) s m args below meth c H locs 0 0 (MQ below (xQo G none A (wd_Pasts G a So0)) args s 0 0 A) (F0 m 79 ls [])) : ∀ (n : Nat) (S0 : tt_Pasts) (x3 : Int32), fl_X2_begin_34 k79 n S0 x3 = some So0 → ∀ (H : Heap) (locs : List Loc) (ls : Array Slot), xS G A s.heap (wd_Pasts G a S0) H locs → lv_has ls 4 [(0, .ref (a 0)), (3, .int x3)] → W p l e ({ frames := 3, cells := 0, slots := 0, locals := 71 }) s m args below meth c H locs 0 0 (MQ below (xQo G none A (wd_Pasts G a So0)) args s 0 0 A) (F0 m 34 ls []) := by
  have hx := C0.1
  have hb := C0.2.1
  intro n
  induction n with
  | zero =>
    intro S0 x3 hf
    have hf : none = some So0 := hf
    cases hf
  | succ n ih =>
    intro S0 x3 hf H locs ls X hl
    rw [fl_X2_begin_34] at hf
    refine lv_iload_n (pc := 34) hx hb dX2_begin_34 rfl (lv_at hl 1 rfl) ?_
    refine lv_iconst (pc := 35) (v := 2) hx hb dX2_begin_35 (by decide) ?_
    refine lv_aload_n (pc := 36) hx hb dX2_begin_36 rfl (lv_at hl 0 rfl) ?_
    refine x_get (pc := 37) (ci := 2) C0 KN X 0 rfl rfl inlX2 6 (by decide) kw_3_17 rfl dX2_begin_37 ?_
    refine W.eq (g2 := F0 m 40 ls [.int (gf_Pasts_depth S0), .int (2 : Int32), .int x3]) rfl ?_
    refine lv_ishl (pc := 40) hx hb dX2_begin_40 ?_
    refine lv_icmp_ge (pc := 41) (tgt := 79) hx hb dX2_begin_41 (by decide) (fun c_10 => ?_) (fun c_10 => ?_)
    · have hf := it_p hf c_10
      exact hk79 _ hf _ _ _ X (lv_sub hl [0] rfl)
    · have hf := it_n hf c_10
      refine lv_aload_n (pc := 44) hx hb dX2_begin_44 rfl (lv_at hl 0 rfl) ?_
      refine x_get (pc := 45) (ci := 2) C0 KN X 0 rfl rfl inlX2 0 (by decide) kw_3_11 rfl dX2_begin_45 ?_
      refine lv_iload_n (pc := 48) hx hb dX2_begin_48 rfl (lv_at hl 1 rfl) ?_
      refine lv_iconst (pc := 49) (v := 0) hx hb dX2_begin_49 (by decide) ?_
      obtain ⟨g_11, hf⟩ := gd_e hf
      obtain ⟨S_12, eS_12, hf⟩ := lt_e hf
      refine x_ast (pc := 50) (ws' := wd_Pasts G a S_12) C0 KN X 1 rfl g_11 (by subst eS_12; rfl) dX2_begin_50 (fun H locs X => ?_)
      refine lv_aload_n (pc := 51) hx hb dX2_begin_51 rfl (lv_at hl 0 rfl) ?_
      refine x_get (pc := 52) (ci := 2) C0 KN X 0 rfl rfl inlX2 1 (by decide) kw_3_12 rfl dX2_begin_52 ?_
      refine lv_iload_n (pc := 55) hx hb dX2_begin_55 rfl (lv_at hl 1 rfl) ?_
      refine lv_iconst (pc := 56) (v := 0) hx hb dX2_begin_56 (by decide) ?_
      obtain ⟨g_13, hf⟩ := gd_e hf
      obtain ⟨S_14, eS_14, hf⟩ := lt_e hf
      refine x_ast (pc := 57) (ws' := wd_Pasts G a S_14) C0 KN X 2 rfl g_13 (by subst eS_14; rfl) dX2_begin_57 (fun H locs X => ?_)
      refine lv_aload_n (pc := 58) hx hb dX2_begin_58 rfl (lv_at hl 0 rfl) ?_
      refine x_get (pc := 59) (ci := 2) C0 KN X 0 rfl rfl inlX2 2 (by decide) kw_3_13 rfl dX2_begin_59 ?_
      refine lv_iload_n (pc := 62) hx hb dX2_begin_62 rfl (lv_at hl 1 rfl) ?_
      refine x_ldc (pc := 63) C0 kw_4_0 dX2_begin_63 ?_
      obtain ⟨g_15, hf⟩ := gd_e hf
      obtain ⟨S_16, eS_16, hf⟩ := lt_e hf
      refine x_ast (pc := 65) (ws' := wd_Pasts G a S_16) C0 KN X 3 rfl g_15 (by subst eS_16; rfl) dX2_begin_65 (fun H locs X => ?_)
      refine lv_aload_n (pc := 66) hx hb dX2_begin_66 rfl (lv_at hl 0 rfl) ?_
      refine x_get (pc := 67) (ci := 2) C0 KN X 0 rfl rfl inlX2 3 (by decide) kw_3_14 rfl dX2_begin_67 ?_
      refine lv_iload_n (pc := 70) hx hb dX2_begin_70 rfl (lv_at hl 1 rfl) ?_
      refine lv_iconst (pc := 71) (v := 0) hx hb dX2_begin_71 (by decide) ?_
      obtain ⟨g_17, hf⟩ := gd_e hf
      obtain ⟨S_18, eS_18, hf⟩ := lt_e hf
      refine x_ast (pc := 72) (ws' := wd_Pasts G a S_18) C0 KN X 4 rfl g_17 (by subst eS_18; rfl) dX2_begin_72 (fun H locs X => ?_)
      obtain ⟨y_19, ey_19⟩ : ∃ y : Int32, y = x3 + (1 : Int32) := ⟨_, rfl⟩
      have hf := lt_sb hf ey_19
      refine lv_iinc (pc := 73) (v := y_19) (lv' := [(3, .int y_19), (0, .ref (a 0))]) hx hb dX2_begin_73 hl (k := 1) rfl (by rw [ey_19]; rfl) (by decide) rfl (fun ls hl => ?_)
      refine lv_goto (pc := 76) (tgt := 34) hx hb dX2_begin_76 (by decide) ?_
      exact ih _ _ hf _ _ _ X (lv_sub hl [1, 0] rfl)
theorem hd_X2_begin : yX2_begin.cls ≠ "java/lang/invoke/MethodHandle" ∧ yX2_begin.cls ≠ "java/lang/invoke/VarHandle" ∧ (parseMethodDescriptor yX2_begin.desc).map (fun d => d.parameters.length) = some 2 := by decide +kernel
set_option maxHeartbeats 4000000 in
set_option maxRecDepth 100000 in
theorem ct_X2_begin (l : Launch) (G : xG) (a : Nat → Nat) (S0 : tt_Pasts) (x1 : Int32) (x2 : Int32) (So0 : tt_Pasts) (hf : fn_X2_begin S0 x1 x2 = some So0) : xM l yX2_begin cX2_begin 4 (none) 3 71 G [.ref (a 0), .int x1, .int x2] (wd_Pasts G a S0) (wd_Pasts G a So0) none := by
  refine xMi (by decide) (Nat.le_of_ble_eq_true rfl) ?_
  intro p e s m below meth c A C0 KN hA X ls hl
  have hx := C0.1
  have hb := C0.2.1
  have C0 : xC p s m meth c cX2_begin 4 (none) RX2 _ := C0
  have hl : lv_has ls 4 [(0, .ref (a 0)), (1, .int x1), (2, .int x2)] := hl
  unfold fn_X2_begin at hf
  refine lv_aload_n (pc := 0) hx hb dX2_begin_0 rfl (lv_at hl 0 rfl) ?_
  refine lv_iload_n (pc := 1) hx hb dX2_begin_1 rfl (lv_at hl 1 rfl) ?_
  refine lv_i2l (pc := 2) (v := x1.toInt64) hx hb dX2_begin_2 rfl ?_
  refine lv_iconst (pc := 3) (v := 0) hx hb dX2_begin_3 (by decide) ?_
  refine lv_bipush (pc := 4) (v := 6) hx hb dX2_begin_4 (by decide) ?_
  obtain ⟨r_1, h_2, hf⟩ := bd_e hf
  refine x_csN (pc := 6) (As := [.long x1.toInt64, .int (0 : Int32), .int (6 : Int32)]) (rest := [.ref (a 0)]) C0 KN (ct_X8_kept l x1.toInt64 (0 : Int32) (6 : Int32) r_1 h_2) kw_4_2 (List.mem_of_getElem? (i := 1) rfl) kw_4_1 kw_1_2 hd_X8_kept ⟨by decide, by decide⟩ hl.1 rfl (Nat.le_of_ble_eq_true rfl) ⟨Nat.zero_le _, Nat.zero_le _⟩ dX2_begin_6 ?_
  refine W.eq (g2 := F0 m 9 ls [.int r_1, .ref (a 0)]) rfl ?_
  obtain ⟨S_3, eS_3, hf⟩ := lt_e hf
  refine x_put (pc := 9) (ci := 2) (ws' := wd_Pasts G a S_3) C0 KN X 0 rfl rfl inlX2 tyX2_ok nmX2 6 (by decide) kw_3_17 rfl rfl rfl (Nat.le_of_ble_eq_true rfl) (by subst eS_3; rfl) dX2_begin_9 (fun H locs X => ?_)
  refine lv_aload_n (pc := 12) hx hb dX2_begin_12 rfl (lv_at hl 0 rfl) ?_
  refine lv_iload_n (pc := 13) hx hb dX2_begin_13 rfl (lv_at hl 2 rfl) ?_
  refine lv_i2l (pc := 14) (v := x2.toInt64) hx hb dX2_begin_14 rfl ?_
  refine lv_iconst (pc := 15) (v := 0) hx hb dX2_begin_15 (by decide) ?_
  refine lv_iconst (pc := 16) (v := 3) hx hb dX2_begin_16 (by decide) ?_
  obtain ⟨r_4, h_5, hf⟩ := bd_e hf
  refine x_csN (pc := 17) (As := [.long x2.toInt64, .int (0 : Int32), .int (3 : Int32)]) (rest := [.ref (a 0)]) C0 KN (ct_X8_kept l x2.toInt64 (0 : Int32) (3 : Int32) r_4 h_5) kw_4_2 (List.mem_of_getElem? (i := 1) rfl) kw_4_1 kw_1_2 hd_X8_kept ⟨by decide, by decide⟩ hl.1 rfl (Nat.le_of_ble_eq_true rfl) ⟨Nat.zero_le _, Nat.zero_le _⟩ dX2_begin_17 ?_
  refine W.eq (g2 := F0 m 20 ls [.int r_4, .ref (a 0)]) rfl ?_
  obtain ⟨S_6, eS_6, hf⟩ := lt_e hf
  refine x_put (pc := 20) (ci := 2) (ws' := wd_Pasts G a S_6) C0 KN X 0 rfl rfl inlX2 tyX2_ok nmX2 7 (by decide) kw_3_18 rfl rfl rfl (Nat.le_of_ble_eq_true rfl) (by subst eS_6; rfl) dX2_begin_20 (fun H locs X => ?_)
  refine lv_aload_n (pc := 23) hx hb dX2_begin_23 rfl (lv_at hl 0 rfl) ?_
  refine lv_iconst (pc := 24) (v := 0) hx hb dX2_begin_24 (by decide) ?_
  obtain ⟨S_7, eS_7, hf⟩ := lt_e hf
  refine x_put (pc := 25) (ci := 2) (ws' := wd_Pasts G a S_7) C0 KN X 0 rfl rfl inlX2 tyX2_ok nmX2 8 (by decide) kw_3_19 rfl rfl rfl (Nat.le_of_ble_eq_true rfl) (by subst eS_7; rfl) dX2_begin_25 (fun H locs X => ?_)
  refine lv_iconst (pc := 28) (v := 0) hx hb dX2_begin_28 (by decide) ?_
  refine lv_iconst (pc := 29) (v := 0) hx hb dX2_begin_29 (by decide) ?_
  obtain ⟨r_8, h_9, hf⟩ := bd_e hf
  refine x_csN (pc := 30) (As := [.int (0 : Int32), .int (0 : Int32)]) (rest := []) C0 KN (ct_X8_nodeOf l (0 : Int32) (0 : Int32) r_8 h_9) kw_4_4 (List.mem_of_getElem? (i := 2) rfl) kw_4_3 kw_1_2 hd_X8_nodeOf ⟨by decide, by decide⟩ hl.1 rfl (Nat.le_of_ble_eq_true rfl) ⟨Nat.zero_le _, Nat.zero_le _⟩ dX2_begin_30 ?_
  refine W.eq (g2 := F0 m 33 ls [.int r_8]) rfl ?_
  refine lv_istore_n (pc := 33) (lv' := [(3, .int r_8), (0, .ref (a 0)), (1, .int x1), (2, .int x2)]) hx hb dX2_begin_33 rfl hl (by decide) rfl (fun ls hl => ?_)
  refine lb_X2_begin_34 C0 KN hA _ _ ?_ _ _ _ hf _ _ _ X (lv_sub hl [1, 0] rfl)
  · intro S0_e79_20 hf H locs ls X hl
    refine lv_aload_n (pc := 79) hx hb dX2_begin_79 rfl (lv_at hl 0 rfl) ?_
    obtain ⟨P_21, h_22, hf⟩ := bd_e hf
    refine x_cv (pc := 80) (ws' := wd_Pasts G a P_21) (As := []) (rest := []) (ci := 2) (qr := 0) C0 KN X hA [0, 1, 2, 3, 4, 5, 6] [] [0, 1, 2, 3, 4, 5, 6] cu_C1 rfl cu_R1 rfl (by decide) (cu_J1 (S0 := S0_e79_20)) rfl (ct_X2_lookAhead l G a S0_e79_20 P_21 h_22) rfl rfl rfl kw_4_9 kw_4_6 kw_4_7 kw_4_8 kw_1_19 hd_X2_lookAhead ⟨by decide, by decide⟩ hl.1 rfl (Nat.le_of_ble_eq_true rfl) ⟨Nat.zero_le _, Nat.zero_le _⟩ dX2_begin_80 (fun H locs X => ?_)
    refine W.eq (g2 := F0 m 83 ls []) rfl ?_
    cases hf
    exact x_vret (pc := 83) C0 X dX2_begin_83
theorem hd_X2_has : yX2_has.cls ≠ "java/lang/invoke/MethodHandle" ∧ yX2_has.cls ≠ "java/lang/invoke/VarHandle" ∧ (parseMethodDescriptor yX2_has.desc).map (fun d => d.parameters.length) = some 2 := by decide +kernel
set_option maxHeartbeats 4000000 in
set_option maxRecDepth 100000 in
theorem ct_X2_has (l : Launch) (G : xG) (a : Nat → Nat) (S0 : tt_Pasts) (x1 : Int32) (x2 : Int32) (ro : Int32) (hf : fn_X2_has S0 x1 x2 = some ro) : xM l yX2_has cX2_has 3 (some .boolean) 1 22 G [.ref (a 0), .int x1, .int x2] (wd_Pasts G a S0) (wd_Pasts G a S0) (some (.int ro)) := by
  refine xMi (by decide) (Nat.le_of_ble_eq_true rfl) ?_
  intro p e s m below meth c A C0 KN hA X ls hl
  have hx := C0.1
  have hb := C0.2.1
  have C0 : xC p s m meth c cX2_has 3 (some .boolean) RX2 _ := C0
  have hl : lv_has ls 3 [(0, .ref (a 0)), (1, .int x1), (2, .int x2)] := hl
  unfold fn_X2_has at hf
  refine lv_iload_n (pc := 0) hx hb dX2_has_0 rfl (lv_at hl 1 rfl) ?_
  refine lv_iconst (pc := 1) (v := 0) hx hb dX2_has_1 (by decide) ?_
  refine lv_aload_n (pc := 2) hx hb dX2_has_2 rfl (lv_at hl 0 rfl) ?_
  refine x_get (pc := 3) (ci := 2) C0 KN X 0 rfl rfl inlX2 6 (by decide) kw_3_17 rfl dX2_has_3 ?_
  refine W.eq (g2 := F0 m 6 ls [.int (gf_Pasts_depth S0), .int (0 : Int32), .int x1]) rfl ?_
  obtain ⟨r_1, h_2, hf⟩ := bd_e hf
  refine x_csN (pc := 6) (As := [.int x1, .int (0 : Int32), .int (gf_Pasts_depth S0)]) (rest := []) C0 KN (ct_X8_within l x1 (0 : Int32) (gf_Pasts_depth S0) r_1 h_2) kw_8_10 (List.mem_of_getElem? (i := 16) rfl) kw_8_9 kw_1_2 hd_X8_within ⟨by decide, by decide⟩ hl.1 rfl (Nat.le_of_ble_eq_true rfl) ⟨Nat.zero_le _, Nat.zero_le _⟩ dX2_has_6 ?_
  refine W.eq (g2 := F0 m 9 ls [.int r_1]) rfl ?_
  refine lv_if_eq (pc := 9) (tgt := 29) hx hb dX2_has_9 (by decide) (fun c_3 => ?_) (fun c_3 => ?_)
  · have hf := it_p hf c_3
    refine lv_iconst (pc := 29) (v := 0) hx hb dX2_has_29 (by decide) ?_
    cases hf
    exact x_zret (pc := 30) C0 X (by decide) dX2_has_30
  · have hf := it_n hf c_3
    refine lv_iload_n (pc := 12) hx hb dX2_has_12 rfl (lv_at hl 2 rfl) ?_
    refine lv_iconst (pc := 13) (v := 0) hx hb dX2_has_13 (by decide) ?_
    refine lv_iconst (pc := 14) (v := 1) hx hb dX2_has_14 (by decide) ?_
    refine lv_iload_n (pc := 15) hx hb dX2_has_15 rfl (lv_at hl 1 rfl) ?_
    refine lv_ishl (pc := 16) hx hb dX2_has_16 ?_
    refine lv_iconst (pc := 17) (v := 1) hx hb dX2_has_17 (by decide) ?_
    refine lv_isub (pc := 18) hx hb dX2_has_18 ?_
    obtain ⟨r_4, h_5, hf⟩ := bd_e hf
    refine x_csN (pc := 19) (As := [.int x2, .int (0 : Int32), .int (((1 : Int32) <<< (x1 &&& 31)) - (1 : Int32))]) (rest := []) C0 KN (ct_X8_within l x2 (0 : Int32) (((1 : Int32) <<< (x1 &&& 31)) - (1 : Int32)) r_4 h_5) kw_8_10 (List.mem_of_getElem? (i := 16) rfl) kw_8_9 kw_1_2 hd_X8_within ⟨by decide, by decide⟩ hl.1 rfl (Nat.le_of_ble_eq_true rfl) ⟨Nat.zero_le _, Nat.zero_le _⟩ dX2_has_19 ?_
    refine W.eq (g2 := F0 m 22 ls [.int r_4]) rfl ?_
    refine lv_if_eq (pc := 22) (tgt := 29) hx hb dX2_has_22 (by decide) (fun c_6 => ?_) (fun c_6 => ?_)
    · have hf := it_p hf c_6
      refine lv_iconst (pc := 29) (v := 0) hx hb dX2_has_29 (by decide) ?_
      cases hf
      exact x_zret (pc := 30) C0 X (by decide) dX2_has_30
    · have hf := it_n hf c_6
      refine lv_iconst (pc := 25) (v := 1) hx hb dX2_has_25 (by decide) ?_
      refine lv_goto (pc := 26) (tgt := 30) hx hb dX2_has_26 (by decide) ?_
      cases hf
      exact x_zret (pc := 30) C0 X (by decide) dX2_has_30
theorem hd_X2_next : yX2_next.cls ≠ "java/lang/invoke/MethodHandle" ∧ yX2_next.cls ≠ "java/lang/invoke/VarHandle" ∧ (parseMethodDescriptor yX2_next.desc).map (fun d => d.parameters.length) = some 0 := by decide +kernel
set_option maxHeartbeats 4000000 in
set_option maxRecDepth 100000 in
theorem ct_X2_next (l : Launch) (G : xG) (a : Nat → Nat) (S0 : tt_Pasts) (ro : Int32) (hf : fn_X2_next S0 = some ro) : xM l yX2_next cX2_next 1 (some .int) 0 0 G [.ref (a 0)] (wd_Pasts G a S0) (wd_Pasts G a S0) (some (.int ro)) := by
  refine xMi (by decide) (Nat.le_of_ble_eq_true rfl) ?_
  intro p e s m below meth c A C0 KN hA X ls hl
  have hx := C0.1
  have hb := C0.2.1
  have C0 : xC p s m meth c cX2_next 1 (some .int) RX2 _ := C0
  have hl : lv_has ls 1 [(0, .ref (a 0))] := hl
  unfold fn_X2_next at hf
  refine lv_aload_n (pc := 0) hx hb dX2_next_0 rfl (lv_at hl 0 rfl) ?_
  refine x_get (pc := 1) (ci := 2) C0 KN X 0 rfl rfl inlX2 5 (by decide) kw_3_16 rfl dX2_next_1 ?_
  refine lv_iconst (pc := 4) (v := 0) hx hb dX2_next_4 (by decide) ?_
  obtain ⟨g_1, hf⟩ := gd_e hf
  refine x_ald (pc := 5) C0 KN X 6 rfl g_1 dX2_next_5 ?_
  refine W.eq (g2 := F0 m 6 ls [.int ((gf_Pasts_guesses S0) (0 : Int32).toNatClampNeg)]) rfl ?_
  cases hf
  exact x_iret (pc := 6) C0 X dX2_next_6
set_option maxHeartbeats 4000000 in
set_option maxRecDepth 100000 in
theorem lb_X2_tally_50 {l : Launch} {p : Program} {e : Env} {s : State} {m : MethodId} {args : Array Value} {below : List Frame} {meth : Method} {c : Code} {G : xG} {A : Nat → Prop} {a : Nat → Nat} (C0 : xC p s m meth c cX2_tally 3 (none) RX2 args) (KN : xKN G s) (hA : ∀ q, s.heap.size ≤ q → A q) (So0 : tt_Pasts) : ∀ (S0 : tt_Pasts) (x1 : Int32), fn_X2_tally_50 S0 x1 = some So0 → ∀ (H : Heap) (locs : List Loc) (ls : Array Slot), xS G A s.heap (wd_Pasts G a S0) H locs → lv_has ls 3 [(0, .ref (a 0)), (1, .int x1)] → W p l e ({ frames := 0, cells := 0, slots := 0, locals := 0 }) s m args below meth c H locs 0 0 (MQ below (xQo G none A (wd_Pasts G a So0)) args s 0 0 A) (F0 m 50 ls []) := by
  have hx := C0.1
  have hb := C0.2.1
  intro S0 x1 hf H locs ls X hl
  unfold fn_X2_tally_50 at hf
  refine lv_aload_n (pc := 50) hx hb dX2_tally_50 rfl (lv_at hl 0 rfl) ?_
  refine x_get (pc := 51) (ci := 2) C0 KN X 0 rfl rfl inlX2 0 (by decide) kw_3_11 rfl dX2_tally_51 ?_
  refine lv_iload_n (pc := 54) hx hb dX2_tally_54 rfl (lv_at hl 1 rfl) ?_
  refine lv_dup2_11 (pc := 55) hx hb dX2_tally_55 rfl rfl ?_
  obtain ⟨g_7, hf⟩ := gd_e hf
  refine x_ald (pc := 56) C0 KN X 1 rfl g_7 dX2_tally_56 ?_
  refine W.eq (g2 := F0 m 57 ls [.int ((gf_Pasts_zeros S0) x1.toNatClampNeg), .int x1, .ref (a 1)]) rfl ?_
  refine lv_iconst (pc := 57) (v := 2) hx hb dX2_tally_57 (by decide) ?_
  refine lv_idiv (pc := 58) hx hb dX2_tally_58 (by decide) ?_
  obtain ⟨g_8, hf⟩ := gd_e hf
  obtain ⟨S_9, eS_9, hf⟩ := lt_e hf
  refine x_ast (pc := 59) (ws' := wd_Pasts G a S_9) C0 KN X 1 rfl g_8 (by subst eS_9; rfl) dX2_tally_59 (fun H locs X => ?_)
  refine lv_aload_n (pc := 60) hx hb dX2_tally_60 rfl (lv_at hl 0 rfl) ?_
  refine x_get (pc := 61) (ci := 2) C0 KN X 0 rfl rfl inlX2 1 (by decide) kw_3_12 rfl dX2_tally_61 ?_
  refine lv_iload_n (pc := 64) hx hb dX2_tally_64 rfl (lv_at hl 1 rfl) ?_
  refine lv_dup2_11 (pc := 65) hx hb dX2_tally_65 rfl rfl ?_
  obtain ⟨g_10, hf⟩ := gd_e hf
  refine x_ald (pc := 66) C0 KN X 2 rfl g_10 dX2_tally_66 ?_
  refine W.eq (g2 := F0 m 67 ls [.int ((gf_Pasts_ones S_9) x1.toNatClampNeg), .int x1, .ref (a 2)]) rfl ?_
  refine lv_iconst (pc := 67) (v := 2) hx hb dX2_tally_67 (by decide) ?_
  refine lv_idiv (pc := 68) hx hb dX2_tally_68 (by decide) ?_
  obtain ⟨g_11, hf⟩ := gd_e hf
  obtain ⟨S_12, eS_12, hf⟩ := lt_e hf
  refine x_ast (pc := 69) (ws' := wd_Pasts G a S_12) C0 KN X 2 rfl g_11 (by subst eS_12; rfl) dX2_tally_69 (fun H locs X => ?_)
  cases hf
  exact x_vret (pc := 70) C0 X dX2_tally_70
set_option maxHeartbeats 4000000 in
set_option maxRecDepth 100000 in
theorem lb_X2_tally_28 {l : Launch} {p : Program} {e : Env} {s : State} {m : MethodId} {args : Array Value} {below : List Frame} {meth : Method} {c : Code} {G : xG} {A : Nat → Prop} {a : Nat → Nat} (C0 : xC p s m meth c cX2_tally 3 (none) RX2 args) (KN : xKN G s) (hA : ∀ q, s.heap.size ≤ q → A q) (So0 : tt_Pasts) : ∀ (S0 : tt_Pasts) (x1 : Int32), fn_X2_tally_28 S0 x1 = some So0 → ∀ (H : Heap) (locs : List Loc) (ls : Array Slot), xS G A s.heap (wd_Pasts G a S0) H locs → lv_has ls 3 [(0, .ref (a 0)), (1, .int x1)] → W p l e ({ frames := 0, cells := 0, slots := 0, locals := 0 }) s m args below meth c H locs 0 0 (MQ below (xQo G none A (wd_Pasts G a So0)) args s 0 0 A) (F0 m 28 ls []) := by
  have hx := C0.1
  have hb := C0.2.1
  intro S0 x1 hf H locs ls X hl
  unfold fn_X2_tally_28 at hf
  refine lv_aload_n (pc := 28) hx hb dX2_tally_28 rfl (lv_at hl 0 rfl) ?_
  refine x_get (pc := 29) (ci := 2) C0 KN X 0 rfl rfl inlX2 0 (by decide) kw_3_11 rfl dX2_tally_29 ?_
  refine lv_iload_n (pc := 32) hx hb dX2_tally_32 rfl (lv_at hl 1 rfl) ?_
  obtain ⟨g_5, hf⟩ := gd_e hf
  refine x_ald (pc := 33) C0 KN X 1 rfl g_5 dX2_tally_33 ?_
  refine W.eq (g2 := F0 m 34 ls [.int ((gf_Pasts_zeros S0) x1.toNatClampNeg)]) rfl ?_
  refine lv_bipush (pc := 34) (v := 60) hx hb dX2_tally_34 (by decide) ?_
  refine lv_icmp_gt (pc := 36) (tgt := 50) hx hb dX2_tally_36 (by decide) (fun c_6 => ?_) (fun c_6 => ?_)
  · have hf := it_p hf c_6
    exact lb_X2_tally_50 C0 KN hA _  _ _ hf _ _ _ X (lv_sub hl [0, 1] rfl)
  · have hf := it_n hf c_6
    refine lv_aload_n (pc := 39) hx hb dX2_tally_39 rfl (lv_at hl 0 rfl) ?_
    refine x_get (pc := 40) (ci := 2) C0 KN X 0 rfl rfl inlX2 1 (by decide) kw_3_12 rfl dX2_tally_40 ?_
    refine lv_iload_n (pc := 43) hx hb dX2_tally_43 rfl (lv_at hl 1 rfl) ?_
    obtain ⟨g_13, hf⟩ := gd_e hf
    refine x_ald (pc := 44) C0 KN X 2 rfl g_13 dX2_tally_44 ?_
    refine W.eq (g2 := F0 m 45 ls [.int ((gf_Pasts_ones S0) x1.toNatClampNeg)]) rfl ?_
    refine lv_bipush (pc := 45) (v := 60) hx hb dX2_tally_45 (by decide) ?_
    refine lv_icmp_le (pc := 47) (tgt := 70) hx hb dX2_tally_47 (by decide) (fun c_14 => ?_) (fun c_14 => ?_)
    · have hf := it_p hf c_14
      cases hf
      exact x_vret (pc := 70) C0 X dX2_tally_70
    · have hf := it_n hf c_14
      exact lb_X2_tally_50 C0 KN hA _  _ _ hf _ _ _ X (lv_sub hl [0, 1] rfl)
theorem hd_X2_tally : yX2_tally.cls ≠ "java/lang/invoke/MethodHandle" ∧ yX2_tally.cls ≠ "java/lang/invoke/VarHandle" ∧ (parseMethodDescriptor yX2_tally.desc).map (fun d => d.parameters.length) = some 2 := by decide +kernel
set_option maxHeartbeats 4000000 in
set_option maxRecDepth 100000 in
theorem ct_X2_tally (l : Launch) (G : xG) (a : Nat → Nat) (S0 : tt_Pasts) (x1 : Int32) (x2 : Int32) (So0 : tt_Pasts) (hf : fn_X2_tally S0 x1 x2 = some So0) : xM l yX2_tally cX2_tally 3 (none) 0 0 G [.ref (a 0), .int x1, .int x2] (wd_Pasts G a S0) (wd_Pasts G a So0) none := by
  refine xMi (by decide) (Nat.le_of_ble_eq_true rfl) ?_
  intro p e s m below meth c A C0 KN hA X ls hl
  have hx := C0.1
  have hb := C0.2.1
  have C0 : xC p s m meth c cX2_tally 3 (none) RX2 _ := C0
  have hl : lv_has ls 3 [(0, .ref (a 0)), (1, .int x1), (2, .int x2)] := hl
  unfold fn_X2_tally at hf
  refine lv_iload_n (pc := 0) hx hb dX2_tally_0 rfl (lv_at hl 2 rfl) ?_
  refine lv_iconst (pc := 1) (v := 1) hx hb dX2_tally_1 (by decide) ?_
  refine lv_icmp_ne (pc := 2) (tgt := 18) hx hb dX2_tally_2 (by decide) (fun c_1 => ?_) (fun c_1 => ?_)
  · have hf := it_n hf c_1
    refine lv_aload_n (pc := 18) hx hb dX2_tally_18 rfl (lv_at hl 0 rfl) ?_
    refine x_get (pc := 19) (ci := 2) C0 KN X 0 rfl rfl inlX2 0 (by decide) kw_3_11 rfl dX2_tally_19 ?_
    refine lv_iload_n (pc := 22) hx hb dX2_tally_22 rfl (lv_at hl 1 rfl) ?_
    refine lv_dup2_11 (pc := 23) hx hb dX2_tally_23 rfl rfl ?_
    obtain ⟨g_2, hf⟩ := gd_e hf
    refine x_ald (pc := 24) C0 KN X 1 rfl g_2 dX2_tally_24 ?_
    refine W.eq (g2 := F0 m 25 ls [.int ((gf_Pasts_zeros S0) x1.toNatClampNeg), .int x1, .ref (a 1)]) rfl ?_
    refine lv_iconst (pc := 25) (v := 1) hx hb dX2_tally_25 (by decide) ?_
    refine lv_iadd (pc := 26) hx hb dX2_tally_26 ?_
    obtain ⟨g_3, hf⟩ := gd_e hf
    obtain ⟨S_4, eS_4, hf⟩ := lt_e hf
    refine x_ast (pc := 27) (ws' := wd_Pasts G a S_4) C0 KN X 1 rfl g_3 (by subst eS_4; rfl) dX2_tally_27 (fun H locs X => ?_)
    exact lb_X2_tally_28 C0 KN hA _  _ _ hf _ _ _ X (lv_sub hl [0, 1] rfl)
  · have hf := it_p hf c_1
    refine lv_aload_n (pc := 5) hx hb dX2_tally_5 rfl (lv_at hl 0 rfl) ?_
    refine x_get (pc := 6) (ci := 2) C0 KN X 0 rfl rfl inlX2 1 (by decide) kw_3_12 rfl dX2_tally_6 ?_
    refine lv_iload_n (pc := 9) hx hb dX2_tally_9 rfl (lv_at hl 1 rfl) ?_
    refine lv_dup2_11 (pc := 10) hx hb dX2_tally_10 rfl rfl ?_
    obtain ⟨g_15, hf⟩ := gd_e hf
    refine x_ald (pc := 11) C0 KN X 2 rfl g_15 dX2_tally_11 ?_
    refine W.eq (g2 := F0 m 12 ls [.int ((gf_Pasts_ones S0) x1.toNatClampNeg), .int x1, .ref (a 2)]) rfl ?_
    refine lv_iconst (pc := 12) (v := 1) hx hb dX2_tally_12 (by decide) ?_
    refine lv_iadd (pc := 13) hx hb dX2_tally_13 ?_
    obtain ⟨g_16, hf⟩ := gd_e hf
    obtain ⟨S_17, eS_17, hf⟩ := lt_e hf
    refine x_ast (pc := 14) (ws' := wd_Pasts G a S_17) C0 KN X 2 rfl g_16 (by subst eS_17; rfl) dX2_tally_14 (fun H locs X => ?_)
    refine lv_goto (pc := 15) (tgt := 28) hx hb dX2_tally_15 (by decide) ?_
    exact lb_X2_tally_28 C0 KN hA _  _ _ hf _ _ _ X (lv_sub hl [0, 1] rfl)
theorem hd_X2_weighAnew : yX2_weighAnew.cls ≠ "java/lang/invoke/MethodHandle" ∧ yX2_weighAnew.cls ≠ "java/lang/invoke/VarHandle" ∧ (parseMethodDescriptor yX2_weighAnew.desc).map (fun d => d.parameters.length) = some 3 := by decide +kernel
set_option maxHeartbeats 4000000 in
set_option maxRecDepth 100000 in
theorem ct_X2_weighAnew (l : Launch) (G : xG) (a : Nat → Nat) (S0 : tt_Pasts) (x1 : Int32) (x2 : Int32) (x3 : Int32) (So0 : tt_Pasts) (hf : fn_X2_weighAnew S0 x1 x2 x3 = some So0) : xM l yX2_weighAnew cX2_weighAnew 10 (none) 1 23 G [.ref (a 0), .int x1, .int x2, .int x3] (wd_Pasts G a S0) (wd_Pasts G a So0) none := by
  refine xMi (by decide) (Nat.le_of_ble_eq_true rfl) ?_
  intro p e s m below meth c A C0 KN hA X ls hl
  have hx := C0.1
  have hb := C0.2.1
  have C0 : xC p s m meth c cX2_weighAnew 10 (none) RX2 _ := C0
  have hl : lv_has ls 10 [(0, .ref (a 0)), (1, .int x1), (2, .int x2), (3, .int x3)] := hl
  unfold fn_X2_weighAnew at hf
  refine lv_aload_n (pc := 0) hx hb dX2_weighAnew_0 rfl (lv_at hl 0 rfl) ?_
  refine x_get (pc := 1) (ci := 2) C0 KN X 0 rfl rfl inlX2 2 (by decide) kw_3_13 rfl dX2_weighAnew_1 ?_
  refine lv_iload_n (pc := 4) hx hb dX2_weighAnew_4 rfl (lv_at hl 1 rfl) ?_
  obtain ⟨g_1, hf⟩ := gd_e hf
  refine x_ald (pc := 5) C0 KN X 3 rfl g_1 dX2_weighAnew_5 ?_
  refine W.eq (g2 := F0 m 6 ls [.int ((gf_Pasts_weights S0) x1.toNatClampNeg)]) rfl ?_
  refine lv_i2l (pc := 6) (v := ((gf_Pasts_weights S0) x1.toNatClampNeg).toInt64) hx hb dX2_weighAnew_6 rfl ?_
  refine lv_topl (fun y_2 ey_2 => ?_)
  have hf := lt_sb hf ey_2
  refine lv_lstore (pc := 7) (lv' := [(4, .long y_2), (0, .ref (a 0)), (1, .int x1), (2, .int x2), (3, .int x3)]) hx hb dX2_weighAnew_7 hl (by decide) rfl (fun ls hl => ?_)
  refine lv_lload (pc := 9) hx hb dX2_weighAnew_9 (lv_at hl 0 rfl) ?_
  refine lv_iload_n (pc := 11) hx hb dX2_weighAnew_11 rfl (lv_at hl 4 rfl) ?_
  refine lv_aload_n (pc := 12) hx hb dX2_weighAnew_12 rfl (lv_at hl 1 rfl) ?_
  refine x_get (pc := 13) (ci := 2) C0 KN X 0 rfl rfl inlX2 4 (by decide) kw_3_15 rfl dX2_weighAnew_13 ?_
  refine lv_iload_n (pc := 16) hx hb dX2_weighAnew_16 rfl (lv_at hl 3 rfl) ?_
  obtain ⟨g_3, hf⟩ := gd_e hf
  refine x_ald (pc := 17) C0 KN X 5 rfl g_3 dX2_weighAnew_17 ?_
  refine W.eq (g2 := F0 m 18 ls [.int ((gf_Pasts_owns S0) x2.toNatClampNeg), .int x3, .long y_2]) rfl ?_
  obtain ⟨r_4, h_5, hf⟩ := bd_e hf
  refine x_csN (pc := 18) (As := [.int x3, .int ((gf_Pasts_owns S0) x2.toNatClampNeg)]) (rest := [.long y_2]) C0 KN (ct_X8_ofSign l x3 ((gf_Pasts_owns S0) x2.toNatClampNeg) r_4 h_5) kw_9_22 (List.mem_of_getElem? (i := 12) rfl) kw_9_21 kw_1_2 hd_X8_ofSign ⟨by decide, by decide⟩ hl.1 rfl (Nat.le_of_ble_eq_true rfl) ⟨Nat.zero_le _, Nat.zero_le _⟩ dX2_weighAnew_18 ?_
  refine W.eq (g2 := F0 m 21 ls [.int r_4, .long y_2]) rfl ?_
  refine lv_i2l (pc := 21) (v := r_4.toInt64) hx hb dX2_weighAnew_21 rfl ?_
  refine lv_lmul (pc := 22) hx hb dX2_weighAnew_22 ?_
  refine lv_topl (fun y_6 ey_6 => ?_)
  have hf := lt_sb hf ey_6
  refine lv_lstore (pc := 23) (lv' := [(6, .long y_6), (4, .long y_2), (0, .ref (a 0)), (1, .int x1), (2, .int x2), (3, .int x3)]) hx hb dX2_weighAnew_23 hl (by decide) rfl (fun ls hl => ?_)
  refine x_ldc2 (pc := 25) C0 kw_4_21 dX2_weighAnew_25 ?_
  refine lv_lload (pc := 28) hx hb dX2_weighAnew_28 (lv_at hl 1 rfl) ?_
  refine lv_lsub (pc := 30) hx hb dX2_weighAnew_30 ?_
  refine lv_iload_n (pc := 31) hx hb dX2_weighAnew_31 rfl (lv_at hl 5 rfl) ?_
  refine lv_aload_n (pc := 32) hx hb dX2_weighAnew_32 rfl (lv_at hl 2 rfl) ?_
  refine x_get (pc := 33) (ci := 2) C0 KN X 0 rfl rfl inlX2 5 (by decide) kw_3_16 rfl dX2_weighAnew_33 ?_
  refine lv_iload_n (pc := 36) hx hb dX2_weighAnew_36 rfl (lv_at hl 4 rfl) ?_
  refine lv_iconst (pc := 37) (v := 1) hx hb dX2_weighAnew_37 (by decide) ?_
  refine lv_iadd (pc := 38) hx hb dX2_weighAnew_38 ?_
  obtain ⟨g_7, hf⟩ := gd_e hf
  refine x_ald (pc := 39) C0 KN X 6 rfl g_7 dX2_weighAnew_39 ?_
  refine W.eq (g2 := F0 m 40 ls [.int ((gf_Pasts_guesses S0) (x2 + (1 : Int32)).toNatClampNeg), .int x3, .long ((65536 : Int64) - y_2)]) rfl ?_
  obtain ⟨r_8, h_9, hf⟩ := bd_e hf
  refine x_csN (pc := 40) (As := [.int x3, .int ((gf_Pasts_guesses S0) (x2 + (1 : Int32)).toNatClampNeg)]) (rest := [.long ((65536 : Int64) - y_2)]) C0 KN (ct_X8_ofSign l x3 ((gf_Pasts_guesses S0) (x2 + (1 : Int32)).toNatClampNeg) r_8 h_9) kw_9_22 (List.mem_of_getElem? (i := 12) rfl) kw_9_21 kw_1_2 hd_X8_ofSign ⟨by decide, by decide⟩ hl.1 rfl (Nat.le_of_ble_eq_true rfl) ⟨Nat.zero_le _, Nat.zero_le _⟩ dX2_weighAnew_40 ?_
  refine W.eq (g2 := F0 m 43 ls [.int r_8, .long ((65536 : Int64) - y_2)]) rfl ?_
  refine lv_i2l (pc := 43) (v := r_8.toInt64) hx hb dX2_weighAnew_43 rfl ?_
  refine lv_lmul (pc := 44) hx hb dX2_weighAnew_44 ?_
  refine lv_topl (fun y_10 ey_10 => ?_)
  have hf := lt_sb hf ey_10
  refine lv_lstore (pc := 45) (lv' := [(8, .long y_10), (6, .long y_6), (4, .long y_2), (0, .ref (a 0)), (1, .int x1), (2, .int x2), (3, .int x3)]) hx hb dX2_weighAnew_45 hl (by decide) rfl (fun ls hl => ?_)
  refine lv_aload_n (pc := 47) hx hb dX2_weighAnew_47 rfl (lv_at hl 3 rfl) ?_
  refine x_get (pc := 48) (ci := 2) C0 KN X 0 rfl rfl inlX2 2 (by decide) kw_3_13 rfl dX2_weighAnew_48 ?_
  refine lv_iload_n (pc := 51) hx hb dX2_weighAnew_51 rfl (lv_at hl 4 rfl) ?_
  refine x_ldc2 (pc := 52) C0 kw_4_21 dX2_weighAnew_52 ?_
  refine lv_lload (pc := 55) hx hb dX2_weighAnew_55 (lv_at hl 1 rfl) ?_
  refine lv_lmul (pc := 57) hx hb dX2_weighAnew_57 ?_
  refine lv_lload (pc := 58) hx hb dX2_weighAnew_58 (lv_at hl 1 rfl) ?_
  refine lv_lload (pc := 60) hx hb dX2_weighAnew_60 (lv_at hl 0 rfl) ?_
  refine lv_ladd (pc := 62) hx hb dX2_weighAnew_62 ?_
  obtain ⟨r_11, h_12, hf⟩ := bd_e hf
  refine x_csN (pc := 63) (As := [.long ((65536 : Int64) * y_6), .long (y_6 + y_10)]) (rest := [.int x1, .ref (a 3)]) C0 KN (ct_X8_quotient l ((65536 : Int64) * y_6) (y_6 + y_10) r_11 h_12) kw_4_16 (List.mem_of_getElem? (i := 14) rfl) kw_4_15 kw_1_2 hd_X8_quotient ⟨by decide, by decide⟩ hl.1 rfl (Nat.le_of_ble_eq_true rfl) ⟨Nat.zero_le _, Nat.zero_le _⟩ dX2_weighAnew_63 ?_
  refine W.eq (g2 := F0 m 66 ls [.long r_11, .int x1, .ref (a 3)]) rfl ?_
  refine lv_bipush (pc := 66) (v := 64) hx hb dX2_weighAnew_66 (by decide) ?_
  refine x_ldc (pc := 68) C0 kw_10_10 dX2_weighAnew_68 ?_
  obtain ⟨r_13, h_14, hf⟩ := bd_e hf
  refine x_csN (pc := 70) (As := [.long r_11, .int (64 : Int32), .int (65472 : Int32)]) (rest := [.int x1, .ref (a 3)]) C0 KN (ct_X8_kept l r_11 (64 : Int32) (65472 : Int32) r_13 h_14) kw_4_2 (List.mem_of_getElem? (i := 1) rfl) kw_4_1 kw_1_2 hd_X8_kept ⟨by decide, by decide⟩ hl.1 rfl (Nat.le_of_ble_eq_true rfl) ⟨Nat.zero_le _, Nat.zero_le _⟩ dX2_weighAnew_70 ?_
  refine W.eq (g2 := F0 m 73 ls [.int r_13, .int x1, .ref (a 3)]) rfl ?_
  obtain ⟨g_15, hf⟩ := gd_e hf
  obtain ⟨S_16, eS_16, hf⟩ := lt_e hf
  refine x_ast (pc := 73) (ws' := wd_Pasts G a S_16) C0 KN X 3 rfl g_15 (by subst eS_16; rfl) dX2_weighAnew_73 (fun H locs X => ?_)
  cases hf
  exact x_vret (pc := 74) C0 X dX2_weighAnew_74
set_option maxHeartbeats 4000000 in
set_option maxRecDepth 100000 in
theorem lb_X2_take_56 {l : Launch} {p : Program} {e : Env} {s : State} {m : MethodId} {args : Array Value} {below : List Frame} {meth : Method} {c : Code} {G : xG} {A : Nat → Prop} {a : Nat → Nat} (C0 : xC p s m meth c cX2_take 4 (none) RX2 args) (KN : xKN G s) (hA : ∀ q, s.heap.size ≤ q → A q) (So0 : tt_Pasts) (k2 : tt_Pasts → Int32 → Int32 → Option tt_Pasts) (hk2 : ∀ (S0 : tt_Pasts) (x1 : Int32) (x2 : Int32), k2 S0 x1 x2 = some So0 → ∀ (H : Heap) (locs : List Loc) (ls : Array Slot), xS G A s.heap (wd_Pasts G a S0) H locs → lv_has ls 4 [(0, .ref (a 0)), (1, .int x1), (2, .int x2)] → W p l e ({ frames := 3, cells := 0, slots := 0, locals := 71 }) s m args below meth c H locs 0 0 (MQ below (xQo G none A (wd_Pasts G a So0)) args s 0 0 A) (F0 m 2 ls [])) : ∀ (S0 : tt_Pasts) (x1 : Int32) (x2 : Int32) (x3 : Int32), fn_X2_take_56 k2 S0 x1 x2 x3 = some So0 → ∀ (H : Heap) (locs : List Loc) (ls : Array Slot), xS G A s.heap (wd_Pasts G a S0) H locs → lv_has ls 4 [(0, .ref (a 0)), (1, .int x1), (2, .int x2), (3, .int x3)] → W p l e ({ frames := 3, cells := 0, slots := 0, locals := 71 }) s m args below meth c H locs 0 0 (MQ below (xQo G none A (wd_Pasts G a So0)) args s 0 0 A) (F0 m 56 ls []) := by
  have hx := C0.1
  have hb := C0.2.1
  intro S0 x1 x2 x3 hf H locs ls X hl
  unfold fn_X2_take_56 at hf
  refine lv_aload_n (pc := 56) hx hb dX2_take_56 rfl (lv_at hl 0 rfl) ?_
  refine lv_iload_n (pc := 57) hx hb dX2_take_57 rfl (lv_at hl 3 rfl) ?_
  refine lv_iload_n (pc := 58) hx hb dX2_take_58 rfl (lv_at hl 1 rfl) ?_
  obtain ⟨P_13, h_14, hf⟩ := bd_e hf
  refine x_cv (pc := 59) (ws' := wd_Pasts G a P_13) (As := [.int x3, .int x1]) (rest := []) (ci := 2) (qr := 0) C0 KN X hA [0, 1, 2, 3, 4, 5, 6] [] [0, 1, 2, 3, 4, 5, 6] cu_C1 rfl cu_R1 rfl (by decide) (cu_J1 (S0 := S0)) rfl (ct_X2_tally l G a S0 x3 x1 P_13 h_14) rfl rfl rfl kw_10_14 kw_10_11 kw_10_12 kw_10_13 kw_1_19 hd_X2_tally ⟨by decide, by decide⟩ hl.1 rfl (Nat.le_of_ble_eq_true rfl) ⟨Nat.zero_le _, Nat.zero_le _⟩ dX2_take_59 (fun H locs X => ?_)
  refine W.eq (g2 := F0 m 62 ls []) rfl ?_
  obtain ⟨y_15, ey_15⟩ : ∃ y : Int32, y = x2 + (1 : Int32) := ⟨_, rfl⟩
  have hf := lt_sb hf ey_15
  refine lv_iinc (pc := 62) (v := y_15) (lv' := [(2, .int y_15), (0, .ref (a 0)), (1, .int x1), (3, .int x3)]) hx hb dX2_take_62 hl (k := 2) rfl (by rw [ey_15]; rfl) (by decide) rfl (fun ls hl => ?_)
  refine lv_goto (pc := 65) (tgt := 2) hx hb dX2_take_65 (by decide) ?_
  exact hk2 _ _ _ hf _ _ _ X (lv_sub hl [1, 2, 0] rfl)
set_option maxHeartbeats 4000000 in
set_option maxRecDepth 100000 in
theorem lb_X2_take_2 {l : Launch} {p : Program} {e : Env} {s : State} {m : MethodId} {args : Array Value} {below : List Frame} {meth : Method} {c : Code} {G : xG} {A : Nat → Prop} {a : Nat → Nat} (C0 : xC p s m meth c cX2_take 4 (none) RX2 args) (KN : xKN G s) (hA : ∀ q, s.heap.size ≤ q → A q) (So0 : tt_Pasts) (k68 : tt_Pasts → Int32 → Option tt_Pasts) (hk68 : ∀ (S0 : tt_Pasts) (x1 : Int32), k68 S0 x1 = some So0 → ∀ (H : Heap) (locs : List Loc) (ls : Array Slot), xS G A s.heap (wd_Pasts G a S0) H locs → lv_has ls 4 [(0, .ref (a 0)), (1, .int x1)] → W p l e ({ frames := 3, cells := 0, slots := 0, locals := 71 }) s m args below meth c H locs 0 0 (MQ below (xQo G none A (wd_Pasts G a So0)) args s 0 0 A) (F0 m 68 ls [])) : ∀ (n : Nat) (S0 : tt_Pasts) (x1 : Int32) (x2 : Int32), fl_X2_take_2 k68 n S0 x1 x2 = some So0 → ∀ (H : Heap) (locs : List Loc) (ls : Array Slot), xS G A s.heap (wd_Pasts G a S0) H locs → lv_has ls 4 [(0, .ref (a 0)), (1, .int x1), (2, .int x2)] → W p l e ({ frames := 3, cells := 0, slots := 0, locals := 71 }) s m args below meth c H locs 0 0 (MQ below (xQo G none A (wd_Pasts G a So0)) args s 0 0 A) (F0 m 2 ls []) := by
  have hx := C0.1
  have hb := C0.2.1
  intro n
  induction n with
  | zero =>
    intro S0 x1 x2 hf
    have hf : none = some So0 := hf
    cases hf
  | succ n ih =>
    intro S0 x1 x2 hf H locs ls X hl
    rw [fl_X2_take_2] at hf
    refine lv_iload_n (pc := 2) hx hb dX2_take_2 rfl (lv_at hl 2 rfl) ?_
    refine lv_aload_n (pc := 3) hx hb dX2_take_3 rfl (lv_at hl 0 rfl) ?_
    refine x_get (pc := 4) (ci := 2) C0 KN X 0 rfl rfl inlX2 6 (by decide) kw_3_17 rfl dX2_take_4 ?_
    refine W.eq (g2 := F0 m 7 ls [.int (gf_Pasts_depth S0), .int x2]) rfl ?_
    refine lv_icmp_gt (pc := 7) (tgt := 68) hx hb dX2_take_7 (by decide) (fun c_1 => ?_) (fun c_1 => ?_)
    · have hf := it_p hf c_1
      exact hk68 _ _ hf _ _ _ X (lv_sub hl [0, 1] rfl)
    · have hf := it_n hf c_1
      refine lv_iload_n (pc := 10) hx hb dX2_take_10 rfl (lv_at hl 2 rfl) ?_
      refine lv_aload_n (pc := 11) hx hb dX2_take_11 rfl (lv_at hl 0 rfl) ?_
      refine x_get (pc := 12) (ci := 2) C0 KN X 0 rfl rfl inlX2 8 (by decide) kw_3_19 rfl dX2_take_12 ?_
      refine W.eq (g2 := F0 m 15 ls [.int (gf_Pasts_past S0), .int x2]) rfl ?_
      obtain ⟨r_2, h_3, hf⟩ := bd_e hf
      refine x_csN (pc := 15) (As := [.int x2, .int (gf_Pasts_past S0)]) (rest := []) C0 KN (ct_X8_nodeOf l x2 (gf_Pasts_past S0) r_2 h_3) kw_4_4 (List.mem_of_getElem? (i := 2) rfl) kw_4_3 kw_1_2 hd_X8_nodeOf ⟨by decide, by decide⟩ hl.1 rfl (Nat.le_of_ble_eq_true rfl) ⟨Nat.zero_le _, Nat.zero_le _⟩ dX2_take_15 ?_
      refine W.eq (g2 := F0 m 18 ls [.int r_2]) rfl ?_
      refine lv_istore_n (pc := 18) (lv' := [(3, .int r_2), (0, .ref (a 0)), (1, .int x1), (2, .int x2)]) hx hb dX2_take_18 rfl hl (by decide) rfl (fun ls hl => ?_)
      refine lv_aload_n (pc := 19) hx hb dX2_take_19 rfl (lv_at hl 1 rfl) ?_
      refine x_get (pc := 20) (ci := 2) C0 KN X 0 rfl rfl inlX2 3 (by decide) kw_3_14 rfl dX2_take_20 ?_
      refine lv_iload_n (pc := 23) hx hb dX2_take_23 rfl (lv_at hl 0 rfl) ?_
      refine lv_dup2_11 (pc := 24) hx hb dX2_take_24 rfl rfl ?_
      obtain ⟨g_4, hf⟩ := gd_e hf
      refine x_ald (pc := 25) C0 KN X 4 rfl g_4 dX2_take_25 ?_
      refine W.eq (g2 := F0 m 26 ls [.int ((gf_Pasts_paidAlone S0) r_2.toNatClampNeg), .int r_2, .ref (a 4)]) rfl ?_
      refine lv_iload_n (pc := 26) hx hb dX2_take_26 rfl (lv_at hl 2 rfl) ?_
      refine lv_aload_n (pc := 27) hx hb dX2_take_27 rfl (lv_at hl 1 rfl) ?_
      refine x_get (pc := 28) (ci := 2) C0 KN X 0 rfl rfl inlX2 4 (by decide) kw_3_15 rfl dX2_take_28 ?_
      refine lv_iload_n (pc := 31) hx hb dX2_take_31 rfl (lv_at hl 3 rfl) ?_
      obtain ⟨g_5, hf⟩ := gd_e hf
      refine x_ald (pc := 32) C0 KN X 5 rfl g_5 dX2_take_32 ?_
      refine W.eq (g2 := F0 m 33 ls [.int ((gf_Pasts_owns S0) x2.toNatClampNeg), .int x1, .int ((gf_Pasts_paidAlone S0) r_2.toNatClampNeg), .int r_2, .ref (a 4)]) rfl ?_
      obtain ⟨r_6, h_7, hf⟩ := bd_e hf
      refine x_csN (pc := 33) (As := [.int x1, .int ((gf_Pasts_owns S0) x2.toNatClampNeg)]) (rest := [.int ((gf_Pasts_paidAlone S0) r_2.toNatClampNeg), .int r_2, .ref (a 4)]) C0 KN (ct_X8_ofSign l x1 ((gf_Pasts_owns S0) x2.toNatClampNeg) r_6 h_7) kw_9_22 (List.mem_of_getElem? (i := 12) rfl) kw_9_21 kw_1_2 hd_X8_ofSign ⟨by decide, by decide⟩ hl.1 rfl (Nat.le_of_ble_eq_true rfl) ⟨Nat.zero_le _, Nat.zero_le _⟩ dX2_take_33 ?_
      refine W.eq (g2 := F0 m 36 ls [.int r_6, .int ((gf_Pasts_paidAlone S0) r_2.toNatClampNeg), .int r_2, .ref (a 4)]) rfl ?_
      obtain ⟨r_8, h_9, hf⟩ := bd_e hf
      refine x_csN (pc := 36) (As := [.int r_6]) (rest := [.int ((gf_Pasts_paidAlone S0) r_2.toNatClampNeg), .int r_2, .ref (a 4)]) C0 KN (ct_X8_bitsOf l r_6 r_8 h_9) kw_10_1 (List.mem_of_getElem? (i := 13) rfl) kw_10_0 kw_1_2 hd_X8_bitsOf ⟨by decide, by decide⟩ hl.1 rfl (Nat.le_of_ble_eq_true rfl) ⟨Nat.zero_le _, Nat.zero_le _⟩ dX2_take_36 ?_
      refine W.eq (g2 := F0 m 39 ls [.int r_8, .int ((gf_Pasts_paidAlone S0) r_2.toNatClampNeg), .int r_2, .ref (a 4)]) rfl ?_
      refine lv_iadd (pc := 39) hx hb dX2_take_39 ?_
      obtain ⟨g_10, hf⟩ := gd_e hf
      obtain ⟨S_11, eS_11, hf⟩ := lt_e hf
      refine x_ast (pc := 40) (ws' := wd_Pasts G a S_11) C0 KN X 4 rfl g_10 (by subst eS_11; rfl) dX2_take_40 (fun H locs X => ?_)
      refine lv_iload_n (pc := 41) hx hb dX2_take_41 rfl (lv_at hl 3 rfl) ?_
      refine lv_aload_n (pc := 42) hx hb dX2_take_42 rfl (lv_at hl 1 rfl) ?_
      refine x_get (pc := 43) (ci := 2) C0 KN X 0 rfl rfl inlX2 6 (by decide) kw_3_17 rfl dX2_take_43 ?_
      refine W.eq (g2 := F0 m 46 ls [.int (gf_Pasts_depth S_11), .int x2]) rfl ?_
      refine lv_icmp_ge (pc := 46) (tgt := 56) hx hb dX2_take_46 (by decide) (fun c_12 => ?_) (fun c_12 => ?_)
      · have hf := it_p hf c_12
        exact lb_X2_take_56 C0 KN hA _ (fl_X2_take_2 k68 n) ih _ _ _ _ hf _ _ _ X (lv_sub hl [1, 2, 3, 0] rfl)
      · have hf := it_n hf c_12
        refine lv_aload_n (pc := 49) hx hb dX2_take_49 rfl (lv_at hl 1 rfl) ?_
        refine lv_iload_n (pc := 50) hx hb dX2_take_50 rfl (lv_at hl 0 rfl) ?_
        refine lv_iload_n (pc := 51) hx hb dX2_take_51 rfl (lv_at hl 3 rfl) ?_
        refine lv_iload_n (pc := 52) hx hb dX2_take_52 rfl (lv_at hl 2 rfl) ?_
        obtain ⟨P_16, h_17, hf⟩ := bd_e hf
        refine x_cv (pc := 53) (ws' := wd_Pasts G a P_16) (As := [.int r_2, .int x2, .int x1]) (rest := []) (ci := 2) (qr := 0) C0 KN X hA [0, 1, 2, 3, 4, 5, 6] [] [0, 1, 2, 3, 4, 5, 6] cu_C1 rfl cu_R1 rfl (by decide) (cu_J1 (S0 := S_11)) rfl (ct_X2_weighAnew l G a S_11 r_2 x2 x1 P_16 h_17) rfl rfl rfl kw_10_9 kw_10_6 kw_10_7 kw_10_8 kw_1_19 hd_X2_weighAnew ⟨by decide, by decide⟩ hl.1 rfl (Nat.le_of_ble_eq_true rfl) ⟨Nat.zero_le _, Nat.zero_le _⟩ dX2_take_53 (fun H locs X => ?_)
        refine W.eq (g2 := F0 m 56 ls []) rfl ?_
        exact lb_X2_take_56 C0 KN hA _ (fl_X2_take_2 k68 n) ih _ _ _ _ hf _ _ _ X (lv_sub hl [1, 2, 3, 0] rfl)
theorem hd_X2_take : yX2_take.cls ≠ "java/lang/invoke/MethodHandle" ∧ yX2_take.cls ≠ "java/lang/invoke/VarHandle" ∧ (parseMethodDescriptor yX2_take.desc).map (fun d => d.parameters.length) = some 1 := by decide +kernel
set_option maxHeartbeats 4000000 in
set_option maxRecDepth 100000 in
theorem ct_X2_take (l : Launch) (G : xG) (a : Nat → Nat) (S0 : tt_Pasts) (x1 : Int32) (So0 : tt_Pasts) (hf : fn_X2_take S0 x1 = some So0) : xM l yX2_take cX2_take 4 (none) 3 71 G [.ref (a 0), .int x1] (wd_Pasts G a S0) (wd_Pasts G a So0) none := by
  refine xMi (by decide) (Nat.le_of_ble_eq_true rfl) ?_
  intro p e s m below meth c A C0 KN hA X ls hl
  have hx := C0.1
  have hb := C0.2.1
  have C0 : xC p s m meth c cX2_take 4 (none) RX2 _ := C0
  have hl : lv_has ls 4 [(0, .ref (a 0)), (1, .int x1)] := hl
  unfold fn_X2_take at hf
  refine lv_iconst (pc := 0) (v := 0) hx hb dX2_take_0 (by decide) ?_
  refine lv_istore_n (pc := 1) (lv' := [(2, .int (0 : Int32)), (0, .ref (a 0)), (1, .int x1)]) hx hb dX2_take_1 rfl hl (by decide) rfl (fun ls hl => ?_)
  refine lb_X2_take_2 C0 KN hA _ _ ?_ _ _ _ _ hf _ _ _ X (lv_sub hl [1, 2, 0] rfl)
  · intro S0_e68_18 x1_e68_18 hf H locs ls X hl
    refine lv_aload_n (pc := 68) hx hb dX2_take_68 rfl (lv_at hl 0 rfl) ?_
    refine lv_aload_n (pc := 69) hx hb dX2_take_69 rfl (lv_at hl 0 rfl) ?_
    refine x_get (pc := 70) (ci := 2) C0 KN X 0 rfl rfl inlX2 8 (by decide) kw_3_19 rfl dX2_take_70 ?_
    refine W.eq (g2 := F0 m 73 ls [.int (gf_Pasts_past S0_e68_18), .ref (a 0)]) rfl ?_
    refine lv_iconst (pc := 73) (v := 1) hx hb dX2_take_73 (by decide) ?_
    refine lv_ishl (pc := 74) hx hb dX2_take_74 ?_
    refine lv_iload_n (pc := 75) hx hb dX2_take_75 rfl (lv_at hl 1 rfl) ?_
    refine lv_ior (pc := 76) hx hb dX2_take_76 ?_
    refine lv_bipush (pc := 77) (v := 63) hx hb dX2_take_77 (by decide) ?_
    refine lv_iand (pc := 79) hx hb dX2_take_79 ?_
    obtain ⟨S_19, eS_19, hf⟩ := lt_e hf
    refine x_put (pc := 80) (ci := 2) (ws' := wd_Pasts G a S_19) C0 KN X 0 rfl rfl inlX2 tyX2_ok nmX2 8 (by decide) kw_3_19 rfl rfl rfl (Nat.le_of_ble_eq_true rfl) (by subst eS_19; rfl) dX2_take_80 (fun H locs X => ?_)
    refine lv_aload_n (pc := 83) hx hb dX2_take_83 rfl (lv_at hl 0 rfl) ?_
    obtain ⟨P_20, h_21, hf⟩ := bd_e hf
    refine x_cv (pc := 84) (ws' := wd_Pasts G a P_20) (As := []) (rest := []) (ci := 2) (qr := 0) C0 KN X hA [0, 1, 2, 3, 4, 5, 6] [] [0, 1, 2, 3, 4, 5, 6] cu_C1 rfl cu_R1 rfl (by decide) (cu_J1 (S0 := S_19)) rfl (ct_X2_lookAhead l G a S_19 P_20 h_21) rfl rfl rfl kw_4_9 kw_4_6 kw_4_7 kw_4_8 kw_1_19 hd_X2_lookAhead ⟨by decide, by decide⟩ hl.1 rfl (Nat.le_of_ble_eq_true rfl) ⟨Nat.zero_le _, Nat.zero_le _⟩ dX2_take_84 (fun H locs X => ?_)
    refine W.eq (g2 := F0 m 87 ls []) rfl ?_
    cases hf
    exact x_vret (pc := 87) C0 X dX2_take_87
end
