-- ===== PART A: goes FIRST, ahead of the names: the tables' words, and 'selects' of the private methods out of them =====
/-- a private method of a class that the tables say can be made, by its rows of tables_1 -/
def lw_okq (q : MethodName × Nat) : Prop := (q.1.cls ≠ "java/lang/invoke/MethodHandle" ∧ q.1.cls ≠ "java/lang/invoke/VarHandle") ∧ Cond.instantiable q.1.cls q.2 ∈ tables_1 ∧ Cond.privateMethod q.1 ∈ tables_1 ∧ Cond.instanceMethod q.1 ∈ tables_1
theorem lw_p0 : lw_okq (⟨"SendTheBox", "refuse", "(I)I"⟩, 12) := ⟨⟨by decide +kernel, by decide +kernel⟩, List.mem_of_getElem? (i := 17) (by decide +kernel), List.mem_of_getElem? (i := 229) (by decide +kernel), List.mem_of_getElem? (i := 230) (by decide +kernel)⟩
theorem lw_p1 : lw_okq (⟨"SendTheBox", "putOnShelf", "(ILSendTheBox$Row;LSendTheBox$Rule;)V"⟩, 12) := ⟨⟨by decide +kernel, by decide +kernel⟩, List.mem_of_getElem? (i := 17) (by decide +kernel), List.mem_of_getElem? (i := 246) (by decide +kernel), List.mem_of_getElem? (i := 247) (by decide +kernel)⟩
theorem lw_p2 : lw_okq (⟨"SendTheBox", "rowAt", "(I)LSendTheBox$Row;"⟩, 12) := ⟨⟨by decide +kernel, by decide +kernel⟩, List.mem_of_getElem? (i := 17) (by decide +kernel), List.mem_of_getElem? (i := 254) (by decide +kernel), List.mem_of_getElem? (i := 255) (by decide +kernel)⟩
theorem lw_p3 : lw_okq (⟨"SendTheBox", "lackOnShelf", "(I)I"⟩, 12) := ⟨⟨by decide +kernel, by decide +kernel⟩, List.mem_of_getElem? (i := 17) (by decide +kernel), List.mem_of_getElem? (i := 258) (by decide +kernel), List.mem_of_getElem? (i := 259) (by decide +kernel)⟩
theorem lw_p4 : lw_okq (⟨"SendTheBox", "ruleAt", "(I)LSendTheBox$Rule;"⟩, 12) := ⟨⟨by decide +kernel, by decide +kernel⟩, List.mem_of_getElem? (i := 17) (by decide +kernel), List.mem_of_getElem? (i := 262) (by decide +kernel), List.mem_of_getElem? (i := 263) (by decide +kernel)⟩
theorem lw_p5 : lw_okq (⟨"SendTheBox$Row", "lowestBits", "(J)J"⟩, 2) := ⟨⟨by decide +kernel, by decide +kernel⟩, List.mem_of_getElem? (i := 232) (by decide +kernel), List.mem_of_getElem? (i := 275) (by decide +kernel), List.mem_of_getElem? (i := 276) (by decide +kernel)⟩
theorem lw_p6 : lw_okq (⟨"SendTheBox$Tape", "advance", "()V"⟩, 5) := ⟨⟨by decide +kernel, by decide +kernel⟩, List.mem_of_getElem? (i := 94) (by decide +kernel), List.mem_of_getElem? (i := 404) (by decide +kernel), List.mem_of_getElem? (i := 405) (by decide +kernel)⟩
theorem lw_p7 : lw_okq (⟨"SendTheBox$Tape", "byteAt", "(I)I"⟩, 5) := ⟨⟨by decide +kernel, by decide +kernel⟩, List.mem_of_getElem? (i := 94) (by decide +kernel), List.mem_of_getElem? (i := 408) (by decide +kernel), List.mem_of_getElem? (i := 409) (by decide +kernel)⟩
theorem lw_p8 : lw_okq (⟨"SendTheBox$Tape", "readStatement", "(LSendTheBox$House;)Z"⟩, 5) := ⟨⟨by decide +kernel, by decide +kernel⟩, List.mem_of_getElem? (i := 94) (by decide +kernel), List.mem_of_getElem? (i := 415) (by decide +kernel), List.mem_of_getElem? (i := 416) (by decide +kernel)⟩
theorem lw_p9 : lw_okq (⟨"SendTheBox$Tape", "isWord", "(Ljava/lang/String;)Z"⟩, 5) := ⟨⟨by decide +kernel, by decide +kernel⟩, List.mem_of_getElem? (i := 94) (by decide +kernel), List.mem_of_getElem? (i := 420) (by decide +kernel), List.mem_of_getElem? (i := 421) (by decide +kernel)⟩
theorem lw_p10 : lw_okq (⟨"SendTheBox$Tape", "readHouseNumber", "(LSendTheBox$House;I)Z"⟩, 5) := ⟨⟨by decide +kernel, by decide +kernel⟩, List.mem_of_getElem? (i := 94) (by decide +kernel), List.mem_of_getElem? (i := 472) (by decide +kernel), List.mem_of_getElem? (i := 473) (by decide +kernel)⟩
theorem lw_p11 : lw_okq (⟨"SendTheBox$Tape", "numberHere", "()I"⟩, 5) := ⟨⟨by decide +kernel, by decide +kernel⟩, List.mem_of_getElem? (i := 94) (by decide +kernel), List.mem_of_getElem? (i := 476) (by decide +kernel), List.mem_of_getElem? (i := 477) (by decide +kernel)⟩
theorem lw_p12 : lw_okq (⟨"SendTheBox$Tape", "readSort", "(LSendTheBox$House;)Z"⟩, 5) := ⟨⟨by decide +kernel, by decide +kernel⟩, List.mem_of_getElem? (i := 94) (by decide +kernel), List.mem_of_getElem? (i := 496) (by decide +kernel), List.mem_of_getElem? (i := 497) (by decide +kernel)⟩
theorem lw_p13 : lw_okq (⟨"SendTheBox$Tape", "readSortNumber", "(LSendTheBox$House;II)Z"⟩, 5) := ⟨⟨by decide +kernel, by decide +kernel⟩, List.mem_of_getElem? (i := 94) (by decide +kernel), List.mem_of_getElem? (i := 507) (by decide +kernel), List.mem_of_getElem? (i := 508) (by decide +kernel)⟩
theorem lw_p14 : lw_okq (⟨"SendTheBox", "planOf", "(I)LSendTheBox$Plan;"⟩, 12) := ⟨⟨by decide +kernel, by decide +kernel⟩, List.mem_of_getElem? (i := 17) (by decide +kernel), List.mem_of_getElem? (i := 577) (by decide +kernel), List.mem_of_getElem? (i := 578) (by decide +kernel)⟩
theorem lw_p15 : lw_okq (⟨"SendTheBox$Plan", "workOut", "(I)V"⟩, 15) := ⟨⟨by decide +kernel, by decide +kernel⟩, List.mem_of_getElem? (i := 123) (by decide +kernel), List.mem_of_getElem? (i := 650) (by decide +kernel), List.mem_of_getElem? (i := 651) (by decide +kernel)⟩
def lw_privs_1 : List (MethodName × Nat) := [(⟨"SendTheBox", "refuse", "(I)I"⟩, 12), (⟨"SendTheBox", "putOnShelf", "(ILSendTheBox$Row;LSendTheBox$Rule;)V"⟩, 12), (⟨"SendTheBox", "rowAt", "(I)LSendTheBox$Row;"⟩, 12), (⟨"SendTheBox", "lackOnShelf", "(I)I"⟩, 12), (⟨"SendTheBox", "ruleAt", "(I)LSendTheBox$Rule;"⟩, 12), (⟨"SendTheBox$Row", "lowestBits", "(J)J"⟩, 2), (⟨"SendTheBox$Tape", "advance", "()V"⟩, 5), (⟨"SendTheBox$Tape", "byteAt", "(I)I"⟩, 5), (⟨"SendTheBox$Tape", "readStatement", "(LSendTheBox$House;)Z"⟩, 5), (⟨"SendTheBox$Tape", "isWord", "(Ljava/lang/String;)Z"⟩, 5), (⟨"SendTheBox$Tape", "readHouseNumber", "(LSendTheBox$House;I)Z"⟩, 5), (⟨"SendTheBox$Tape", "numberHere", "()I"⟩, 5), (⟨"SendTheBox$Tape", "readSort", "(LSendTheBox$House;)Z"⟩, 5), (⟨"SendTheBox$Tape", "readSortNumber", "(LSendTheBox$House;II)Z"⟩, 5), (⟨"SendTheBox", "planOf", "(I)LSendTheBox$Plan;"⟩, 12), (⟨"SendTheBox$Plan", "workOut", "(I)V"⟩, 15)]
theorem lw_r1 : ∀ q ∈ lw_privs_1, lw_okq q := List.forall_mem_cons.mpr ⟨lw_p0, List.forall_mem_cons.mpr ⟨lw_p1, List.forall_mem_cons.mpr ⟨lw_p2, List.forall_mem_cons.mpr ⟨lw_p3, List.forall_mem_cons.mpr ⟨lw_p4, List.forall_mem_cons.mpr ⟨lw_p5, List.forall_mem_cons.mpr ⟨lw_p6, List.forall_mem_cons.mpr ⟨lw_p7, List.forall_mem_cons.mpr ⟨lw_p8, List.forall_mem_cons.mpr ⟨lw_p9, List.forall_mem_cons.mpr ⟨lw_p10, List.forall_mem_cons.mpr ⟨lw_p11, List.forall_mem_cons.mpr ⟨lw_p12, List.forall_mem_cons.mpr ⟨lw_p13, List.forall_mem_cons.mpr ⟨lw_p14, List.forall_mem_cons.mpr ⟨lw_p15, fun _ h => absurd h List.not_mem_nil⟩⟩⟩⟩⟩⟩⟩⟩⟩⟩⟩⟩⟩⟩⟩⟩
theorem lw_p16 : lw_okq (⟨"SendTheBox$Plan", "startFromEnd", "()V"⟩, 15) := ⟨⟨by decide +kernel, by decide +kernel⟩, List.mem_of_getElem? (i := 123) (by decide +kernel), List.mem_of_getElem? (i := 655) (by decide +kernel), List.mem_of_getElem? (i := 656) (by decide +kernel)⟩
theorem lw_p17 : lw_okq (⟨"SendTheBox$Plan", "takeCosts", "(I)V"⟩, 15) := ⟨⟨by decide +kernel, by decide +kernel⟩, List.mem_of_getElem? (i := 123) (by decide +kernel), List.mem_of_getElem? (i := 662) (by decide +kernel), List.mem_of_getElem? (i := 663) (by decide +kernel)⟩
theorem lw_p18 : lw_okq (⟨"SendTheBox$Plan", "goBackToLoad", "(I)V"⟩, 15) := ⟨⟨by decide +kernel, by decide +kernel⟩, List.mem_of_getElem? (i := 123) (by decide +kernel), List.mem_of_getElem? (i := 670) (by decide +kernel), List.mem_of_getElem? (i := 671) (by decide +kernel)⟩
theorem lw_p19 : lw_okq (⟨"SendTheBox$Plan", "keepWork", "([JI)V"⟩, 15) := ⟨⟨by decide +kernel, by decide +kernel⟩, List.mem_of_getElem? (i := 123) (by decide +kernel), List.mem_of_getElem? (i := 679) (by decide +kernel), List.mem_of_getElem? (i := 680) (by decide +kernel)⟩
theorem lw_p20 : lw_okq (⟨"SendTheBox$Plan", "boxCost", "(I)J"⟩, 15) := ⟨⟨by decide +kernel, by decide +kernel⟩, List.mem_of_getElem? (i := 123) (by decide +kernel), List.mem_of_getElem? (i := 683) (by decide +kernel), List.mem_of_getElem? (i := 684) (by decide +kernel)⟩
theorem lw_p21 : lw_okq (⟨"SendTheBox$Plan", "unitOf", "(I)J"⟩, 15) := ⟨⟨by decide +kernel, by decide +kernel⟩, List.mem_of_getElem? (i := 123) (by decide +kernel), List.mem_of_getElem? (i := 688) (by decide +kernel), List.mem_of_getElem? (i := 689) (by decide +kernel)⟩
theorem lw_p22 : lw_okq (⟨"SendTheBox$Plan", "goBackBest", "(IJ)V"⟩, 15) := ⟨⟨by decide +kernel, by decide +kernel⟩, List.mem_of_getElem? (i := 123) (by decide +kernel), List.mem_of_getElem? (i := 693) (by decide +kernel), List.mem_of_getElem? (i := 694) (by decide +kernel)⟩
theorem lw_p23 : lw_okq (⟨"SendTheBox$Plan", "pick", "(IJZ)I"⟩, 15) := ⟨⟨by decide +kernel, by decide +kernel⟩, List.mem_of_getElem? (i := 123) (by decide +kernel), List.mem_of_getElem? (i := 697) (by decide +kernel), List.mem_of_getElem? (i := 698) (by decide +kernel)⟩
theorem lw_p24 : lw_okq (⟨"SendTheBox$Plan", "mix", "(IIJ)V"⟩, 15) := ⟨⟨by decide +kernel, by decide +kernel⟩, List.mem_of_getElem? (i := 123) (by decide +kernel), List.mem_of_getElem? (i := 701) (by decide +kernel), List.mem_of_getElem? (i := 702) (by decide +kernel)⟩
theorem lw_p25 : lw_okq (⟨"SendTheBox$Plan", "loadWorkedOut", "(II)I"⟩, 15) := ⟨⟨by decide +kernel, by decide +kernel⟩, List.mem_of_getElem? (i := 123) (by decide +kernel), List.mem_of_getElem? (i := 718) (by decide +kernel), List.mem_of_getElem? (i := 719) (by decide +kernel)⟩
theorem lw_p26 : lw_okq (⟨"SendTheBox$Plan", "goBackPromised", "(JZ)V"⟩, 15) := ⟨⟨by decide +kernel, by decide +kernel⟩, List.mem_of_getElem? (i := 123) (by decide +kernel), List.mem_of_getElem? (i := 759) (by decide +kernel), List.mem_of_getElem? (i := 760) (by decide +kernel)⟩
theorem lw_p27 : lw_okq (⟨"SendTheBox$Plan", "leastRoomSent", "(I)I"⟩, 15) := ⟨⟨by decide +kernel, by decide +kernel⟩, List.mem_of_getElem? (i := 123) (by decide +kernel), List.mem_of_getElem? (i := 771) (by decide +kernel), List.mem_of_getElem? (i := 772) (by decide +kernel)⟩
theorem lw_p28 : lw_okq (⟨"SendTheBox$Plan", "oddFrom", "(II)I"⟩, 15) := ⟨⟨by decide +kernel, by decide +kernel⟩, List.mem_of_getElem? (i := 123) (by decide +kernel), List.mem_of_getElem? (i := 776) (by decide +kernel), List.mem_of_getElem? (i := 777) (by decide +kernel)⟩
theorem lw_p29 : lw_okq (⟨"SendTheBox", "ruleFor", "(LSendTheBox$Plan;I)LSendTheBox$Rule;"⟩, 12) := ⟨⟨by decide +kernel, by decide +kernel⟩, List.mem_of_getElem? (i := 17) (by decide +kernel), List.mem_of_getElem? (i := 805) (by decide +kernel), List.mem_of_getElem? (i := 806) (by decide +kernel)⟩
theorem lw_p30 : lw_okq (⟨"SendTheBox$Rule", "isItsDay", "(I)Z"⟩, 4) := ⟨⟨by decide +kernel, by decide +kernel⟩, List.mem_of_getElem? (i := 317) (by decide +kernel), List.mem_of_getElem? (i := 821) (by decide +kernel), List.mem_of_getElem? (i := 822) (by decide +kernel)⟩
theorem lw_p31 : lw_okq (⟨"SendTheBox$Plan", "spread", "(LSendTheBox$Rule;I)V"⟩, 15) := ⟨⟨by decide +kernel, by decide +kernel⟩, List.mem_of_getElem? (i := 123) (by decide +kernel), List.mem_of_getElem? (i := 852) (by decide +kernel), List.mem_of_getElem? (i := 853) (by decide +kernel)⟩
def lw_privs_2 : List (MethodName × Nat) := [(⟨"SendTheBox$Plan", "startFromEnd", "()V"⟩, 15), (⟨"SendTheBox$Plan", "takeCosts", "(I)V"⟩, 15), (⟨"SendTheBox$Plan", "goBackToLoad", "(I)V"⟩, 15), (⟨"SendTheBox$Plan", "keepWork", "([JI)V"⟩, 15), (⟨"SendTheBox$Plan", "boxCost", "(I)J"⟩, 15), (⟨"SendTheBox$Plan", "unitOf", "(I)J"⟩, 15), (⟨"SendTheBox$Plan", "goBackBest", "(IJ)V"⟩, 15), (⟨"SendTheBox$Plan", "pick", "(IJZ)I"⟩, 15), (⟨"SendTheBox$Plan", "mix", "(IIJ)V"⟩, 15), (⟨"SendTheBox$Plan", "loadWorkedOut", "(II)I"⟩, 15), (⟨"SendTheBox$Plan", "goBackPromised", "(JZ)V"⟩, 15), (⟨"SendTheBox$Plan", "leastRoomSent", "(I)I"⟩, 15), (⟨"SendTheBox$Plan", "oddFrom", "(II)I"⟩, 15), (⟨"SendTheBox", "ruleFor", "(LSendTheBox$Plan;I)LSendTheBox$Rule;"⟩, 12), (⟨"SendTheBox$Rule", "isItsDay", "(I)Z"⟩, 4), (⟨"SendTheBox$Plan", "spread", "(LSendTheBox$Rule;I)V"⟩, 15)]
theorem lw_r2 : ∀ q ∈ lw_privs_2, lw_okq q := List.forall_mem_cons.mpr ⟨lw_p16, List.forall_mem_cons.mpr ⟨lw_p17, List.forall_mem_cons.mpr ⟨lw_p18, List.forall_mem_cons.mpr ⟨lw_p19, List.forall_mem_cons.mpr ⟨lw_p20, List.forall_mem_cons.mpr ⟨lw_p21, List.forall_mem_cons.mpr ⟨lw_p22, List.forall_mem_cons.mpr ⟨lw_p23, List.forall_mem_cons.mpr ⟨lw_p24, List.forall_mem_cons.mpr ⟨lw_p25, List.forall_mem_cons.mpr ⟨lw_p26, List.forall_mem_cons.mpr ⟨lw_p27, List.forall_mem_cons.mpr ⟨lw_p28, List.forall_mem_cons.mpr ⟨lw_p29, List.forall_mem_cons.mpr ⟨lw_p30, List.forall_mem_cons.mpr ⟨lw_p31, fun _ h => absurd h List.not_mem_nil⟩⟩⟩⟩⟩⟩⟩⟩⟩⟩⟩⟩⟩⟩⟩⟩
theorem lw_p32 : lw_okq (⟨"SendTheBox$Plan", "startSpread", "()V"⟩, 15) := ⟨⟨by decide +kernel, by decide +kernel⟩, List.mem_of_getElem? (i := 123) (by decide +kernel), List.mem_of_getElem? (i := 856) (by decide +kernel), List.mem_of_getElem? (i := 857) (by decide +kernel)⟩
theorem lw_p33 : lw_okq (⟨"SendTheBox$Plan", "spreadLoad", "(LSendTheBox$Rule;I)J"⟩, 15) := ⟨⟨by decide +kernel, by decide +kernel⟩, List.mem_of_getElem? (i := 123) (by decide +kernel), List.mem_of_getElem? (i := 860) (by decide +kernel), List.mem_of_getElem? (i := 861) (by decide +kernel)⟩
theorem lw_p34 : lw_okq (⟨"SendTheBox$Plan", "spreadWhatComes", "()V"⟩, 15) := ⟨⟨by decide +kernel, by decide +kernel⟩, List.mem_of_getElem? (i := 123) (by decide +kernel), List.mem_of_getElem? (i := 864) (by decide +kernel), List.mem_of_getElem? (i := 865) (by decide +kernel)⟩
theorem lw_p35 : lw_okq (⟨"SendTheBox$Plan", "isRoomOfSome", "(I)Z"⟩, 15) := ⟨⟨by decide +kernel, by decide +kernel⟩, List.mem_of_getElem? (i := 123) (by decide +kernel), List.mem_of_getElem? (i := 900) (by decide +kernel), List.mem_of_getElem? (i := 901) (by decide +kernel)⟩
theorem lw_p36 : lw_okq (⟨"SendTheBox", "passDays", "(LSendTheBox$Week;LSendTheBox$Plan;I)I"⟩, 12) := ⟨⟨by decide +kernel, by decide +kernel⟩, List.mem_of_getElem? (i := 17) (by decide +kernel), List.mem_of_getElem? (i := 967) (by decide +kernel), List.mem_of_getElem? (i := 968) (by decide +kernel)⟩
theorem lw_p37 : lw_okq (⟨"SendTheBox$Week", "send", "(I)I"⟩, 8) := ⟨⟨by decide +kernel, by decide +kernel⟩, List.mem_of_getElem? (i := 33) (by decide +kernel), List.mem_of_getElem? (i := 982) (by decide +kernel), List.mem_of_getElem? (i := 983) (by decide +kernel)⟩
theorem lw_p38 : lw_okq (⟨"SendTheBox$Week", "receive", "(I)I"⟩, 8) := ⟨⟨by decide +kernel, by decide +kernel⟩, List.mem_of_getElem? (i := 33) (by decide +kernel), List.mem_of_getElem? (i := 990) (by decide +kernel), List.mem_of_getElem? (i := 991) (by decide +kernel)⟩
theorem lw_p39 : lw_okq (⟨"SendTheBox", "shelvesInUse", "()I"⟩, 12) := ⟨⟨by decide +kernel, by decide +kernel⟩, List.mem_of_getElem? (i := 17) (by decide +kernel), List.mem_of_getElem? (i := 1027) (by decide +kernel), List.mem_of_getElem? (i := 1028) (by decide +kernel)⟩
theorem lw_p40 : lw_okq (⟨"SendTheBoxModel", "refuse", "(I)I"⟩, 46) := ⟨⟨by decide +kernel, by decide +kernel⟩, List.mem_of_getElem? (i := 1031) (by decide +kernel), List.mem_of_getElem? (i := 1190) (by decide +kernel), List.mem_of_getElem? (i := 1191) (by decide +kernel)⟩
theorem lw_p41 : lw_okq (⟨"SendTheBoxModel", "read", "([I)Z"⟩, 46) := ⟨⟨by decide +kernel, by decide +kernel⟩, List.mem_of_getElem? (i := 1031) (by decide +kernel), List.mem_of_getElem? (i := 1239) (by decide +kernel), List.mem_of_getElem? (i := 1240) (by decide +kernel)⟩
theorem lw_p42 : lw_okq (⟨"SendTheBoxModel", "look", "()V"⟩, 46) := ⟨⟨by decide +kernel, by decide +kernel⟩, List.mem_of_getElem? (i := 1031) (by decide +kernel), List.mem_of_getElem? (i := 1243) (by decide +kernel), List.mem_of_getElem? (i := 1244) (by decide +kernel)⟩
theorem lw_p43 : lw_okq (⟨"SendTheBoxModel", "statement", "([I)Z"⟩, 46) := ⟨⟨by decide +kernel, by decide +kernel⟩, List.mem_of_getElem? (i := 1031) (by decide +kernel), List.mem_of_getElem? (i := 1256) (by decide +kernel), List.mem_of_getElem? (i := 1257) (by decide +kernel)⟩
theorem lw_p44 : lw_okq (⟨"SendTheBoxModel", "isWord", "(Ljava/lang/String;)Z"⟩, 46) := ⟨⟨by decide +kernel, by decide +kernel⟩, List.mem_of_getElem? (i := 1031) (by decide +kernel), List.mem_of_getElem? (i := 1261) (by decide +kernel), List.mem_of_getElem? (i := 1262) (by decide +kernel)⟩
theorem lw_p45 : lw_okq (⟨"SendTheBoxModel", "told", "(Ljava/lang/String;[IIII)Z"⟩, 46) := ⟨⟨by decide +kernel, by decide +kernel⟩, List.mem_of_getElem? (i := 1031) (by decide +kernel), List.mem_of_getElem? (i := 1267) (by decide +kernel), List.mem_of_getElem? (i := 1268) (by decide +kernel)⟩
theorem lw_p46 : lw_okq (⟨"SendTheBoxModel", "wrong", "()Z"⟩, 46) := ⟨⟨by decide +kernel, by decide +kernel⟩, List.mem_of_getElem? (i := 1031) (by decide +kernel), List.mem_of_getElem? (i := 1271) (by decide +kernel), List.mem_of_getElem? (i := 1272) (by decide +kernel)⟩
theorem lw_p47 : lw_okq (⟨"SendTheBoxModel", "isHouse", "(I)Z"⟩, 46) := ⟨⟨by decide +kernel, by decide +kernel⟩, List.mem_of_getElem? (i := 1031) (by decide +kernel), List.mem_of_getElem? (i := 1287) (by decide +kernel), List.mem_of_getElem? (i := 1288) (by decide +kernel)⟩
def lw_privs_3 : List (MethodName × Nat) := [(⟨"SendTheBox$Plan", "startSpread", "()V"⟩, 15), (⟨"SendTheBox$Plan", "spreadLoad", "(LSendTheBox$Rule;I)J"⟩, 15), (⟨"SendTheBox$Plan", "spreadWhatComes", "()V"⟩, 15), (⟨"SendTheBox$Plan", "isRoomOfSome", "(I)Z"⟩, 15), (⟨"SendTheBox", "passDays", "(LSendTheBox$Week;LSendTheBox$Plan;I)I"⟩, 12), (⟨"SendTheBox$Week", "send", "(I)I"⟩, 8), (⟨"SendTheBox$Week", "receive", "(I)I"⟩, 8), (⟨"SendTheBox", "shelvesInUse", "()I"⟩, 12), (⟨"SendTheBoxModel", "refuse", "(I)I"⟩, 46), (⟨"SendTheBoxModel", "read", "([I)Z"⟩, 46), (⟨"SendTheBoxModel", "look", "()V"⟩, 46), (⟨"SendTheBoxModel", "statement", "([I)Z"⟩, 46), (⟨"SendTheBoxModel", "isWord", "(Ljava/lang/String;)Z"⟩, 46), (⟨"SendTheBoxModel", "told", "(Ljava/lang/String;[IIII)Z"⟩, 46), (⟨"SendTheBoxModel", "wrong", "()Z"⟩, 46), (⟨"SendTheBoxModel", "isHouse", "(I)Z"⟩, 46)]
theorem lw_r3 : ∀ q ∈ lw_privs_3, lw_okq q := List.forall_mem_cons.mpr ⟨lw_p32, List.forall_mem_cons.mpr ⟨lw_p33, List.forall_mem_cons.mpr ⟨lw_p34, List.forall_mem_cons.mpr ⟨lw_p35, List.forall_mem_cons.mpr ⟨lw_p36, List.forall_mem_cons.mpr ⟨lw_p37, List.forall_mem_cons.mpr ⟨lw_p38, List.forall_mem_cons.mpr ⟨lw_p39, List.forall_mem_cons.mpr ⟨lw_p40, List.forall_mem_cons.mpr ⟨lw_p41, List.forall_mem_cons.mpr ⟨lw_p42, List.forall_mem_cons.mpr ⟨lw_p43, List.forall_mem_cons.mpr ⟨lw_p44, List.forall_mem_cons.mpr ⟨lw_p45, List.forall_mem_cons.mpr ⟨lw_p46, List.forall_mem_cons.mpr ⟨lw_p47, fun _ h => absurd h List.not_mem_nil⟩⟩⟩⟩⟩⟩⟩⟩⟩⟩⟩⟩⟩⟩⟩⟩
theorem lw_p48 : lw_okq (⟨"SendTheBoxModel", "sorts", "(I)I"⟩, 46) := ⟨⟨by decide +kernel, by decide +kernel⟩, List.mem_of_getElem? (i := 1031) (by decide +kernel), List.mem_of_getElem? (i := 1295) (by decide +kernel), List.mem_of_getElem? (i := 1296) (by decide +kernel)⟩
theorem lw_p49 : lw_okq (⟨"SendTheBoxModel", "isState", "(II)Z"⟩, 46) := ⟨⟨by decide +kernel, by decide +kernel⟩, List.mem_of_getElem? (i := 1031) (by decide +kernel), List.mem_of_getElem? (i := 1326) (by decide +kernel), List.mem_of_getElem? (i := 1327) (by decide +kernel)⟩
theorem lw_p50 : lw_okq (⟨"SendTheBoxModel", "states", "(I)I"⟩, 46) := ⟨⟨by decide +kernel, by decide +kernel⟩, List.mem_of_getElem? (i := 1031) (by decide +kernel), List.mem_of_getElem? (i := 1330) (by decide +kernel), List.mem_of_getElem? (i := 1331) (by decide +kernel)⟩
theorem lw_p51 : lw_okq (⟨"SendTheBoxModel", "sum", "(III)I"⟩, 46) := ⟨⟨by decide +kernel, by decide +kernel⟩, List.mem_of_getElem? (i := 1031) (by decide +kernel), List.mem_of_getElem? (i := 1334) (by decide +kernel), List.mem_of_getElem? (i := 1335) (by decide +kernel)⟩
theorem lw_p52 : lw_okq (⟨"SendTheBoxModel", "numberOf", "(III)I"⟩, 46) := ⟨⟨by decide +kernel, by decide +kernel⟩, List.mem_of_getElem? (i := 1031) (by decide +kernel), List.mem_of_getElem? (i := 1338) (by decide +kernel), List.mem_of_getElem? (i := 1339) (by decide +kernel)⟩
theorem lw_p53 : lw_okq (⟨"SendTheBoxModel", "isLeft", "(II)Z"⟩, 46) := ⟨⟨by decide +kernel, by decide +kernel⟩, List.mem_of_getElem? (i := 1031) (by decide +kernel), List.mem_of_getElem? (i := 1346) (by decide +kernel), List.mem_of_getElem? (i := 1347) (by decide +kernel)⟩
theorem lw_p54 : lw_okq (⟨"SendTheBoxModel", "scaleOf", "(II)J"⟩, 46) := ⟨⟨by decide +kernel, by decide +kernel⟩, List.mem_of_getElem? (i := 1031) (by decide +kernel), List.mem_of_getElem? (i := 1350) (by decide +kernel), List.mem_of_getElem? (i := 1351) (by decide +kernel)⟩
theorem lw_p55 : lw_okq (⟨"SendTheBoxModel", "fillOf", "(II)I"⟩, 46) := ⟨⟨by decide +kernel, by decide +kernel⟩, List.mem_of_getElem? (i := 1031) (by decide +kernel), List.mem_of_getElem? (i := 1358) (by decide +kernel), List.mem_of_getElem? (i := 1359) (by decide +kernel)⟩
theorem lw_p56 : lw_okq (⟨"SendTheBoxModel", "findBest", "(I)V"⟩, 46) := ⟨⟨by decide +kernel, by decide +kernel⟩, List.mem_of_getElem? (i := 1031) (by decide +kernel), List.mem_of_getElem? (i := 1366) (by decide +kernel), List.mem_of_getElem? (i := 1367) (by decide +kernel)⟩
theorem lw_p57 : lw_okq (⟨"SendTheBoxModel", "findWays", "(I)V"⟩, 46) := ⟨⟨by decide +kernel, by decide +kernel⟩, List.mem_of_getElem? (i := 1031) (by decide +kernel), List.mem_of_getElem? (i := 1370) (by decide +kernel), List.mem_of_getElem? (i := 1371) (by decide +kernel)⟩
theorem lw_p58 : lw_okq (⟨"SendTheBoxModel", "behind", "(III[J)J"⟩, 46) := ⟨⟨by decide +kernel, by decide +kernel⟩, List.mem_of_getElem? (i := 1031) (by decide +kernel), List.mem_of_getElem? (i := 1374) (by decide +kernel), List.mem_of_getElem? (i := 1375) (by decide +kernel)⟩
theorem lw_p59 : lw_okq (⟨"SendTheBoxModel", "isLoad", "(III)Z"⟩, 46) := ⟨⟨by decide +kernel, by decide +kernel⟩, List.mem_of_getElem? (i := 1031) (by decide +kernel), List.mem_of_getElem? (i := 1378) (by decide +kernel), List.mem_of_getElem? (i := 1379) (by decide +kernel)⟩
theorem lw_p60 : lw_okq (⟨"SendTheBoxModel", "boxOf", "(II)J"⟩, 46) := ⟨⟨by decide +kernel, by decide +kernel⟩, List.mem_of_getElem? (i := 1031) (by decide +kernel), List.mem_of_getElem? (i := 1382) (by decide +kernel), List.mem_of_getElem? (i := 1383) (by decide +kernel)⟩
theorem lw_p61 : lw_okq (⟨"SendTheBoxModel", "noRule", "(I)I"⟩, 46) := ⟨⟨by decide +kernel, by decide +kernel⟩, List.mem_of_getElem? (i := 1031) (by decide +kernel), List.mem_of_getElem? (i := 1394) (by decide +kernel), List.mem_of_getElem? (i := 1395) (by decide +kernel)⟩
theorem lw_p62 : lw_okq (⟨"SendTheBoxModel", "loadBy", "(IIII)I"⟩, 46) := ⟨⟨by decide +kernel, by decide +kernel⟩, List.mem_of_getElem? (i := 1031) (by decide +kernel), List.mem_of_getElem? (i := 1398) (by decide +kernel), List.mem_of_getElem? (i := 1399) (by decide +kernel)⟩
theorem lw_p63 : lw_okq (⟨"SendTheBoxModel", "fillsBy", "(IIII)Z"⟩, 46) := ⟨⟨by decide +kernel, by decide +kernel⟩, List.mem_of_getElem? (i := 1031) (by decide +kernel), List.mem_of_getElem? (i := 1402) (by decide +kernel), List.mem_of_getElem? (i := 1403) (by decide +kernel)⟩
def lw_privs_4 : List (MethodName × Nat) := [(⟨"SendTheBoxModel", "sorts", "(I)I"⟩, 46), (⟨"SendTheBoxModel", "isState", "(II)Z"⟩, 46), (⟨"SendTheBoxModel", "states", "(I)I"⟩, 46), (⟨"SendTheBoxModel", "sum", "(III)I"⟩, 46), (⟨"SendTheBoxModel", "numberOf", "(III)I"⟩, 46), (⟨"SendTheBoxModel", "isLeft", "(II)Z"⟩, 46), (⟨"SendTheBoxModel", "scaleOf", "(II)J"⟩, 46), (⟨"SendTheBoxModel", "fillOf", "(II)I"⟩, 46), (⟨"SendTheBoxModel", "findBest", "(I)V"⟩, 46), (⟨"SendTheBoxModel", "findWays", "(I)V"⟩, 46), (⟨"SendTheBoxModel", "behind", "(III[J)J"⟩, 46), (⟨"SendTheBoxModel", "isLoad", "(III)Z"⟩, 46), (⟨"SendTheBoxModel", "boxOf", "(II)J"⟩, 46), (⟨"SendTheBoxModel", "noRule", "(I)I"⟩, 46), (⟨"SendTheBoxModel", "loadBy", "(IIII)I"⟩, 46), (⟨"SendTheBoxModel", "fillsBy", "(IIII)Z"⟩, 46)]
theorem lw_r4 : ∀ q ∈ lw_privs_4, lw_okq q := List.forall_mem_cons.mpr ⟨lw_p48, List.forall_mem_cons.mpr ⟨lw_p49, List.forall_mem_cons.mpr ⟨lw_p50, List.forall_mem_cons.mpr ⟨lw_p51, List.forall_mem_cons.mpr ⟨lw_p52, List.forall_mem_cons.mpr ⟨lw_p53, List.forall_mem_cons.mpr ⟨lw_p54, List.forall_mem_cons.mpr ⟨lw_p55, List.forall_mem_cons.mpr ⟨lw_p56, List.forall_mem_cons.mpr ⟨lw_p57, List.forall_mem_cons.mpr ⟨lw_p58, List.forall_mem_cons.mpr ⟨lw_p59, List.forall_mem_cons.mpr ⟨lw_p60, List.forall_mem_cons.mpr ⟨lw_p61, List.forall_mem_cons.mpr ⟨lw_p62, List.forall_mem_cons.mpr ⟨lw_p63, fun _ h => absurd h List.not_mem_nil⟩⟩⟩⟩⟩⟩⟩⟩⟩⟩⟩⟩⟩⟩⟩⟩
theorem lw_p64 : lw_okq (⟨"SendTheBoxModel", "byShelf", "(IIIIZ)J"⟩, 46) := ⟨⟨by decide +kernel, by decide +kernel⟩, List.mem_of_getElem? (i := 1031) (by decide +kernel), List.mem_of_getElem? (i := 1410) (by decide +kernel), List.mem_of_getElem? (i := 1411) (by decide +kernel)⟩
theorem lw_p65 : lw_okq (⟨"SendTheBoxModel", "findByRule", "(II)V"⟩, 46) := ⟨⟨by decide +kernel, by decide +kernel⟩, List.mem_of_getElem? (i := 1031) (by decide +kernel), List.mem_of_getElem? (i := 1414) (by decide +kernel), List.mem_of_getElem? (i := 1415) (by decide +kernel)⟩
theorem lw_p66 : lw_okq (⟨"SendTheBoxModel", "goesByRule", "(II)V"⟩, 46) := ⟨⟨by decide +kernel, by decide +kernel⟩, List.mem_of_getElem? (i := 1031) (by decide +kernel), List.mem_of_getElem? (i := 1418) (by decide +kernel), List.mem_of_getElem? (i := 1419) (by decide +kernel)⟩
theorem lw_p67 : lw_okq (⟨"SendTheBoxModel", "withLoad", "(IIII[J)J"⟩, 46) := ⟨⟨by decide +kernel, by decide +kernel⟩, List.mem_of_getElem? (i := 1031) (by decide +kernel), List.mem_of_getElem? (i := 1438) (by decide +kernel), List.mem_of_getElem? (i := 1439) (by decide +kernel)⟩
theorem lw_p68 : lw_okq (⟨"SendTheBoxModel", "findChances", "(II)V"⟩, 46) := ⟨⟨by decide +kernel, by decide +kernel⟩, List.mem_of_getElem? (i := 1031) (by decide +kernel), List.mem_of_getElem? (i := 1446) (by decide +kernel), List.mem_of_getElem? (i := 1447) (by decide +kernel)⟩
theorem lw_p69 : lw_okq (⟨"SendTheBoxModel", "goesOn", "(IIJ[J)V"⟩, 46) := ⟨⟨by decide +kernel, by decide +kernel⟩, List.mem_of_getElem? (i := 1031) (by decide +kernel), List.mem_of_getElem? (i := 1450) (by decide +kernel), List.mem_of_getElem? (i := 1451) (by decide +kernel)⟩
theorem lw_p70 : lw_okq (⟨"SendTheBoxModel", "meanOf", "(III)J"⟩, 46) := ⟨⟨by decide +kernel, by decide +kernel⟩, List.mem_of_getElem? (i := 1031) (by decide +kernel), List.mem_of_getElem? (i := 1462) (by decide +kernel), List.mem_of_getElem? (i := 1463) (by decide +kernel)⟩
theorem lw_p71 : lw_okq (⟨"SendTheBoxModel", "leastOf", "(IIII)I"⟩, 46) := ⟨⟨by decide +kernel, by decide +kernel⟩, List.mem_of_getElem? (i := 1031) (by decide +kernel), List.mem_of_getElem? (i := 1474) (by decide +kernel), List.mem_of_getElem? (i := 1475) (by decide +kernel)⟩
theorem lw_p72 : lw_okq (⟨"SendTheBoxModel", "hasRoom", "(II)Z"⟩, 46) := ⟨⟨by decide +kernel, by decide +kernel⟩, List.mem_of_getElem? (i := 1031) (by decide +kernel), List.mem_of_getElem? (i := 1478) (by decide +kernel), List.mem_of_getElem? (i := 1479) (by decide +kernel)⟩
theorem lw_p73 : lw_okq (⟨"SendTheBoxModel", "findRooms", "(II)Z"⟩, 46) := ⟨⟨by decide +kernel, by decide +kernel⟩, List.mem_of_getElem? (i := 1031) (by decide +kernel), List.mem_of_getElem? (i := 1498) (by decide +kernel), List.mem_of_getElem? (i := 1499) (by decide +kernel)⟩
theorem lw_p74 : lw_okq (⟨"SendTheBoxModel", "mayJoin", "(II)Z"⟩, 46) := ⟨⟨by decide +kernel, by decide +kernel⟩, List.mem_of_getElem? (i := 1031) (by decide +kernel), List.mem_of_getElem? (i := 1514) (by decide +kernel), List.mem_of_getElem? (i := 1515) (by decide +kernel)⟩
theorem lw_p75 : lw_okq (⟨"SendTheBoxModel", "joinTo", "(III)V"⟩, 46) := ⟨⟨by decide +kernel, by decide +kernel⟩, List.mem_of_getElem? (i := 1031) (by decide +kernel), List.mem_of_getElem? (i := 1518) (by decide +kernel), List.mem_of_getElem? (i := 1519) (by decide +kernel)⟩
theorem lw_p76 : lw_okq (⟨"SendTheBoxModel", "wholeCost", "(I)J"⟩, 46) := ⟨⟨by decide +kernel, by decide +kernel⟩, List.mem_of_getElem? (i := 1031) (by decide +kernel), List.mem_of_getElem? (i := 1526) (by decide +kernel), List.mem_of_getElem? (i := 1527) (by decide +kernel)⟩
theorem lw_p77 : lw_okq (⟨"SendTheBoxModel", "day", "(IIII)I"⟩, 46) := ⟨⟨by decide +kernel, by decide +kernel⟩, List.mem_of_getElem? (i := 1031) (by decide +kernel), List.mem_of_getElem? (i := 1542) (by decide +kernel), List.mem_of_getElem? (i := 1543) (by decide +kernel)⟩
theorem lw_p78 : lw_okq (⟨"SendTheBoxModel", "draw", "()I"⟩, 46) := ⟨⟨by decide +kernel, by decide +kernel⟩, List.mem_of_getElem? (i := 1031) (by decide +kernel), List.mem_of_getElem? (i := 1546) (by decide +kernel), List.mem_of_getElem? (i := 1547) (by decide +kernel)⟩
theorem lw_p79 : lw_okq (⟨"SendTheBoxModel", "takeFrom", "(LSendTheBoxModel;)V"⟩, 46) := ⟨⟨by decide +kernel, by decide +kernel⟩, List.mem_of_getElem? (i := 1031) (by decide +kernel), List.mem_of_getElem? (i := 1566) (by decide +kernel), List.mem_of_getElem? (i := 1567) (by decide +kernel)⟩
def lw_privs_5 : List (MethodName × Nat) := [(⟨"SendTheBoxModel", "byShelf", "(IIIIZ)J"⟩, 46), (⟨"SendTheBoxModel", "findByRule", "(II)V"⟩, 46), (⟨"SendTheBoxModel", "goesByRule", "(II)V"⟩, 46), (⟨"SendTheBoxModel", "withLoad", "(IIII[J)J"⟩, 46), (⟨"SendTheBoxModel", "findChances", "(II)V"⟩, 46), (⟨"SendTheBoxModel", "goesOn", "(IIJ[J)V"⟩, 46), (⟨"SendTheBoxModel", "meanOf", "(III)J"⟩, 46), (⟨"SendTheBoxModel", "leastOf", "(IIII)I"⟩, 46), (⟨"SendTheBoxModel", "hasRoom", "(II)Z"⟩, 46), (⟨"SendTheBoxModel", "findRooms", "(II)Z"⟩, 46), (⟨"SendTheBoxModel", "mayJoin", "(II)Z"⟩, 46), (⟨"SendTheBoxModel", "joinTo", "(III)V"⟩, 46), (⟨"SendTheBoxModel", "wholeCost", "(I)J"⟩, 46), (⟨"SendTheBoxModel", "day", "(IIII)I"⟩, 46), (⟨"SendTheBoxModel", "draw", "()I"⟩, 46), (⟨"SendTheBoxModel", "takeFrom", "(LSendTheBoxModel;)V"⟩, 46)]
theorem lw_r5 : ∀ q ∈ lw_privs_5, lw_okq q := List.forall_mem_cons.mpr ⟨lw_p64, List.forall_mem_cons.mpr ⟨lw_p65, List.forall_mem_cons.mpr ⟨lw_p66, List.forall_mem_cons.mpr ⟨lw_p67, List.forall_mem_cons.mpr ⟨lw_p68, List.forall_mem_cons.mpr ⟨lw_p69, List.forall_mem_cons.mpr ⟨lw_p70, List.forall_mem_cons.mpr ⟨lw_p71, List.forall_mem_cons.mpr ⟨lw_p72, List.forall_mem_cons.mpr ⟨lw_p73, List.forall_mem_cons.mpr ⟨lw_p74, List.forall_mem_cons.mpr ⟨lw_p75, List.forall_mem_cons.mpr ⟨lw_p76, List.forall_mem_cons.mpr ⟨lw_p77, List.forall_mem_cons.mpr ⟨lw_p78, List.forall_mem_cons.mpr ⟨lw_p79, fun _ h => absurd h List.not_mem_nil⟩⟩⟩⟩⟩⟩⟩⟩⟩⟩⟩⟩⟩⟩⟩⟩
def lw_privs : List (MethodName × Nat) := lw_privs_1 ++ (lw_privs_2 ++ (lw_privs_3 ++ (lw_privs_4 ++ (lw_privs_5))))
def lw_tbl : List Cond := k2_sels lw_privs ++ tables_1
theorem lw_privs_ok : ∀ q ∈ lw_privs, lw_okq q := by
  show ∀ q ∈ lw_privs_1 ++ (lw_privs_2 ++ (lw_privs_3 ++ (lw_privs_4 ++ (lw_privs_5)))), lw_okq q
  exact List.forall_mem_append.mpr ⟨lw_r1, List.forall_mem_append.mpr ⟨lw_r2, List.forall_mem_append.mpr ⟨lw_r3, List.forall_mem_append.mpr ⟨lw_r4, lw_r5⟩⟩⟩⟩
def RX0 : String := "SendTheBox$House"
def TX0 : u_T := fun k => match k with
  | _ => ("SendTheBox$House", "numbers", "[I", true)
def tyX0 : Nat → FieldType := fun k => match k with
  | _ => .array .int
abbrev wsX00 : List Cond := u_ws RX0 TX0 1
theorem nmX0 : ∀ a, a < 1 → ∀ b, b < 1 → a ≠ b → (TX0 a).2.1 ≠ (TX0 b).2.1 := by decide +kernel
theorem tyX0_ok : ∀ k, k < 1 → parseFieldDescriptor (TX0 k).2.2.1 = some (tyX0 k) := by decide +kernel
abbrev cX0_init : ByteArray := prog_2_method_1_code
def yX0_init : MethodName := ⟨RX0, "<init>", "()V"⟩
abbrev cX0_clear : ByteArray := prog_2_method_2_code
def yX0_clear : MethodName := ⟨RX0, "clear", "()V"⟩
abbrev cX0_become : ByteArray := prog_2_method_3_code
def yX0_become : MethodName := ⟨RX0, "become", "(LSendTheBox$House;)V"⟩
abbrev cX0_isLike : ByteArray := prog_2_method_4_code
def yX0_isLike : MethodName := ⟨RX0, "isLike", "(LSendTheBox$House;)Z"⟩
abbrev cX0_mayBe : ByteArray := prog_2_method_5_code
def yX0_mayBe : MethodName := ⟨RX0, "mayBe", "(II)Z"⟩
abbrev cX0_mayBeOfSort : ByteArray := prog_2_method_6_code
def yX0_mayBeOfSort : MethodName := ⟨RX0, "mayBeOfSort", "(II)Z"⟩
abbrev cX0_number : ByteArray := prog_2_method_7_code
def yX0_number : MethodName := ⟨RX0, "number", "(I)I"⟩
abbrev cX0_putNumber : ByteArray := prog_2_method_8_code
def yX0_putNumber : MethodName := ⟨RX0, "putNumber", "(II)V"⟩
abbrev cX0_placeOf : ByteArray := prog_2_method_9_code
def yX0_placeOf : MethodName := ⟨RX0, "placeOf", "(II)I"⟩
abbrev cX0_sortNumber : ByteArray := prog_2_method_10_code
def yX0_sortNumber : MethodName := ⟨RX0, "sortNumber", "(II)I"⟩
abbrev cX0_putSortNumber : ByteArray := prog_2_method_11_code
def yX0_putSortNumber : MethodName := ⟨RX0, "putSortNumber", "(III)V"⟩
abbrev cX0_days : ByteArray := prog_2_method_12_code
def yX0_days : MethodName := ⟨RX0, "days", "()I"⟩
abbrev cX0_sorts : ByteArray := prog_2_method_13_code
def yX0_sorts : MethodName := ⟨RX0, "sorts", "()I"⟩
abbrev cX0_hasSort : ByteArray := prog_2_method_14_code
def yX0_hasSort : MethodName := ⟨RX0, "hasSort", "(I)Z"⟩
abbrev cX0_states : ByteArray := prog_2_method_15_code
def yX0_states : MethodName := ⟨RX0, "states", "()I"⟩
abbrev cX0_sumOf : ByteArray := prog_2_method_16_code
def yX0_sumOf : MethodName := ⟨RX0, "sumOf", "(II)I"⟩
abbrev cX0_goesWith : ByteArray := prog_2_method_17_code
def yX0_goesWith : MethodName := ⟨RX0, "goesWith", "(LSendTheBox$House;)Z"⟩
abbrev cX0_addSortsOf : ByteArray := prog_2_method_18_code
def yX0_addSortsOf : MethodName := ⟨RX0, "addSortsOf", "(LSendTheBox$House;)V"⟩
abbrev cX0_fillFor : ByteArray := prog_2_method_19_code
def yX0_fillFor : MethodName := ⟨RX0, "fillFor", "(I)I"⟩
def RX1 : String := "SendTheBox$Plan"
def TX1 : u_T := fun k => match k with
  | 0 => ("SendTheBox$Plan", "house", "LSendTheBox$House;", true)
  | 1 => ("SendTheBox$Plan", "days", "I", false)
  | 2 => ("SendTheBox$Plan", "sorts", "I", false)
  | 3 => ("SendTheBox$Plan", "states", "I", false)
  | 4 => ("SendTheBox$Plan", "rooms", "[I", true)
  | 5 => ("SendTheBox$Plan", "holds", "[I", true)
  | 6 => ("SendTheBox$Plan", "leavings", "[I", true)
  | 7 => ("SendTheBox$Plan", "fills", "[I", true)
  | 8 => ("SendTheBox$Plan", "loads", "[I", true)
  | 9 => ("SendTheBox$Plan", "costs", "[J", true)
  | 10 => ("SendTheBox$Plan", "afters", "[J", true)
  | 11 => ("SendTheBox$Plan", "work", "[J", true)
  | 12 => ("SendTheBox$Plan", "chances", "[J", true)
  | 13 => ("SendTheBox$Plan", "daysKnown", "I", false)
  | _ => ("SendTheBox$Plan", "fullKnown", "I", false)
def tyX1 : Nat → FieldType := fun k => match k with
  | 0 => .object "SendTheBox$House"
  | 1 => .int
  | 2 => .int
  | 3 => .int
  | 4 => .array .int
  | 5 => .array .int
  | 6 => .array .int
  | 7 => .array .int
  | 8 => .array .int
  | 9 => .array .long
  | 10 => .array .long
  | 11 => .array .long
  | 12 => .array .long
  | 13 => .int
  | _ => .int
abbrev wsX10 : List Cond := u_ws RX1 TX1 15
theorem nmX1 : ∀ a, a < 15 → ∀ b, b < 15 → a ≠ b → (TX1 a).2.1 ≠ (TX1 b).2.1 := by decide +kernel
theorem tyX1_ok : ∀ k, k < 15 → parseFieldDescriptor (TX1 k).2.2.1 = some (tyX1 k) := by decide +kernel
abbrev cX1_init : ByteArray := prog_3_method_1_code
def yX1_init : MethodName := ⟨RX1, "<init>", "()V"⟩
abbrev cX1_turnTo : ByteArray := prog_3_method_2_code
def yX1_turnTo : MethodName := ⟨RX1, "turnTo", "(LSendTheBox$House;)V"⟩
abbrev cX1_hasSort : ByteArray := prog_3_method_3_code
def yX1_hasSort : MethodName := ⟨RX1, "hasSort", "(I)Z"⟩
abbrev cX1_hasState : ByteArray := prog_3_method_4_code
def yX1_hasState : MethodName := ⟨RX1, "hasState", "(I)Z"⟩
abbrev cX1_hasPlace : ByteArray := prog_3_method_5_code
def yX1_hasPlace : MethodName := ⟨RX1, "hasPlace", "(II)Z"⟩
abbrev cX1_hasDay : ByteArray := prog_3_method_6_code
def yX1_hasDay : MethodName := ⟨RX1, "hasDay", "(II)Z"⟩
abbrev cX1_roomOf : ByteArray := prog_3_method_7_code
def yX1_roomOf : MethodName := ⟨RX1, "roomOf", "(I)I"⟩
abbrev cX1_fillOf : ByteArray := prog_3_method_8_code
def yX1_fillOf : MethodName := ⟨RX1, "fillOf", "(I)I"⟩
abbrev cX1_placeOf : ByteArray := prog_3_method_9_code
def yX1_placeOf : MethodName := ⟨RX1, "placeOf", "(II)I"⟩
abbrev cX1_leastCost : ByteArray := prog_3_method_10_code
def yX1_leastCost : MethodName := ⟨RX1, "leastCost", "(II)J"⟩
abbrev cX1_bestLoad : ByteArray := prog_3_method_11_code
def yX1_bestLoad : MethodName := ⟨RX1, "bestLoad", "(II)I"⟩
abbrev cX1_loadWorkedOut : ByteArray := prog_3_method_12_code
def yX1_loadWorkedOut : MethodName := ⟨RX1, "loadWorkedOut", "(II)I"⟩
abbrev cX1_getReadyFor : ByteArray := prog_3_method_13_code
def yX1_getReadyFor : MethodName := ⟨RX1, "getReadyFor", "(LSendTheBox$Rule;)V"⟩
abbrev cX1_costWith : ByteArray := prog_3_method_14_code
def yX1_costWith : MethodName := ⟨RX1, "costWith", "(III)J"⟩
abbrev cX1_workOut : ByteArray := prog_3_method_15_code
def yX1_workOut : MethodName := ⟨RX1, "workOut", "(I)V"⟩
abbrev cX1_keepWork : ByteArray := prog_3_method_16_code
def yX1_keepWork : MethodName := ⟨RX1, "keepWork", "([JI)V"⟩
abbrev cX1_startFromEnd : ByteArray := prog_3_method_17_code
def yX1_startFromEnd : MethodName := ⟨RX1, "startFromEnd", "()V"⟩
abbrev cX1_takeCosts : ByteArray := prog_3_method_18_code
def yX1_takeCosts : MethodName := ⟨RX1, "takeCosts", "(I)V"⟩
abbrev cX1_unitOf : ByteArray := prog_3_method_19_code
def yX1_unitOf : MethodName := ⟨RX1, "unitOf", "(I)J"⟩
abbrev cX1_boxCost : ByteArray := prog_3_method_20_code
def yX1_boxCost : MethodName := ⟨RX1, "boxCost", "(I)J"⟩
abbrev cX1_goBackToLoad : ByteArray := prog_3_method_21_code
def yX1_goBackToLoad : MethodName := ⟨RX1, "goBackToLoad", "(I)V"⟩
abbrev cX1_goBackBest : ByteArray := prog_3_method_22_code
def yX1_goBackBest : MethodName := ⟨RX1, "goBackBest", "(IJ)V"⟩
abbrev cX1_goBackPromised : ByteArray := prog_3_method_23_code
def yX1_goBackPromised : MethodName := ⟨RX1, "goBackPromised", "(JZ)V"⟩
abbrev cX1_mix : ByteArray := prog_3_method_24_code
def yX1_mix : MethodName := ⟨RX1, "mix", "(IIJ)V"⟩
abbrev cX1_pick : ByteArray := prog_3_method_25_code
def yX1_pick : MethodName := ⟨RX1, "pick", "(IJZ)I"⟩
abbrev cX1_loadBy : ByteArray := prog_3_method_26_code
def yX1_loadBy : MethodName := ⟨RX1, "loadBy", "(LSendTheBox$Rule;II)I"⟩
abbrev cX1_costBy : ByteArray := prog_3_method_27_code
def yX1_costBy : MethodName := ⟨RX1, "costBy", "(LSendTheBox$Rule;II)J"⟩
abbrev cX1_costOfPromise : ByteArray := prog_3_method_28_code
def yX1_costOfPromise : MethodName := ⟨RX1, "costOfPromise", "(I)J"⟩
abbrev cX1_bestFullRule : ByteArray := prog_3_method_29_code
def yX1_bestFullRule : MethodName := ⟨RX1, "bestFullRule", "()I"⟩
abbrev cX1_isRoomOfSome : ByteArray := prog_3_method_30_code
def yX1_isRoomOfSome : MethodName := ⟨RX1, "isRoomOfSome", "(I)Z"⟩
abbrev cX1_bestDayRule : ByteArray := prog_3_method_31_code
def yX1_bestDayRule : MethodName := ⟨RX1, "bestDayRule", "()I"⟩
abbrev cX1_bar : ByteArray := prog_3_method_32_code
def yX1_bar : MethodName := ⟨RX1, "bar", "(I)I"⟩
abbrev cX1_oddState : ByteArray := prog_3_method_33_code
def yX1_oddState : MethodName := ⟨RX1, "oddState", "(I)I"⟩
abbrev cX1_leastRoomSent : ByteArray := prog_3_method_34_code
def yX1_leastRoomSent : MethodName := ⟨RX1, "leastRoomSent", "(I)I"⟩
abbrev cX1_oddFrom : ByteArray := prog_3_method_35_code
def yX1_oddFrom : MethodName := ⟨RX1, "oddFrom", "(II)I"⟩
abbrev cX1_judgeOf : ByteArray := prog_3_method_36_code
def yX1_judgeOf : MethodName := ⟨RX1, "judgeOf", "(LSendTheBox$Row;I)I"⟩
abbrev cX1_chanceBy : ByteArray := prog_3_method_37_code
def yX1_chanceBy : MethodName := ⟨RX1, "chanceBy", "(LSendTheBox$Rule;II)J"⟩
abbrev cX1_statesBy : ByteArray := prog_3_method_38_code
def yX1_statesBy : MethodName := ⟨RX1, "statesBy", "(LSendTheBox$Rule;I)I"⟩
abbrev cX1_spread : ByteArray := prog_3_method_39_code
def yX1_spread : MethodName := ⟨RX1, "spread", "(LSendTheBox$Rule;I)V"⟩
abbrev cX1_heldBy : ByteArray := prog_3_method_40_code
def yX1_heldBy : MethodName := ⟨RX1, "heldBy", "(LSendTheBox$Rule;I)J"⟩
abbrev cX1_boxesBy : ByteArray := prog_3_method_41_code
def yX1_boxesBy : MethodName := ⟨RX1, "boxesBy", "(LSendTheBox$Rule;)J"⟩
abbrev cX1_startSpread : ByteArray := prog_3_method_42_code
def yX1_startSpread : MethodName := ⟨RX1, "startSpread", "()V"⟩
abbrev cX1_spreadLoad : ByteArray := prog_3_method_43_code
def yX1_spreadLoad : MethodName := ⟨RX1, "spreadLoad", "(LSendTheBox$Rule;I)J"⟩
abbrev cX1_spreadWhatComes : ByteArray := prog_3_method_44_code
def yX1_spreadWhatComes : MethodName := ⟨RX1, "spreadWhatComes", "()V"⟩
def RX2 : String := "SendTheBox$Row"
def TX2 : u_T := fun k => match k with
  | 0 => ("SendTheBox$Row", "sort", "I", true)
  | _ => ("SendTheBox$Row", "values", "[J", true)
def tyX2 : Nat → FieldType := fun k => match k with
  | 0 => .int
  | _ => .array .long
abbrev wsX20 : List Cond := u_ws RX2 TX2 2
theorem nmX2 : ∀ a, a < 2 → ∀ b, b < 2 → a ≠ b → (TX2 a).2.1 ≠ (TX2 b).2.1 := by decide +kernel
theorem tyX2_ok : ∀ k, k < 2 → parseFieldDescriptor (TX2 k).2.2.1 = some (tyX2 k) := by decide +kernel
abbrev cX2_init : ByteArray := prog_4_method_1_code
def yX2_init : MethodName := ⟨RX2, "<init>", "(II)V"⟩
abbrev cX2_size : ByteArray := prog_4_method_2_code
def yX2_size : MethodName := ⟨RX2, "size", "()I"⟩
abbrev cX2_hasPlace : ByteArray := prog_4_method_3_code
def yX2_hasPlace : MethodName := ⟨RX2, "hasPlace", "(I)Z"⟩
abbrev cX2_hasRange : ByteArray := prog_4_method_4_code
def yX2_hasRange : MethodName := ⟨RX2, "hasRange", "(II)Z"⟩
abbrev cX2_valueAt : ByteArray := prog_4_method_5_code
def yX2_valueAt : MethodName := ⟨RX2, "valueAt", "(I)J"⟩
abbrev cX2_put : ByteArray := prog_4_method_6_code
def yX2_put : MethodName := ⟨RX2, "put", "(IJ)V"⟩
abbrev cX2_lowestBits : ByteArray := prog_4_method_7_code
def yX2_lowestBits : MethodName := ⟨RX2, "lowestBits", "(J)J"⟩
abbrev cX2_take : ByteArray := prog_4_method_8_code
def yX2_take : MethodName := ⟨RX2, "take", "(LSendTheBox$Row;III)V"⟩
abbrev cX2_twin : ByteArray := prog_4_method_9_code
def yX2_twin : MethodName := ⟨RX2, "twin", "()LSendTheBox$Row;"⟩
def RX3 : String := "SendTheBox$Rule"
def TX3 : u_T := fun k => match k with
  | 0 => ("SendTheBox$Rule", "kind", "I", true)
  | 1 => ("SendTheBox$Rule", "room", "I", true)
  | 2 => ("SendTheBox$Rule", "days", "I", true)
  | _ => ("SendTheBox$Rule", "told", "LSendTheBox$Row;", true)
def tyX3 : Nat → FieldType := fun k => match k with
  | 0 => .int
  | 1 => .int
  | 2 => .int
  | _ => .object "SendTheBox$Row"
abbrev wsX30 : List Cond := u_ws RX3 TX3 4
theorem nmX3 : ∀ a, a < 4 → ∀ b, b < 4 → a ≠ b → (TX3 a).2.1 ≠ (TX3 b).2.1 := by decide +kernel
theorem tyX3_ok : ∀ k, k < 4 → parseFieldDescriptor (TX3 k).2.2.1 = some (tyX3 k) := by decide +kernel
abbrev cX3_init : ByteArray := prog_5_method_1_code
def yX3_init : MethodName := ⟨RX3, "<init>", "(IILSendTheBox$Row;)V"⟩
abbrev cX3_mayBe : ByteArray := prog_5_method_2_code
def yX3_mayBe : MethodName := ⟨RX3, "mayBe", "(II)Z"⟩
abbrev cX3_isOfKind : ByteArray := prog_5_method_3_code
def yX3_isOfKind : MethodName := ⟨RX3, "isOfKind", "(I)Z"⟩
abbrev cX3_numberAs : ByteArray := prog_5_method_4_code
def yX3_numberAs : MethodName := ⟨RX3, "numberAs", "(I)I"⟩
abbrev cX3_fills : ByteArray := prog_5_method_5_code
def yX3_fills : MethodName := ⟨RX3, "fills", "(III)Z"⟩
abbrev cX3_isItsDay : ByteArray := prog_5_method_6_code
def yX3_isItsDay : MethodName := ⟨RX3, "isItsDay", "(I)Z"⟩
def RX4 : String := "SendTheBox$Tape"
def TX4 : u_T := fun k => match k with
  | 0 => ("SendTheBox$Tape", "bytes", "[B", true)
  | 1 => ("SendTheBox$Tape", "size", "I", false)
  | 2 => ("SendTheBox$Tape", "kind", "I", false)
  | 3 => ("SendTheBox$Tape", "from", "I", false)
  | _ => ("SendTheBox$Tape", "to", "I", false)
def tyX4 : Nat → FieldType := fun k => match k with
  | 0 => .array .byte
  | 1 => .int
  | 2 => .int
  | 3 => .int
  | _ => .int
abbrev wsX40 : List Cond := u_ws RX4 TX4 5
theorem nmX4 : ∀ a, a < 5 → ∀ b, b < 5 → a ≠ b → (TX4 a).2.1 ≠ (TX4 b).2.1 := by decide +kernel
theorem tyX4_ok : ∀ k, k < 5 → parseFieldDescriptor (TX4 k).2.2.1 = some (tyX4 k) := by decide +kernel
abbrev cX4_init : ByteArray := prog_6_method_1_code
def yX4_init : MethodName := ⟨RX4, "<init>", "()V"⟩
abbrev cX4_hasPlaceFor : ByteArray := prog_6_method_2_code
def yX4_hasPlaceFor : MethodName := ⟨RX4, "hasPlaceFor", "(I)Z"⟩
abbrev cX4_append : ByteArray := prog_6_method_3_code
def yX4_append : MethodName := ⟨RX4, "append", "(II)I"⟩
abbrev cX4_clear : ByteArray := prog_6_method_4_code
def yX4_clear : MethodName := ⟨RX4, "clear", "()I"⟩
abbrev cX4_readInto : ByteArray := prog_6_method_5_code
def yX4_readInto : MethodName := ⟨RX4, "readInto", "(LSendTheBox$House;)I"⟩
abbrev cX4_readStatement : ByteArray := prog_6_method_6_code
def yX4_readStatement : MethodName := ⟨RX4, "readStatement", "(LSendTheBox$House;)Z"⟩
abbrev cX4_readHouseNumber : ByteArray := prog_6_method_7_code
def yX4_readHouseNumber : MethodName := ⟨RX4, "readHouseNumber", "(LSendTheBox$House;I)Z"⟩
abbrev cX4_readSort : ByteArray := prog_6_method_8_code
def yX4_readSort : MethodName := ⟨RX4, "readSort", "(LSendTheBox$House;)Z"⟩
abbrev cX4_readSortNumber : ByteArray := prog_6_method_9_code
def yX4_readSortNumber : MethodName := ⟨RX4, "readSortNumber", "(LSendTheBox$House;II)Z"⟩
abbrev cX4_sortWord : ByteArray := prog_6_method_10_code
def yX4_sortWord : MethodName := ⟨RX4, "sortWord", "(I)Ljava/lang/String;"⟩
abbrev cX4_byteAt : ByteArray := prog_6_method_11_code
def yX4_byteAt : MethodName := ⟨RX4, "byteAt", "(I)I"⟩
abbrev cX4_kindOf : ByteArray := prog_6_method_12_code
def yX4_kindOf : MethodName := ⟨RX4, "kindOf", "(I)I"⟩
abbrev cX4_advance : ByteArray := prog_6_method_13_code
def yX4_advance : MethodName := ⟨RX4, "advance", "()V"⟩
abbrev cX4_isWord : ByteArray := prog_6_method_14_code
def yX4_isWord : MethodName := ⟨RX4, "isWord", "(Ljava/lang/String;)Z"⟩
abbrev cX4_numberHere : ByteArray := prog_6_method_15_code
def yX4_numberHere : MethodName := ⟨RX4, "numberHere", "()I"⟩
def RX5 : String := "SendTheBox$Week"
def TX5 : u_T := fun k => match k with
  | 0 => ("SendTheBox$Week", "house", "LSendTheBox$House;", true)
  | 1 => ("SendTheBox$Week", "rule", "LSendTheBox$Rule;", false)
  | 2 => ("SendTheBox$Week", "left", "I", false)
  | 3 => ("SendTheBox$Week", "state", "I", false)
  | 4 => ("SendTheBox$Week", "coins", "I", false)
  | 5 => ("SendTheBox$Week", "boxesSent", "I", false)
  | 6 => ("SendTheBox$Week", "parcelsSent", "I", false)
  | _ => ("SendTheBox$Week", "parcelsRefused", "I", false)
def tyX5 : Nat → FieldType := fun k => match k with
  | 0 => .object "SendTheBox$House"
  | 1 => .object "SendTheBox$Rule"
  | 2 => .int
  | 3 => .int
  | 4 => .int
  | 5 => .int
  | 6 => .int
  | _ => .int
abbrev wsX50 : List Cond := u_ws RX5 TX5 8
theorem nmX5 : ∀ a, a < 8 → ∀ b, b < 8 → a ≠ b → (TX5 a).2.1 ≠ (TX5 b).2.1 := by decide +kernel
theorem tyX5_ok : ∀ k, k < 8 → parseFieldDescriptor (TX5 k).2.2.1 = some (tyX5 k) := by decide +kernel
abbrev cX5_init : ByteArray := prog_7_method_1_code
def yX5_init : MethodName := ⟨RX5, "<init>", "()V"⟩
abbrev cX5_start : ByteArray := prog_7_method_2_code
def yX5_start : MethodName := ⟨RX5, "start", "(LSendTheBox$House;LSendTheBox$Rule;)V"⟩
abbrev cX5_become : ByteArray := prog_7_method_3_code
def yX5_become : MethodName := ⟨RX5, "become", "(LSendTheBox$Week;)V"⟩
abbrev cX5_isUnderWay : ByteArray := prog_7_method_4_code
def yX5_isUnderWay : MethodName := ⟨RX5, "isUnderWay", "()Z"⟩
abbrev cX5_daysLeft : ByteArray := prog_7_method_5_code
def yX5_daysLeft : MethodName := ⟨RX5, "daysLeft", "()I"⟩
abbrev cX5_number : ByteArray := prog_7_method_6_code
def yX5_number : MethodName := ⟨RX5, "number", "(I)I"⟩
abbrev cX5_passDay : ByteArray := prog_7_method_7_code
def yX5_passDay : MethodName := ⟨RX5, "passDay", "(LSendTheBox$World;LSendTheBox$Plan;)I"⟩
abbrev cX5_send : ByteArray := prog_7_method_8_code
def yX5_send : MethodName := ⟨RX5, "send", "(I)I"⟩
abbrev cX5_receive : ByteArray := prog_7_method_9_code
def yX5_receive : MethodName := ⟨RX5, "receive", "(I)I"⟩
def RX6 : String := "SendTheBox$World"
def TX6 : u_T := fun k => match k with
  | 0 => ("SendTheBox$World", "houses", "[LSendTheBox$House;", true)
  | 1 => ("SendTheBox$World", "count", "I", false)
  | 2 => ("SendTheBox$World", "draws", "I", false)
  | _ => ("SendTheBox$World", "current", "LSendTheBox$Week;", true)
def tyX6 : Nat → FieldType := fun k => match k with
  | 0 => .array (.object "SendTheBox$House")
  | 1 => .int
  | 2 => .int
  | _ => .object "SendTheBox$Week"
abbrev wsX60 : List Cond := u_ws RX6 TX6 4
theorem nmX6 : ∀ a, a < 4 → ∀ b, b < 4 → a ≠ b → (TX6 a).2.1 ≠ (TX6 b).2.1 := by decide +kernel
theorem tyX6_ok : ∀ k, k < 4 → parseFieldDescriptor (TX6 k).2.2.1 = some (tyX6 k) := by decide +kernel
abbrev cX6_init : ByteArray := prog_8_method_1_code
def yX6_init : MethodName := ⟨RX6, "<init>", "()V"⟩
abbrev cX6_become : ByteArray := prog_8_method_2_code
def yX6_become : MethodName := ⟨RX6, "become", "(LSendTheBox$World;)V"⟩
abbrev cX6_houseAt : ByteArray := prog_8_method_3_code
def yX6_houseAt : MethodName := ⟨RX6, "houseAt", "(I)LSendTheBox$House;"⟩
abbrev cX6_isFull : ByteArray := prog_8_method_4_code
def yX6_isFull : MethodName := ⟨RX6, "isFull", "()Z"⟩
abbrev cX6_add : ByteArray := prog_8_method_5_code
def yX6_add : MethodName := ⟨RX6, "add", "(LSendTheBox$House;)I"⟩
abbrev cX6_changeSeed : ByteArray := prog_8_method_6_code
def yX6_changeSeed : MethodName := ⟨RX6, "changeSeed", "(I)I"⟩
abbrev cX6_draw : ByteArray := prog_8_method_7_code
def yX6_draw : MethodName := ⟨RX6, "draw", "(I)I"⟩
def RX7 : String := "SendTheBox"
def TX7 : u_T := fun k => match k with
  | 0 => ("SendTheBox", "world", "LSendTheBox$World;", true)
  | 1 => ("SendTheBox", "kept", "LSendTheBox$World;", true)
  | 2 => ("SendTheBox", "hasKept", "Z", false)
  | 3 => ("SendTheBox", "tape", "LSendTheBox$Tape;", true)
  | 4 => ("SendTheBox", "rows", "[LSendTheBox$Row;", true)
  | 5 => ("SendTheBox", "rules", "[LSendTheBox$Rule;", true)
  | 6 => ("SendTheBox", "refusals", "[I", true)
  | 7 => ("SendTheBox", "plans", "[LSendTheBox$Plan;", true)
  | 8 => ("SendTheBox", "weekPlan", "LSendTheBox$Plan;", true)
  | 9 => ("SendTheBox", "joinedPlan", "LSendTheBox$Plan;", true)
  | 10 => ("SendTheBox", "draft", "LSendTheBox$House;", true)
  | _ => ("SendTheBox", "spareWeek", "LSendTheBox$Week;", true)
def tyX7 : Nat → FieldType := fun k => match k with
  | 0 => .object "SendTheBox$World"
  | 1 => .object "SendTheBox$World"
  | 2 => .boolean
  | 3 => .object "SendTheBox$Tape"
  | 4 => .array (.object "SendTheBox$Row")
  | 5 => .array (.object "SendTheBox$Rule")
  | 6 => .array .int
  | 7 => .array (.object "SendTheBox$Plan")
  | 8 => .object "SendTheBox$Plan"
  | 9 => .object "SendTheBox$Plan"
  | 10 => .object "SendTheBox$House"
  | _ => .object "SendTheBox$Week"
abbrev wsX70 : List Cond := u_ws RX7 TX7 12
theorem nmX7 : ∀ a, a < 12 → ∀ b, b < 12 → a ≠ b → (TX7 a).2.1 ≠ (TX7 b).2.1 := by decide +kernel
theorem tyX7_ok : ∀ k, k < 12 → parseFieldDescriptor (TX7 k).2.2.1 = some (tyX7 k) := by decide +kernel
abbrev cX7_init : ByteArray := prog_1_method_1_code
def yX7_init : MethodName := ⟨RX7, "<init>", "()V"⟩
abbrev cX7_row : ByteArray := prog_1_method_2_code
def yX7_row : MethodName := ⟨RX7, "row", "(III)I"⟩
abbrev cX7_set : ByteArray := prog_1_method_3_code
def yX7_set : MethodName := ⟨RX7, "set", "(IIJ)I"⟩
abbrev cX7_copy : ByteArray := prog_1_method_4_code
def yX7_copy : MethodName := ⟨RX7, "copy", "(IIIII)I"⟩
abbrev cX7_element : ByteArray := prog_1_method_5_code
def yX7_element : MethodName := ⟨RX7, "element", "(II)J"⟩
abbrev cX7_holds : ByteArray := prog_1_method_6_code
def yX7_holds : MethodName := ⟨RX7, "holds", "(I)I"⟩
abbrev cX7_rule : ByteArray := prog_1_method_7_code
def yX7_rule : MethodName := ⟨RX7, "rule", "(III)I"⟩
abbrev cX7_says : ByteArray := prog_1_method_8_code
def yX7_says : MethodName := ⟨RX7, "says", "(II)I"⟩
abbrev cX7_feed : ByteArray := prog_1_method_9_code
def yX7_feed : MethodName := ⟨RX7, "feed", "(II)I"⟩
abbrev cX7_wipe : ByteArray := prog_1_method_10_code
def yX7_wipe : MethodName := ⟨RX7, "wipe", "()I"⟩
abbrev cX7_house : ByteArray := prog_1_method_11_code
def yX7_house : MethodName := ⟨RX7, "house", "()I"⟩
abbrev cX7_houseOf : ByteArray := prog_1_method_12_code
def yX7_houseOf : MethodName := ⟨RX7, "houseOf", "(II)I"⟩
abbrev cX7_sortOf : ByteArray := prog_1_method_13_code
def yX7_sortOf : MethodName := ⟨RX7, "sortOf", "(III)I"⟩
abbrev cX7_alter : ByteArray := prog_1_method_14_code
def yX7_alter : MethodName := ⟨RX7, "alter", "(III)I"⟩
abbrev cX7_change : ByteArray := prog_1_method_15_code
def yX7_change : MethodName := ⟨RX7, "change", "(IIII)I"⟩
abbrev cX7_of : ByteArray := prog_1_method_16_code
def yX7_of : MethodName := ⟨RX7, "of", "(II)I"⟩
abbrev cX7_space : ByteArray := prog_1_method_17_code
def yX7_space : MethodName := ⟨RX7, "space", "(II)I"⟩
abbrev cX7_scale : ByteArray := prog_1_method_18_code
def yX7_scale : MethodName := ⟨RX7, "scale", "(II)J"⟩
abbrev cX7_cost : ByteArray := prog_1_method_19_code
def yX7_cost : MethodName := ⟨RX7, "cost", "(III)J"⟩
abbrev cX7_best : ByteArray := prog_1_method_20_code
def yX7_best : MethodName := ⟨RX7, "best", "(III)I"⟩
abbrev cX7_fill : ByteArray := prog_1_method_21_code
def yX7_fill : MethodName := ⟨RX7, "fill", "(II)I"⟩
abbrev cX7_waits : ByteArray := prog_1_method_22_code
def yX7_waits : MethodName := ⟨RX7, "waits", "(III)J"⟩
abbrev cX7_once : ByteArray := prog_1_method_23_code
def yX7_once : MethodName := ⟨RX7, "once", "(III)J"⟩
abbrev cX7_dear : ByteArray := prog_1_method_24_code
def yX7_dear : MethodName := ⟨RX7, "dear", "(IIII)J"⟩
abbrev cX7_promise : ByteArray := prog_1_method_25_code
def yX7_promise : MethodName := ⟨RX7, "promise", "(II)J"⟩
abbrev cX7_shape : ByteArray := prog_1_method_26_code
def yX7_shape : MethodName := ⟨RX7, "shape", "(II)I"⟩
abbrev cX7_odd : ByteArray := prog_1_method_27_code
def yX7_odd : MethodName := ⟨RX7, "odd", "(II)I"⟩
abbrev cX7_judge : ByteArray := prog_1_method_28_code
def yX7_judge : MethodName := ⟨RX7, "judge", "(III)I"⟩
abbrev cX7_load : ByteArray := prog_1_method_29_code
def yX7_load : MethodName := ⟨RX7, "load", "(IIII)I"⟩
abbrev cX7_mean : ByteArray := prog_1_method_30_code
def yX7_mean : MethodName := ⟨RX7, "mean", "(IIII)J"⟩
abbrev cX7_lose : ByteArray := prog_1_method_31_code
def yX7_lose : MethodName := ⟨RX7, "lose", "(IIII)J"⟩
abbrev cX7_boy : ByteArray := prog_1_method_32_code
def yX7_boy : MethodName := ⟨RX7, "boy", "(I)I"⟩
abbrev cX7_chance : ByteArray := prog_1_method_33_code
def yX7_chance : MethodName := ⟨RX7, "chance", "(IIII)J"⟩
abbrev cX7_reach : ByteArray := prog_1_method_34_code
def yX7_reach : MethodName := ⟨RX7, "reach", "(III)I"⟩
abbrev cX7_held : ByteArray := prog_1_method_35_code
def yX7_held : MethodName := ⟨RX7, "held", "(III)J"⟩
abbrev cX7_boxes : ByteArray := prog_1_method_36_code
def yX7_boxes : MethodName := ⟨RX7, "boxes", "(II)J"⟩
abbrev cX7_plain : ByteArray := prog_1_method_37_code
def yX7_plain : MethodName := ⟨RX7, "plain", "(I)I"⟩
abbrev cX7_every : ByteArray := prog_1_method_38_code
def yX7_every : MethodName := ⟨RX7, "every", "(I)I"⟩
abbrev cX7_join : ByteArray := prog_1_method_39_code
def yX7_join : MethodName := ⟨RX7, "join", "(II)I"⟩
abbrev cX7_saved : ByteArray := prog_1_method_40_code
def yX7_saved : MethodName := ⟨RX7, "saved", "(II)J"⟩
abbrev cX7_seed : ByteArray := prog_1_method_41_code
def yX7_seed : MethodName := ⟨RX7, "seed", "(I)I"⟩
abbrev cX7_begin : ByteArray := prog_1_method_42_code
def yX7_begin : MethodName := ⟨RX7, "begin", "(II)I"⟩
abbrev cX7_step : ByteArray := prog_1_method_43_code
def yX7_step : MethodName := ⟨RX7, "step", "(I)I"⟩
abbrev cX7_week : ByteArray := prog_1_method_44_code
def yX7_week : MethodName := ⟨RX7, "week", "(I)I"⟩
abbrev cX7_weeks : ByteArray := prog_1_method_45_code
def yX7_weeks : MethodName := ⟨RX7, "weeks", "(III)I"⟩
abbrev cX7_passDays : ByteArray := prog_1_method_46_code
def yX7_passDays : MethodName := ⟨RX7, "passDays", "(LSendTheBox$Week;LSendTheBox$Plan;I)I"⟩
abbrev cX7_image : ByteArray := prog_1_method_47_code
def yX7_image : MethodName := ⟨RX7, "image", "()I"⟩
abbrev cX7_back : ByteArray := prog_1_method_48_code
def yX7_back : MethodName := ⟨RX7, "back", "()I"⟩
abbrev cX7_status : ByteArray := prog_1_method_49_code
def yX7_status : MethodName := ⟨RX7, "status", "(I)I"⟩
abbrev cX7_refuse : ByteArray := prog_1_method_50_code
def yX7_refuse : MethodName := ⟨RX7, "refuse", "(I)I"⟩
abbrev cX7_isShelf : ByteArray := prog_1_method_51_code
def yX7_isShelf : MethodName := ⟨RX7, "isShelf", "(I)Z"⟩
abbrev cX7_rowAt : ByteArray := prog_1_method_52_code
def yX7_rowAt : MethodName := ⟨RX7, "rowAt", "(I)LSendTheBox$Row;"⟩
abbrev cX7_ruleAt : ByteArray := prog_1_method_53_code
def yX7_ruleAt : MethodName := ⟨RX7, "ruleAt", "(I)LSendTheBox$Rule;"⟩
abbrev cX7_ruleFor : ByteArray := prog_1_method_54_code
def yX7_ruleFor : MethodName := ⟨RX7, "ruleFor", "(LSendTheBox$Plan;I)LSendTheBox$Rule;"⟩
abbrev cX7_lackOnShelf : ByteArray := prog_1_method_55_code
def yX7_lackOnShelf : MethodName := ⟨RX7, "lackOnShelf", "(I)I"⟩
abbrev cX7_putOnShelf : ByteArray := prog_1_method_56_code
def yX7_putOnShelf : MethodName := ⟨RX7, "putOnShelf", "(ILSendTheBox$Row;LSendTheBox$Rule;)V"⟩
abbrev cX7_shelvesInUse : ByteArray := prog_1_method_57_code
def yX7_shelvesInUse : MethodName := ⟨RX7, "shelvesInUse", "()I"⟩
abbrev cX7_planOf : ByteArray := prog_1_method_58_code
def yX7_planOf : MethodName := ⟨RX7, "planOf", "(I)LSendTheBox$Plan;"⟩
abbrev cX7_standing : ByteArray := prog_1_method_59_code
def yX7_standing : MethodName := ⟨RX7, "standing", "(II)I"⟩
abbrev cX7_oneOf : ByteArray := prog_1_method_60_code
def yX7_oneOf : MethodName := ⟨RX7, "oneOf", "(I)I"⟩
abbrev cX7_timesOf : ByteArray := prog_1_method_61_code
def yX7_timesOf : MethodName := ⟨RX7, "timesOf", "(I)J"⟩
abbrev cX7_scaleOf : ByteArray := prog_1_method_62_code
def yX7_scaleOf : MethodName := ⟨RX7, "scaleOf", "(II)J"⟩
abbrev cX7_at : ByteArray := prog_1_method_63_code
def yX7_at : MethodName := ⟨RX7, "at", "([II)I"⟩
abbrev cX7_at_ : ByteArray := prog_1_method_64_code
def yX7_at_ : MethodName := ⟨RX7, "at", "([JI)J"⟩
abbrev cX7_put : ByteArray := prog_1_method_65_code
def yX7_put : MethodName := ⟨RX7, "put", "([III)V"⟩
abbrev cX7_put_ : ByteArray := prog_1_method_66_code
def yX7_put_ : MethodName := ⟨RX7, "put", "([JIJ)V"⟩
def RX8 : String := "SendTheBoxModel"
def TX8 : u_T := fun k => match k with
  | 0 => ("SendTheBoxModel", "shelf", "[I", true)
  | 1 => ("SendTheBoxModel", "rowSort", "[I", true)
  | 2 => ("SendTheBoxModel", "rowSize", "[I", true)
  | 3 => ("SendTheBoxModel", "rows", "[[J", true)
  | 4 => ("SendTheBoxModel", "moved", "[J", true)
  | 5 => ("SendTheBoxModel", "ruleKind", "[I", true)
  | 6 => ("SendTheBoxModel", "ruleBy", "[I", true)
  | 7 => ("SendTheBoxModel", "ruleTold", "[[I", true)
  | 8 => ("SendTheBoxModel", "tape", "[I", true)
  | 9 => ("SendTheBoxModel", "tapeSize", "I", false)
  | 10 => ("SendTheBoxModel", "refused", "[I", true)
  | 11 => ("SendTheBoxModel", "houses", "I", false)
  | 12 => ("SendTheBoxModel", "house", "[[I", true)
  | 13 => ("SendTheBoxModel", "seed", "I", false)
  | 14 => ("SendTheBoxModel", "under", "I", false)
  | 15 => ("SendTheBoxModel", "underLeft", "I", false)
  | 16 => ("SendTheBoxModel", "underState", "I", false)
  | 17 => ("SendTheBoxModel", "underCoins", "I", false)
  | 18 => ("SendTheBoxModel", "underBoxes", "I", false)
  | 19 => ("SendTheBoxModel", "underSent", "I", false)
  | 20 => ("SendTheBoxModel", "underRefused", "I", false)
  | 21 => ("SendTheBoxModel", "kept", "LSendTheBoxModel;", false)
  | 22 => ("SendTheBoxModel", "ruleSize", "[I", true)
  | 23 => ("SendTheBoxModel", "at", "I", false)
  | 24 => ("SendTheBoxModel", "token", "I", false)
  | 25 => ("SendTheBoxModel", "from", "I", false)
  | 26 => ("SendTheBoxModel", "figures", "J", false)
  | 27 => ("SendTheBoxModel", "fault", "I", false)
  | 28 => ("SendTheBoxModel", "costs", "[[J", true)
  | 29 => ("SendTheBoxModel", "loads", "[[I", true)
  | 30 => ("SendTheBoxModel", "byRule", "[[J", true)
  | 31 => ("SendTheBoxModel", "weights", "[J", true)
  | 32 => ("SendTheBoxModel", "thens", "[[I", true)
  | 33 => ("SendTheBoxModel", "refusedBy", "[[I", true)
  | 34 => ("SendTheBoxModel", "filled", "[I", true)
  | 35 => ("SendTheBoxModel", "roomOf", "[I", true)
  | 36 => ("SendTheBoxModel", "holdOf", "[I", true)
  | 37 => ("SendTheBoxModel", "waited", "[J", true)
  | 38 => ("SendTheBoxModel", "chances", "[[J", true)
  | 39 => ("SendTheBoxModel", "must", "I", false)
  | 40 => ("SendTheBoxModel", "leastRoom", "I", false)
  | 41 => ("SendTheBoxModel", "mostRoom", "I", false)
  | 42 => ("SendTheBoxModel", "boxes", "I", false)
  | 43 => ("SendTheBoxModel", "sent", "I", false)
  | 44 => ("SendTheBoxModel", "notTaken", "I", false)
  | _ => ("SendTheBoxModel", "stands", "I", false)
def tyX8 : Nat → FieldType := fun k => match k with
  | 0 => .array .int
  | 1 => .array .int
  | 2 => .array .int
  | 3 => .array (.array .long)
  | 4 => .array .long
  | 5 => .array .int
  | 6 => .array .int
  | 7 => .array (.array .int)
  | 8 => .array .int
  | 9 => .int
  | 10 => .array .int
  | 11 => .int
  | 12 => .array (.array .int)
  | 13 => .int
  | 14 => .int
  | 15 => .int
  | 16 => .int
  | 17 => .int
  | 18 => .int
  | 19 => .int
  | 20 => .int
  | 21 => .object "SendTheBoxModel"
  | 22 => .array .int
  | 23 => .int
  | 24 => .int
  | 25 => .int
  | 26 => .long
  | 27 => .int
  | 28 => .array (.array .long)
  | 29 => .array (.array .int)
  | 30 => .array (.array .long)
  | 31 => .array .long
  | 32 => .array (.array .int)
  | 33 => .array (.array .int)
  | 34 => .array .int
  | 35 => .array .int
  | 36 => .array .int
  | 37 => .array .long
  | 38 => .array (.array .long)
  | 39 => .int
  | 40 => .int
  | 41 => .int
  | 42 => .int
  | 43 => .int
  | 44 => .int
  | _ => .int
abbrev wsX80 : List Cond := u_ws RX8 TX8 46
theorem nmX8 : ∀ a, a < 46 → ∀ b, b < 46 → a ≠ b → (TX8 a).2.1 ≠ (TX8 b).2.1 := by decide +kernel
theorem tyX8_ok : ∀ k, k < 46 → parseFieldDescriptor (TX8 k).2.2.1 = some (tyX8 k) := by decide +kernel
abbrev cX8_init : ByteArray := prog_10_method_1_code
def yX8_init : MethodName := ⟨RX8, "<init>", "()V"⟩
abbrev cX8_refuse : ByteArray := prog_10_method_2_code
def yX8_refuse : MethodName := ⟨RX8, "refuse", "(I)I"⟩
abbrev cX8_in : ByteArray := prog_10_method_3_code
def yX8_in : MethodName := ⟨RX8, "in", "(JJJ)Z"⟩
abbrev cX8_isHouse : ByteArray := prog_10_method_4_code
def yX8_isHouse : MethodName := ⟨RX8, "isHouse", "(I)Z"⟩
abbrev cX8_power : ByteArray := prog_10_method_5_code
def yX8_power : MethodName := ⟨RX8, "power", "(II)I"⟩
abbrev cX8_sorts : ByteArray := prog_10_method_6_code
def yX8_sorts : MethodName := ⟨RX8, "sorts", "(I)I"⟩
abbrev cX8_states : ByteArray := prog_10_method_7_code
def yX8_states : MethodName := ⟨RX8, "states", "(I)I"⟩
abbrev cX8_isState : ByteArray := prog_10_method_8_code
def yX8_isState : MethodName := ⟨RX8, "isState", "(II)Z"⟩
abbrev cX8_isLeft : ByteArray := prog_10_method_9_code
def yX8_isLeft : MethodName := ⟨RX8, "isLeft", "(II)Z"⟩
abbrev cX8_row : ByteArray := prog_10_method_10_code
def yX8_row : MethodName := ⟨RX8, "row", "(III)I"⟩
abbrev cX8_fit : ByteArray := prog_10_method_11_code
def yX8_fit : MethodName := ⟨RX8, "fit", "(IJ)J"⟩
abbrev cX8_set : ByteArray := prog_10_method_12_code
def yX8_set : MethodName := ⟨RX8, "set", "(IIJ)I"⟩
abbrev cX8_copy : ByteArray := prog_10_method_13_code
def yX8_copy : MethodName := ⟨RX8, "copy", "(IIIII)I"⟩
abbrev cX8_element : ByteArray := prog_10_method_14_code
def yX8_element : MethodName := ⟨RX8, "element", "(II)J"⟩
abbrev cX8_holds : ByteArray := prog_10_method_15_code
def yX8_holds : MethodName := ⟨RX8, "holds", "(I)I"⟩
abbrev cX8_mayBy : ByteArray := prog_10_method_16_code
def yX8_mayBy : MethodName := ⟨RX8, "mayBy", "(II)Z"⟩
abbrev cX8_rule : ByteArray := prog_10_method_17_code
def yX8_rule : MethodName := ⟨RX8, "rule", "(III)I"⟩
abbrev cX8_says : ByteArray := prog_10_method_18_code
def yX8_says : MethodName := ⟨RX8, "says", "(II)I"⟩
abbrev cX8_feed : ByteArray := prog_10_method_19_code
def yX8_feed : MethodName := ⟨RX8, "feed", "(II)I"⟩
abbrev cX8_wipe : ByteArray := prog_10_method_20_code
def yX8_wipe : MethodName := ⟨RX8, "wipe", "()I"⟩
abbrev cX8_isLetter : ByteArray := prog_10_method_21_code
def yX8_isLetter : MethodName := ⟨RX8, "isLetter", "(I)Z"⟩
abbrev cX8_isDigit : ByteArray := prog_10_method_22_code
def yX8_isDigit : MethodName := ⟨RX8, "isDigit", "(I)Z"⟩
abbrev cX8_look : ByteArray := prog_10_method_23_code
def yX8_look : MethodName := ⟨RX8, "look", "()V"⟩
abbrev cX8_wrong : ByteArray := prog_10_method_24_code
def yX8_wrong : MethodName := ⟨RX8, "wrong", "()Z"⟩
abbrev cX8_isWord : ByteArray := prog_10_method_25_code
def yX8_isWord : MethodName := ⟨RX8, "isWord", "(Ljava/lang/String;)Z"⟩
abbrev cX8_told : ByteArray := prog_10_method_26_code
def yX8_told : MethodName := ⟨RX8, "told", "(Ljava/lang/String;[IIII)Z"⟩
abbrev cX8_statement : ByteArray := prog_10_method_27_code
def yX8_statement : MethodName := ⟨RX8, "statement", "([I)Z"⟩
abbrev cX8_read : ByteArray := prog_10_method_28_code
def yX8_read : MethodName := ⟨RX8, "read", "([I)Z"⟩
abbrev cX8_house : ByteArray := prog_10_method_29_code
def yX8_house : MethodName := ⟨RX8, "house", "()I"⟩
abbrev cX8_houseOf : ByteArray := prog_10_method_30_code
def yX8_houseOf : MethodName := ⟨RX8, "houseOf", "(II)I"⟩
abbrev cX8_sortOf : ByteArray := prog_10_method_31_code
def yX8_sortOf : MethodName := ⟨RX8, "sortOf", "(III)I"⟩
abbrev cX8_alter : ByteArray := prog_10_method_32_code
def yX8_alter : MethodName := ⟨RX8, "alter", "(III)I"⟩
abbrev cX8_change : ByteArray := prog_10_method_33_code
def yX8_change : MethodName := ⟨RX8, "change", "(IIII)I"⟩
abbrev cX8_ofState : ByteArray := prog_10_method_34_code
def yX8_ofState : MethodName := ⟨RX8, "ofState", "(II)I"⟩
abbrev cX8_of : ByteArray := prog_10_method_35_code
def yX8_of : MethodName := ⟨RX8, "of", "(II)I"⟩
abbrev cX8_numberOf : ByteArray := prog_10_method_36_code
def yX8_numberOf : MethodName := ⟨RX8, "numberOf", "(III)I"⟩
abbrev cX8_sum : ByteArray := prog_10_method_37_code
def yX8_sum : MethodName := ⟨RX8, "sum", "(III)I"⟩
abbrev cX8_space : ByteArray := prog_10_method_38_code
def yX8_space : MethodName := ⟨RX8, "space", "(II)I"⟩
abbrev cX8_scaleOf : ByteArray := prog_10_method_39_code
def yX8_scaleOf : MethodName := ⟨RX8, "scaleOf", "(II)J"⟩
abbrev cX8_scale : ByteArray := prog_10_method_40_code
def yX8_scale : MethodName := ⟨RX8, "scale", "(II)J"⟩
abbrev cX8_isLoad : ByteArray := prog_10_method_41_code
def yX8_isLoad : MethodName := ⟨RX8, "isLoad", "(III)Z"⟩
abbrev cX8_fillOf : ByteArray := prog_10_method_42_code
def yX8_fillOf : MethodName := ⟨RX8, "fillOf", "(II)I"⟩
abbrev cX8_fill : ByteArray := prog_10_method_43_code
def yX8_fill : MethodName := ⟨RX8, "fill", "(II)I"⟩
abbrev cX8_findWays : ByteArray := prog_10_method_44_code
def yX8_findWays : MethodName := ⟨RX8, "findWays", "(I)V"⟩
abbrev cX8_behind : ByteArray := prog_10_method_45_code
def yX8_behind : MethodName := ⟨RX8, "behind", "(III[J)J"⟩
abbrev cX8_boxOf : ByteArray := prog_10_method_46_code
def yX8_boxOf : MethodName := ⟨RX8, "boxOf", "(II)J"⟩
abbrev cX8_findBest : ByteArray := prog_10_method_47_code
def yX8_findBest : MethodName := ⟨RX8, "findBest", "(I)V"⟩
abbrev cX8_withLoad : ByteArray := prog_10_method_48_code
def yX8_withLoad : MethodName := ⟨RX8, "withLoad", "(IIII[J)J"⟩
abbrev cX8_cost : ByteArray := prog_10_method_49_code
def yX8_cost : MethodName := ⟨RX8, "cost", "(III)J"⟩
abbrev cX8_best : ByteArray := prog_10_method_50_code
def yX8_best : MethodName := ⟨RX8, "best", "(III)I"⟩
abbrev cX8_loadBy : ByteArray := prog_10_method_51_code
def yX8_loadBy : MethodName := ⟨RX8, "loadBy", "(IIII)I"⟩
abbrev cX8_fillsBy : ByteArray := prog_10_method_52_code
def yX8_fillsBy : MethodName := ⟨RX8, "fillsBy", "(IIII)Z"⟩
abbrev cX8_noRule : ByteArray := prog_10_method_53_code
def yX8_noRule : MethodName := ⟨RX8, "noRule", "(I)I"⟩
abbrev cX8_load : ByteArray := prog_10_method_54_code
def yX8_load : MethodName := ⟨RX8, "load", "(IIII)I"⟩
abbrev cX8_findByRule : ByteArray := prog_10_method_55_code
def yX8_findByRule : MethodName := ⟨RX8, "findByRule", "(II)V"⟩
abbrev cX8_goesByRule : ByteArray := prog_10_method_56_code
def yX8_goesByRule : MethodName := ⟨RX8, "goesByRule", "(II)V"⟩
abbrev cX8_byShelf : ByteArray := prog_10_method_57_code
def yX8_byShelf : MethodName := ⟨RX8, "byShelf", "(IIIIZ)J"⟩
abbrev cX8_mean : ByteArray := prog_10_method_58_code
def yX8_mean : MethodName := ⟨RX8, "mean", "(IIII)J"⟩
abbrev cX8_lose : ByteArray := prog_10_method_59_code
def yX8_lose : MethodName := ⟨RX8, "lose", "(IIII)J"⟩
abbrev cX8_boy : ByteArray := prog_10_method_60_code
def yX8_boy : MethodName := ⟨RX8, "boy", "(I)I"⟩
abbrev cX8_waits : ByteArray := prog_10_method_61_code
def yX8_waits : MethodName := ⟨RX8, "waits", "(III)J"⟩
abbrev cX8_once : ByteArray := prog_10_method_62_code
def yX8_once : MethodName := ⟨RX8, "once", "(III)J"⟩
abbrev cX8_goesOn : ByteArray := prog_10_method_63_code
def yX8_goesOn : MethodName := ⟨RX8, "goesOn", "(IIJ[J)V"⟩
abbrev cX8_findChances : ByteArray := prog_10_method_64_code
def yX8_findChances : MethodName := ⟨RX8, "findChances", "(II)V"⟩
abbrev cX8_chance : ByteArray := prog_10_method_65_code
def yX8_chance : MethodName := ⟨RX8, "chance", "(IIII)J"⟩
abbrev cX8_reach : ByteArray := prog_10_method_66_code
def yX8_reach : MethodName := ⟨RX8, "reach", "(III)I"⟩
abbrev cX8_meanOf : ByteArray := prog_10_method_67_code
def yX8_meanOf : MethodName := ⟨RX8, "meanOf", "(III)J"⟩
abbrev cX8_held : ByteArray := prog_10_method_68_code
def yX8_held : MethodName := ⟨RX8, "held", "(III)J"⟩
abbrev cX8_boxes : ByteArray := prog_10_method_69_code
def yX8_boxes : MethodName := ⟨RX8, "boxes", "(II)J"⟩
abbrev cX8_leastOf : ByteArray := prog_10_method_70_code
def yX8_leastOf : MethodName := ⟨RX8, "leastOf", "(IIII)I"⟩
abbrev cX8_hasRoom : ByteArray := prog_10_method_71_code
def yX8_hasRoom : MethodName := ⟨RX8, "hasRoom", "(II)Z"⟩
abbrev cX8_plain : ByteArray := prog_10_method_72_code
def yX8_plain : MethodName := ⟨RX8, "plain", "(I)I"⟩
abbrev cX8_every : ByteArray := prog_10_method_73_code
def yX8_every : MethodName := ⟨RX8, "every", "(I)I"⟩
abbrev cX8_promise : ByteArray := prog_10_method_74_code
def yX8_promise : MethodName := ⟨RX8, "promise", "(II)J"⟩
abbrev cX8_dear : ByteArray := prog_10_method_75_code
def yX8_dear : MethodName := ⟨RX8, "dear", "(IIII)J"⟩
abbrev cX8_findRooms : ByteArray := prog_10_method_76_code
def yX8_findRooms : MethodName := ⟨RX8, "findRooms", "(II)Z"⟩
abbrev cX8_shape : ByteArray := prog_10_method_77_code
def yX8_shape : MethodName := ⟨RX8, "shape", "(II)I"⟩
abbrev cX8_odd : ByteArray := prog_10_method_78_code
def yX8_odd : MethodName := ⟨RX8, "odd", "(II)I"⟩
abbrev cX8_judge : ByteArray := prog_10_method_79_code
def yX8_judge : MethodName := ⟨RX8, "judge", "(III)I"⟩
abbrev cX8_mayJoin : ByteArray := prog_10_method_80_code
def yX8_mayJoin : MethodName := ⟨RX8, "mayJoin", "(II)Z"⟩
abbrev cX8_joinTo : ByteArray := prog_10_method_81_code
def yX8_joinTo : MethodName := ⟨RX8, "joinTo", "(III)V"⟩
abbrev cX8_join : ByteArray := prog_10_method_82_code
def yX8_join : MethodName := ⟨RX8, "join", "(II)I"⟩
abbrev cX8_wholeCost : ByteArray := prog_10_method_83_code
def yX8_wholeCost : MethodName := ⟨RX8, "wholeCost", "(I)J"⟩
abbrev cX8_saved : ByteArray := prog_10_method_84_code
def yX8_saved : MethodName := ⟨RX8, "saved", "(II)J"⟩
abbrev cX8_seed : ByteArray := prog_10_method_85_code
def yX8_seed : MethodName := ⟨RX8, "seed", "(I)I"⟩
abbrev cX8_draw : ByteArray := prog_10_method_86_code
def yX8_draw : MethodName := ⟨RX8, "draw", "()I"⟩
abbrev cX8_day : ByteArray := prog_10_method_87_code
def yX8_day : MethodName := ⟨RX8, "day", "(IIII)I"⟩
abbrev cX8_begin : ByteArray := prog_10_method_88_code
def yX8_begin : MethodName := ⟨RX8, "begin", "(II)I"⟩
abbrev cX8_step : ByteArray := prog_10_method_89_code
def yX8_step : MethodName := ⟨RX8, "step", "(I)I"⟩
abbrev cX8_week : ByteArray := prog_10_method_90_code
def yX8_week : MethodName := ⟨RX8, "week", "(I)I"⟩
abbrev cX8_weeks : ByteArray := prog_10_method_91_code
def yX8_weeks : MethodName := ⟨RX8, "weeks", "(III)I"⟩
abbrev cX8_takeFrom : ByteArray := prog_10_method_92_code
def yX8_takeFrom : MethodName := ⟨RX8, "takeFrom", "(LSendTheBoxModel;)V"⟩
abbrev cX8_image : ByteArray := prog_10_method_93_code
def yX8_image : MethodName := ⟨RX8, "image", "()I"⟩
abbrev cX8_back : ByteArray := prog_10_method_94_code
def yX8_back : MethodName := ⟨RX8, "back", "()I"⟩
abbrev cX8_status : ByteArray := prog_10_method_95_code
def yX8_status : MethodName := ⟨RX8, "status", "(I)I"⟩
def RJ9 : String := "java/lang/Math"
abbrev cJ9_max_7cf53 : ByteArray := prog_11_method_65_code
def yJ9_max_7cf53 : MethodName := ⟨RJ9, "max", "(II)I"⟩
abbrev cJ9_max_f86c9 : ByteArray := prog_11_method_66_code
def yJ9_max_f86c9 : MethodName := ⟨RJ9, "max", "(JJ)J"⟩
abbrev cJ9_min_7cf53 : ByteArray := prog_11_method_69_code
def yJ9_min_7cf53 : MethodName := ⟨RJ9, "min", "(II)I"⟩
def RJ0 : String := "java/lang/String"
abbrev cJ0_length_8abf5 : ByteArray := prog_12_method_54_code
def yJ0_length_8abf5 : MethodName := ⟨RJ0, "length", "()I"⟩
abbrev cJ0_charAt_5068e : ByteArray := prog_12_method_56_code
def yJ0_charAt_5068e : MethodName := ⟨RJ0, "charAt", "(I)C"⟩
abbrev cJ0_coder_7d493 : ByteArray := prog_12_method_152_code
def yJ0_coder_7d493 : MethodName := ⟨RJ0, "coder", "()B"⟩
abbrev cJ0_isLatin1_aae02 : ByteArray := prog_12_method_154_code
def yJ0_isLatin1_aae02 : MethodName := ⟨RJ0, "isLatin1", "()Z"⟩
abbrev cJ0_checkIndex_df160 : ByteArray := prog_12_method_155_code
def yJ0_checkIndex_df160 : MethodName := ⟨RJ0, "checkIndex", "(II)V"⟩
def RJ1 : String := "java/lang/StringLatin1"
abbrev cJ1_charAt_3b067 : ByteArray := prog_13_method_2_code
def yJ1_charAt_3b067 : MethodName := ⟨RJ1, "charAt", "([BI)C"⟩
def RJ2 : String := "java/lang/StringUTF16"
abbrev cJ2_getChar_3b067 : ByteArray := prog_14_method_5_code
def yJ2_getChar_3b067 : MethodName := ⟨RJ2, "getChar", "([BI)C"⟩
abbrev cJ2_length_9d52b : ByteArray := prog_14_method_6_code
def yJ2_length_9d52b : MethodName := ⟨RJ2, "length", "([B)I"⟩
abbrev cJ2_charAt_3b067 : ByteArray := prog_14_method_83_code
def yJ2_charAt_3b067 : MethodName := ⟨RJ2, "charAt", "([BI)C"⟩
abbrev cJ2_checkIndex_2214a : ByteArray := prog_14_method_91_code
def yJ2_checkIndex_2214a : MethodName := ⟨RJ2, "checkIndex", "(I[B)V"⟩
def RJ10 : String := "java/lang/System"
def RJ3 : String := "jdk/internal/util/Preconditions"
abbrev cJ3_checkIndex_8e157 : ByteArray := prog_16_method_11_code
def yJ3_checkIndex_8e157 : MethodName := ⟨RJ3, "checkIndex", "(IILjava/util/function/BiFunction;)I"⟩
def RL : String := "SendTheBoxLaw"
abbrev cL_law : ByteArray := code
def yL_law : MethodName := ⟨RL, "law", "([I)Z"⟩
abbrev vwCl : List vw_C := [(RX0, TX0, 1), (RX1, TX1, 15), (RX2, TX2, 2), (RX3, TX3, 4), (RX4, TX4, 5), (RX5, TX5, 8), (RX6, TX6, 4), (RX7, TX7, 12), (RX8, TX8, 46)]
