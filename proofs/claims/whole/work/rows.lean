section
-- ===== PART A: goes FIRST, ahead of the names: the tables' words, and 'selects' of the private methods out of them =====
/-- a private method of a class that the tables say can be made, by its rows of tables_1 -/
def lw_okq (q : MethodName × Nat) : Prop := (q.1.cls ≠ "java/lang/invoke/MethodHandle" ∧ q.1.cls ≠ "java/lang/invoke/VarHandle") ∧ Cond.instantiable q.1.cls q.2 ∈ tables_1 ∧ Cond.privateMethod q.1 ∈ tables_1 ∧ Cond.instanceMethod q.1 ∈ tables_1
theorem lw_p0 : lw_okq (⟨"SendTheBox", "refuse", "(I)I"⟩, 12) := ⟨⟨by decide +kernel, by decide +kernel⟩, List.mem_of_getElem? (i := 17) (by decide +kernel), List.mem_of_getElem? (i := 229) (by decide +kernel), List.mem_of_getElem? (i := 230) (by decide +kernel)⟩
theorem lw_p1 : lw_okq (⟨"SendTheBox", "putOnShelf", "(ILSendTheBox$Row;LSendTheBox$Rule;)V"⟩, 12) := ⟨⟨by decide +kernel, by decide +kernel⟩, List.mem_of_getElem? (i := 17) (by decide +kernel), List.mem_of_getElem? (i := 246) (by decide +kernel), List.mem_of_getElem? (i := 247) (by decide +kernel)⟩
theorem lw_p2 : lw_okq (⟨"SendTheBox", "rowAt", "(I)LSendTheBox$Row;"⟩, 12) := ⟨⟨by decide +kernel, by decide +kernel⟩, List.mem_of_getElem? (i := 17) (by decide +kernel), List.mem_of_getElem? (i := 254) (by decide +kernel), List.mem_of_getElem? (i := 255) (by decide +kernel)⟩
theorem lw_p3 : lw_okq (⟨"SendTheBox", "lackOnShelf", "(I)I"⟩, 12) := ⟨⟨by decide +kernel, by decide +kernel⟩, List.mem_of_getElem? (i := 17) (by decide +kernel), List.mem_of_getElem? (i := 258) (by decide +kernel), List.mem_of_getElem? (i := 259) (by decide +kernel)⟩
theorem lw_p4 : lw_okq (⟨"SendTheBox", "ruleAt", "(I)LSendTheBox$Rule;"⟩, 12) := ⟨⟨by decide +kernel, by decide +kernel⟩, List.mem_of_getElem? (i := 17) (by decide +kernel), List.mem_of_getElem? (i := 262) (by decide +kernel), List.mem_of_getElem? (i := 263) (by decide +kernel)⟩
theorem lw_p5 : lw_okq (⟨"SendTheBox$Row", "lowestBits", "(J)J"⟩, 2) := ⟨⟨by decide +kernel, by decide +kernel⟩, List.mem_of_getElem? (i := 232) (by decide +kernel), List.mem_of_getElem? (i := 275) (by decide +kernel), List.mem_of_getElem? (i := 276) (by decide +kernel)⟩
theorem lw_p6 : lw_okq (⟨"SendTheBox$Tape", "advance", "()V"⟩, 5) := ⟨⟨by decide +kernel, by decide +kernel⟩, List.mem_of_getElem? (i := 94) (by decide +kernel), List.mem_of_getElem? (i := 404) (by decide +kernel), List.mem_of_getElem? (i := 405) (by decide +kernel)⟩
theorem lw_p7 : lw_okq (⟨"SendTheBox$Tape", "byteAt", "(I)I"⟩, 5) := ⟨⟨by decide +kernel, by decide +kernel⟩, List.mem_of_getElem? (i := 94) (by decide +kernel), List.mem_of_getElem? (i := 408) (by decide +kernel), List.mem_of_getElem? (i := 409) (by decide +kernel)⟩
theorem lw_p8 : lw_okq (⟨"SendTheBox$Tape", "readStatement", "(LSendTheBox$House;)Z"⟩, 5) := ⟨⟨by decide +kernel, by decide +kernel⟩, List.mem_of_getElem? (i := 94) (by decide +kernel), List.mem_of_getElem? (i := 415) (by decide +kernel), List.mem_of_getElem? (i := 416) (by decide +kernel)⟩
theorem lw_p9 : lw_okq (⟨"SendTheBox$Tape", "isWord", "(Ljava/lang/String;)Z"⟩, 5) := ⟨⟨by decide +kernel, by decide +kernel⟩, List.mem_of_getElem? (i := 94) (by decide +kernel), List.mem_of_getElem? (i := 420) (by decide +kernel), List.mem_of_getElem? (i := 421) (by decide +kernel)⟩
theorem lw_p10 : lw_okq (⟨"SendTheBox$Tape", "readHouseNumber", "(LSendTheBox$House;I)Z"⟩, 5) := ⟨⟨by decide +kernel, by decide +kernel⟩, List.mem_of_getElem? (i := 94) (by decide +kernel), List.mem_of_getElem? (i := 472) (by decide +kernel), List.mem_of_getElem? (i := 473) (by decide +kernel)⟩
theorem lw_p11 : lw_okq (⟨"SendTheBox$Tape", "numberHere", "()I"⟩, 5) := ⟨⟨by decide +kernel, by decide +kernel⟩, List.mem_of_getElem? (i := 94) (by decide +kernel), List.mem_of_getElem? (i := 476) (by decide +kernel), List.mem_of_getElem? (i := 477) (by decide +kernel)⟩
theorem lw_p12 : lw_okq (⟨"SendTheBox$Tape", "readSort", "(LSendTheBox$House;)Z"⟩, 5) := ⟨⟨by decide +kernel, by decide +kernel⟩, List.mem_of_getElem? (i := 94) (by decide +kernel), List.mem_of_getElem? (i := 496) (by decide +kernel), List.mem_of_getElem? (i := 497) (by decide +kernel)⟩
theorem lw_p13 : lw_okq (⟨"SendTheBox$Tape", "readSortNumber", "(LSendTheBox$House;II)Z"⟩, 5) := ⟨⟨by decide +kernel, by decide +kernel⟩, List.mem_of_getElem? (i := 94) (by decide +kernel), List.mem_of_getElem? (i := 507) (by decide +kernel), List.mem_of_getElem? (i := 508) (by decide +kernel)⟩
theorem lw_p14 : lw_okq (⟨"SendTheBox", "planOf", "(I)LSendTheBox$Plan;"⟩, 12) := ⟨⟨by decide +kernel, by decide +kernel⟩, List.mem_of_getElem? (i := 17) (by decide +kernel), List.mem_of_getElem? (i := 577) (by decide +kernel), List.mem_of_getElem? (i := 578) (by decide +kernel)⟩
theorem lw_p15 : lw_okq (⟨"SendTheBox$Plan", "workOut", "(I)V"⟩, 15) := ⟨⟨by decide +kernel, by decide +kernel⟩, List.mem_of_getElem? (i := 123) (by decide +kernel), List.mem_of_getElem? (i := 650) (by decide +kernel), List.mem_of_getElem? (i := 651) (by decide +kernel)⟩
def lw_privs_1 : List (MethodName × Nat) := [(⟨"SendTheBox", "refuse", "(I)I"⟩, 12), (⟨"SendTheBox", "putOnShelf", "(ILSendTheBox$Row;LSendTheBox$Rule;)V"⟩, 12), (⟨"SendTheBox", "rowAt", "(I)LSendTheBox$Row;"⟩, 12), (⟨"SendTheBox", "lackOnShelf", "(I)I"⟩, 12), (⟨"SendTheBox", "ruleAt", "(I)LSendTheBox$Rule;"⟩, 12), (⟨"SendTheBox$Row", "lowestBits", "(J)J"⟩, 2), (⟨"SendTheBox$Tape", "advance", "()V"⟩, 5), (⟨"SendTheBox$Tape", "byteAt", "(I)I"⟩, 5), (⟨"SendTheBox$Tape", "readStatement", "(LSendTheBox$House;)Z"⟩, 5), (⟨"SendTheBox$Tape", "isWord", "(Ljava/lang/String;)Z"⟩, 5), (⟨"SendTheBox$Tape", "readHouseNumber", "(LSendTheBox$House;I)Z"⟩, 5), (⟨"SendTheBox$Tape", "numberHere", "()I"⟩, 5), (⟨"SendTheBox$Tape", "readSort", "(LSendTheBox$House;)Z"⟩, 5), (⟨"SendTheBox$Tape", "readSortNumber", "(LSendTheBox$House;II)Z"⟩, 5), (⟨"SendTheBox", "planOf", "(I)LSendTheBox$Plan;"⟩, 12), (⟨"SendTheBox$Plan", "workOut", "(I)V"⟩, 15)]
theorem lw_r1 : ∀ q ∈ lw_privs_1, lw_okq q := List.forall_mem_cons.mpr ⟨lw_p0, List.forall_mem_cons.mpr ⟨lw_p1, List.forall_mem_cons.mpr ⟨lw_p2, List.forall_mem_cons.mpr ⟨lw_p3, List.forall_mem_cons.mpr ⟨lw_p4, List.forall_mem_cons.mpr ⟨lw_p5, List.forall_mem_cons.mpr ⟨lw_p6, List.forall_mem_cons.mpr ⟨lw_p7, List.forall_mem_cons.mpr ⟨lw_p8, List.forall_mem_cons.mpr ⟨lw_p9, List.forall_mem_cons.mpr ⟨lw_p10, List.forall_mem_cons.mpr ⟨lw_p11, List.forall_mem_cons.mpr ⟨lw_p12, List.forall_mem_cons.mpr ⟨lw_p13, List.forall_mem_cons.mpr ⟨lw_p14, List.forall_mem_cons.mpr ⟨lw_p15, fun _ h => absurd h List.not_mem_nil⟩⟩⟩⟩⟩⟩⟩⟩⟩⟩⟩⟩⟩⟩⟩⟩
theorem lw_p16 : lw_okq (⟨"SendTheBox$Plan", "startFromEnd", "()V"⟩, 15) := ⟨⟨by decide +kernel, by decide +kernel⟩, List.mem_of_getElem? (i := 123) (by decide +kernel), List.mem_of_getElem? (i := 655) (by decide +kernel), List.mem_of_getElem? (i := 656) (by decide +kernel)⟩
theorem lw_p17 : lw_okq (⟨"SendTheBox$Plan", "takeCosts", "(I)V"⟩, 15) := ⟨⟨by decide +kernel, by decide +kernel⟩, List.mem_of_getElem? (i := 123) (by decide +kernel), List.mem_of_getElem? (i := 662) (by decide +kernel), List.mem_of_getElem? (i := 663) (by decide +kernel)⟩
theorem lw_p18 : lw_okq (⟨"SendTheBox$Plan", "goBackToLoad", "(I)V"⟩, 15) := ⟨⟨by decide +kernel, by decide +kernel⟩, List.mem_of_getElem? (i := 123) (by decide +kernel), List.mem_of_getElem? (i := 670) (by decide +kernel), List.mem_of_getElem? (i := 671) (by decide +kernel)⟩
theorem lw_p19 : lw_okq (⟨"SendTheBox$Plan", "keepWork", "([JI)V"⟩, 15) := ⟨⟨by decide +kernel, by decide +kernel⟩, List.mem_of_getElem? (i := 123) (by decide +kernel), List.mem_of_getElem? (i := 679) (by decide +kernel), List.mem_of_getElem? (i := 680) (by decide +kernel)⟩
theorem lw_p20 : lw_okq (⟨"SendTheBox$Plan", "boxCost", "(I)J"⟩, 15) := ⟨⟨by decide +kernel, by decide +kernel⟩, List.mem_of_getElem? (i := 123) (by decide +kernel), List.mem_of_getElem? (i := 683) (by decide +kernel), List.mem_of_getElem? (i := 684) (by decide +kernel)⟩
theorem lw_p21 : lw_okq (⟨"SendTheBox$Plan", "unitOf", "(I)J"⟩, 15) := ⟨⟨by decide +kernel, by decide +kernel⟩, List.mem_of_getElem? (i := 123) (by decide +kernel), List.mem_of_getElem? (i := 688) (by decide +kernel), List.mem_of_getElem? (i := 689) (by decide +kernel)⟩
theorem lw_p22 : lw_okq (⟨"SendTheBox$Plan", "goBackBest", "(IJ)V"⟩, 15) := ⟨⟨by decide +kernel, by decide +kernel⟩, List.mem_of_getElem? (i := 123) (by decide +kernel), List.mem_of_getElem? (i := 693) (by decide +kernel), List.mem_of_getElem? (i := 694) (by decide +kernel)⟩
theorem lw_p23 : lw_okq (⟨"SendTheBox$Plan", "pick", "(IJZ)I"⟩, 15) := ⟨⟨by decide +kernel, by decide +kernel⟩, List.mem_of_getElem? (i := 123) (by decide +kernel), List.mem_of_getElem? (i := 697) (by decide +kernel), List.mem_of_getElem? (i := 698) (by decide +kernel)⟩
theorem lw_p24 : lw_okq (⟨"SendTheBox$Plan", "mix", "(IIJ)V"⟩, 15) := ⟨⟨by decide +kernel, by decide +kernel⟩, List.mem_of_getElem? (i := 123) (by decide +kernel), List.mem_of_getElem? (i := 701) (by decide +kernel), List.mem_of_getElem? (i := 702) (by decide +kernel)⟩
theorem lw_p25 : lw_okq (⟨"SendTheBox$Plan", "loadWorkedOut", "(II)I"⟩, 15) := ⟨⟨by decide +kernel, by decide +kernel⟩, List.mem_of_getElem? (i := 123) (by decide +kernel), List.mem_of_getElem? (i := 718) (by decide +kernel), List.mem_of_getElem? (i := 719) (by decide +kernel)⟩
theorem lw_p26 : lw_okq (⟨"SendTheBox$Plan", "goBackPromised", "(JZ)V"⟩, 15) := ⟨⟨by decide +kernel, by decide +kernel⟩, List.mem_of_getElem? (i := 123) (by decide +kernel), List.mem_of_getElem? (i := 759) (by decide +kernel), List.mem_of_getElem? (i := 760) (by decide +kernel)⟩
theorem lw_p27 : lw_okq (⟨"SendTheBox$Plan", "leastRoomSent", "(I)I"⟩, 15) := ⟨⟨by decide +kernel, by decide +kernel⟩, List.mem_of_getElem? (i := 123) (by decide +kernel), List.mem_of_getElem? (i := 771) (by decide +kernel), List.mem_of_getElem? (i := 772) (by decide +kernel)⟩
theorem lw_p28 : lw_okq (⟨"SendTheBox$Plan", "oddFrom", "(II)I"⟩, 15) := ⟨⟨by decide +kernel, by decide +kernel⟩, List.mem_of_getElem? (i := 123) (by decide +kernel), List.mem_of_getElem? (i := 776) (by decide +kernel), List.mem_of_getElem? (i := 777) (by decide +kernel)⟩
theorem lw_p29 : lw_okq (⟨"SendTheBox", "ruleFor", "(LSendTheBox$Plan;I)LSendTheBox$Rule;"⟩, 12) := ⟨⟨by decide +kernel, by decide +kernel⟩, List.mem_of_getElem? (i := 17) (by decide +kernel), List.mem_of_getElem? (i := 805) (by decide +kernel), List.mem_of_getElem? (i := 806) (by decide +kernel)⟩
theorem lw_p30 : lw_okq (⟨"SendTheBox$Rule", "isItsDay", "(I)Z"⟩, 4) := ⟨⟨by decide +kernel, by decide +kernel⟩, List.mem_of_getElem? (i := 317) (by decide +kernel), List.mem_of_getElem? (i := 821) (by decide +kernel), List.mem_of_getElem? (i := 822) (by decide +kernel)⟩
theorem lw_p31 : lw_okq (⟨"SendTheBox$Plan", "spread", "(LSendTheBox$Rule;I)V"⟩, 15) := ⟨⟨by decide +kernel, by decide +kernel⟩, List.mem_of_getElem? (i := 123) (by decide +kernel), List.mem_of_getElem? (i := 852) (by decide +kernel), List.mem_of_getElem? (i := 853) (by decide +kernel)⟩
def lw_privs_2 : List (MethodName × Nat) := [(⟨"SendTheBox$Plan", "startFromEnd", "()V"⟩, 15), (⟨"SendTheBox$Plan", "takeCosts", "(I)V"⟩, 15), (⟨"SendTheBox$Plan", "goBackToLoad", "(I)V"⟩, 15), (⟨"SendTheBox$Plan", "keepWork", "([JI)V"⟩, 15), (⟨"SendTheBox$Plan", "boxCost", "(I)J"⟩, 15), (⟨"SendTheBox$Plan", "unitOf", "(I)J"⟩, 15), (⟨"SendTheBox$Plan", "goBackBest", "(IJ)V"⟩, 15), (⟨"SendTheBox$Plan", "pick", "(IJZ)I"⟩, 15), (⟨"SendTheBox$Plan", "mix", "(IIJ)V"⟩, 15), (⟨"SendTheBox$Plan", "loadWorkedOut", "(II)I"⟩, 15), (⟨"SendTheBox$Plan", "goBackPromised", "(JZ)V"⟩, 15), (⟨"SendTheBox$Plan", "leastRoomSent", "(I)I"⟩, 15), (⟨"SendTheBox$Plan", "oddFrom", "(II)I"⟩, 15), (⟨"SendTheBox", "ruleFor", "(LSendTheBox$Plan;I)LSendTheBox$Rule;"⟩, 12), (⟨"SendTheBox$Rule", "isItsDay", "(I)Z"⟩, 4), (⟨"SendTheBox$Plan", "spread", "(LSendTheBox$Rule;I)V"⟩, 15)]
theorem lw_r2 : ∀ q ∈ lw_privs_2, lw_okq q := List.forall_mem_cons.mpr ⟨lw_p16, List.forall_mem_cons.mpr ⟨lw_p17, List.forall_mem_cons.mpr ⟨lw_p18, List.forall_mem_cons.mpr ⟨lw_p19, List.forall_mem_cons.mpr ⟨lw_p20, List.forall_mem_cons.mpr ⟨lw_p21, List.forall_mem_cons.mpr ⟨lw_p22, List.forall_mem_cons.mpr ⟨lw_p23, List.forall_mem_cons.mpr ⟨lw_p24, List.forall_mem_cons.mpr ⟨lw_p25, List.forall_mem_cons.mpr ⟨lw_p26, List.forall_mem_cons.mpr ⟨lw_p27, List.forall_mem_cons.mpr ⟨lw_p28, List.forall_mem_cons.mpr ⟨lw_p29, List.forall_mem_cons.mpr ⟨lw_p30, List.forall_mem_cons.mpr ⟨lw_p31, fun _ h => absurd h List.not_mem_nil⟩⟩⟩⟩⟩⟩⟩⟩⟩⟩⟩⟩⟩⟩⟩⟩
theorem lw_p32 : lw_okq (⟨"SendTheBox$Plan", "startSpread", "()V"⟩, 15) := ⟨⟨by decide +kernel, by decide +kernel⟩, List.mem_of_getElem? (i := 123) (by decide +kernel), List.mem_of_getElem? (i := 856) (by decide +kernel), List.mem_of_getElem? (i := 857) (by decide +kernel)⟩
theorem lw_p33 : lw_okq (⟨"SendTheBox$Plan", "spreadLoad", "(LSendTheBox$Rule;I)J"⟩, 15) := ⟨⟨by decide +kernel, by decide +kernel⟩, List.mem_of_getElem? (i := 123) (by decide +kernel), List.mem_of_getElem? (i := 860) (by decide +kernel), List.mem_of_getElem? (i := 861) (by decide +kernel)⟩
theorem lw_p34 : lw_okq (⟨"SendTheBox$Plan", "spreadWhatComes", "()V"⟩, 15) := ⟨⟨by decide +kernel, by decide +kernel⟩, List.mem_of_getElem? (i := 123) (by decide +kernel), List.mem_of_getElem? (i := 864) (by decide +kernel), List.mem_of_getElem? (i := 865) (by decide +kernel)⟩
theorem lw_p35 : lw_okq (⟨"SendTheBox$Plan", "isRoomOfSome", "(I)Z"⟩, 15) := ⟨⟨by decide +kernel, by decide +kernel⟩, List.mem_of_getElem? (i := 123) (by decide +kernel), List.mem_of_getElem? (i := 900) (by decide +kernel), List.mem_of_getElem? (i := 901) (by decide +kernel)⟩
theorem lw_p36 : lw_okq (⟨"SendTheBox", "passDays", "(LSendTheBox$Week;LSendTheBox$Plan;I)I"⟩, 12) := ⟨⟨by decide +kernel, by decide +kernel⟩, List.mem_of_getElem? (i := 17) (by decide +kernel), List.mem_of_getElem? (i := 967) (by decide +kernel), List.mem_of_getElem? (i := 968) (by decide +kernel)⟩
theorem lw_p37 : lw_okq (⟨"SendTheBox$Week", "send", "(I)I"⟩, 8) := ⟨⟨by decide +kernel, by decide +kernel⟩, List.mem_of_getElem? (i := 33) (by decide +kernel), List.mem_of_getElem? (i := 982) (by decide +kernel), List.mem_of_getElem? (i := 983) (by decide +kernel)⟩
theorem lw_p38 : lw_okq (⟨"SendTheBox$Week", "receive", "(I)I"⟩, 8) := ⟨⟨by decide +kernel, by decide +kernel⟩, List.mem_of_getElem? (i := 33) (by decide +kernel), List.mem_of_getElem? (i := 990) (by decide +kernel), List.mem_of_getElem? (i := 991) (by decide +kernel)⟩
theorem lw_p39 : lw_okq (⟨"SendTheBox", "shelvesInUse", "()I"⟩, 12) := ⟨⟨by decide +kernel, by decide +kernel⟩, List.mem_of_getElem? (i := 17) (by decide +kernel), List.mem_of_getElem? (i := 1027) (by decide +kernel), List.mem_of_getElem? (i := 1028) (by decide +kernel)⟩
theorem lw_p40 : lw_okq (⟨"SendTheBoxModel", "refuse", "(I)I"⟩, 46) := ⟨⟨by decide +kernel, by decide +kernel⟩, List.mem_of_getElem? (i := 1031) (by decide +kernel), List.mem_of_getElem? (i := 1190) (by decide +kernel), List.mem_of_getElem? (i := 1191) (by decide +kernel)⟩
theorem lw_p41 : lw_okq (⟨"SendTheBoxModel", "read", "([I)Z"⟩, 46) := ⟨⟨by decide +kernel, by decide +kernel⟩, List.mem_of_getElem? (i := 1031) (by decide +kernel), List.mem_of_getElem? (i := 1239) (by decide +kernel), List.mem_of_getElem? (i := 1240) (by decide +kernel)⟩
theorem lw_p42 : lw_okq (⟨"SendTheBoxModel", "look", "()V"⟩, 46) := ⟨⟨by decide +kernel, by decide +kernel⟩, List.mem_of_getElem? (i := 1031) (by decide +kernel), List.mem_of_getElem? (i := 1243) (by decide +kernel), List.mem_of_getElem? (i := 1244) (by decide +kernel)⟩
theorem lw_p43 : lw_okq (⟨"SendTheBoxModel", "statement", "([I)Z"⟩, 46) := ⟨⟨by decide +kernel, by decide +kernel⟩, List.mem_of_getElem? (i := 1031) (by decide +kernel), List.mem_of_getElem? (i := 1256) (by decide +kernel), List.mem_of_getElem? (i := 1257) (by decide +kernel)⟩
theorem lw_p44 : lw_okq (⟨"SendTheBoxModel", "isWord", "(Ljava/lang/String;)Z"⟩, 46) := ⟨⟨by decide +kernel, by decide +kernel⟩, List.mem_of_getElem? (i := 1031) (by decide +kernel), List.mem_of_getElem? (i := 1261) (by decide +kernel), List.mem_of_getElem? (i := 1262) (by decide +kernel)⟩
theorem lw_p45 : lw_okq (⟨"SendTheBoxModel", "told", "(Ljava/lang/String;[IIII)Z"⟩, 46) := ⟨⟨by decide +kernel, by decide +kernel⟩, List.mem_of_getElem? (i := 1031) (by decide +kernel), List.mem_of_getElem? (i := 1267) (by decide +kernel), List.mem_of_getElem? (i := 1268) (by decide +kernel)⟩
theorem lw_p46 : lw_okq (⟨"SendTheBoxModel", "wrong", "()Z"⟩, 46) := ⟨⟨by decide +kernel, by decide +kernel⟩, List.mem_of_getElem? (i := 1031) (by decide +kernel), List.mem_of_getElem? (i := 1271) (by decide +kernel), List.mem_of_getElem? (i := 1272) (by decide +kernel)⟩
theorem lw_p47 : lw_okq (⟨"SendTheBoxModel", "isHouse", "(I)Z"⟩, 46) := ⟨⟨by decide +kernel, by decide +kernel⟩, List.mem_of_getElem? (i := 1031) (by decide +kernel), List.mem_of_getElem? (i := 1287) (by decide +kernel), List.mem_of_getElem? (i := 1288) (by decide +kernel)⟩
def lw_privs_3 : List (MethodName × Nat) := [(⟨"SendTheBox$Plan", "startSpread", "()V"⟩, 15), (⟨"SendTheBox$Plan", "spreadLoad", "(LSendTheBox$Rule;I)J"⟩, 15), (⟨"SendTheBox$Plan", "spreadWhatComes", "()V"⟩, 15), (⟨"SendTheBox$Plan", "isRoomOfSome", "(I)Z"⟩, 15), (⟨"SendTheBox", "passDays", "(LSendTheBox$Week;LSendTheBox$Plan;I)I"⟩, 12), (⟨"SendTheBox$Week", "send", "(I)I"⟩, 8), (⟨"SendTheBox$Week", "receive", "(I)I"⟩, 8), (⟨"SendTheBox", "shelvesInUse", "()I"⟩, 12), (⟨"SendTheBoxModel", "refuse", "(I)I"⟩, 46), (⟨"SendTheBoxModel", "read", "([I)Z"⟩, 46), (⟨"SendTheBoxModel", "look", "()V"⟩, 46), (⟨"SendTheBoxModel", "statement", "([I)Z"⟩, 46), (⟨"SendTheBoxModel", "isWord", "(Ljava/lang/String;)Z"⟩, 46), (⟨"SendTheBoxModel", "told", "(Ljava/lang/String;[IIII)Z"⟩, 46), (⟨"SendTheBoxModel", "wrong", "()Z"⟩, 46), (⟨"SendTheBoxModel", "isHouse", "(I)Z"⟩, 46)]
theorem lw_r3 : ∀ q ∈ lw_privs_3, lw_okq q := List.forall_mem_cons.mpr ⟨lw_p32, List.forall_mem_cons.mpr ⟨lw_p33, List.forall_mem_cons.mpr ⟨lw_p34, List.forall_mem_cons.mpr ⟨lw_p35, List.forall_mem_cons.mpr ⟨lw_p36, List.forall_mem_cons.mpr ⟨lw_p37, List.forall_mem_cons.mpr ⟨lw_p38, List.forall_mem_cons.mpr ⟨lw_p39, List.forall_mem_cons.mpr ⟨lw_p40, List.forall_mem_cons.mpr ⟨lw_p41, List.forall_mem_cons.mpr ⟨lw_p42, List.forall_mem_cons.mpr ⟨lw_p43, List.forall_mem_cons.mpr ⟨lw_p44, List.forall_mem_cons.mpr ⟨lw_p45, List.forall_mem_cons.mpr ⟨lw_p46, List.forall_mem_cons.mpr ⟨lw_p47, fun _ h => absurd h List.not_mem_nil⟩⟩⟩⟩⟩⟩⟩⟩⟩⟩⟩⟩⟩⟩⟩⟩
theorem lw_p48 : lw_okq (⟨"SendTheBoxModel", "sorts", "(I)I"⟩, 46) := ⟨⟨by decide +kernel, by decide +kernel⟩, List.mem_of_getElem? (i := 1031) (by decide +kernel), List.mem_of_getElem? (i := 1295) (by decide +kernel), List.mem_of_getElem? (i := 1296) (by decide +kernel)⟩
theorem lw_p49 : lw_okq (⟨"SendTheBoxModel", "isState", "(II)Z"⟩, 46) := ⟨⟨by decide +kernel, by decide +kernel⟩, List.mem_of_getElem? (i := 1031) (by decide +kernel), List.mem_of_getElem? (i := 1326) (by decide +kernel), List.mem_of_getElem? (i := 1327) (by decide +kernel)⟩
theorem lw_p50 : lw_okq (⟨"SendTheBoxModel", "states", "(I)I"⟩, 46) := ⟨⟨by decide +kernel, by decide +kernel⟩, List.mem_of_getElem? (i := 1031) (by decide +kernel), List.mem_of_getElem? (i := 1330) (by decide +kernel), List.mem_of_getElem? (i := 1331) (by decide +kernel)⟩
theorem lw_p51 : lw_okq (⟨"SendTheBoxModel", "sum", "(III)I"⟩, 46) := ⟨⟨by decide +kernel, by decide +kernel⟩, List.mem_of_getElem? (i := 1031) (by decide +kernel), List.mem_of_getElem? (i := 1334) (by decide +kernel), List.mem_of_getElem? (i := 1335) (by decide +kernel)⟩
theorem lw_p52 : lw_okq (⟨"SendTheBoxModel", "numberOf", "(III)I"⟩, 46) := ⟨⟨by decide +kernel, by decide +kernel⟩, List.mem_of_getElem? (i := 1031) (by decide +kernel), List.mem_of_getElem? (i := 1338) (by decide +kernel), List.mem_of_getElem? (i := 1339) (by decide +kernel)⟩
theorem lw_p53 : lw_okq (⟨"SendTheBoxModel", "isLeft", "(II)Z"⟩, 46) := ⟨⟨by decide +kernel, by decide +kernel⟩, List.mem_of_getElem? (i := 1031) (by decide +kernel), List.mem_of_getElem? (i := 1346) (by decide +kernel), List.mem_of_getElem? (i := 1347) (by decide +kernel)⟩
theorem lw_p54 : lw_okq (⟨"SendTheBoxModel", "scaleOf", "(II)J"⟩, 46) := ⟨⟨by decide +kernel, by decide +kernel⟩, List.mem_of_getElem? (i := 1031) (by decide +kernel), List.mem_of_getElem? (i := 1350) (by decide +kernel), List.mem_of_getElem? (i := 1351) (by decide +kernel)⟩
theorem lw_p55 : lw_okq (⟨"SendTheBoxModel", "fillOf", "(II)I"⟩, 46) := ⟨⟨by decide +kernel, by decide +kernel⟩, List.mem_of_getElem? (i := 1031) (by decide +kernel), List.mem_of_getElem? (i := 1358) (by decide +kernel), List.mem_of_getElem? (i := 1359) (by decide +kernel)⟩
theorem lw_p56 : lw_okq (⟨"SendTheBoxModel", "findBest", "(I)V"⟩, 46) := ⟨⟨by decide +kernel, by decide +kernel⟩, List.mem_of_getElem? (i := 1031) (by decide +kernel), List.mem_of_getElem? (i := 1366) (by decide +kernel), List.mem_of_getElem? (i := 1367) (by decide +kernel)⟩
theorem lw_p57 : lw_okq (⟨"SendTheBoxModel", "findWays", "(I)V"⟩, 46) := ⟨⟨by decide +kernel, by decide +kernel⟩, List.mem_of_getElem? (i := 1031) (by decide +kernel), List.mem_of_getElem? (i := 1370) (by decide +kernel), List.mem_of_getElem? (i := 1371) (by decide +kernel)⟩
theorem lw_p58 : lw_okq (⟨"SendTheBoxModel", "behind", "(III[J)J"⟩, 46) := ⟨⟨by decide +kernel, by decide +kernel⟩, List.mem_of_getElem? (i := 1031) (by decide +kernel), List.mem_of_getElem? (i := 1374) (by decide +kernel), List.mem_of_getElem? (i := 1375) (by decide +kernel)⟩
theorem lw_p59 : lw_okq (⟨"SendTheBoxModel", "isLoad", "(III)Z"⟩, 46) := ⟨⟨by decide +kernel, by decide +kernel⟩, List.mem_of_getElem? (i := 1031) (by decide +kernel), List.mem_of_getElem? (i := 1378) (by decide +kernel), List.mem_of_getElem? (i := 1379) (by decide +kernel)⟩
theorem lw_p60 : lw_okq (⟨"SendTheBoxModel", "boxOf", "(II)J"⟩, 46) := ⟨⟨by decide +kernel, by decide +kernel⟩, List.mem_of_getElem? (i := 1031) (by decide +kernel), List.mem_of_getElem? (i := 1382) (by decide +kernel), List.mem_of_getElem? (i := 1383) (by decide +kernel)⟩
theorem lw_p61 : lw_okq (⟨"SendTheBoxModel", "noRule", "(I)I"⟩, 46) := ⟨⟨by decide +kernel, by decide +kernel⟩, List.mem_of_getElem? (i := 1031) (by decide +kernel), List.mem_of_getElem? (i := 1394) (by decide +kernel), List.mem_of_getElem? (i := 1395) (by decide +kernel)⟩
theorem lw_p62 : lw_okq (⟨"SendTheBoxModel", "loadBy", "(IIII)I"⟩, 46) := ⟨⟨by decide +kernel, by decide +kernel⟩, List.mem_of_getElem? (i := 1031) (by decide +kernel), List.mem_of_getElem? (i := 1398) (by decide +kernel), List.mem_of_getElem? (i := 1399) (by decide +kernel)⟩
theorem lw_p63 : lw_okq (⟨"SendTheBoxModel", "fillsBy", "(IIII)Z"⟩, 46) := ⟨⟨by decide +kernel, by decide +kernel⟩, List.mem_of_getElem? (i := 1031) (by decide +kernel), List.mem_of_getElem? (i := 1402) (by decide +kernel), List.mem_of_getElem? (i := 1403) (by decide +kernel)⟩
def lw_privs_4 : List (MethodName × Nat) := [(⟨"SendTheBoxModel", "sorts", "(I)I"⟩, 46), (⟨"SendTheBoxModel", "isState", "(II)Z"⟩, 46), (⟨"SendTheBoxModel", "states", "(I)I"⟩, 46), (⟨"SendTheBoxModel", "sum", "(III)I"⟩, 46), (⟨"SendTheBoxModel", "numberOf", "(III)I"⟩, 46), (⟨"SendTheBoxModel", "isLeft", "(II)Z"⟩, 46), (⟨"SendTheBoxModel", "scaleOf", "(II)J"⟩, 46), (⟨"SendTheBoxModel", "fillOf", "(II)I"⟩, 46), (⟨"SendTheBoxModel", "findBest", "(I)V"⟩, 46), (⟨"SendTheBoxModel", "findWays", "(I)V"⟩, 46), (⟨"SendTheBoxModel", "behind", "(III[J)J"⟩, 46), (⟨"SendTheBoxModel", "isLoad", "(III)Z"⟩, 46), (⟨"SendTheBoxModel", "boxOf", "(II)J"⟩, 46), (⟨"SendTheBoxModel", "noRule", "(I)I"⟩, 46), (⟨"SendTheBoxModel", "loadBy", "(IIII)I"⟩, 46), (⟨"SendTheBoxModel", "fillsBy", "(IIII)Z"⟩, 46)]
theorem lw_r4 : ∀ q ∈ lw_privs_4, lw_okq q := List.forall_mem_cons.mpr ⟨lw_p48, List.forall_mem_cons.mpr ⟨lw_p49, List.forall_mem_cons.mpr ⟨lw_p50, List.forall_mem_cons.mpr ⟨lw_p51, List.forall_mem_cons.mpr ⟨lw_p52, List.forall_mem_cons.mpr ⟨lw_p53, List.forall_mem_cons.mpr ⟨lw_p54, List.forall_mem_cons.mpr ⟨lw_p55, List.forall_mem_cons.mpr ⟨lw_p56, List.forall_mem_cons.mpr ⟨lw_p57, List.forall_mem_cons.mpr ⟨lw_p58, List.forall_mem_cons.mpr ⟨lw_p59, List.forall_mem_cons.mpr ⟨lw_p60, List.forall_mem_cons.mpr ⟨lw_p61, List.forall_mem_cons.mpr ⟨lw_p62, List.forall_mem_cons.mpr ⟨lw_p63, fun _ h => absurd h List.not_mem_nil⟩⟩⟩⟩⟩⟩⟩⟩⟩⟩⟩⟩⟩⟩⟩⟩
theorem lw_p64 : lw_okq (⟨"SendTheBoxModel", "byShelf", "(IIIIZ)J"⟩, 46) := ⟨⟨by decide +kernel, by decide +kernel⟩, List.mem_of_getElem? (i := 1031) (by decide +kernel), List.mem_of_getElem? (i := 1410) (by decide +kernel), List.mem_of_getElem? (i := 1411) (by decide +kernel)⟩
theorem lw_p65 : lw_okq (⟨"SendTheBoxModel", "findByRule", "(II)V"⟩, 46) := ⟨⟨by decide +kernel, by decide +kernel⟩, List.mem_of_getElem? (i := 1031) (by decide +kernel), List.mem_of_getElem? (i := 1414) (by decide +kernel), List.mem_of_getElem? (i := 1415) (by decide +kernel)⟩
theorem lw_p66 : lw_okq (⟨"SendTheBoxModel", "goesByRule", "(II)V"⟩, 46) := ⟨⟨by decide +kernel, by decide +kernel⟩, List.mem_of_getElem? (i := 1031) (by decide +kernel), List.mem_of_getElem? (i := 1418) (by decide +kernel), List.mem_of_getElem? (i := 1419) (by decide +kernel)⟩
theorem lw_p67 : lw_okq (⟨"SendTheBoxModel", "withLoad", "(IIII[J)J"⟩, 46) := ⟨⟨by decide +kernel, by decide +kernel⟩, List.mem_of_getElem? (i := 1031) (by decide +kernel), List.mem_of_getElem? (i := 1438) (by decide +kernel), List.mem_of_getElem? (i := 1439) (by decide +kernel)⟩
theorem lw_p68 : lw_okq (⟨"SendTheBoxModel", "findChances", "(II)V"⟩, 46) := ⟨⟨by decide +kernel, by decide +kernel⟩, List.mem_of_getElem? (i := 1031) (by decide +kernel), List.mem_of_getElem? (i := 1446) (by decide +kernel), List.mem_of_getElem? (i := 1447) (by decide +kernel)⟩
theorem lw_p69 : lw_okq (⟨"SendTheBoxModel", "goesOn", "(IIJ[J)V"⟩, 46) := ⟨⟨by decide +kernel, by decide +kernel⟩, List.mem_of_getElem? (i := 1031) (by decide +kernel), List.mem_of_getElem? (i := 1450) (by decide +kernel), List.mem_of_getElem? (i := 1451) (by decide +kernel)⟩
theorem lw_p70 : lw_okq (⟨"SendTheBoxModel", "meanOf", "(III)J"⟩, 46) := ⟨⟨by decide +kernel, by decide +kernel⟩, List.mem_of_getElem? (i := 1031) (by decide +kernel), List.mem_of_getElem? (i := 1462) (by decide +kernel), List.mem_of_getElem? (i := 1463) (by decide +kernel)⟩
theorem lw_p71 : lw_okq (⟨"SendTheBoxModel", "leastOf", "(IIII)I"⟩, 46) := ⟨⟨by decide +kernel, by decide +kernel⟩, List.mem_of_getElem? (i := 1031) (by decide +kernel), List.mem_of_getElem? (i := 1474) (by decide +kernel), List.mem_of_getElem? (i := 1475) (by decide +kernel)⟩
theorem lw_p72 : lw_okq (⟨"SendTheBoxModel", "hasRoom", "(II)Z"⟩, 46) := ⟨⟨by decide +kernel, by decide +kernel⟩, List.mem_of_getElem? (i := 1031) (by decide +kernel), List.mem_of_getElem? (i := 1478) (by decide +kernel), List.mem_of_getElem? (i := 1479) (by decide +kernel)⟩
theorem lw_p73 : lw_okq (⟨"SendTheBoxModel", "findRooms", "(II)Z"⟩, 46) := ⟨⟨by decide +kernel, by decide +kernel⟩, List.mem_of_getElem? (i := 1031) (by decide +kernel), List.mem_of_getElem? (i := 1498) (by decide +kernel), List.mem_of_getElem? (i := 1499) (by decide +kernel)⟩
theorem lw_p74 : lw_okq (⟨"SendTheBoxModel", "mayJoin", "(II)Z"⟩, 46) := ⟨⟨by decide +kernel, by decide +kernel⟩, List.mem_of_getElem? (i := 1031) (by decide +kernel), List.mem_of_getElem? (i := 1514) (by decide +kernel), List.mem_of_getElem? (i := 1515) (by decide +kernel)⟩
theorem lw_p75 : lw_okq (⟨"SendTheBoxModel", "joinTo", "(III)V"⟩, 46) := ⟨⟨by decide +kernel, by decide +kernel⟩, List.mem_of_getElem? (i := 1031) (by decide +kernel), List.mem_of_getElem? (i := 1518) (by decide +kernel), List.mem_of_getElem? (i := 1519) (by decide +kernel)⟩
theorem lw_p76 : lw_okq (⟨"SendTheBoxModel", "wholeCost", "(I)J"⟩, 46) := ⟨⟨by decide +kernel, by decide +kernel⟩, List.mem_of_getElem? (i := 1031) (by decide +kernel), List.mem_of_getElem? (i := 1526) (by decide +kernel), List.mem_of_getElem? (i := 1527) (by decide +kernel)⟩
theorem lw_p77 : lw_okq (⟨"SendTheBoxModel", "day", "(IIII)I"⟩, 46) := ⟨⟨by decide +kernel, by decide +kernel⟩, List.mem_of_getElem? (i := 1031) (by decide +kernel), List.mem_of_getElem? (i := 1542) (by decide +kernel), List.mem_of_getElem? (i := 1543) (by decide +kernel)⟩
theorem lw_p78 : lw_okq (⟨"SendTheBoxModel", "draw", "()I"⟩, 46) := ⟨⟨by decide +kernel, by decide +kernel⟩, List.mem_of_getElem? (i := 1031) (by decide +kernel), List.mem_of_getElem? (i := 1546) (by decide +kernel), List.mem_of_getElem? (i := 1547) (by decide +kernel)⟩
theorem lw_p79 : lw_okq (⟨"SendTheBoxModel", "takeFrom", "(LSendTheBoxModel;)V"⟩, 46) := ⟨⟨by decide +kernel, by decide +kernel⟩, List.mem_of_getElem? (i := 1031) (by decide +kernel), List.mem_of_getElem? (i := 1566) (by decide +kernel), List.mem_of_getElem? (i := 1567) (by decide +kernel)⟩
def lw_privs_5 : List (MethodName × Nat) := [(⟨"SendTheBoxModel", "byShelf", "(IIIIZ)J"⟩, 46), (⟨"SendTheBoxModel", "findByRule", "(II)V"⟩, 46), (⟨"SendTheBoxModel", "goesByRule", "(II)V"⟩, 46), (⟨"SendTheBoxModel", "withLoad", "(IIII[J)J"⟩, 46), (⟨"SendTheBoxModel", "findChances", "(II)V"⟩, 46), (⟨"SendTheBoxModel", "goesOn", "(IIJ[J)V"⟩, 46), (⟨"SendTheBoxModel", "meanOf", "(III)J"⟩, 46), (⟨"SendTheBoxModel", "leastOf", "(IIII)I"⟩, 46), (⟨"SendTheBoxModel", "hasRoom", "(II)Z"⟩, 46), (⟨"SendTheBoxModel", "findRooms", "(II)Z"⟩, 46), (⟨"SendTheBoxModel", "mayJoin", "(II)Z"⟩, 46), (⟨"SendTheBoxModel", "joinTo", "(III)V"⟩, 46), (⟨"SendTheBoxModel", "wholeCost", "(I)J"⟩, 46), (⟨"SendTheBoxModel", "day", "(IIII)I"⟩, 46), (⟨"SendTheBoxModel", "draw", "()I"⟩, 46), (⟨"SendTheBoxModel", "takeFrom", "(LSendTheBoxModel;)V"⟩, 46)]
theorem lw_r5 : ∀ q ∈ lw_privs_5, lw_okq q := List.forall_mem_cons.mpr ⟨lw_p64, List.forall_mem_cons.mpr ⟨lw_p65, List.forall_mem_cons.mpr ⟨lw_p66, List.forall_mem_cons.mpr ⟨lw_p67, List.forall_mem_cons.mpr ⟨lw_p68, List.forall_mem_cons.mpr ⟨lw_p69, List.forall_mem_cons.mpr ⟨lw_p70, List.forall_mem_cons.mpr ⟨lw_p71, List.forall_mem_cons.mpr ⟨lw_p72, List.forall_mem_cons.mpr ⟨lw_p73, List.forall_mem_cons.mpr ⟨lw_p74, List.forall_mem_cons.mpr ⟨lw_p75, List.forall_mem_cons.mpr ⟨lw_p76, List.forall_mem_cons.mpr ⟨lw_p77, List.forall_mem_cons.mpr ⟨lw_p78, List.forall_mem_cons.mpr ⟨lw_p79, fun _ h => absurd h List.not_mem_nil⟩⟩⟩⟩⟩⟩⟩⟩⟩⟩⟩⟩⟩⟩⟩⟩
def lw_privs : List (MethodName × Nat) := lw_privs_1 ++ (lw_privs_2 ++ (lw_privs_3 ++ (lw_privs_4 ++ (lw_privs_5))))
def lw_tbl : List Cond := k2_sels lw_privs ++ tables_1
theorem lw_privs_ok : ∀ q ∈ lw_privs, lw_okq q := by
  show ∀ q ∈ lw_privs_1 ++ (lw_privs_2 ++ (lw_privs_3 ++ (lw_privs_4 ++ (lw_privs_5)))), lw_okq q
  exact List.forall_mem_append.mpr ⟨lw_r1, List.forall_mem_append.mpr ⟨lw_r2, List.forall_mem_append.mpr ⟨lw_r3, List.forall_mem_append.mpr ⟨lw_r4, lw_r5⟩⟩⟩⟩
def RX0 : String := "SendTheBox$House"
def TX0 : u_T := fun k => match k with
  | _ => ("SendTheBox$House", "numbers", "[I", true)
def tyX0 : Nat → FieldType := fun k => match k with
  | _ => .array .int
abbrev wsX00 : List Cond := u_ws RX0 TX0 1
theorem nmX0 : ∀ a, a < 1 → ∀ b, b < 1 → a ≠ b → (TX0 a).2.1 ≠ (TX0 b).2.1 := by decide +kernel
theorem tyX0_ok : ∀ k, k < 1 → parseFieldDescriptor (TX0 k).2.2.1 = some (tyX0 k) := by decide +kernel
abbrev cX0_init : ByteArray := prog_2_method_1_code
def yX0_init : MethodName := ⟨RX0, "<init>", "()V"⟩
abbrev cX0_clear : ByteArray := prog_2_method_2_code
def yX0_clear : MethodName := ⟨RX0, "clear", "()V"⟩
abbrev cX0_become : ByteArray := prog_2_method_3_code
def yX0_become : MethodName := ⟨RX0, "become", "(LSendTheBox$House;)V"⟩
abbrev cX0_isLike : ByteArray := prog_2_method_4_code
def yX0_isLike : MethodName := ⟨RX0, "isLike", "(LSendTheBox$House;)Z"⟩
abbrev cX0_mayBe : ByteArray := prog_2_method_5_code
def yX0_mayBe : MethodName := ⟨RX0, "mayBe", "(II)Z"⟩
abbrev cX0_mayBeOfSort : ByteArray := prog_2_method_6_code
def yX0_mayBeOfSort : MethodName := ⟨RX0, "mayBeOfSort", "(II)Z"⟩
abbrev cX0_number : ByteArray := prog_2_method_7_code
def yX0_number : MethodName := ⟨RX0, "number", "(I)I"⟩
abbrev cX0_putNumber : ByteArray := prog_2_method_8_code
def yX0_putNumber : MethodName := ⟨RX0, "putNumber", "(II)V"⟩
abbrev cX0_placeOf : ByteArray := prog_2_method_9_code
def yX0_placeOf : MethodName := ⟨RX0, "placeOf", "(II)I"⟩
abbrev cX0_sortNumber : ByteArray := prog_2_method_10_code
def yX0_sortNumber : MethodName := ⟨RX0, "sortNumber", "(II)I"⟩
abbrev cX0_putSortNumber : ByteArray := prog_2_method_11_code
def yX0_putSortNumber : MethodName := ⟨RX0, "putSortNumber", "(III)V"⟩
abbrev cX0_days : ByteArray := prog_2_method_12_code
def yX0_days : MethodName := ⟨RX0, "days", "()I"⟩
abbrev cX0_sorts : ByteArray := prog_2_method_13_code
def yX0_sorts : MethodName := ⟨RX0, "sorts", "()I"⟩
abbrev cX0_hasSort : ByteArray := prog_2_method_14_code
def yX0_hasSort : MethodName := ⟨RX0, "hasSort", "(I)Z"⟩
abbrev cX0_states : ByteArray := prog_2_method_15_code
def yX0_states : MethodName := ⟨RX0, "states", "()I"⟩
abbrev cX0_sumOf : ByteArray := prog_2_method_16_code
def yX0_sumOf : MethodName := ⟨RX0, "sumOf", "(II)I"⟩
abbrev cX0_goesWith : ByteArray := prog_2_method_17_code
def yX0_goesWith : MethodName := ⟨RX0, "goesWith", "(LSendTheBox$House;)Z"⟩
abbrev cX0_addSortsOf : ByteArray := prog_2_method_18_code
def yX0_addSortsOf : MethodName := ⟨RX0, "addSortsOf", "(LSendTheBox$House;)V"⟩
abbrev cX0_fillFor : ByteArray := prog_2_method_19_code
def yX0_fillFor : MethodName := ⟨RX0, "fillFor", "(I)I"⟩
def RX1 : String := "SendTheBox$Plan"
def TX1 : u_T := fun k => match k with
  | 0 => ("SendTheBox$Plan", "house", "LSendTheBox$House;", true)
  | 1 => ("SendTheBox$Plan", "days", "I", false)
  | 2 => ("SendTheBox$Plan", "sorts", "I", false)
  | 3 => ("SendTheBox$Plan", "states", "I", false)
  | 4 => ("SendTheBox$Plan", "rooms", "[I", true)
  | 5 => ("SendTheBox$Plan", "holds", "[I", true)
  | 6 => ("SendTheBox$Plan", "leavings", "[I", true)
  | 7 => ("SendTheBox$Plan", "fills", "[I", true)
  | 8 => ("SendTheBox$Plan", "loads", "[I", true)
  | 9 => ("SendTheBox$Plan", "costs", "[J", true)
  | 10 => ("SendTheBox$Plan", "afters", "[J", true)
  | 11 => ("SendTheBox$Plan", "work", "[J", true)
  | 12 => ("SendTheBox$Plan", "chances", "[J", true)
  | 13 => ("SendTheBox$Plan", "daysKnown", "I", false)
  | _ => ("SendTheBox$Plan", "fullKnown", "I", false)
def tyX1 : Nat → FieldType := fun k => match k with
  | 0 => .object "SendTheBox$House"
  | 1 => .int
  | 2 => .int
  | 3 => .int
  | 4 => .array .int
  | 5 => .array .int
  | 6 => .array .int
  | 7 => .array .int
  | 8 => .array .int
  | 9 => .array .long
  | 10 => .array .long
  | 11 => .array .long
  | 12 => .array .long
  | 13 => .int
  | _ => .int
abbrev wsX10 : List Cond := u_ws RX1 TX1 15
theorem nmX1 : ∀ a, a < 15 → ∀ b, b < 15 → a ≠ b → (TX1 a).2.1 ≠ (TX1 b).2.1 := by decide +kernel
theorem tyX1_ok : ∀ k, k < 15 → parseFieldDescriptor (TX1 k).2.2.1 = some (tyX1 k) := by decide +kernel
abbrev cX1_init : ByteArray := prog_3_method_1_code
def yX1_init : MethodName := ⟨RX1, "<init>", "()V"⟩
abbrev cX1_turnTo : ByteArray := prog_3_method_2_code
def yX1_turnTo : MethodName := ⟨RX1, "turnTo", "(LSendTheBox$House;)V"⟩
abbrev cX1_hasSort : ByteArray := prog_3_method_3_code
def yX1_hasSort : MethodName := ⟨RX1, "hasSort", "(I)Z"⟩
abbrev cX1_hasState : ByteArray := prog_3_method_4_code
def yX1_hasState : MethodName := ⟨RX1, "hasState", "(I)Z"⟩
abbrev cX1_hasPlace : ByteArray := prog_3_method_5_code
def yX1_hasPlace : MethodName := ⟨RX1, "hasPlace", "(II)Z"⟩
abbrev cX1_hasDay : ByteArray := prog_3_method_6_code
def yX1_hasDay : MethodName := ⟨RX1, "hasDay", "(II)Z"⟩
abbrev cX1_roomOf : ByteArray := prog_3_method_7_code
def yX1_roomOf : MethodName := ⟨RX1, "roomOf", "(I)I"⟩
abbrev cX1_fillOf : ByteArray := prog_3_method_8_code
def yX1_fillOf : MethodName := ⟨RX1, "fillOf", "(I)I"⟩
abbrev cX1_placeOf : ByteArray := prog_3_method_9_code
def yX1_placeOf : MethodName := ⟨RX1, "placeOf", "(II)I"⟩
abbrev cX1_leastCost : ByteArray := prog_3_method_10_code
def yX1_leastCost : MethodName := ⟨RX1, "leastCost", "(II)J"⟩
abbrev cX1_bestLoad : ByteArray := prog_3_method_11_code
def yX1_bestLoad : MethodName := ⟨RX1, "bestLoad", "(II)I"⟩
abbrev cX1_loadWorkedOut : ByteArray := prog_3_method_12_code
def yX1_loadWorkedOut : MethodName := ⟨RX1, "loadWorkedOut", "(II)I"⟩
abbrev cX1_getReadyFor : ByteArray := prog_3_method_13_code
def yX1_getReadyFor : MethodName := ⟨RX1, "getReadyFor", "(LSendTheBox$Rule;)V"⟩
abbrev cX1_costWith : ByteArray := prog_3_method_14_code
def yX1_costWith : MethodName := ⟨RX1, "costWith", "(III)J"⟩
abbrev cX1_workOut : ByteArray := prog_3_method_15_code
def yX1_workOut : MethodName := ⟨RX1, "workOut", "(I)V"⟩
abbrev cX1_keepWork : ByteArray := prog_3_method_16_code
def yX1_keepWork : MethodName := ⟨RX1, "keepWork", "([JI)V"⟩
abbrev cX1_startFromEnd : ByteArray := prog_3_method_17_code
def yX1_startFromEnd : MethodName := ⟨RX1, "startFromEnd", "()V"⟩
abbrev cX1_takeCosts : ByteArray := prog_3_method_18_code
def yX1_takeCosts : MethodName := ⟨RX1, "takeCosts", "(I)V"⟩
abbrev cX1_unitOf : ByteArray := prog_3_method_19_code
def yX1_unitOf : MethodName := ⟨RX1, "unitOf", "(I)J"⟩
abbrev cX1_boxCost : ByteArray := prog_3_method_20_code
def yX1_boxCost : MethodName := ⟨RX1, "boxCost", "(I)J"⟩
abbrev cX1_goBackToLoad : ByteArray := prog_3_method_21_code
def yX1_goBackToLoad : MethodName := ⟨RX1, "goBackToLoad", "(I)V"⟩
abbrev cX1_goBackBest : ByteArray := prog_3_method_22_code
def yX1_goBackBest : MethodName := ⟨RX1, "goBackBest", "(IJ)V"⟩
abbrev cX1_goBackPromised : ByteArray := prog_3_method_23_code
def yX1_goBackPromised : MethodName := ⟨RX1, "goBackPromised", "(JZ)V"⟩
abbrev cX1_mix : ByteArray := prog_3_method_24_code
def yX1_mix : MethodName := ⟨RX1, "mix", "(IIJ)V"⟩
abbrev cX1_pick : ByteArray := prog_3_method_25_code
def yX1_pick : MethodName := ⟨RX1, "pick", "(IJZ)I"⟩
abbrev cX1_loadBy : ByteArray := prog_3_method_26_code
def yX1_loadBy : MethodName := ⟨RX1, "loadBy", "(LSendTheBox$Rule;II)I"⟩
abbrev cX1_costBy : ByteArray := prog_3_method_27_code
def yX1_costBy : MethodName := ⟨RX1, "costBy", "(LSendTheBox$Rule;II)J"⟩
abbrev cX1_costOfPromise : ByteArray := prog_3_method_28_code
def yX1_costOfPromise : MethodName := ⟨RX1, "costOfPromise", "(I)J"⟩
abbrev cX1_bestFullRule : ByteArray := prog_3_method_29_code
def yX1_bestFullRule : MethodName := ⟨RX1, "bestFullRule", "()I"⟩
abbrev cX1_isRoomOfSome : ByteArray := prog_3_method_30_code
def yX1_isRoomOfSome : MethodName := ⟨RX1, "isRoomOfSome", "(I)Z"⟩
abbrev cX1_bestDayRule : ByteArray := prog_3_method_31_code
def yX1_bestDayRule : MethodName := ⟨RX1, "bestDayRule", "()I"⟩
abbrev cX1_bar : ByteArray := prog_3_method_32_code
def yX1_bar : MethodName := ⟨RX1, "bar", "(I)I"⟩
abbrev cX1_oddState : ByteArray := prog_3_method_33_code
def yX1_oddState : MethodName := ⟨RX1, "oddState", "(I)I"⟩
abbrev cX1_leastRoomSent : ByteArray := prog_3_method_34_code
def yX1_leastRoomSent : MethodName := ⟨RX1, "leastRoomSent", "(I)I"⟩
abbrev cX1_oddFrom : ByteArray := prog_3_method_35_code
def yX1_oddFrom : MethodName := ⟨RX1, "oddFrom", "(II)I"⟩
abbrev cX1_judgeOf : ByteArray := prog_3_method_36_code
def yX1_judgeOf : MethodName := ⟨RX1, "judgeOf", "(LSendTheBox$Row;I)I"⟩
abbrev cX1_chanceBy : ByteArray := prog_3_method_37_code
def yX1_chanceBy : MethodName := ⟨RX1, "chanceBy", "(LSendTheBox$Rule;II)J"⟩
abbrev cX1_statesBy : ByteArray := prog_3_method_38_code
def yX1_statesBy : MethodName := ⟨RX1, "statesBy", "(LSendTheBox$Rule;I)I"⟩
abbrev cX1_spread : ByteArray := prog_3_method_39_code
def yX1_spread : MethodName := ⟨RX1, "spread", "(LSendTheBox$Rule;I)V"⟩
abbrev cX1_heldBy : ByteArray := prog_3_method_40_code
def yX1_heldBy : MethodName := ⟨RX1, "heldBy", "(LSendTheBox$Rule;I)J"⟩
abbrev cX1_boxesBy : ByteArray := prog_3_method_41_code
def yX1_boxesBy : MethodName := ⟨RX1, "boxesBy", "(LSendTheBox$Rule;)J"⟩
abbrev cX1_startSpread : ByteArray := prog_3_method_42_code
def yX1_startSpread : MethodName := ⟨RX1, "startSpread", "()V"⟩
abbrev cX1_spreadLoad : ByteArray := prog_3_method_43_code
def yX1_spreadLoad : MethodName := ⟨RX1, "spreadLoad", "(LSendTheBox$Rule;I)J"⟩
abbrev cX1_spreadWhatComes : ByteArray := prog_3_method_44_code
def yX1_spreadWhatComes : MethodName := ⟨RX1, "spreadWhatComes", "()V"⟩
def RX2 : String := "SendTheBox$Row"
def TX2 : u_T := fun k => match k with
  | 0 => ("SendTheBox$Row", "sort", "I", true)
  | _ => ("SendTheBox$Row", "values", "[J", true)
def tyX2 : Nat → FieldType := fun k => match k with
  | 0 => .int
  | _ => .array .long
abbrev wsX20 : List Cond := u_ws RX2 TX2 2
theorem nmX2 : ∀ a, a < 2 → ∀ b, b < 2 → a ≠ b → (TX2 a).2.1 ≠ (TX2 b).2.1 := by decide +kernel
theorem tyX2_ok : ∀ k, k < 2 → parseFieldDescriptor (TX2 k).2.2.1 = some (tyX2 k) := by decide +kernel
abbrev cX2_init : ByteArray := prog_4_method_1_code
def yX2_init : MethodName := ⟨RX2, "<init>", "(II)V"⟩
abbrev cX2_size : ByteArray := prog_4_method_2_code
def yX2_size : MethodName := ⟨RX2, "size", "()I"⟩
abbrev cX2_hasPlace : ByteArray := prog_4_method_3_code
def yX2_hasPlace : MethodName := ⟨RX2, "hasPlace", "(I)Z"⟩
abbrev cX2_hasRange : ByteArray := prog_4_method_4_code
def yX2_hasRange : MethodName := ⟨RX2, "hasRange", "(II)Z"⟩
abbrev cX2_valueAt : ByteArray := prog_4_method_5_code
def yX2_valueAt : MethodName := ⟨RX2, "valueAt", "(I)J"⟩
abbrev cX2_put : ByteArray := prog_4_method_6_code
def yX2_put : MethodName := ⟨RX2, "put", "(IJ)V"⟩
abbrev cX2_lowestBits : ByteArray := prog_4_method_7_code
def yX2_lowestBits : MethodName := ⟨RX2, "lowestBits", "(J)J"⟩
abbrev cX2_take : ByteArray := prog_4_method_8_code
def yX2_take : MethodName := ⟨RX2, "take", "(LSendTheBox$Row;III)V"⟩
abbrev cX2_twin : ByteArray := prog_4_method_9_code
def yX2_twin : MethodName := ⟨RX2, "twin", "()LSendTheBox$Row;"⟩
def RX3 : String := "SendTheBox$Rule"
def TX3 : u_T := fun k => match k with
  | 0 => ("SendTheBox$Rule", "kind", "I", true)
  | 1 => ("SendTheBox$Rule", "room", "I", true)
  | 2 => ("SendTheBox$Rule", "days", "I", true)
  | _ => ("SendTheBox$Rule", "told", "LSendTheBox$Row;", true)
def tyX3 : Nat → FieldType := fun k => match k with
  | 0 => .int
  | 1 => .int
  | 2 => .int
  | _ => .object "SendTheBox$Row"
abbrev wsX30 : List Cond := u_ws RX3 TX3 4
theorem nmX3 : ∀ a, a < 4 → ∀ b, b < 4 → a ≠ b → (TX3 a).2.1 ≠ (TX3 b).2.1 := by decide +kernel
theorem tyX3_ok : ∀ k, k < 4 → parseFieldDescriptor (TX3 k).2.2.1 = some (tyX3 k) := by decide +kernel
abbrev cX3_init : ByteArray := prog_5_method_1_code
def yX3_init : MethodName := ⟨RX3, "<init>", "(IILSendTheBox$Row;)V"⟩
abbrev cX3_mayBe : ByteArray := prog_5_method_2_code
def yX3_mayBe : MethodName := ⟨RX3, "mayBe", "(II)Z"⟩
abbrev cX3_isOfKind : ByteArray := prog_5_method_3_code
def yX3_isOfKind : MethodName := ⟨RX3, "isOfKind", "(I)Z"⟩
abbrev cX3_numberAs : ByteArray := prog_5_method_4_code
def yX3_numberAs : MethodName := ⟨RX3, "numberAs", "(I)I"⟩
abbrev cX3_fills : ByteArray := prog_5_method_5_code
def yX3_fills : MethodName := ⟨RX3, "fills", "(III)Z"⟩
abbrev cX3_isItsDay : ByteArray := prog_5_method_6_code
def yX3_isItsDay : MethodName := ⟨RX3, "isItsDay", "(I)Z"⟩
def RX4 : String := "SendTheBox$Tape"
def TX4 : u_T := fun k => match k with
  | 0 => ("SendTheBox$Tape", "bytes", "[B", true)
  | 1 => ("SendTheBox$Tape", "size", "I", false)
  | 2 => ("SendTheBox$Tape", "kind", "I", false)
  | 3 => ("SendTheBox$Tape", "from", "I", false)
  | _ => ("SendTheBox$Tape", "to", "I", false)
def tyX4 : Nat → FieldType := fun k => match k with
  | 0 => .array .byte
  | 1 => .int
  | 2 => .int
  | 3 => .int
  | _ => .int
abbrev wsX40 : List Cond := u_ws RX4 TX4 5
theorem nmX4 : ∀ a, a < 5 → ∀ b, b < 5 → a ≠ b → (TX4 a).2.1 ≠ (TX4 b).2.1 := by decide +kernel
theorem tyX4_ok : ∀ k, k < 5 → parseFieldDescriptor (TX4 k).2.2.1 = some (tyX4 k) := by decide +kernel
abbrev cX4_init : ByteArray := prog_6_method_1_code
def yX4_init : MethodName := ⟨RX4, "<init>", "()V"⟩
abbrev cX4_hasPlaceFor : ByteArray := prog_6_method_2_code
def yX4_hasPlaceFor : MethodName := ⟨RX4, "hasPlaceFor", "(I)Z"⟩
abbrev cX4_append : ByteArray := prog_6_method_3_code
def yX4_append : MethodName := ⟨RX4, "append", "(II)I"⟩
abbrev cX4_clear : ByteArray := prog_6_method_4_code
def yX4_clear : MethodName := ⟨RX4, "clear", "()I"⟩
abbrev cX4_readInto : ByteArray := prog_6_method_5_code
def yX4_readInto : MethodName := ⟨RX4, "readInto", "(LSendTheBox$House;)I"⟩
abbrev cX4_readStatement : ByteArray := prog_6_method_6_code
def yX4_readStatement : MethodName := ⟨RX4, "readStatement", "(LSendTheBox$House;)Z"⟩
abbrev cX4_readHouseNumber : ByteArray := prog_6_method_7_code
def yX4_readHouseNumber : MethodName := ⟨RX4, "readHouseNumber", "(LSendTheBox$House;I)Z"⟩
abbrev cX4_readSort : ByteArray := prog_6_method_8_code
def yX4_readSort : MethodName := ⟨RX4, "readSort", "(LSendTheBox$House;)Z"⟩
abbrev cX4_readSortNumber : ByteArray := prog_6_method_9_code
def yX4_readSortNumber : MethodName := ⟨RX4, "readSortNumber", "(LSendTheBox$House;II)Z"⟩
abbrev cX4_sortWord : ByteArray := prog_6_method_10_code
def yX4_sortWord : MethodName := ⟨RX4, "sortWord", "(I)Ljava/lang/String;"⟩
abbrev cX4_byteAt : ByteArray := prog_6_method_11_code
def yX4_byteAt : MethodName := ⟨RX4, "byteAt", "(I)I"⟩
abbrev cX4_kindOf : ByteArray := prog_6_method_12_code
def yX4_kindOf : MethodName := ⟨RX4, "kindOf", "(I)I"⟩
abbrev cX4_advance : ByteArray := prog_6_method_13_code
def yX4_advance : MethodName := ⟨RX4, "advance", "()V"⟩
abbrev cX4_isWord : ByteArray := prog_6_method_14_code
def yX4_isWord : MethodName := ⟨RX4, "isWord", "(Ljava/lang/String;)Z"⟩
abbrev cX4_numberHere : ByteArray := prog_6_method_15_code
def yX4_numberHere : MethodName := ⟨RX4, "numberHere", "()I"⟩
def RX5 : String := "SendTheBox$Week"
def TX5 : u_T := fun k => match k with
  | 0 => ("SendTheBox$Week", "house", "LSendTheBox$House;", true)
  | 1 => ("SendTheBox$Week", "rule", "LSendTheBox$Rule;", false)
  | 2 => ("SendTheBox$Week", "left", "I", false)
  | 3 => ("SendTheBox$Week", "state", "I", false)
  | 4 => ("SendTheBox$Week", "coins", "I", false)
  | 5 => ("SendTheBox$Week", "boxesSent", "I", false)
  | 6 => ("SendTheBox$Week", "parcelsSent", "I", false)
  | _ => ("SendTheBox$Week", "parcelsRefused", "I", false)
def tyX5 : Nat → FieldType := fun k => match k with
  | 0 => .object "SendTheBox$House"
  | 1 => .object "SendTheBox$Rule"
  | 2 => .int
  | 3 => .int
  | 4 => .int
  | 5 => .int
  | 6 => .int
  | _ => .int
abbrev wsX50 : List Cond := u_ws RX5 TX5 8
theorem nmX5 : ∀ a, a < 8 → ∀ b, b < 8 → a ≠ b → (TX5 a).2.1 ≠ (TX5 b).2.1 := by decide +kernel
theorem tyX5_ok : ∀ k, k < 8 → parseFieldDescriptor (TX5 k).2.2.1 = some (tyX5 k) := by decide +kernel
abbrev cX5_init : ByteArray := prog_7_method_1_code
def yX5_init : MethodName := ⟨RX5, "<init>", "()V"⟩
abbrev cX5_start : ByteArray := prog_7_method_2_code
def yX5_start : MethodName := ⟨RX5, "start", "(LSendTheBox$House;LSendTheBox$Rule;)V"⟩
abbrev cX5_become : ByteArray := prog_7_method_3_code
def yX5_become : MethodName := ⟨RX5, "become", "(LSendTheBox$Week;)V"⟩
abbrev cX5_isUnderWay : ByteArray := prog_7_method_4_code
def yX5_isUnderWay : MethodName := ⟨RX5, "isUnderWay", "()Z"⟩
abbrev cX5_daysLeft : ByteArray := prog_7_method_5_code
def yX5_daysLeft : MethodName := ⟨RX5, "daysLeft", "()I"⟩
abbrev cX5_number : ByteArray := prog_7_method_6_code
def yX5_number : MethodName := ⟨RX5, "number", "(I)I"⟩
abbrev cX5_passDay : ByteArray := prog_7_method_7_code
def yX5_passDay : MethodName := ⟨RX5, "passDay", "(LSendTheBox$World;LSendTheBox$Plan;)I"⟩
abbrev cX5_send : ByteArray := prog_7_method_8_code
def yX5_send : MethodName := ⟨RX5, "send", "(I)I"⟩
abbrev cX5_receive : ByteArray := prog_7_method_9_code
def yX5_receive : MethodName := ⟨RX5, "receive", "(I)I"⟩
def RX6 : String := "SendTheBox$World"
def TX6 : u_T := fun k => match k with
  | 0 => ("SendTheBox$World", "houses", "[LSendTheBox$House;", true)
  | 1 => ("SendTheBox$World", "count", "I", false)
  | 2 => ("SendTheBox$World", "draws", "I", false)
  | _ => ("SendTheBox$World", "current", "LSendTheBox$Week;", true)
def tyX6 : Nat → FieldType := fun k => match k with
  | 0 => .array (.object "SendTheBox$House")
  | 1 => .int
  | 2 => .int
  | _ => .object "SendTheBox$Week"
abbrev wsX60 : List Cond := u_ws RX6 TX6 4
theorem nmX6 : ∀ a, a < 4 → ∀ b, b < 4 → a ≠ b → (TX6 a).2.1 ≠ (TX6 b).2.1 := by decide +kernel
theorem tyX6_ok : ∀ k, k < 4 → parseFieldDescriptor (TX6 k).2.2.1 = some (tyX6 k) := by decide +kernel
abbrev cX6_init : ByteArray := prog_8_method_1_code
def yX6_init : MethodName := ⟨RX6, "<init>", "()V"⟩
abbrev cX6_become : ByteArray := prog_8_method_2_code
def yX6_become : MethodName := ⟨RX6, "become", "(LSendTheBox$World;)V"⟩
abbrev cX6_houseAt : ByteArray := prog_8_method_3_code
def yX6_houseAt : MethodName := ⟨RX6, "houseAt", "(I)LSendTheBox$House;"⟩
abbrev cX6_isFull : ByteArray := prog_8_method_4_code
def yX6_isFull : MethodName := ⟨RX6, "isFull", "()Z"⟩
abbrev cX6_add : ByteArray := prog_8_method_5_code
def yX6_add : MethodName := ⟨RX6, "add", "(LSendTheBox$House;)I"⟩
abbrev cX6_changeSeed : ByteArray := prog_8_method_6_code
def yX6_changeSeed : MethodName := ⟨RX6, "changeSeed", "(I)I"⟩
abbrev cX6_draw : ByteArray := prog_8_method_7_code
def yX6_draw : MethodName := ⟨RX6, "draw", "(I)I"⟩
def RX7 : String := "SendTheBox"
def TX7 : u_T := fun k => match k with
  | 0 => ("SendTheBox", "world", "LSendTheBox$World;", true)
  | 1 => ("SendTheBox", "kept", "LSendTheBox$World;", true)
  | 2 => ("SendTheBox", "hasKept", "Z", false)
  | 3 => ("SendTheBox", "tape", "LSendTheBox$Tape;", true)
  | 4 => ("SendTheBox", "rows", "[LSendTheBox$Row;", true)
  | 5 => ("SendTheBox", "rules", "[LSendTheBox$Rule;", true)
  | 6 => ("SendTheBox", "refusals", "[I", true)
  | 7 => ("SendTheBox", "plans", "[LSendTheBox$Plan;", true)
  | 8 => ("SendTheBox", "weekPlan", "LSendTheBox$Plan;", true)
  | 9 => ("SendTheBox", "joinedPlan", "LSendTheBox$Plan;", true)
  | 10 => ("SendTheBox", "draft", "LSendTheBox$House;", true)
  | _ => ("SendTheBox", "spareWeek", "LSendTheBox$Week;", true)
def tyX7 : Nat → FieldType := fun k => match k with
  | 0 => .object "SendTheBox$World"
  | 1 => .object "SendTheBox$World"
  | 2 => .boolean
  | 3 => .object "SendTheBox$Tape"
  | 4 => .array (.object "SendTheBox$Row")
  | 5 => .array (.object "SendTheBox$Rule")
  | 6 => .array .int
  | 7 => .array (.object "SendTheBox$Plan")
  | 8 => .object "SendTheBox$Plan"
  | 9 => .object "SendTheBox$Plan"
  | 10 => .object "SendTheBox$House"
  | _ => .object "SendTheBox$Week"
abbrev wsX70 : List Cond := u_ws RX7 TX7 12
theorem nmX7 : ∀ a, a < 12 → ∀ b, b < 12 → a ≠ b → (TX7 a).2.1 ≠ (TX7 b).2.1 := by decide +kernel
theorem tyX7_ok : ∀ k, k < 12 → parseFieldDescriptor (TX7 k).2.2.1 = some (tyX7 k) := by decide +kernel
abbrev cX7_init : ByteArray := prog_1_method_1_code
def yX7_init : MethodName := ⟨RX7, "<init>", "()V"⟩
abbrev cX7_row : ByteArray := prog_1_method_2_code
def yX7_row : MethodName := ⟨RX7, "row", "(III)I"⟩
abbrev cX7_set : ByteArray := prog_1_method_3_code
def yX7_set : MethodName := ⟨RX7, "set", "(IIJ)I"⟩
abbrev cX7_copy : ByteArray := prog_1_method_4_code
def yX7_copy : MethodName := ⟨RX7, "copy", "(IIIII)I"⟩
abbrev cX7_element : ByteArray := prog_1_method_5_code
def yX7_element : MethodName := ⟨RX7, "element", "(II)J"⟩
abbrev cX7_holds : ByteArray := prog_1_method_6_code
def yX7_holds : MethodName := ⟨RX7, "holds", "(I)I"⟩
abbrev cX7_rule : ByteArray := prog_1_method_7_code
def yX7_rule : MethodName := ⟨RX7, "rule", "(III)I"⟩
abbrev cX7_says : ByteArray := prog_1_method_8_code
def yX7_says : MethodName := ⟨RX7, "says", "(II)I"⟩
abbrev cX7_feed : ByteArray := prog_1_method_9_code
def yX7_feed : MethodName := ⟨RX7, "feed", "(II)I"⟩
abbrev cX7_wipe : ByteArray := prog_1_method_10_code
def yX7_wipe : MethodName := ⟨RX7, "wipe", "()I"⟩
abbrev cX7_house : ByteArray := prog_1_method_11_code
def yX7_house : MethodName := ⟨RX7, "house", "()I"⟩
abbrev cX7_houseOf : ByteArray := prog_1_method_12_code
def yX7_houseOf : MethodName := ⟨RX7, "houseOf", "(II)I"⟩
abbrev cX7_sortOf : ByteArray := prog_1_method_13_code
def yX7_sortOf : MethodName := ⟨RX7, "sortOf", "(III)I"⟩
abbrev cX7_alter : ByteArray := prog_1_method_14_code
def yX7_alter : MethodName := ⟨RX7, "alter", "(III)I"⟩
abbrev cX7_change : ByteArray := prog_1_method_15_code
def yX7_change : MethodName := ⟨RX7, "change", "(IIII)I"⟩
abbrev cX7_of : ByteArray := prog_1_method_16_code
def yX7_of : MethodName := ⟨RX7, "of", "(II)I"⟩
abbrev cX7_space : ByteArray := prog_1_method_17_code
def yX7_space : MethodName := ⟨RX7, "space", "(II)I"⟩
abbrev cX7_scale : ByteArray := prog_1_method_18_code
def yX7_scale : MethodName := ⟨RX7, "scale", "(II)J"⟩
abbrev cX7_cost : ByteArray := prog_1_method_19_code
def yX7_cost : MethodName := ⟨RX7, "cost", "(III)J"⟩
abbrev cX7_best : ByteArray := prog_1_method_20_code
def yX7_best : MethodName := ⟨RX7, "best", "(III)I"⟩
abbrev cX7_fill : ByteArray := prog_1_method_21_code
def yX7_fill : MethodName := ⟨RX7, "fill", "(II)I"⟩
abbrev cX7_waits : ByteArray := prog_1_method_22_code
def yX7_waits : MethodName := ⟨RX7, "waits", "(III)J"⟩
abbrev cX7_once : ByteArray := prog_1_method_23_code
def yX7_once : MethodName := ⟨RX7, "once", "(III)J"⟩
abbrev cX7_dear : ByteArray := prog_1_method_24_code
def yX7_dear : MethodName := ⟨RX7, "dear", "(IIII)J"⟩
abbrev cX7_promise : ByteArray := prog_1_method_25_code
def yX7_promise : MethodName := ⟨RX7, "promise", "(II)J"⟩
abbrev cX7_shape : ByteArray := prog_1_method_26_code
def yX7_shape : MethodName := ⟨RX7, "shape", "(II)I"⟩
abbrev cX7_odd : ByteArray := prog_1_method_27_code
def yX7_odd : MethodName := ⟨RX7, "odd", "(II)I"⟩
abbrev cX7_judge : ByteArray := prog_1_method_28_code
def yX7_judge : MethodName := ⟨RX7, "judge", "(III)I"⟩
abbrev cX7_load : ByteArray := prog_1_method_29_code
def yX7_load : MethodName := ⟨RX7, "load", "(IIII)I"⟩
abbrev cX7_mean : ByteArray := prog_1_method_30_code
def yX7_mean : MethodName := ⟨RX7, "mean", "(IIII)J"⟩
abbrev cX7_lose : ByteArray := prog_1_method_31_code
def yX7_lose : MethodName := ⟨RX7, "lose", "(IIII)J"⟩
abbrev cX7_boy : ByteArray := prog_1_method_32_code
def yX7_boy : MethodName := ⟨RX7, "boy", "(I)I"⟩
abbrev cX7_chance : ByteArray := prog_1_method_33_code
def yX7_chance : MethodName := ⟨RX7, "chance", "(IIII)J"⟩
abbrev cX7_reach : ByteArray := prog_1_method_34_code
def yX7_reach : MethodName := ⟨RX7, "reach", "(III)I"⟩
abbrev cX7_held : ByteArray := prog_1_method_35_code
def yX7_held : MethodName := ⟨RX7, "held", "(III)J"⟩
abbrev cX7_boxes : ByteArray := prog_1_method_36_code
def yX7_boxes : MethodName := ⟨RX7, "boxes", "(II)J"⟩
abbrev cX7_plain : ByteArray := prog_1_method_37_code
def yX7_plain : MethodName := ⟨RX7, "plain", "(I)I"⟩
abbrev cX7_every : ByteArray := prog_1_method_38_code
def yX7_every : MethodName := ⟨RX7, "every", "(I)I"⟩
abbrev cX7_join : ByteArray := prog_1_method_39_code
def yX7_join : MethodName := ⟨RX7, "join", "(II)I"⟩
abbrev cX7_saved : ByteArray := prog_1_method_40_code
def yX7_saved : MethodName := ⟨RX7, "saved", "(II)J"⟩
abbrev cX7_seed : ByteArray := prog_1_method_41_code
def yX7_seed : MethodName := ⟨RX7, "seed", "(I)I"⟩
abbrev cX7_begin : ByteArray := prog_1_method_42_code
def yX7_begin : MethodName := ⟨RX7, "begin", "(II)I"⟩
abbrev cX7_step : ByteArray := prog_1_method_43_code
def yX7_step : MethodName := ⟨RX7, "step", "(I)I"⟩
abbrev cX7_week : ByteArray := prog_1_method_44_code
def yX7_week : MethodName := ⟨RX7, "week", "(I)I"⟩
abbrev cX7_weeks : ByteArray := prog_1_method_45_code
def yX7_weeks : MethodName := ⟨RX7, "weeks", "(III)I"⟩
abbrev cX7_passDays : ByteArray := prog_1_method_46_code
def yX7_passDays : MethodName := ⟨RX7, "passDays", "(LSendTheBox$Week;LSendTheBox$Plan;I)I"⟩
abbrev cX7_image : ByteArray := prog_1_method_47_code
def yX7_image : MethodName := ⟨RX7, "image", "()I"⟩
abbrev cX7_back : ByteArray := prog_1_method_48_code
def yX7_back : MethodName := ⟨RX7, "back", "()I"⟩
abbrev cX7_status : ByteArray := prog_1_method_49_code
def yX7_status : MethodName := ⟨RX7, "status", "(I)I"⟩
abbrev cX7_refuse : ByteArray := prog_1_method_50_code
def yX7_refuse : MethodName := ⟨RX7, "refuse", "(I)I"⟩
abbrev cX7_isShelf : ByteArray := prog_1_method_51_code
def yX7_isShelf : MethodName := ⟨RX7, "isShelf", "(I)Z"⟩
abbrev cX7_rowAt : ByteArray := prog_1_method_52_code
def yX7_rowAt : MethodName := ⟨RX7, "rowAt", "(I)LSendTheBox$Row;"⟩
abbrev cX7_ruleAt : ByteArray := prog_1_method_53_code
def yX7_ruleAt : MethodName := ⟨RX7, "ruleAt", "(I)LSendTheBox$Rule;"⟩
abbrev cX7_ruleFor : ByteArray := prog_1_method_54_code
def yX7_ruleFor : MethodName := ⟨RX7, "ruleFor", "(LSendTheBox$Plan;I)LSendTheBox$Rule;"⟩
abbrev cX7_lackOnShelf : ByteArray := prog_1_method_55_code
def yX7_lackOnShelf : MethodName := ⟨RX7, "lackOnShelf", "(I)I"⟩
abbrev cX7_putOnShelf : ByteArray := prog_1_method_56_code
def yX7_putOnShelf : MethodName := ⟨RX7, "putOnShelf", "(ILSendTheBox$Row;LSendTheBox$Rule;)V"⟩
abbrev cX7_shelvesInUse : ByteArray := prog_1_method_57_code
def yX7_shelvesInUse : MethodName := ⟨RX7, "shelvesInUse", "()I"⟩
abbrev cX7_planOf : ByteArray := prog_1_method_58_code
def yX7_planOf : MethodName := ⟨RX7, "planOf", "(I)LSendTheBox$Plan;"⟩
abbrev cX7_standing : ByteArray := prog_1_method_59_code
def yX7_standing : MethodName := ⟨RX7, "standing", "(II)I"⟩
abbrev cX7_oneOf : ByteArray := prog_1_method_60_code
def yX7_oneOf : MethodName := ⟨RX7, "oneOf", "(I)I"⟩
abbrev cX7_timesOf : ByteArray := prog_1_method_61_code
def yX7_timesOf : MethodName := ⟨RX7, "timesOf", "(I)J"⟩
abbrev cX7_scaleOf : ByteArray := prog_1_method_62_code
def yX7_scaleOf : MethodName := ⟨RX7, "scaleOf", "(II)J"⟩
abbrev cX7_at : ByteArray := prog_1_method_63_code
def yX7_at : MethodName := ⟨RX7, "at", "([II)I"⟩
abbrev cX7_at_ : ByteArray := prog_1_method_64_code
def yX7_at_ : MethodName := ⟨RX7, "at", "([JI)J"⟩
abbrev cX7_put : ByteArray := prog_1_method_65_code
def yX7_put : MethodName := ⟨RX7, "put", "([III)V"⟩
abbrev cX7_put_ : ByteArray := prog_1_method_66_code
def yX7_put_ : MethodName := ⟨RX7, "put", "([JIJ)V"⟩
def RX8 : String := "SendTheBoxModel"
def TX8 : u_T := fun k => match k with
  | 0 => ("SendTheBoxModel", "shelf", "[I", true)
  | 1 => ("SendTheBoxModel", "rowSort", "[I", true)
  | 2 => ("SendTheBoxModel", "rowSize", "[I", true)
  | 3 => ("SendTheBoxModel", "rows", "[[J", true)
  | 4 => ("SendTheBoxModel", "moved", "[J", true)
  | 5 => ("SendTheBoxModel", "ruleKind", "[I", true)
  | 6 => ("SendTheBoxModel", "ruleBy", "[I", true)
  | 7 => ("SendTheBoxModel", "ruleTold", "[[I", true)
  | 8 => ("SendTheBoxModel", "tape", "[I", true)
  | 9 => ("SendTheBoxModel", "tapeSize", "I", false)
  | 10 => ("SendTheBoxModel", "refused", "[I", true)
  | 11 => ("SendTheBoxModel", "houses", "I", false)
  | 12 => ("SendTheBoxModel", "house", "[[I", true)
  | 13 => ("SendTheBoxModel", "seed", "I", false)
  | 14 => ("SendTheBoxModel", "under", "I", false)
  | 15 => ("SendTheBoxModel", "underLeft", "I", false)
  | 16 => ("SendTheBoxModel", "underState", "I", false)
  | 17 => ("SendTheBoxModel", "underCoins", "I", false)
  | 18 => ("SendTheBoxModel", "underBoxes", "I", false)
  | 19 => ("SendTheBoxModel", "underSent", "I", false)
  | 20 => ("SendTheBoxModel", "underRefused", "I", false)
  | 21 => ("SendTheBoxModel", "kept", "LSendTheBoxModel;", false)
  | 22 => ("SendTheBoxModel", "ruleSize", "[I", true)
  | 23 => ("SendTheBoxModel", "at", "I", false)
  | 24 => ("SendTheBoxModel", "token", "I", false)
  | 25 => ("SendTheBoxModel", "from", "I", false)
  | 26 => ("SendTheBoxModel", "figures", "J", false)
  | 27 => ("SendTheBoxModel", "fault", "I", false)
  | 28 => ("SendTheBoxModel", "costs", "[[J", true)
  | 29 => ("SendTheBoxModel", "loads", "[[I", true)
  | 30 => ("SendTheBoxModel", "byRule", "[[J", true)
  | 31 => ("SendTheBoxModel", "weights", "[J", true)
  | 32 => ("SendTheBoxModel", "thens", "[[I", true)
  | 33 => ("SendTheBoxModel", "refusedBy", "[[I", true)
  | 34 => ("SendTheBoxModel", "filled", "[I", true)
  | 35 => ("SendTheBoxModel", "roomOf", "[I", true)
  | 36 => ("SendTheBoxModel", "holdOf", "[I", true)
  | 37 => ("SendTheBoxModel", "waited", "[J", true)
  | 38 => ("SendTheBoxModel", "chances", "[[J", true)
  | 39 => ("SendTheBoxModel", "must", "I", false)
  | 40 => ("SendTheBoxModel", "leastRoom", "I", false)
  | 41 => ("SendTheBoxModel", "mostRoom", "I", false)
  | 42 => ("SendTheBoxModel", "boxes", "I", false)
  | 43 => ("SendTheBoxModel", "sent", "I", false)
  | 44 => ("SendTheBoxModel", "notTaken", "I", false)
  | _ => ("SendTheBoxModel", "stands", "I", false)
def tyX8 : Nat → FieldType := fun k => match k with
  | 0 => .array .int
  | 1 => .array .int
  | 2 => .array .int
  | 3 => .array (.array .long)
  | 4 => .array .long
  | 5 => .array .int
  | 6 => .array .int
  | 7 => .array (.array .int)
  | 8 => .array .int
  | 9 => .int
  | 10 => .array .int
  | 11 => .int
  | 12 => .array (.array .int)
  | 13 => .int
  | 14 => .int
  | 15 => .int
  | 16 => .int
  | 17 => .int
  | 18 => .int
  | 19 => .int
  | 20 => .int
  | 21 => .object "SendTheBoxModel"
  | 22 => .array .int
  | 23 => .int
  | 24 => .int
  | 25 => .int
  | 26 => .long
  | 27 => .int
  | 28 => .array (.array .long)
  | 29 => .array (.array .int)
  | 30 => .array (.array .long)
  | 31 => .array .long
  | 32 => .array (.array .int)
  | 33 => .array (.array .int)
  | 34 => .array .int
  | 35 => .array .int
  | 36 => .array .int
  | 37 => .array .long
  | 38 => .array (.array .long)
  | 39 => .int
  | 40 => .int
  | 41 => .int
  | 42 => .int
  | 43 => .int
  | 44 => .int
  | _ => .int
abbrev wsX80 : List Cond := u_ws RX8 TX8 46
theorem nmX8 : ∀ a, a < 46 → ∀ b, b < 46 → a ≠ b → (TX8 a).2.1 ≠ (TX8 b).2.1 := by decide +kernel
theorem tyX8_ok : ∀ k, k < 46 → parseFieldDescriptor (TX8 k).2.2.1 = some (tyX8 k) := by decide +kernel
abbrev cX8_init : ByteArray := prog_10_method_1_code
def yX8_init : MethodName := ⟨RX8, "<init>", "()V"⟩
abbrev cX8_refuse : ByteArray := prog_10_method_2_code
def yX8_refuse : MethodName := ⟨RX8, "refuse", "(I)I"⟩
abbrev cX8_in : ByteArray := prog_10_method_3_code
def yX8_in : MethodName := ⟨RX8, "in", "(JJJ)Z"⟩
abbrev cX8_isHouse : ByteArray := prog_10_method_4_code
def yX8_isHouse : MethodName := ⟨RX8, "isHouse", "(I)Z"⟩
abbrev cX8_power : ByteArray := prog_10_method_5_code
def yX8_power : MethodName := ⟨RX8, "power", "(II)I"⟩
abbrev cX8_sorts : ByteArray := prog_10_method_6_code
def yX8_sorts : MethodName := ⟨RX8, "sorts", "(I)I"⟩
abbrev cX8_states : ByteArray := prog_10_method_7_code
def yX8_states : MethodName := ⟨RX8, "states", "(I)I"⟩
abbrev cX8_isState : ByteArray := prog_10_method_8_code
def yX8_isState : MethodName := ⟨RX8, "isState", "(II)Z"⟩
abbrev cX8_isLeft : ByteArray := prog_10_method_9_code
def yX8_isLeft : MethodName := ⟨RX8, "isLeft", "(II)Z"⟩
abbrev cX8_row : ByteArray := prog_10_method_10_code
def yX8_row : MethodName := ⟨RX8, "row", "(III)I"⟩
abbrev cX8_fit : ByteArray := prog_10_method_11_code
def yX8_fit : MethodName := ⟨RX8, "fit", "(IJ)J"⟩
abbrev cX8_set : ByteArray := prog_10_method_12_code
def yX8_set : MethodName := ⟨RX8, "set", "(IIJ)I"⟩
abbrev cX8_copy : ByteArray := prog_10_method_13_code
def yX8_copy : MethodName := ⟨RX8, "copy", "(IIIII)I"⟩
abbrev cX8_element : ByteArray := prog_10_method_14_code
def yX8_element : MethodName := ⟨RX8, "element", "(II)J"⟩
abbrev cX8_holds : ByteArray := prog_10_method_15_code
def yX8_holds : MethodName := ⟨RX8, "holds", "(I)I"⟩
abbrev cX8_mayBy : ByteArray := prog_10_method_16_code
def yX8_mayBy : MethodName := ⟨RX8, "mayBy", "(II)Z"⟩
abbrev cX8_rule : ByteArray := prog_10_method_17_code
def yX8_rule : MethodName := ⟨RX8, "rule", "(III)I"⟩
abbrev cX8_says : ByteArray := prog_10_method_18_code
def yX8_says : MethodName := ⟨RX8, "says", "(II)I"⟩
abbrev cX8_feed : ByteArray := prog_10_method_19_code
def yX8_feed : MethodName := ⟨RX8, "feed", "(II)I"⟩
abbrev cX8_wipe : ByteArray := prog_10_method_20_code
def yX8_wipe : MethodName := ⟨RX8, "wipe", "()I"⟩
abbrev cX8_isLetter : ByteArray := prog_10_method_21_code
def yX8_isLetter : MethodName := ⟨RX8, "isLetter", "(I)Z"⟩
abbrev cX8_isDigit : ByteArray := prog_10_method_22_code
def yX8_isDigit : MethodName := ⟨RX8, "isDigit", "(I)Z"⟩
abbrev cX8_look : ByteArray := prog_10_method_23_code
def yX8_look : MethodName := ⟨RX8, "look", "()V"⟩
abbrev cX8_wrong : ByteArray := prog_10_method_24_code
def yX8_wrong : MethodName := ⟨RX8, "wrong", "()Z"⟩
abbrev cX8_isWord : ByteArray := prog_10_method_25_code
def yX8_isWord : MethodName := ⟨RX8, "isWord", "(Ljava/lang/String;)Z"⟩
abbrev cX8_told : ByteArray := prog_10_method_26_code
def yX8_told : MethodName := ⟨RX8, "told", "(Ljava/lang/String;[IIII)Z"⟩
abbrev cX8_statement : ByteArray := prog_10_method_27_code
def yX8_statement : MethodName := ⟨RX8, "statement", "([I)Z"⟩
abbrev cX8_read : ByteArray := prog_10_method_28_code
def yX8_read : MethodName := ⟨RX8, "read", "([I)Z"⟩
abbrev cX8_house : ByteArray := prog_10_method_29_code
def yX8_house : MethodName := ⟨RX8, "house", "()I"⟩
abbrev cX8_houseOf : ByteArray := prog_10_method_30_code
def yX8_houseOf : MethodName := ⟨RX8, "houseOf", "(II)I"⟩
abbrev cX8_sortOf : ByteArray := prog_10_method_31_code
def yX8_sortOf : MethodName := ⟨RX8, "sortOf", "(III)I"⟩
abbrev cX8_alter : ByteArray := prog_10_method_32_code
def yX8_alter : MethodName := ⟨RX8, "alter", "(III)I"⟩
abbrev cX8_change : ByteArray := prog_10_method_33_code
def yX8_change : MethodName := ⟨RX8, "change", "(IIII)I"⟩
abbrev cX8_ofState : ByteArray := prog_10_method_34_code
def yX8_ofState : MethodName := ⟨RX8, "ofState", "(II)I"⟩
abbrev cX8_of : ByteArray := prog_10_method_35_code
def yX8_of : MethodName := ⟨RX8, "of", "(II)I"⟩
abbrev cX8_numberOf : ByteArray := prog_10_method_36_code
def yX8_numberOf : MethodName := ⟨RX8, "numberOf", "(III)I"⟩
abbrev cX8_sum : ByteArray := prog_10_method_37_code
def yX8_sum : MethodName := ⟨RX8, "sum", "(III)I"⟩
abbrev cX8_space : ByteArray := prog_10_method_38_code
def yX8_space : MethodName := ⟨RX8, "space", "(II)I"⟩
abbrev cX8_scaleOf : ByteArray := prog_10_method_39_code
def yX8_scaleOf : MethodName := ⟨RX8, "scaleOf", "(II)J"⟩
abbrev cX8_scale : ByteArray := prog_10_method_40_code
def yX8_scale : MethodName := ⟨RX8, "scale", "(II)J"⟩
abbrev cX8_isLoad : ByteArray := prog_10_method_41_code
def yX8_isLoad : MethodName := ⟨RX8, "isLoad", "(III)Z"⟩
abbrev cX8_fillOf : ByteArray := prog_10_method_42_code
def yX8_fillOf : MethodName := ⟨RX8, "fillOf", "(II)I"⟩
abbrev cX8_fill : ByteArray := prog_10_method_43_code
def yX8_fill : MethodName := ⟨RX8, "fill", "(II)I"⟩
abbrev cX8_findWays : ByteArray := prog_10_method_44_code
def yX8_findWays : MethodName := ⟨RX8, "findWays", "(I)V"⟩
abbrev cX8_behind : ByteArray := prog_10_method_45_code
def yX8_behind : MethodName := ⟨RX8, "behind", "(III[J)J"⟩
abbrev cX8_boxOf : ByteArray := prog_10_method_46_code
def yX8_boxOf : MethodName := ⟨RX8, "boxOf", "(II)J"⟩
abbrev cX8_findBest : ByteArray := prog_10_method_47_code
def yX8_findBest : MethodName := ⟨RX8, "findBest", "(I)V"⟩
abbrev cX8_withLoad : ByteArray := prog_10_method_48_code
def yX8_withLoad : MethodName := ⟨RX8, "withLoad", "(IIII[J)J"⟩
abbrev cX8_cost : ByteArray := prog_10_method_49_code
def yX8_cost : MethodName := ⟨RX8, "cost", "(III)J"⟩
abbrev cX8_best : ByteArray := prog_10_method_50_code
def yX8_best : MethodName := ⟨RX8, "best", "(III)I"⟩
abbrev cX8_loadBy : ByteArray := prog_10_method_51_code
def yX8_loadBy : MethodName := ⟨RX8, "loadBy", "(IIII)I"⟩
abbrev cX8_fillsBy : ByteArray := prog_10_method_52_code
def yX8_fillsBy : MethodName := ⟨RX8, "fillsBy", "(IIII)Z"⟩
abbrev cX8_noRule : ByteArray := prog_10_method_53_code
def yX8_noRule : MethodName := ⟨RX8, "noRule", "(I)I"⟩
abbrev cX8_load : ByteArray := prog_10_method_54_code
def yX8_load : MethodName := ⟨RX8, "load", "(IIII)I"⟩
abbrev cX8_findByRule : ByteArray := prog_10_method_55_code
def yX8_findByRule : MethodName := ⟨RX8, "findByRule", "(II)V"⟩
abbrev cX8_goesByRule : ByteArray := prog_10_method_56_code
def yX8_goesByRule : MethodName := ⟨RX8, "goesByRule", "(II)V"⟩
abbrev cX8_byShelf : ByteArray := prog_10_method_57_code
def yX8_byShelf : MethodName := ⟨RX8, "byShelf", "(IIIIZ)J"⟩
abbrev cX8_mean : ByteArray := prog_10_method_58_code
def yX8_mean : MethodName := ⟨RX8, "mean", "(IIII)J"⟩
abbrev cX8_lose : ByteArray := prog_10_method_59_code
def yX8_lose : MethodName := ⟨RX8, "lose", "(IIII)J"⟩
abbrev cX8_boy : ByteArray := prog_10_method_60_code
def yX8_boy : MethodName := ⟨RX8, "boy", "(I)I"⟩
abbrev cX8_waits : ByteArray := prog_10_method_61_code
def yX8_waits : MethodName := ⟨RX8, "waits", "(III)J"⟩
abbrev cX8_once : ByteArray := prog_10_method_62_code
def yX8_once : MethodName := ⟨RX8, "once", "(III)J"⟩
abbrev cX8_goesOn : ByteArray := prog_10_method_63_code
def yX8_goesOn : MethodName := ⟨RX8, "goesOn", "(IIJ[J)V"⟩
abbrev cX8_findChances : ByteArray := prog_10_method_64_code
def yX8_findChances : MethodName := ⟨RX8, "findChances", "(II)V"⟩
abbrev cX8_chance : ByteArray := prog_10_method_65_code
def yX8_chance : MethodName := ⟨RX8, "chance", "(IIII)J"⟩
abbrev cX8_reach : ByteArray := prog_10_method_66_code
def yX8_reach : MethodName := ⟨RX8, "reach", "(III)I"⟩
abbrev cX8_meanOf : ByteArray := prog_10_method_67_code
def yX8_meanOf : MethodName := ⟨RX8, "meanOf", "(III)J"⟩
abbrev cX8_held : ByteArray := prog_10_method_68_code
def yX8_held : MethodName := ⟨RX8, "held", "(III)J"⟩
abbrev cX8_boxes : ByteArray := prog_10_method_69_code
def yX8_boxes : MethodName := ⟨RX8, "boxes", "(II)J"⟩
abbrev cX8_leastOf : ByteArray := prog_10_method_70_code
def yX8_leastOf : MethodName := ⟨RX8, "leastOf", "(IIII)I"⟩
abbrev cX8_hasRoom : ByteArray := prog_10_method_71_code
def yX8_hasRoom : MethodName := ⟨RX8, "hasRoom", "(II)Z"⟩
abbrev cX8_plain : ByteArray := prog_10_method_72_code
def yX8_plain : MethodName := ⟨RX8, "plain", "(I)I"⟩
abbrev cX8_every : ByteArray := prog_10_method_73_code
def yX8_every : MethodName := ⟨RX8, "every", "(I)I"⟩
abbrev cX8_promise : ByteArray := prog_10_method_74_code
def yX8_promise : MethodName := ⟨RX8, "promise", "(II)J"⟩
abbrev cX8_dear : ByteArray := prog_10_method_75_code
def yX8_dear : MethodName := ⟨RX8, "dear", "(IIII)J"⟩
abbrev cX8_findRooms : ByteArray := prog_10_method_76_code
def yX8_findRooms : MethodName := ⟨RX8, "findRooms", "(II)Z"⟩
abbrev cX8_shape : ByteArray := prog_10_method_77_code
def yX8_shape : MethodName := ⟨RX8, "shape", "(II)I"⟩
abbrev cX8_odd : ByteArray := prog_10_method_78_code
def yX8_odd : MethodName := ⟨RX8, "odd", "(II)I"⟩
abbrev cX8_judge : ByteArray := prog_10_method_79_code
def yX8_judge : MethodName := ⟨RX8, "judge", "(III)I"⟩
abbrev cX8_mayJoin : ByteArray := prog_10_method_80_code
def yX8_mayJoin : MethodName := ⟨RX8, "mayJoin", "(II)Z"⟩
abbrev cX8_joinTo : ByteArray := prog_10_method_81_code
def yX8_joinTo : MethodName := ⟨RX8, "joinTo", "(III)V"⟩
abbrev cX8_join : ByteArray := prog_10_method_82_code
def yX8_join : MethodName := ⟨RX8, "join", "(II)I"⟩
abbrev cX8_wholeCost : ByteArray := prog_10_method_83_code
def yX8_wholeCost : MethodName := ⟨RX8, "wholeCost", "(I)J"⟩
abbrev cX8_saved : ByteArray := prog_10_method_84_code
def yX8_saved : MethodName := ⟨RX8, "saved", "(II)J"⟩
abbrev cX8_seed : ByteArray := prog_10_method_85_code
def yX8_seed : MethodName := ⟨RX8, "seed", "(I)I"⟩
abbrev cX8_draw : ByteArray := prog_10_method_86_code
def yX8_draw : MethodName := ⟨RX8, "draw", "()I"⟩
abbrev cX8_day : ByteArray := prog_10_method_87_code
def yX8_day : MethodName := ⟨RX8, "day", "(IIII)I"⟩
abbrev cX8_begin : ByteArray := prog_10_method_88_code
def yX8_begin : MethodName := ⟨RX8, "begin", "(II)I"⟩
abbrev cX8_step : ByteArray := prog_10_method_89_code
def yX8_step : MethodName := ⟨RX8, "step", "(I)I"⟩
abbrev cX8_week : ByteArray := prog_10_method_90_code
def yX8_week : MethodName := ⟨RX8, "week", "(I)I"⟩
abbrev cX8_weeks : ByteArray := prog_10_method_91_code
def yX8_weeks : MethodName := ⟨RX8, "weeks", "(III)I"⟩
abbrev cX8_takeFrom : ByteArray := prog_10_method_92_code
def yX8_takeFrom : MethodName := ⟨RX8, "takeFrom", "(LSendTheBoxModel;)V"⟩
abbrev cX8_image : ByteArray := prog_10_method_93_code
def yX8_image : MethodName := ⟨RX8, "image", "()I"⟩
abbrev cX8_back : ByteArray := prog_10_method_94_code
def yX8_back : MethodName := ⟨RX8, "back", "()I"⟩
abbrev cX8_status : ByteArray := prog_10_method_95_code
def yX8_status : MethodName := ⟨RX8, "status", "(I)I"⟩
def RJ9 : String := "java/lang/Math"
abbrev cJ9_max_7cf53 : ByteArray := prog_11_method_65_code
def yJ9_max_7cf53 : MethodName := ⟨RJ9, "max", "(II)I"⟩
abbrev cJ9_max_f86c9 : ByteArray := prog_11_method_66_code
def yJ9_max_f86c9 : MethodName := ⟨RJ9, "max", "(JJ)J"⟩
abbrev cJ9_min_7cf53 : ByteArray := prog_11_method_69_code
def yJ9_min_7cf53 : MethodName := ⟨RJ9, "min", "(II)I"⟩
def RJ0 : String := "java/lang/String"
abbrev cJ0_length_8abf5 : ByteArray := prog_12_method_54_code
def yJ0_length_8abf5 : MethodName := ⟨RJ0, "length", "()I"⟩
abbrev cJ0_charAt_5068e : ByteArray := prog_12_method_56_code
def yJ0_charAt_5068e : MethodName := ⟨RJ0, "charAt", "(I)C"⟩
abbrev cJ0_coder_7d493 : ByteArray := prog_12_method_152_code
def yJ0_coder_7d493 : MethodName := ⟨RJ0, "coder", "()B"⟩
abbrev cJ0_isLatin1_aae02 : ByteArray := prog_12_method_154_code
def yJ0_isLatin1_aae02 : MethodName := ⟨RJ0, "isLatin1", "()Z"⟩
abbrev cJ0_checkIndex_df160 : ByteArray := prog_12_method_155_code
def yJ0_checkIndex_df160 : MethodName := ⟨RJ0, "checkIndex", "(II)V"⟩
def RJ1 : String := "java/lang/StringLatin1"
abbrev cJ1_charAt_3b067 : ByteArray := prog_13_method_2_code
def yJ1_charAt_3b067 : MethodName := ⟨RJ1, "charAt", "([BI)C"⟩
def RJ2 : String := "java/lang/StringUTF16"
abbrev cJ2_getChar_3b067 : ByteArray := prog_14_method_5_code
def yJ2_getChar_3b067 : MethodName := ⟨RJ2, "getChar", "([BI)C"⟩
abbrev cJ2_length_9d52b : ByteArray := prog_14_method_6_code
def yJ2_length_9d52b : MethodName := ⟨RJ2, "length", "([B)I"⟩
abbrev cJ2_charAt_3b067 : ByteArray := prog_14_method_83_code
def yJ2_charAt_3b067 : MethodName := ⟨RJ2, "charAt", "([BI)C"⟩
abbrev cJ2_checkIndex_2214a : ByteArray := prog_14_method_91_code
def yJ2_checkIndex_2214a : MethodName := ⟨RJ2, "checkIndex", "(I[B)V"⟩
def RJ10 : String := "java/lang/System"
def RJ3 : String := "jdk/internal/util/Preconditions"
abbrev cJ3_checkIndex_8e157 : ByteArray := prog_16_method_11_code
def yJ3_checkIndex_8e157 : MethodName := ⟨RJ3, "checkIndex", "(IILjava/util/function/BiFunction;)I"⟩
def RL : String := "SendTheBoxLaw"
abbrev cL_law : ByteArray := code
def yL_law : MethodName := ⟨RL, "law", "([I)Z"⟩
abbrev vwCl : List vw_C := [(RX0, TX0, 1), (RX1, TX1, 15), (RX2, TX2, 2), (RX3, TX3, 4), (RX4, TX4, 5), (RX5, TX5, 8), (RX6, TX6, 4), (RX7, TX7, 12), (RX8, TX8, 46)]
end
section
/-! THE FLAT MEMORY. Every object and array that the run makes lies at an address from 'lo' on; what it is (class, or element type and length) and which cells it names is the geometry G; the numbers in it are the values V. -/
/-- first own address; class and slot numbers; the array classes; the heap at the start; where the texts lie, where their bytes lie -/
abbrev zP : Type := Nat × va_G × (Nat → ClassId) × Heap × (Nat → Nat) × (Nat → Nat)
/-- one past the last address; kind and length of each; reference fields (field, address); elements of arrays of references (address, place) -/
abbrev zG : Type := Nat × (Nat → Nat × Nat) × (Nat → Nat → Option Nat) × (Nat → Nat → Option Nat)
/-- int fields; long fields (field, address); elements of int and byte arrays; of long arrays (address, place) -/
abbrev zV : Type := (Nat → Nat → Int32) × (Nat → Nat → Int64) × (Nat → Nat → Int32) × (Nat → Nat → Int64)
/-- how a field is kept: 0 int or boolean, 1 long, 2 reference -/
def fTags : List (List Nat) := [[2], [2, 0, 0, 0, 2, 2, 2, 2, 2, 2, 2, 2, 2, 0, 0], [0, 2], [0, 0, 0, 2], [2, 0, 0, 0, 0], [2, 2, 0, 0, 0, 0, 0, 0], [2, 0, 0, 2], [2, 2, 0, 2, 2, 2, 2, 2, 2, 2, 2, 2],
  [2, 2, 2, 2, 2, 2, 2, 2, 2, 0, 2, 0, 2, 0, 0, 0, 0, 0, 0, 0, 0, 2, 2, 0, 0, 0, 1, 0, 2, 2, 2, 2, 2, 2, 2, 2, 2, 2, 2, 0, 0, 0, 0, 0, 0, 0]]
def fTag (c k : Nat) : Nat := (fTags.getD c []).getD k 0
def fN (c : Nat) : Nat := (fTags.getD c []).length
def zTy : Nat → FieldType := fun t => match t with
  | 0 => .byte
  | 1 => .int
  | 2 => .long
  | 3 => .object "SendTheBox$House"
  | 4 => .object "SendTheBox$Plan"
  | 5 => .object "SendTheBox$Row"
  | 6 => .object "SendTheBox$Rule"
  | 7 => .array .int
  | _ => .array .long
def fV (G : zG) (V : zV) (c k a : Nat) : Value := match fTag c k with
  | 0 => .int (V.1 (50 * c + k) a)
  | 1 => .long (V.2.1 (50 * c + k) a)
  | _ => va_rf (G.2.2.1 (50 * c + k) a)
def aV (G : zG) (V : zV) (t a j : Nat) : Value := match t with
  | 0 => .int (V.2.2.1 a j)
  | 1 => .int (V.2.2.1 a j)
  | 2 => .long (V.2.2.2 a j)
  | _ => va_rf (G.2.2.2 a j)
def cOK (Z : zP) (G : zG) (V : zV) (H : Heap) (a : Nat) : Prop :=
  ((G.2.1 a).1 < 9 → t_OB a (Z.2.1.1 (G.2.1 a).1) (fN (G.2.1 a).1) (Z.2.1.2 (G.2.1 a).1) H (fun k => fV G V (G.2.1 a).1 k a)) ∧
  (¬ (G.2.1 a).1 < 9 → H[a]? = some (arrV (Z.2.2.1 ((G.2.1 a).1 - 9)) (G.2.1 a).2 (fun j => aV G V ((G.2.1 a).1 - 9) a j)))
/-- nothing is kept at an address that is not made yet -/
def zFr (G : zG) (V : zV) : Prop := ∀ a f : Nat, G.1 ≤ a → V.1 f a = 0 ∧ V.2.1 f a = 0 ∧ G.2.2.1 f a = none ∧ V.2.2.1 a f = 0 ∧ V.2.2.2 a f = 0 ∧ G.2.2.2 a f = none
def MemOK (Z : zP) (G : zG) (V : zV) (H : Heap) : Prop := H.size = G.1 ∧ Z.1 ≤ G.1 ∧ (∀ a : Nat, Z.1 ≤ a → a < G.1 → cOK Z G V H a) ∧ zFr G V ∧ ∀ a : Nat, a < Z.1 → H[a]? = Z.2.2.2.1[a]?
/-- an object of class c -/
def isK (Z : zP) (G : zG) (a c : Nat) : Prop := Z.1 ≤ a ∧ a < G.1 ∧ (G.2.1 a).1 = c
/-- an array with elements of type t, of length n -/
def isA (Z : zP) (G : zG) (a t n : Nat) : Prop := Z.1 ≤ a ∧ a < G.1 ∧ G.2.1 a = (9 + t, n)
def u2 {α : Type} (f : Nat → Nat → α) (i j : Nat) (v : α) : Nat → Nat → α := fun x y => if x = i ∧ y = j then v else f x y
def sI (V : zV) (f a : Nat) (v : Int32) : zV := (u2 V.1 f a v, V.2)
def sL (V : zV) (f a : Nat) (v : Int64) : zV := (V.1, u2 V.2.1 f a v, V.2.2)
def sAI (V : zV) (a i : Nat) (v : Int32) : zV := (V.1, V.2.1, u2 V.2.2.1 a i v, V.2.2.2)
def sAJ (V : zV) (a i : Nat) (v : Int64) : zV := (V.1, V.2.1, V.2.2.1, u2 V.2.2.2 a i v)
def sR (G : zG) (f a : Nat) (v : Option Nat) : zG := (G.1, G.2.1, u2 G.2.2.1 f a v, G.2.2.2)
def sAR (G : zG) (a i : Nat) (v : Option Nat) : zG := (G.1, G.2.1, G.2.2.1, u2 G.2.2.2 a i v)
/-- one cell more, of kind t (9 and more: an array of n elements) -/
def nG (G : zG) (t n : Nat) : zG := (G.1 + 1, va_up G.2.1 G.1 (t, n), G.2.2)
def zTys (Z : zP) : List (ClassId × FieldType) := (List.range 9).map (fun t => (Z.2.2.1 t, zTy t))
theorem zTys_at (Z : zP) {t : Nat} (h : t < 9) : (zTys Z)[t]? = some (Z.2.2.1 t, zTy t) := by
  unfold zTys
  rw [List.getElem?_map, List.getElem?_range h]
  rfl
/-- the words that every contract takes -/
def WA : List Cond := lw_tbl.filter goodWord
theorem WA_in {w : Cond} (h : w ∈ lw_tbl) (h2 : goodWord w = true) : w ∈ WA := List.mem_filter.mpr ⟨h, h2⟩
theorem WA_tbl {w : Cond} (h : w ∈ WA) : w ∈ lw_tbl := (List.mem_filter.mp h).1
theorem WA_good : GoodIn WA WA := fun w h => ⟨h, good_of_word (List.mem_filter.mp h).2⟩
def nestW : Cond → Bool
  | .fieldLinkNest .. => true
  | .methodLinkNest .. => true
  | _ => false
def WN : List Cond := tables_1.filter nestW
def WO : List FieldType := [.object "SendTheBox$House", .object "SendTheBox$Plan", .object "SendTheBox$Row", .object "SendTheBox$Rule"]
def WO2 : List FieldType := [.array .int, .array .long]
/-- the texts of the class and of the reference: class, entry, text, which of the nine it is -/
def sTab : List (String × Nat × String × Nat) := [(RX4, 44, "days", 0), (RX4, 54, "box", 1), (RX4, 56, "room", 2), (RX4, 58, "full", 3), (RX4, 60, "sort", 4), (RX4, 91, "comes", 5), (RX4, 93, "hold", 6), (RX4, 95, "refuse", 7), (RX4, 97, "left", 8), (RX8, 188, "days", 0), (RX8, 194, "box", 1), (RX8, 196, "room", 2), (RX8, 198, "full", 3), (RX8, 200, "sort", 4), (RX8, 202, "comes", 5), (RX8, 204, "hold", 6), (RX8, 206, "refuse", 7), (RX8, 207, "left", 8)]
/-- their letters -/
def sW : Nat → List Nat := fun i => match i with
  | 0 => [100, 97, 121, 115]
  | 1 => [98, 111, 120]
  | 2 => [114, 111, 111, 109]
  | 3 => [102, 117, 108, 108]
  | 4 => [115, 111, 114, 116]
  | 5 => [99, 111, 109, 101, 115]
  | 6 => [104, 111, 108, 100]
  | 7 => [114, 101, 102, 117, 115, 101]
  | _ => [108, 101, 102, 116]
def AmbS (Z : zP) (U : State) : Prop := (∀ q ∈ sTab, vk_R q.1 q.2.1 q.2.2.1 (Z.2.2.2.2.1 q.2.2.2) U) ∧
  (∀ i : Nat, i < 9 → va_O "java/lang/String" (Z.2.2.2.2.1 i) (fun q => Z.1 ≤ q) U Z.2.2.2.1 ∧ va_OF "java/lang/String" "coder" "B" (.int 0) (Z.2.2.2.2.1 i) (fun q => Z.1 ≤ q) U Z.2.2.2.1 ∧ va_OF "java/lang/String" "value" "[B" (.ref (Z.2.2.2.2.2 i)) (Z.2.2.2.2.1 i) (fun q => Z.1 ≤ q) U Z.2.2.2.1 ∧ va_T .byte (Z.2.2.2.2.2 i) (sW i).length (fun j => .int (nI ((sW i).getD j 0))) (fun q => Z.1 ≤ q) U Z.2.2.2.1) ∧
  va_Z "java/lang/String" "COMPACT_STRINGS" "Z" (.int 1) (fun q => Z.1 ≤ q) U Z.2.2.2.1 ∧ va_Zq "jdk/internal/util/Preconditions" "SIOOBE_FORMATTER" "Ljava/util/function/BiFunction;" (fun q => Z.1 ≤ q) U Z.2.2.2.1
theorem AmbS.moved {Z : zP} {s U : State} (hW : s.WarmedH U.vm) (h : AmbS Z s) : AmbS Z U :=
  ⟨fun q hq => (h.1 q hq).warm hW, fun i hi => ⟨(h.2.1 i hi).1.moved hW.alike, (h.2.1 i hi).2.1.moved hW.alike, (h.2.1 i hi).2.2.1.moved hW.alike, (h.2.1 i hi).2.2.2.moved hW.alike⟩, h.2.2.1.moved hW.alike, h.2.2.2.moved hW.alike⟩
theorem AmbS.same {Z : zP} {s U : State} (hv : s.vm = U.vm) (h : AmbS Z s) : AmbS Z U :=
  have al : s.vm.Alike U.vm := hv ▸ Vm.Alike.refl s.vm
  ⟨fun q hq => vk_R.same hv.symm (h.1 q hq), fun i hi => ⟨(h.2.1 i hi).1.moved al, (h.2.1 i hi).2.1.moved al, (h.2.1 i hi).2.2.1.moved al, (h.2.1 i hi).2.2.2.moved al⟩, h.2.2.1.moved al, h.2.2.2.moved al⟩
/-- what holds of the machine's tables at every method's start, beside the words -/
def Amb (Z : zP) (U : State) : Prop := va_K Z.2.1 vwCl (zTys Z) U ∧ (∀ w ∈ WN, va_Nw w U) ∧ (∀ C : String, FieldType.object C ∈ WO → va_AO C U) ∧ (∀ t : FieldType, .array t ∈ WO2 → ∀ (a : Array Value), (Cond.arrayOver (.array t)).before a U = true) ∧ AmbS Z U
theorem nestW_moved {w : Cond} (h : nestW w = true) {s U : State} (hW : s.WarmedH U.vm) (hZ : va_Nw w s) : va_Nw w U := by
  cases w <;> first | exact va_Nw.warmF hW hZ | exact va_Nw.warmM hW hZ | simp [nestW] at h
theorem Amb.moved {Z : zP} {s U : State} (hW : s.WarmedH U.vm) (h : Amb Z s) : Amb Z U :=
  ⟨va_K.moved hW.alike h.1, fun w hw => nestW_moved (List.mem_filter.mp hw).2 hW (h.2.1 w hw), fun C hC => va_AO.moved hW.alike (h.2.2.1 C hC), fun t ht a => arrayOver_alikeB hW.alike (h.2.2.2.1 t ht #[]), h.2.2.2.2.moved hW⟩
theorem Amb.same {Z : zP} {s U : State} (hv : s.vm = U.vm) (h : Amb Z s) : Amb Z U :=
  ⟨va_K.moved (hv ▸ Vm.Alike.refl s.vm) h.1, fun w hw => va_Nw.same (by cases w <;> first | rfl | (have := (List.mem_filter.mp hw).2; simp [nestW] at this)) hv (h.2.1 w hw), fun C hC => va_AO.moved (hv ▸ Vm.Alike.refl s.vm) (h.2.2.1 C hC), fun t ht a => arrayOver_alikeB (hv ▸ Vm.Alike.refl s.vm) (h.2.2.2.1 t ht #[]), h.2.2.2.2.same hv⟩
/-- the machine at a method: program, launch, environment, room, state at its start, the method, its arguments, the frames below, the method's tables, its code -/
abbrev xP : Type := Program × Launch × Env × Room × State × MethodId × Array Value × List Frame × Method × Code
def xW (X : xP) (H : Heap) (locs : List Loc) (k n : Nat) (Q : State → Prop) (g : JFrame) : Prop := W X.1 X.2.1 X.2.2.1 X.2.2.2.1 X.2.2.2.2.1 X.2.2.2.2.2.1 X.2.2.2.2.2.2.1 X.2.2.2.2.2.2.2.1 X.2.2.2.2.2.2.2.2.1 X.2.2.2.2.2.2.2.2.2 H locs k n Q g
/-- locals: the first entry of a slot holds; none: nothing is known of it -/
def lk : List (Nat × Option Value) → Nat → Option Value
  | [], _ => none
  | q :: t, i => match Nat.beq q.1 i with
    | true => q.2
    | false => lk t i
def lwOK (lw : List (Nat × Option Value)) (nL : Nat) (ls : Array Slot) : Prop := ls.size = nL ∧ lv_wf ls ∧ ∀ (i : Nat) (v : Value), lk lw i = some v → ls[i]? = some (.val v)
/-- what is known of a method while it runs: code, size of locals, class, name, what it returns, how deep, how many cells and slots it may make -/
def Cx (Z : zP) (X : xP) (own nm : String) (cc : ByteArray) (nL : Nat) (ret : Option FieldType) (D mc ms : Nat) : Prop :=
  X.1.tables.exec = Jvm.exec ∧ X.2.2.2.2.2.2.2.2.2.code = cc ∧ X.2.2.2.2.2.2.2.2.2.maxLocals = nL ∧ X.2.2.2.2.1.vm.findClass own = some X.2.2.2.2.2.1.cls ∧ (∀ w ∈ WA, w.before X.2.2.2.2.2.2.1 X.2.2.2.2.1 = true) ∧ Amb Z X.2.2.2.2.1 ∧
  X.2.2.2.2.2.2.2.2.1.locks = false ∧ X.2.2.2.2.2.2.2.2.1.sig.returnType = ret ∧ X.2.2.2.2.2.2.2.2.1.name = nm ∧ D ≤ X.2.2.2.1.frames ∧ 36 * D ≤ X.2.2.2.1.locals ∧ mc ≤ X.2.2.2.1.cells ∧ ms ≤ X.2.2.2.1.slots ∧ Z.1 ≤ X.2.2.2.2.1.heap.size
/-- the weakest start: from the frame at pc with these locals and this stack, with the memory G V, k cells of n slots made so far, the machine comes to Q -/
def Wm (Z : zP) (X : xP) (nL : Nat) (G : zG) (V : zV) (k n : Nat) (Q : State → Prop) (pc : Nat) (lw : List (Nat × Option Value)) (st : List Value) : Prop :=
  ∀ (H : Heap) (locs : List Loc) (ls : Array Slot), MemOK Z G V H → va_S (fun q => Z.1 ≤ q) X.2.2.2.2.1.heap H locs → lwOK lw nL ls → xW X H locs k n Q (F0 X.2.2.2.2.2.1 pc ls st)
/-- a method's end -/
def zQ (Z : zP) (Post : Option Value → zG → zV → Prop) : Array Value → State → Outcome → State → Prop := fun _ st oc t => (∃ (r : Option Value) (G : zG) (V : zV), oc = .returned r ∧ Post r G V ∧ MemOK Z G V t.heap) ∧ va_F (fun q => Z.1 ≤ q) st t
def rQ (Z : zP) (X : xP) (mc ms : Nat) (Post : Option Value → zG → zV → Prop) : State → Prop := MQ X.2.2.2.2.2.2.2.1 (zQ Z Post) X.2.2.2.2.2.2.1 X.2.2.2.2.1 mc ms (fun q => Z.1 ≤ q)
/-- A CONTRACT: from the memory G V, with these arguments, the method returns, and Post holds of its answer and of the memory behind it; d frames deep, at most mc cells of ms slots -/
def CT (l : Launch) (Z : zP) (y : MethodName) (cc : ByteArray) (nL : Nat) (ret : Option FieldType) (D mc ms : Nat) (av : List Value) (G : zG) (V : zV) (Post : Option Value → zG → zV → Prop) : Prop :=
  Met l y (.code y cc nL ret :: WA) { frames := D, cells := mc, slots := ms, locals := 36 * D } (va_Pc av (fun U => MemOK Z G V U.heap ∧ Amb Z U)) (zQ Z Post) mc ms (fun q => Z.1 ≤ q)
def pI (x : Int32) (G : zG) (V : zV) : Option Value → zG → zV → Prop := fun r G' V' => r = some (.int x) ∧ G' = G ∧ V' = V
def pJ (x : Int64) (G : zG) (V : zV) : Option Value → zG → zV → Prop := fun r G' V' => r = some (.long x) ∧ G' = G ∧ V' = V
def pV (G : zG) (V : zV) : Option Value → zG → zV → Prop := fun r G' V' => r = none ∧ G' = G ∧ V' = V
def pR (o : Option Nat) (G : zG) (V : zV) : Option Value → zG → zV → Prop := fun r G' V' => r = some (va_rf o) ∧ G' = G ∧ V' = V
end
section
section XR
variable {Z : zP} {X : xP} {nL : Nat} {G : zG} {V : zV} {k n : Nat} {Q : State → Prop} {pc : Nat} {lw : List (Nat × Option Value)} {st : List Value} {own nm : String} {cc : ByteArray} {ret : Option FieldType} {D mc ms : Nat}
abbrev okS (lw : List (Nat × Option Value)) : Nat → Bool
  | 0 => true
  | i + 1 => match lk lw i with
    | some v => !(v.category == 2)
    | none => true
theorem lk_cons {q : Nat × Option Value} {t : List (Nat × Option Value)} {i : Nat} {v : Value} (h : lk (q :: t) i = some v) : (q.1 = i ∧ q.2 = some v) ∨ (q.1 ≠ i ∧ lk t i = some v) := by
  unfold lk at h
  cases hb : Nat.beq q.1 i with
  | true => rw [hb] at h; exact Or.inl ⟨Nat.eq_of_beq_eq_true hb, h⟩
  | false => rw [hb] at h; exact Or.inr ⟨Nat.ne_of_beq_eq_false hb, h⟩
theorem okS_ne {i j : Nat} {w : Value} (ho : okS lw i = true) (hj : lk lw j = some w) : ¬ (j + 1 = i ∧ w.category = 2) := by
  rintro ⟨rfl, hc⟩
  have ho : (match lk lw j with | some v => !(v.category == 2) | none => true) = true := ho
  rw [hj] at ho
  simp [hc] at ho
theorem lw_store1 {ls : Array Slot} {i : Nat} {v : Value} (h : lwOK lw nL ls) (hi : i < nL) (hc : v.category = 1) (ho : okS lw i = true) : ∃ ls', storeLocals ls i v = some ls' ∧ lwOK ((i, some v) :: lw) nL ls' := by
  obtain ⟨ls', e, hs, hw, hl⟩ := lv_store1 (l := []) ⟨h.1, h.2.1, fun q hq => by cases hq⟩ hi hc
  refine ⟨ls', e, hs, hw, fun j w hj => ?_⟩
  rcases lk_cons hj with ⟨h1, h2⟩ | ⟨h1, h2⟩
  · dsimp only at h1 h2
    subst h1
    cases h2
    exact hl (i, v) List.mem_cons_self
  · dsimp only at h1
    obtain ⟨ls2, e2, -, -, hl2⟩ := lv_store1 (l := [(j, w)]) ⟨h.1, h.2.1, fun q hq => by rw [List.mem_singleton.mp hq]; exact h.2.2 j w h2⟩ hi hc
    have he : ls' = ls2 := Option.some.inj (e.symm.trans e2)
    subst he
    refine hl2 (j, w) (List.mem_cons_of_mem _ (List.mem_filter.mpr ⟨List.mem_singleton.mpr rfl, ?_⟩))
    have := okS_ne ho h2
    simp [Ne.symm h1]
    omega
theorem lw_store2 {ls : Array Slot} {i : Nat} {v : Value} (h : lwOK lw nL ls) (hi : i + 1 < nL) (hc : v.category = 2) (ho : okS lw i = true) : ∃ ls', storeLocals ls i v = some ls' ∧ lwOK ((i, some v) :: (i + 1, none) :: lw) nL ls' := by
  obtain ⟨ls', e, hs, hw, hl⟩ := lv_store2 (l := []) ⟨h.1, h.2.1, fun q hq => by cases hq⟩ hi hc
  refine ⟨ls', e, hs, hw, fun j w hj => ?_⟩
  rcases lk_cons hj with ⟨h1, h2⟩ | ⟨h1, h2⟩
  · dsimp only at h1 h2
    subst h1
    cases h2
    exact hl (i, v) List.mem_cons_self
  · rcases lk_cons h2 with ⟨h3, h4⟩ | ⟨h3, h4⟩
    · cases h4
    · dsimp only at h1 h3
      obtain ⟨ls2, e2, -, -, hl2⟩ := lv_store2 (l := [(j, w)]) ⟨h.1, h.2.1, fun q hq => by rw [List.mem_singleton.mp hq]; exact h.2.2 j w h4⟩ hi hc
      have he : ls' = ls2 := Option.some.inj (e.symm.trans e2)
      subst he
      refine hl2 (j, w) (List.mem_cons_of_mem _ (List.mem_filter.mpr ⟨List.mem_singleton.mpr rfl, ?_⟩))
      have := okS_ne ho h4
      simp [Ne.symm h1, Ne.symm h3]
      omega
/-- fewer locals -/
def lwLe : List (Nat × Option Value) → List (Nat × Option Value) → Prop
  | [], _ => True
  | q :: t, lw => (q.2 = none ∨ lk lw q.1 = q.2) ∧ lwLe t lw
theorem lwLe_lk {l1 : List (Nat × Option Value)} : ∀ {l2 : List (Nat × Option Value)}, lwLe l1 l2 → ∀ (i : Nat) (v : Value), lk l1 i = some v → lk l2 i = some v := by
  induction l1 with
  | nil => intro l2 _ i v h; cases h
  | cons q t ih =>
    intro l2 h i v hv
    rcases lk_cons hv with ⟨h1, h2⟩ | ⟨h1, h2⟩
    · rcases h.1 with h3 | h3
      · rw [h2] at h3; cases h3
      · rw [← h1, h3, h2]
    · exact ih h.2 i v h2
theorem x_sub {lw' : List (Nat × Option Value)} (h : lwLe lw' lw) (kk : Wm Z X nL G V k n Q pc lw' st) : Wm Z X nL G V k n Q pc lw st :=
  fun H locs ls hM hS hl => kk H locs ls hM hS ⟨hl.1, hl.2.1, fun i v hv => hl.2.2 i v (lwLe_lk h i v hv)⟩
theorem x_enter {lw' : List (Nat × Option Value)} (kk : Wm Z X nL G V k n Q pc lw' st) (h : lwLe lw' lw) : Wm Z X nL G V k n Q pc lw st := x_sub h kk
theorem x_widen {k' n' : Nat} (h1 : k ≤ k') (h2 : n ≤ n') (kk : Wm Z X nL G V k' n' Q pc lw st) : Wm Z X nL G V k n Q pc lw st :=
  fun H locs ls hM hS hl => W.widen h1 h2 (kk H locs ls hM hS hl)
theorem x_pc {pc' : Nat} (h : pc = pc') (kk : Wm Z X nL G V k n Q pc' lw st) : Wm Z X nL G V k n Q pc lw st := h ▸ kk
theorem x_iconst {z : Int} {v : Int32} (cx : Cx Z X own nm cc nL ret D mc ms) (d : decode cc pc = .ok (.iconst z, 1)) (hv : Int32.ofInt z = v) (kk : Wm Z X nL G V k n Q (pc + 1) (lw) (.int v :: st)) : Wm Z X nL G V k n Q pc lw (st) :=
  fun H locs ls hM hS hl => lv_iconst cx.1 cx.2.1 d hv (kk H locs ls hM hS hl)
theorem x_bipush {z : Int} {v : Int32} (cx : Cx Z X own nm cc nL ret D mc ms) (d : decode cc pc = .ok (.bipush z, 2)) (hv : (Int8.ofInt z).toInt32 = v) (kk : Wm Z X nL G V k n Q (pc + 2) (lw) (.int v :: st)) : Wm Z X nL G V k n Q pc lw (st) :=
  fun H locs ls hM hS hl => lv_bipush cx.1 cx.2.1 d hv (kk H locs ls hM hS hl)
theorem x_sipush {z : Int} {v : Int32} (cx : Cx Z X own nm cc nL ret D mc ms) (d : decode cc pc = .ok (.sipush z, 3)) (hv : (Int16.ofInt z).toInt32 = v) (kk : Wm Z X nL G V k n Q (pc + 3) (lw) (.int v :: st)) : Wm Z X nL G V k n Q pc lw (st) :=
  fun H locs ls hM hS hl => lv_sipush cx.1 cx.2.1 d hv (kk H locs ls hM hS hl)
theorem x_lconst {z : Fin 2} {v : Int64} (cx : Cx Z X own nm cc nL ret D mc ms) (d : decode cc pc = .ok (.lconst z, 1)) (hv : Int64.ofNat (z : Nat) = v) (kk : Wm Z X nL G V k n Q (pc + 1) (lw) (.long v :: st)) : Wm Z X nL G V k n Q pc lw (st) :=
  fun H locs ls hM hS hl => lv_lconst cx.1 cx.2.1 d hv (kk H locs ls hM hS hl)
theorem x_null (cx : Cx Z X own nm cc nL ret D mc ms) (d : decode cc pc = .ok (.aconst_null, 1)) (kk : Wm Z X nL G V k n Q (pc + 1) (lw) (.null :: st)) : Wm Z X nL G V k n Q pc lw (st) :=
  fun H locs ls hM hS hl => lv_null cx.1 cx.2.1 d (kk H locs ls hM hS hl)
theorem x_ldc {idx : Nat} {v : Int32} (cx : Cx Z X own nm cc nL ret D mc ms) (hw : Cond.constant own idx v ∈ WA) (d : decode cc pc = .ok (.ldc idx, 2)) (kk : Wm Z X nL G V k n Q (pc + 2) (lw) (.int v :: st)) : Wm Z X nL G V k n Q pc lw (st) :=
  fun H locs ls hM hS hl => lv_ldc cx.1 cx.2.1 cx.2.2.2.1 (cx.2.2.2.2.1 _ hw) d (kk H locs ls hM hS hl)
theorem x_ldc_w {idx : Nat} {v : Int32} (cx : Cx Z X own nm cc nL ret D mc ms) (hw : Cond.constant own idx v ∈ WA) (d : decode cc pc = .ok (.ldc_w idx, 3)) (kk : Wm Z X nL G V k n Q (pc + 3) (lw) (.int v :: st)) : Wm Z X nL G V k n Q pc lw (st) :=
  fun H locs ls hM hS hl => lv_ldcw cx.1 cx.2.1 cx.2.2.2.1 (cx.2.2.2.2.1 _ hw) d (kk H locs ls hM hS hl)
theorem x_ldc2 {idx : Nat} {v : Int64} (cx : Cx Z X own nm cc nL ret D mc ms) (hw : Cond.constantLong own idx v ∈ WA) (d : decode cc pc = .ok (.ldc2_w idx, 3)) (kk : Wm Z X nL G V k n Q (pc + 3) (lw) (.long v :: st)) : Wm Z X nL G V k n Q pc lw (st) :=
  fun H locs ls hM hS hl => lv_ldc2 cx.1 cx.2.1 cx.2.2.2.1 (cx.2.2.2.2.1 _ hw) d (kk H locs ls hM hS hl)
theorem x_iload_n {i : Fin 4} {x : Int32} (cx : Cx Z X own nm cc nL ret D mc ms) (d : decode cc pc = .ok (.iload_n i, 1)) (h : lk lw (i : Nat) = some (.int x)) (kk : Wm Z X nL G V k n Q (pc + 1) (lw) (.int x :: st)) : Wm Z X nL G V k n Q pc lw (st) :=
  fun H locs ls hM hS hl => lv_iload_n cx.1 cx.2.1 d rfl (hl.2.2 _ _ h) (kk H locs ls hM hS hl)
theorem x_iload {i : Nat} {x : Int32} (cx : Cx Z X own nm cc nL ret D mc ms) (d : decode cc pc = .ok (.iload i, 2)) (h : lk lw i = some (.int x)) (kk : Wm Z X nL G V k n Q (pc + 2) (lw) (.int x :: st)) : Wm Z X nL G V k n Q pc lw (st) :=
  fun H locs ls hM hS hl => lv_iload cx.1 cx.2.1 d (hl.2.2 _ _ h) (kk H locs ls hM hS hl)
theorem x_lload_n {i : Fin 4} {x : Int64} (cx : Cx Z X own nm cc nL ret D mc ms) (d : decode cc pc = .ok (.lload_n i, 1)) (h : lk lw (i : Nat) = some (.long x)) (kk : Wm Z X nL G V k n Q (pc + 1) (lw) (.long x :: st)) : Wm Z X nL G V k n Q pc lw (st) :=
  fun H locs ls hM hS hl => lv_lload_n cx.1 cx.2.1 d rfl (hl.2.2 _ _ h) (kk H locs ls hM hS hl)
theorem x_lload {i : Nat} {x : Int64} (cx : Cx Z X own nm cc nL ret D mc ms) (d : decode cc pc = .ok (.lload i, 2)) (h : lk lw i = some (.long x)) (kk : Wm Z X nL G V k n Q (pc + 2) (lw) (.long x :: st)) : Wm Z X nL G V k n Q pc lw (st) :=
  fun H locs ls hM hS hl => lv_lload cx.1 cx.2.1 d (hl.2.2 _ _ h) (kk H locs ls hM hS hl)
theorem x_aload_n {i : Fin 4} {x : Nat} (cx : Cx Z X own nm cc nL ret D mc ms) (d : decode cc pc = .ok (.aload_n i, 1)) (h : lk lw (i : Nat) = some (.ref x)) (kk : Wm Z X nL G V k n Q (pc + 1) (lw) (.ref x :: st)) : Wm Z X nL G V k n Q pc lw (st) :=
  fun H locs ls hM hS hl => lv_aload_n cx.1 cx.2.1 d rfl (hl.2.2 _ _ h) (kk H locs ls hM hS hl)
theorem x_aload {i : Nat} {x : Nat} (cx : Cx Z X own nm cc nL ret D mc ms) (d : decode cc pc = .ok (.aload i, 2)) (h : lk lw i = some (.ref x)) (kk : Wm Z X nL G V k n Q (pc + 2) (lw) (.ref x :: st)) : Wm Z X nL G V k n Q pc lw (st) :=
  fun H locs ls hM hS hl => lv_aload cx.1 cx.2.1 d (hl.2.2 _ _ h) (kk H locs ls hM hS hl)
theorem x_aload_nN {i : Fin 4} (cx : Cx Z X own nm cc nL ret D mc ms) (d : decode cc pc = .ok (.aload_n i, 1)) (h : lk lw (i : Nat) = some .null) (kk : Wm Z X nL G V k n Q (pc + 1) (lw) (.null :: st)) : Wm Z X nL G V k n Q pc lw (st) :=
  fun H locs ls hM hS hl => lv_aload_nN cx.1 cx.2.1 d rfl (hl.2.2 _ _ h) (kk H locs ls hM hS hl)
theorem x_aloadN {i : Nat} (cx : Cx Z X own nm cc nL ret D mc ms) (d : decode cc pc = .ok (.aload i, 2)) (h : lk lw i = some .null) (kk : Wm Z X nL G V k n Q (pc + 2) (lw) (.null :: st)) : Wm Z X nL G V k n Q pc lw (st) :=
  fun H locs ls hM hS hl => lv_aloadN cx.1 cx.2.1 d (hl.2.2 _ _ h) (kk H locs ls hM hS hl)
theorem x_aload_nR {i : Fin 4} {o : Option Nat} (cx : Cx Z X own nm cc nL ret D mc ms) (d : decode cc pc = .ok (.aload_n i, 1)) (h : lk lw (i : Nat) = some (va_rf o)) (kk : Wm Z X nL G V k n Q (pc + 1) (lw) (va_rf o :: st)) : Wm Z X nL G V k n Q pc lw st := by
  cases o with
  | none => exact x_aload_nN cx d h kk
  | some a => exact x_aload_n cx d h kk
theorem x_aloadR {i : Nat} {o : Option Nat} (cx : Cx Z X own nm cc nL ret D mc ms) (d : decode cc pc = .ok (.aload i, 2)) (h : lk lw i = some (va_rf o)) (kk : Wm Z X nL G V k n Q (pc + 2) (lw) (va_rf o :: st)) : Wm Z X nL G V k n Q pc lw st := by
  cases o with
  | none => exact x_aloadN cx d h kk
  | some a => exact x_aload cx d h kk
theorem x_istore_n {i : Fin 4} {x : Int32} (cx : Cx Z X own nm cc nL ret D mc ms) (d : decode cc pc = .ok (.istore_n i, 1)) (hi : (i : Nat) < nL) (ho : okS lw (i : Nat) = true) (kk : Wm Z X nL G V k n Q (pc + 1) (((i : Nat), some (.int x)) :: lw) (st)) : Wm Z X nL G V k n Q pc lw (.int x :: st) := by
  intro H locs ls hM hS hl
  obtain ⟨ls', e', h'⟩ := lw_store1 (v := .int x) hl hi rfl ho
  intro T hT Xs
  obtain ⟨t, a, b⟩ := kk H locs ls' hM hS h' T hT Xs
  refine ⟨t, ?_, b⟩
  have hx := cx.1
  have hb := cx.2.1
  jvm_step Xs.here [Xs.here.top, ↓top_set Xs.here.top, hx, hb, d, e']
  first | exact a | exact ⟨rfl, a⟩
theorem x_istore {i : Nat} {x : Int32} (cx : Cx Z X own nm cc nL ret D mc ms) (d : decode cc pc = .ok (.istore i, 2)) (hi : i < nL) (ho : okS lw i = true) (kk : Wm Z X nL G V k n Q (pc + 2) ((i, some (.int x)) :: lw) (st)) : Wm Z X nL G V k n Q pc lw (.int x :: st) := by
  intro H locs ls hM hS hl
  obtain ⟨ls', e', h'⟩ := lw_store1 (v := .int x) hl hi rfl ho
  intro T hT Xs
  obtain ⟨t, a, b⟩ := kk H locs ls' hM hS h' T hT Xs
  refine ⟨t, ?_, b⟩
  have hx := cx.1
  have hb := cx.2.1
  jvm_step Xs.here [Xs.here.top, ↓top_set Xs.here.top, hx, hb, d, e']
  first | exact a | exact ⟨rfl, a⟩
theorem x_lstore_n {i : Fin 4} {x : Int64} (cx : Cx Z X own nm cc nL ret D mc ms) (d : decode cc pc = .ok (.lstore_n i, 1)) (hi : (i : Nat) + 1 < nL) (ho : okS lw (i : Nat) = true) (kk : Wm Z X nL G V k n Q (pc + 1) (((i : Nat), some (.long x)) :: ((i : Nat) + 1, none) :: lw) (st)) : Wm Z X nL G V k n Q pc lw (.long x :: st) := by
  intro H locs ls hM hS hl
  obtain ⟨ls', e', h'⟩ := lw_store2 (v := .long x) hl hi rfl ho
  intro T hT Xs
  obtain ⟨t, a, b⟩ := kk H locs ls' hM hS h' T hT Xs
  refine ⟨t, ?_, b⟩
  have hx := cx.1
  have hb := cx.2.1
  jvm_step Xs.here [Xs.here.top, ↓top_set Xs.here.top, hx, hb, d, e']
  first | exact a | exact ⟨rfl, a⟩
theorem x_lstore {i : Nat} {x : Int64} (cx : Cx Z X own nm cc nL ret D mc ms) (d : decode cc pc = .ok (.lstore i, 2)) (hi : i + 1 < nL) (ho : okS lw i = true) (kk : Wm Z X nL G V k n Q (pc + 2) ((i, some (.long x)) :: (i + 1, none) :: lw) (st)) : Wm Z X nL G V k n Q pc lw (.long x :: st) := by
  intro H locs ls hM hS hl
  obtain ⟨ls', e', h'⟩ := lw_store2 (v := .long x) hl hi rfl ho
  intro T hT Xs
  obtain ⟨t, a, b⟩ := kk H locs ls' hM hS h' T hT Xs
  refine ⟨t, ?_, b⟩
  have hx := cx.1
  have hb := cx.2.1
  jvm_step Xs.here [Xs.here.top, ↓top_set Xs.here.top, hx, hb, d, e']
  first | exact a | exact ⟨rfl, a⟩
theorem x_astore_n {i : Fin 4} {x : Nat} (cx : Cx Z X own nm cc nL ret D mc ms) (d : decode cc pc = .ok (.astore_n i, 1)) (hi : (i : Nat) < nL) (ho : okS lw (i : Nat) = true) (kk : Wm Z X nL G V k n Q (pc + 1) (((i : Nat), some (.ref x)) :: lw) (st)) : Wm Z X nL G V k n Q pc lw (.ref x :: st) := by
  intro H locs ls hM hS hl
  obtain ⟨ls', e', h'⟩ := lw_store1 (v := .ref x) hl hi rfl ho
  intro T hT Xs
  obtain ⟨t, a, b⟩ := kk H locs ls' hM hS h' T hT Xs
  refine ⟨t, ?_, b⟩
  have hx := cx.1
  have hb := cx.2.1
  jvm_step Xs.here [Xs.here.top, ↓top_set Xs.here.top, hx, hb, d, e']
  first | exact a | exact ⟨rfl, a⟩
theorem x_astore {i : Nat} {x : Nat} (cx : Cx Z X own nm cc nL ret D mc ms) (d : decode cc pc = .ok (.astore i, 2)) (hi : i < nL) (ho : okS lw i = true) (kk : Wm Z X nL G V k n Q (pc + 2) ((i, some (.ref x)) :: lw) (st)) : Wm Z X nL G V k n Q pc lw (.ref x :: st) := by
  intro H locs ls hM hS hl
  obtain ⟨ls', e', h'⟩ := lw_store1 (v := .ref x) hl hi rfl ho
  intro T hT Xs
  obtain ⟨t, a, b⟩ := kk H locs ls' hM hS h' T hT Xs
  refine ⟨t, ?_, b⟩
  have hx := cx.1
  have hb := cx.2.1
  jvm_step Xs.here [Xs.here.top, ↓top_set Xs.here.top, hx, hb, d, e']
  first | exact a | exact ⟨rfl, a⟩
theorem x_astore_nN {i : Fin 4} (cx : Cx Z X own nm cc nL ret D mc ms) (d : decode cc pc = .ok (.astore_n i, 1)) (hi : (i : Nat) < nL) (ho : okS lw (i : Nat) = true) (kk : Wm Z X nL G V k n Q (pc + 1) (((i : Nat), some (.null)) :: lw) (st)) : Wm Z X nL G V k n Q pc lw (.null :: st) := by
  intro H locs ls hM hS hl
  obtain ⟨ls', e', h'⟩ := lw_store1 (v := .null) hl hi rfl ho
  intro T hT Xs
  obtain ⟨t, a, b⟩ := kk H locs ls' hM hS h' T hT Xs
  refine ⟨t, ?_, b⟩
  have hx := cx.1
  have hb := cx.2.1
  jvm_step Xs.here [Xs.here.top, ↓top_set Xs.here.top, hx, hb, d, e']
  first | exact a | exact ⟨rfl, a⟩
theorem x_astoreN {i : Nat} (cx : Cx Z X own nm cc nL ret D mc ms) (d : decode cc pc = .ok (.astore i, 2)) (hi : i < nL) (ho : okS lw i = true) (kk : Wm Z X nL G V k n Q (pc + 2) ((i, some (.null)) :: lw) (st)) : Wm Z X nL G V k n Q pc lw (.null :: st) := by
  intro H locs ls hM hS hl
  obtain ⟨ls', e', h'⟩ := lw_store1 (v := .null) hl hi rfl ho
  intro T hT Xs
  obtain ⟨t, a, b⟩ := kk H locs ls' hM hS h' T hT Xs
  refine ⟨t, ?_, b⟩
  have hx := cx.1
  have hb := cx.2.1
  jvm_step Xs.here [Xs.here.top, ↓top_set Xs.here.top, hx, hb, d, e']
  first | exact a | exact ⟨rfl, a⟩
theorem x_astore_nR {i : Fin 4} {o : Option Nat} (cx : Cx Z X own nm cc nL ret D mc ms) (d : decode cc pc = .ok (.astore_n i, 1)) (hi : (i : Nat) < nL) (ho : okS lw (i : Nat) = true) (kk : Wm Z X nL G V k n Q (pc + 1) (((i : Nat), some (va_rf o)) :: lw) (st)) : Wm Z X nL G V k n Q pc lw (va_rf o :: st) := by
  cases o with
  | none => exact x_astore_nN cx d hi ho kk
  | some a => exact x_astore_n cx d hi ho kk
theorem x_astoreR {i : Nat} {o : Option Nat} (cx : Cx Z X own nm cc nL ret D mc ms) (d : decode cc pc = .ok (.astore i, 2)) (hi : i < nL) (ho : okS lw i = true) (kk : Wm Z X nL G V k n Q (pc + 2) ((i, some (va_rf o)) :: lw) (st)) : Wm Z X nL G V k n Q pc lw (va_rf o :: st) := by
  cases o with
  | none => exact x_astoreN cx d hi ho kk
  | some a => exact x_astore cx d hi ho kk
theorem x_iinc {i : Nat} {z : Int} {x v : Int32} (cx : Cx Z X own nm cc nL ret D mc ms) (d : decode cc pc = .ok (.iinc i z, 3)) (h : lk lw i = some (.int x)) (hv : x + Int32.ofInt z = v) (hi : i < nL) (ho : okS lw i = true) (kk : Wm Z X nL G V k n Q (pc + 3) ((i, some (.int v)) :: lw) (st)) : Wm Z X nL G V k n Q pc lw st := by
  intro H locs ls hM hS hl
  obtain ⟨ls', e', h'⟩ := lw_store1 (v := .int v) hl hi rfl ho
  have hg := hl.2.2 _ _ h
  subst hv
  intro T hT Xs
  obtain ⟨t, a, b⟩ := kk H locs ls' hM hS h' T hT Xs
  refine ⟨t, ?_, b⟩
  have hx := cx.1
  have hb := cx.2.1
  jvm_step Xs.here [Xs.here.top, ↓top_set Xs.here.top, hx, hb, d, hg, e']
  exact a
theorem x_iadd {x y : Int32} (cx : Cx Z X own nm cc nL ret D mc ms) (d : decode cc pc = .ok (.iadd, 1)) (kk : Wm Z X nL G V k n Q (pc + 1) (lw) (.int (x + y) :: st)) : Wm Z X nL G V k n Q pc lw (.int y :: .int x :: st) :=
  fun H locs ls hM hS hl => lv_iadd cx.1 cx.2.1 d (kk H locs ls hM hS hl)
theorem x_isub {x y : Int32} (cx : Cx Z X own nm cc nL ret D mc ms) (d : decode cc pc = .ok (.isub, 1)) (kk : Wm Z X nL G V k n Q (pc + 1) (lw) (.int (x - y) :: st)) : Wm Z X nL G V k n Q pc lw (.int y :: .int x :: st) :=
  fun H locs ls hM hS hl => lv_isub cx.1 cx.2.1 d (kk H locs ls hM hS hl)
theorem x_imul {x y : Int32} (cx : Cx Z X own nm cc nL ret D mc ms) (d : decode cc pc = .ok (.imul, 1)) (kk : Wm Z X nL G V k n Q (pc + 1) (lw) (.int (x * y) :: st)) : Wm Z X nL G V k n Q pc lw (.int y :: .int x :: st) :=
  fun H locs ls hM hS hl => lv_imul cx.1 cx.2.1 d (kk H locs ls hM hS hl)
theorem x_iand {x y : Int32} (cx : Cx Z X own nm cc nL ret D mc ms) (d : decode cc pc = .ok (.iand, 1)) (kk : Wm Z X nL G V k n Q (pc + 1) (lw) (.int (x &&& y) :: st)) : Wm Z X nL G V k n Q pc lw (.int y :: .int x :: st) :=
  fun H locs ls hM hS hl => lv_iand cx.1 cx.2.1 d (kk H locs ls hM hS hl)
theorem x_ior {x y : Int32} (cx : Cx Z X own nm cc nL ret D mc ms) (d : decode cc pc = .ok (.ior, 1)) (kk : Wm Z X nL G V k n Q (pc + 1) (lw) (.int (x ||| y) :: st)) : Wm Z X nL G V k n Q pc lw (.int y :: .int x :: st) :=
  fun H locs ls hM hS hl => lv_ior cx.1 cx.2.1 d (kk H locs ls hM hS hl)
theorem x_idiv {x y : Int32} (cx : Cx Z X own nm cc nL ret D mc ms) (hne : ¬ y = 0) (d : decode cc pc = .ok (.idiv, 1)) (kk : Wm Z X nL G V k n Q (pc + 1) (lw) (.int (x / y) :: st)) : Wm Z X nL G V k n Q pc lw (.int y :: .int x :: st) :=
  fun H locs ls hM hS hl => lv_idiv cx.1 cx.2.1 d hne (kk H locs ls hM hS hl)
theorem x_irem {x y : Int32} (cx : Cx Z X own nm cc nL ret D mc ms) (hne : ¬ y = 0) (d : decode cc pc = .ok (.irem, 1)) (kk : Wm Z X nL G V k n Q (pc + 1) (lw) (.int (x - x / y * y) :: st)) : Wm Z X nL G V k n Q pc lw (.int y :: .int x :: st) :=
  fun H locs ls hM hS hl => lv_irem cx.1 cx.2.1 d hne (kk H locs ls hM hS hl)
theorem x_ladd {x y : Int64} (cx : Cx Z X own nm cc nL ret D mc ms) (d : decode cc pc = .ok (.ladd, 1)) (kk : Wm Z X nL G V k n Q (pc + 1) (lw) (.long (x + y) :: st)) : Wm Z X nL G V k n Q pc lw (.long y :: .long x :: st) :=
  fun H locs ls hM hS hl => lv_ladd cx.1 cx.2.1 d (kk H locs ls hM hS hl)
theorem x_lsub {x y : Int64} (cx : Cx Z X own nm cc nL ret D mc ms) (d : decode cc pc = .ok (.lsub, 1)) (kk : Wm Z X nL G V k n Q (pc + 1) (lw) (.long (x - y) :: st)) : Wm Z X nL G V k n Q pc lw (.long y :: .long x :: st) :=
  fun H locs ls hM hS hl => lv_lsub cx.1 cx.2.1 d (kk H locs ls hM hS hl)
theorem x_lmul {x y : Int64} (cx : Cx Z X own nm cc nL ret D mc ms) (d : decode cc pc = .ok (.lmul, 1)) (kk : Wm Z X nL G V k n Q (pc + 1) (lw) (.long (x * y) :: st)) : Wm Z X nL G V k n Q pc lw (.long y :: .long x :: st) :=
  fun H locs ls hM hS hl => lv_lmul cx.1 cx.2.1 d (kk H locs ls hM hS hl)
theorem x_land {x y : Int64} (cx : Cx Z X own nm cc nL ret D mc ms) (d : decode cc pc = .ok (.land, 1)) (kk : Wm Z X nL G V k n Q (pc + 1) (lw) (.long (x &&& y) :: st)) : Wm Z X nL G V k n Q pc lw (.long y :: .long x :: st) :=
  fun H locs ls hM hS hl => lv_land cx.1 cx.2.1 d (kk H locs ls hM hS hl)
theorem x_lor {x y : Int64} (cx : Cx Z X own nm cc nL ret D mc ms) (d : decode cc pc = .ok (.lor, 1)) (kk : Wm Z X nL G V k n Q (pc + 1) (lw) (.long (x ||| y) :: st)) : Wm Z X nL G V k n Q pc lw (.long y :: .long x :: st) :=
  fun H locs ls hM hS hl => lv_lor cx.1 cx.2.1 d (kk H locs ls hM hS hl)
theorem x_ldiv {x y : Int64} (cx : Cx Z X own nm cc nL ret D mc ms) (hne : ¬ y = 0) (d : decode cc pc = .ok (.ldiv, 1)) (kk : Wm Z X nL G V k n Q (pc + 1) (lw) (.long (x / y) :: st)) : Wm Z X nL G V k n Q pc lw (.long y :: .long x :: st) :=
  fun H locs ls hM hS hl => lv_ldiv cx.1 cx.2.1 d hne (kk H locs ls hM hS hl)
theorem x_ishl {x y : Int32} (cx : Cx Z X own nm cc nL ret D mc ms) (d : decode cc pc = .ok (.ishl, 1)) (kk : Wm Z X nL G V k n Q (pc + 1) (lw) (.int (x <<< (y &&& 31)) :: st)) : Wm Z X nL G V k n Q pc lw (.int y :: .int x :: st) :=
  fun H locs ls hM hS hl => lv_ishl cx.1 cx.2.1 d (kk H locs ls hM hS hl)
theorem x_ishr {x y : Int32} (cx : Cx Z X own nm cc nL ret D mc ms) (d : decode cc pc = .ok (.ishr, 1)) (kk : Wm Z X nL G V k n Q (pc + 1) (lw) (.int (x >>> (y &&& 31)) :: st)) : Wm Z X nL G V k n Q pc lw (.int y :: .int x :: st) :=
  fun H locs ls hM hS hl => lv_ishr cx.1 cx.2.1 d (kk H locs ls hM hS hl)
theorem x_iushr {x y : Int32} (cx : Cx Z X own nm cc nL ret D mc ms) (d : decode cc pc = .ok (.iushr, 1)) (kk : Wm Z X nL G V k n Q (pc + 1) (lw) (.int ((x.toUInt32 >>> (y.toUInt32 &&& Int32.toUInt32 31)).toInt32) :: st)) : Wm Z X nL G V k n Q pc lw (.int y :: .int x :: st) :=
  fun H locs ls hM hS hl => lv_iushr cx.1 cx.2.1 d rfl (kk H locs ls hM hS hl)
theorem x_lshl {x : Int64} {y : Int32} (cx : Cx Z X own nm cc nL ret D mc ms) (d : decode cc pc = .ok (.lshl, 1)) (kk : Wm Z X nL G V k n Q (pc + 1) (lw) (.long (x <<< (y.toInt64 &&& 63)) :: st)) : Wm Z X nL G V k n Q pc lw (.int y :: .long x :: st) :=
  fun H locs ls hM hS hl => lv_lshl cx.1 cx.2.1 d rfl (kk H locs ls hM hS hl)
theorem x_ineg {x : Int32} (cx : Cx Z X own nm cc nL ret D mc ms) (d : decode cc pc = .ok (.ineg, 1)) (kk : Wm Z X nL G V k n Q (pc + 1) (lw) (.int (-x) :: st)) : Wm Z X nL G V k n Q pc lw (.int x :: st) :=
  fun H locs ls hM hS hl => lv_ineg cx.1 cx.2.1 d (kk H locs ls hM hS hl)
theorem x_i2l {x : Int32} (cx : Cx Z X own nm cc nL ret D mc ms) (d : decode cc pc = .ok (.i2l, 1)) (kk : Wm Z X nL G V k n Q (pc + 1) (lw) (.long x.toInt64 :: st)) : Wm Z X nL G V k n Q pc lw (.int x :: st) :=
  fun H locs ls hM hS hl => lv_i2l cx.1 cx.2.1 d rfl (kk H locs ls hM hS hl)
theorem x_l2i {x : Int64} (cx : Cx Z X own nm cc nL ret D mc ms) (d : decode cc pc = .ok (.l2i, 1)) (kk : Wm Z X nL G V k n Q (pc + 1) (lw) (.int x.toInt32 :: st)) : Wm Z X nL G V k n Q pc lw (.long x :: st) :=
  fun H locs ls hM hS hl => lv_l2i cx.1 cx.2.1 d rfl (kk H locs ls hM hS hl)
theorem x_i2b {x : Int32} (cx : Cx Z X own nm cc nL ret D mc ms) (d : decode cc pc = .ok (.i2b, 1)) (kk : Wm Z X nL G V k n Q (pc + 1) (lw) (.int x.toInt8.toInt32 :: st)) : Wm Z X nL G V k n Q pc lw (.int x :: st) :=
  fun H locs ls hM hS hl => lv_i2b cx.1 cx.2.1 d rfl (kk H locs ls hM hS hl)
theorem x_i2s {x : Int32} (cx : Cx Z X own nm cc nL ret D mc ms) (d : decode cc pc = .ok (.i2s, 1)) (kk : Wm Z X nL G V k n Q (pc + 1) (lw) (.int x.toInt16.toInt32 :: st)) : Wm Z X nL G V k n Q pc lw (.int x :: st) :=
  fun H locs ls hM hS hl => lv_i2s cx.1 cx.2.1 d rfl (kk H locs ls hM hS hl)
theorem x_dup {v : Value} (cx : Cx Z X own nm cc nL ret D mc ms) (hv : v.category = 1) (d : decode cc pc = .ok (.dup, 1)) (kk : Wm Z X nL G V k n Q (pc + 1) (lw) (v :: v :: st)) : Wm Z X nL G V k n Q pc lw (v :: st) :=
  fun H locs ls hM hS hl => lv_dup cx.1 cx.2.1 d hv (kk H locs ls hM hS hl)
theorem x_pop {v : Value} (cx : Cx Z X own nm cc nL ret D mc ms) (hv : v.category = 1) (d : decode cc pc = .ok (.pop, 1)) (kk : Wm Z X nL G V k n Q (pc + 1) (lw) (st)) : Wm Z X nL G V k n Q pc lw (v :: st) :=
  fun H locs ls hM hS hl => lv_pop cx.1 cx.2.1 d hv (kk H locs ls hM hS hl)
theorem x_dup_x1 {v w : Value} (cx : Cx Z X own nm cc nL ret D mc ms) (hv : v.category = 1) (hw : w.category = 1) (d : decode cc pc = .ok (.dup_x1, 1)) (kk : Wm Z X nL G V k n Q (pc + 1) (lw) (v :: w :: v :: st)) : Wm Z X nL G V k n Q pc lw (v :: w :: st) :=
  fun H locs ls hM hS hl => lv_dup_x1 cx.1 cx.2.1 d hv hw (kk H locs ls hM hS hl)
theorem x_dup2 {v w : Value} (cx : Cx Z X own nm cc nL ret D mc ms) (hv : v.category = 1) (hw : w.category = 1) (d : decode cc pc = .ok (.dup2, 1)) (kk : Wm Z X nL G V k n Q (pc + 1) (lw) (v :: w :: v :: w :: st)) : Wm Z X nL G V k n Q pc lw (v :: w :: st) :=
  fun H locs ls hM hS hl => lv_dup2_11 cx.1 cx.2.1 d hv hw (kk H locs ls hM hS hl)
theorem x_dup2L {x : Int64} (cx : Cx Z X own nm cc nL ret D mc ms) (d : decode cc pc = .ok (.dup2, 1)) (kk : Wm Z X nL G V k n Q (pc + 1) (lw) (.long x :: .long x :: st)) : Wm Z X nL G V k n Q pc lw (.long x :: st) :=
  fun H locs ls hM hS hl => lv_dup2_2 cx.1 cx.2.1 d rfl (kk H locs ls hM hS hl)
theorem x_pop2L {x : Int64} (cx : Cx Z X own nm cc nL ret D mc ms) (d : decode cc pc = .ok (.pop2, 1)) (kk : Wm Z X nL G V k n Q (pc + 1) (lw) (st)) : Wm Z X nL G V k n Q pc lw (.long x :: st) :=
  fun H locs ls hM hS hl => lv_pop2_2 cx.1 cx.2.1 d rfl (kk H locs ls hM hS hl)
theorem x_lcmp {x y : Int64} (cx : Cx Z X own nm cc nL ret D mc ms) (d : decode cc pc = .ok (.lcmp, 1)) (kk : Wm Z X nL G V k n Q (pc + 1) (lw) (.int (lg_cmp x y) :: st)) : Wm Z X nL G V k n Q pc lw (.long y :: .long x :: st) :=
  fun H locs ls hM hS hl => W.lcmp cx.1 cx.2.1 d (kk H locs ls hM hS hl)
theorem x_if_eq {off : Int} {tgt : Nat} {x : Int32} (cx : Cx Z X own nm cc nL ret D mc ms) (d : decode cc pc = .ok (.ifCond .eq off, 3)) (ht : (pc : Int) + off = (tgt : Int)) (kt : x = 0 → Wm Z X nL G V k n Q (tgt) (lw) (st)) (kf : ¬ x = 0 → Wm Z X nL G V k n Q (pc + 3) (lw) (st)) : Wm Z X nL G V k n Q pc lw (.int x :: st) :=
  fun H locs ls hM hS hl => lv_if_eq cx.1 cx.2.1 d ht (fun h => kt h H locs ls hM hS hl) (fun h => kf h H locs ls hM hS hl)
theorem x_if_ne {off : Int} {tgt : Nat} {x : Int32} (cx : Cx Z X own nm cc nL ret D mc ms) (d : decode cc pc = .ok (.ifCond .ne off, 3)) (ht : (pc : Int) + off = (tgt : Int)) (kt : ¬ x = 0 → Wm Z X nL G V k n Q (tgt) (lw) (st)) (kf : x = 0 → Wm Z X nL G V k n Q (pc + 3) (lw) (st)) : Wm Z X nL G V k n Q pc lw (.int x :: st) :=
  fun H locs ls hM hS hl => lv_if_ne cx.1 cx.2.1 d ht (fun h => kt h H locs ls hM hS hl) (fun h => kf h H locs ls hM hS hl)
theorem x_if_lt {off : Int} {tgt : Nat} {x : Int32} (cx : Cx Z X own nm cc nL ret D mc ms) (d : decode cc pc = .ok (.ifCond .lt off, 3)) (ht : (pc : Int) + off = (tgt : Int)) (kt : x < 0 → Wm Z X nL G V k n Q (tgt) (lw) (st)) (kf : ¬ x < 0 → Wm Z X nL G V k n Q (pc + 3) (lw) (st)) : Wm Z X nL G V k n Q pc lw (.int x :: st) :=
  fun H locs ls hM hS hl => lv_if_lt cx.1 cx.2.1 d ht (fun h => kt h H locs ls hM hS hl) (fun h => kf h H locs ls hM hS hl)
theorem x_if_ge {off : Int} {tgt : Nat} {x : Int32} (cx : Cx Z X own nm cc nL ret D mc ms) (d : decode cc pc = .ok (.ifCond .ge off, 3)) (ht : (pc : Int) + off = (tgt : Int)) (kt : 0 ≤ x → Wm Z X nL G V k n Q (tgt) (lw) (st)) (kf : ¬ 0 ≤ x → Wm Z X nL G V k n Q (pc + 3) (lw) (st)) : Wm Z X nL G V k n Q pc lw (.int x :: st) :=
  fun H locs ls hM hS hl => lv_if_ge cx.1 cx.2.1 d ht (fun h => kt h H locs ls hM hS hl) (fun h => kf h H locs ls hM hS hl)
theorem x_if_gt {off : Int} {tgt : Nat} {x : Int32} (cx : Cx Z X own nm cc nL ret D mc ms) (d : decode cc pc = .ok (.ifCond .gt off, 3)) (ht : (pc : Int) + off = (tgt : Int)) (kt : 0 < x → Wm Z X nL G V k n Q (tgt) (lw) (st)) (kf : ¬ 0 < x → Wm Z X nL G V k n Q (pc + 3) (lw) (st)) : Wm Z X nL G V k n Q pc lw (.int x :: st) :=
  fun H locs ls hM hS hl => lv_if_gt cx.1 cx.2.1 d ht (fun h => kt h H locs ls hM hS hl) (fun h => kf h H locs ls hM hS hl)
theorem x_if_le {off : Int} {tgt : Nat} {x : Int32} (cx : Cx Z X own nm cc nL ret D mc ms) (d : decode cc pc = .ok (.ifCond .le off, 3)) (ht : (pc : Int) + off = (tgt : Int)) (kt : x ≤ 0 → Wm Z X nL G V k n Q (tgt) (lw) (st)) (kf : ¬ x ≤ 0 → Wm Z X nL G V k n Q (pc + 3) (lw) (st)) : Wm Z X nL G V k n Q pc lw (.int x :: st) :=
  fun H locs ls hM hS hl => lv_if_le cx.1 cx.2.1 d ht (fun h => kt h H locs ls hM hS hl) (fun h => kf h H locs ls hM hS hl)
theorem x_icmp_eq {off : Int} {tgt : Nat} {x y : Int32} (cx : Cx Z X own nm cc nL ret D mc ms) (d : decode cc pc = .ok (.if_icmp .eq off, 3)) (ht : (pc : Int) + off = (tgt : Int)) (kt : x = y → Wm Z X nL G V k n Q (tgt) (lw) (st)) (kf : ¬ x = y → Wm Z X nL G V k n Q (pc + 3) (lw) (st)) : Wm Z X nL G V k n Q pc lw (.int y :: .int x :: st) :=
  fun H locs ls hM hS hl => lv_icmp_eq cx.1 cx.2.1 d ht (fun h => kt h H locs ls hM hS hl) (fun h => kf h H locs ls hM hS hl)
theorem x_icmp_ne {off : Int} {tgt : Nat} {x y : Int32} (cx : Cx Z X own nm cc nL ret D mc ms) (d : decode cc pc = .ok (.if_icmp .ne off, 3)) (ht : (pc : Int) + off = (tgt : Int)) (kt : ¬ x = y → Wm Z X nL G V k n Q (tgt) (lw) (st)) (kf : x = y → Wm Z X nL G V k n Q (pc + 3) (lw) (st)) : Wm Z X nL G V k n Q pc lw (.int y :: .int x :: st) :=
  fun H locs ls hM hS hl => lv_icmp_ne cx.1 cx.2.1 d ht (fun h => kt h H locs ls hM hS hl) (fun h => kf h H locs ls hM hS hl)
theorem x_icmp_lt {off : Int} {tgt : Nat} {x y : Int32} (cx : Cx Z X own nm cc nL ret D mc ms) (d : decode cc pc = .ok (.if_icmp .lt off, 3)) (ht : (pc : Int) + off = (tgt : Int)) (kt : x < y → Wm Z X nL G V k n Q (tgt) (lw) (st)) (kf : ¬ x < y → Wm Z X nL G V k n Q (pc + 3) (lw) (st)) : Wm Z X nL G V k n Q pc lw (.int y :: .int x :: st) :=
  fun H locs ls hM hS hl => lv_icmp_lt cx.1 cx.2.1 d ht (fun h => kt h H locs ls hM hS hl) (fun h => kf h H locs ls hM hS hl)
theorem x_icmp_ge {off : Int} {tgt : Nat} {x y : Int32} (cx : Cx Z X own nm cc nL ret D mc ms) (d : decode cc pc = .ok (.if_icmp .ge off, 3)) (ht : (pc : Int) + off = (tgt : Int)) (kt : y ≤ x → Wm Z X nL G V k n Q (tgt) (lw) (st)) (kf : ¬ y ≤ x → Wm Z X nL G V k n Q (pc + 3) (lw) (st)) : Wm Z X nL G V k n Q pc lw (.int y :: .int x :: st) :=
  fun H locs ls hM hS hl => lv_icmp_ge cx.1 cx.2.1 d ht (fun h => kt h H locs ls hM hS hl) (fun h => kf h H locs ls hM hS hl)
theorem x_icmp_gt {off : Int} {tgt : Nat} {x y : Int32} (cx : Cx Z X own nm cc nL ret D mc ms) (d : decode cc pc = .ok (.if_icmp .gt off, 3)) (ht : (pc : Int) + off = (tgt : Int)) (kt : y < x → Wm Z X nL G V k n Q (tgt) (lw) (st)) (kf : ¬ y < x → Wm Z X nL G V k n Q (pc + 3) (lw) (st)) : Wm Z X nL G V k n Q pc lw (.int y :: .int x :: st) :=
  fun H locs ls hM hS hl => lv_icmp_gt cx.1 cx.2.1 d ht (fun h => kt h H locs ls hM hS hl) (fun h => kf h H locs ls hM hS hl)
theorem x_icmp_le {off : Int} {tgt : Nat} {x y : Int32} (cx : Cx Z X own nm cc nL ret D mc ms) (d : decode cc pc = .ok (.if_icmp .le off, 3)) (ht : (pc : Int) + off = (tgt : Int)) (kt : x ≤ y → Wm Z X nL G V k n Q (tgt) (lw) (st)) (kf : ¬ x ≤ y → Wm Z X nL G V k n Q (pc + 3) (lw) (st)) : Wm Z X nL G V k n Q pc lw (.int y :: .int x :: st) :=
  fun H locs ls hM hS hl => lv_icmp_le cx.1 cx.2.1 d ht (fun h => kt h H locs ls hM hS hl) (fun h => kf h H locs ls hM hS hl)
theorem x_lc_eq {off : Int} {tgt : Nat} {x y : Int64} (cx : Cx Z X own nm cc nL ret D mc ms) (d : decode cc pc = .ok (.lcmp, 1)) (d2 : decode cc (pc + 1) = .ok (.ifCond .eq off, 3)) (ht : ((pc + 1 : Nat) : Int) + off = (tgt : Int)) (kt : x = y → Wm Z X nL G V k n Q (tgt) (lw) (st)) (kf : ¬ x = y → Wm Z X nL G V k n Q (pc + 1 + 3) (lw) (st)) : Wm Z X nL G V k n Q pc lw (.long y :: .long x :: st) :=
  x_lcmp cx d (x_if_eq cx d2 ht (fun h => kt ((lg_cmp_eq x y).mp h)) (fun h => kf (fun q => h ((lg_cmp_eq x y).mpr q))))
theorem x_lc_ne {off : Int} {tgt : Nat} {x y : Int64} (cx : Cx Z X own nm cc nL ret D mc ms) (d : decode cc pc = .ok (.lcmp, 1)) (d2 : decode cc (pc + 1) = .ok (.ifCond .ne off, 3)) (ht : ((pc + 1 : Nat) : Int) + off = (tgt : Int)) (kt : ¬ x = y → Wm Z X nL G V k n Q (tgt) (lw) (st)) (kf : x = y → Wm Z X nL G V k n Q (pc + 1 + 3) (lw) (st)) : Wm Z X nL G V k n Q pc lw (.long y :: .long x :: st) :=
  x_lcmp cx d (x_if_ne cx d2 ht (fun h => kt (fun q => h ((lg_cmp_eq x y).mpr q))) (fun h => kf ((lg_cmp_eq x y).mp h)))
theorem x_lc_lt {off : Int} {tgt : Nat} {x y : Int64} (cx : Cx Z X own nm cc nL ret D mc ms) (d : decode cc pc = .ok (.lcmp, 1)) (d2 : decode cc (pc + 1) = .ok (.ifCond .lt off, 3)) (ht : ((pc + 1 : Nat) : Int) + off = (tgt : Int)) (kt : x < y → Wm Z X nL G V k n Q (tgt) (lw) (st)) (kf : ¬ x < y → Wm Z X nL G V k n Q (pc + 1 + 3) (lw) (st)) : Wm Z X nL G V k n Q pc lw (.long y :: .long x :: st) :=
  x_lcmp cx d (x_if_lt cx d2 ht (fun h => kt ((lg_cmp_lt x y).mp h)) (fun h => kf (fun q => h ((lg_cmp_lt x y).mpr q))))
theorem x_lc_ge {off : Int} {tgt : Nat} {x y : Int64} (cx : Cx Z X own nm cc nL ret D mc ms) (d : decode cc pc = .ok (.lcmp, 1)) (d2 : decode cc (pc + 1) = .ok (.ifCond .ge off, 3)) (ht : ((pc + 1 : Nat) : Int) + off = (tgt : Int)) (kt : y ≤ x → Wm Z X nL G V k n Q (tgt) (lw) (st)) (kf : ¬ y ≤ x → Wm Z X nL G V k n Q (pc + 1 + 3) (lw) (st)) : Wm Z X nL G V k n Q pc lw (.long y :: .long x :: st) :=
  x_lcmp cx d (x_if_ge cx d2 ht (fun h => kt ((lg_cmp_ge x y).mp h)) (fun h => kf (fun q => h ((lg_cmp_ge x y).mpr q))))
theorem x_lc_gt {off : Int} {tgt : Nat} {x y : Int64} (cx : Cx Z X own nm cc nL ret D mc ms) (d : decode cc pc = .ok (.lcmp, 1)) (d2 : decode cc (pc + 1) = .ok (.ifCond .gt off, 3)) (ht : ((pc + 1 : Nat) : Int) + off = (tgt : Int)) (kt : y < x → Wm Z X nL G V k n Q (tgt) (lw) (st)) (kf : ¬ y < x → Wm Z X nL G V k n Q (pc + 1 + 3) (lw) (st)) : Wm Z X nL G V k n Q pc lw (.long y :: .long x :: st) :=
  x_lcmp cx d (x_if_gt cx d2 ht (fun h => kt ((lg_cmp_gt x y).mp h)) (fun h => kf (fun q => h ((lg_cmp_gt x y).mpr q))))
theorem x_lc_le {off : Int} {tgt : Nat} {x y : Int64} (cx : Cx Z X own nm cc nL ret D mc ms) (d : decode cc pc = .ok (.lcmp, 1)) (d2 : decode cc (pc + 1) = .ok (.ifCond .le off, 3)) (ht : ((pc + 1 : Nat) : Int) + off = (tgt : Int)) (kt : x ≤ y → Wm Z X nL G V k n Q (tgt) (lw) (st)) (kf : ¬ x ≤ y → Wm Z X nL G V k n Q (pc + 1 + 3) (lw) (st)) : Wm Z X nL G V k n Q pc lw (.long y :: .long x :: st) :=
  x_lcmp cx d (x_if_le cx d2 ht (fun h => kt ((lg_cmp_le x y).mp h)) (fun h => kf (fun q => h ((lg_cmp_le x y).mpr q))))
theorem x_goto {off : Int} {tgt : Nat} (cx : Cx Z X own nm cc nL ret D mc ms) (d : decode cc pc = .ok (.goto off, 3)) (ht : (pc : Int) + off = (tgt : Int)) (kk : Wm Z X nL G V k n Q (tgt) (lw) (st)) : Wm Z X nL G V k n Q pc lw (st) :=
  fun H locs ls hM hS hl => lv_goto cx.1 cx.2.1 d ht (kk H locs ls hM hS hl)
theorem x_ifnull_s {off : Int} {a : Nat} (cx : Cx Z X own nm cc nL ret D mc ms) (d : decode cc pc = .ok (.ifnull off, 3)) (kk : Wm Z X nL G V k n Q (pc + 3) (lw) (st)) : Wm Z X nL G V k n Q pc lw (.ref a :: st) :=
  fun H locs ls hM hS hl => lv_ifnull cx.1 cx.2.1 d (kk H locs ls hM hS hl)
theorem x_ifnull_n {off : Int} {tgt : Nat} (cx : Cx Z X own nm cc nL ret D mc ms) (d : decode cc pc = .ok (.ifnull off, 3)) (ht : (pc : Int) + off = (tgt : Int)) (kk : Wm Z X nL G V k n Q (tgt) (lw) (st)) : Wm Z X nL G V k n Q pc lw (.null :: st) :=
  fun H locs ls hM hS hl => lv_ifnullN cx.1 cx.2.1 d ht (kk H locs ls hM hS hl)
theorem x_ifnonnull_s {off : Int} {tgt : Nat} {a : Nat} (cx : Cx Z X own nm cc nL ret D mc ms) (d : decode cc pc = .ok (.ifnonnull off, 3)) (ht : (pc : Int) + off = (tgt : Int)) (kk : Wm Z X nL G V k n Q (tgt) (lw) (st)) : Wm Z X nL G V k n Q pc lw (.ref a :: st) :=
  fun H locs ls hM hS hl => lv_ifnonnull cx.1 cx.2.1 d ht (kk H locs ls hM hS hl)
theorem x_ifnonnull_n {off : Int} (cx : Cx Z X own nm cc nL ret D mc ms) (d : decode cc pc = .ok (.ifnonnull off, 3)) (kk : Wm Z X nL G V k n Q (pc + 3) (lw) (st)) : Wm Z X nL G V k n Q pc lw (.null :: st) :=
  fun H locs ls hM hS hl => lv_ifnonnullN cx.1 cx.2.1 d (kk H locs ls hM hS hl)
theorem x_ifnull {off : Int} {tgt : Nat} {p : Option Nat} (cx : Cx Z X own nm cc nL ret D mc ms) (d : decode cc pc = .ok (.ifnull off, 3)) (ht : (pc : Int) + off = (tgt : Int)) (kt : p = none → Wm Z X nL G V k n Q (tgt) (lw) (st)) (kf : ∀ a : Nat, p = some a → Wm Z X nL G V k n Q (pc + 3) (lw) (st)) : Wm Z X nL G V k n Q pc lw (va_rf p :: st) := by
  cases p with
  | none => exact x_ifnull_n cx d ht (kt rfl)
  | some a => exact x_ifnull_s cx d (kf a rfl)
theorem x_ifnonnull {off : Int} {tgt : Nat} {p : Option Nat} (cx : Cx Z X own nm cc nL ret D mc ms) (d : decode cc pc = .ok (.ifnonnull off, 3)) (ht : (pc : Int) + off = (tgt : Int)) (kt : ∀ a : Nat, p = some a → Wm Z X nL G V k n Q (tgt) (lw) (st)) (kf : p = none → Wm Z X nL G V k n Q (pc + 3) (lw) (st)) : Wm Z X nL G V k n Q pc lw (va_rf p :: st) := by
  cases p with
  | none => exact x_ifnonnull_n cx d (kf rfl)
  | some a => exact x_ifnonnull_s cx d ht (kt a rfl)
theorem x_tabOut {dflt lo hi : Int} {offs : Array Int} {len : Nat} {x : Int32} {tgt : Nat} (cx : Cx Z X own nm cc nL ret D mc ms) (d : decode cc pc = .ok (.tableswitch dflt lo hi offs, len)) (h : x.toInt < lo ∨ hi < x.toInt) (ht : (pc : Int) + dflt = (tgt : Int)) (kk : Wm Z X nL G V k n Q (tgt) (lw) (st)) : Wm Z X nL G V k n Q pc lw (.int x :: st) :=
  fun H locs ls hM hS hl => lv_tableOut cx.1 cx.2.1 d h ht (kk H locs ls hM hS hl)
theorem x_tabIn {dflt lo hi off v : Int} {offs : Array Int} {len : Nat} {x : Int32} {tgt : Nat} (cx : Cx Z X own nm cc nL ret D mc ms) (d : decode cc pc = .ok (.tableswitch dflt lo hi offs, len)) (hx : x.toInt = v) (h1 : ¬ v < lo) (h2 : ¬ hi < v) (ho : offs[(v - lo).toNat]? = some off) (ht : (pc : Int) + off = (tgt : Int)) (kk : Wm Z X nL G V k n Q (tgt) (lw) (st)) : Wm Z X nL G V k n Q pc lw (.int x :: st) :=
  fun H locs ls hM hS hl => lv_tableIn cx.1 cx.2.1 d (by rw [hx]; exact h1) (by rw [hx]; exact h2) (by rw [hx]; exact ho) ht (kk H locs ls hM hS hl)
end XR
end
section
section XH
variable {Z : zP} {X : xP} {nL : Nat} {G : zG} {V : zV} {k n : Nat} {Q : State → Prop} {pc : Nat} {lw : List (Nat × Option Value)} {st : List Value} {own nm : String} {cc : ByteArray} {ret : Option FieldType} {D mc ms : Nat}
theorem u2_same {α : Type} (f : Nat → Nat → α) (i j : Nat) (v : α) : u2 f i j v i j = v := by simp [u2]
theorem u2_fst {α : Type} (f : Nat → Nat → α) {i j x y : Nat} (v : α) (h : x ≠ i) : u2 f i j v x y = f x y := by simp [u2, h]
theorem u2_snd {α : Type} (f : Nat → Nat → α) {i j x y : Nat} (v : α) (h : y ≠ j) : u2 f i j v x y = f x y := by simp [u2, h]
theorem MemOK.obj {H : Heap} {a c : Nat} (hM : MemOK Z G V H) (ha : isK Z G a c) (hc : c < 9) : t_OB a (Z.2.1.1 c) (fN c) (Z.2.1.2 c) H (fun k => fV G V c k a) := by
  obtain ⟨h1, h2, rfl⟩ := ha
  exact (hM.2.2.1 a h1 h2).1 hc
theorem MemOK.arr {H : Heap} {a t m : Nat} (hM : MemOK Z G V H) (ha : isA Z G a t m) : H[a]? = some (arrV (Z.2.2.1 t) m (fun j => aV G V t a j)) := by
  obtain ⟨h1, h2, h3⟩ := ha
  have h := (hM.2.2.1 a h1 h2).2
  rw [h3] at h
  simpa using h
theorem MemOK.one {H : Heap} {a c N : Nat} {C : String} {T : u_T} (hM : MemOK Z G V H) (ha : isK Z G a c) (hc9 : c < 9) (hc : vwCl[c]? = some (C, T, N)) (hN : fN c = N) : va_P Z.2.1 vwCl [(a, .inr (c, (List.range N).map (fun k => fV G V c k a)))] H := by
  intro i q hq
  have hi : i < 1 := (List.getElem?_eq_some_iff.mp hq).1
  rw [show i = 0 by omega] at hq
  cases hq
  refine ⟨_, hc, t_OB.to (V := fun k => fV G V c k a) (hN ▸ hM.obj ha hc9) (fun j hj => ?_)⟩
  simp [vp_V, hj]
theorem cOK_kept {G' : zG} {V' : zV} {H H1 : Heap} {q : Nat} (h : cOK Z G V H q) (hk : G'.2.1 q = G.2.1 q) (e : H1[q]? = H[q]?) (hf : ∀ c k : Nat, fV G' V' c k q = fV G V c k q) (hA : ∀ t j : Nat, aV G' V' t q j = aV G V t q j) : cOK Z G' V' H1 q := by
  unfold cOK at h ⊢
  rw [hk]
  refine ⟨fun h9 => ?_, fun h9 => ?_⟩
  · exact t_OB.to ((h.1 h9).kept e) (fun j _ => (hf _ j).symm)
  · rw [e, h.2 h9]
    exact congrArg some (congrArg (arrV _ _) (funext fun j => (hA _ j).symm))
theorem mem_put {G' : zG} {V' : zV} {H H1 : Heap} {a : Nat} (hM : MemOK Z G V H) (ha : Z.1 ≤ a) (hG : G'.1 = G.1) (hG2 : G'.2.1 = G.2.1) (z : H1.size = H.size) (oq : ∀ q : Nat, q ≠ a → H1[q]? = H[q]?) (hs : cOK Z G' V' H1 a)
    (ho : ∀ q : Nat, q ≠ a → (∀ c k : Nat, fV G' V' c k q = fV G V c k q) ∧ ∀ t j : Nat, aV G' V' t q j = aV G V t q j) (hfr : zFr G' V') : MemOK Z G' V' H1 := by
  refine ⟨by rw [z, hM.1, hG], by rw [hG]; exact hM.2.1, fun q h1 h2 => ?_, hfr, fun q hq => ?_⟩
  · by_cases hqa : q = a
    · subst hqa
      exact hs
    · exact cOK_kept (hM.2.2.1 q h1 (hG ▸ h2)) (by rw [hG2]) (oq q hqa) (ho q hqa).1 (ho q hqa).2
  · rw [oq q (by omega)]
    exact hM.2.2.2.2 q hq
theorem x_getf {C : String} {T : u_T} {N c i idx a : Nat} {v : Value} (hc : vwCl[c]? = some (C, T, N)) (hin : ∀ w ∈ u_ws C T N, w ∈ WA) (hN : fN c = N) (hc9 : c < 9) (hi : i < N) (hlink : Cond.fieldLink own idx (T i).1 (T i).2.1 (T i).2.2.1 ∈ WA) (hv : fV G V c i a = v)
    (cx : Cx Z X own nm cc nL ret D mc ms) (d : decode cc pc = .ok (.getfield idx, 3)) (ha : isK Z G a c) (kk : Wm Z X nL G V k n Q (pc + 3) lw (v :: st)) : Wm Z X nL G V k n Q pc lw (.ref a :: st) :=
  fun H locs ls hM hS hl => va_get cx.1 cx.2.1 cx.2.2.2.2.1 hin cx.2.2.2.1 cx.2.2.2.2.2.1.1 (hM.one ha hc9 hc hN) 0 rfl hc i hi (cx.2.2.2.2.1 _ hlink) (fun _ h => h) (by rw [List.getElem?_map, List.getElem?_range hi, ← hv]; rfl) d (kk H locs ls hM hS hl)
theorem x_getfN {C host : String} {T : u_T} {N c i idx a : Nat} {v : Value} (hc : vwCl[c]? = some (C, T, N)) (hin : ∀ w ∈ u_ws C T N, w ∈ WA) (hN : fN c = N) (hc9 : c < 9) (hi : i < N) (hlink : Cond.fieldLinkNest own idx (T i).1 (T i).2.1 (T i).2.2.1 host ∈ WN) (hv : fV G V c i a = v)
    (cx : Cx Z X own nm cc nL ret D mc ms) (d : decode cc pc = .ok (.getfield idx, 3)) (ha : isK Z G a c) (kk : Wm Z X nL G V k n Q (pc + 3) lw (v :: st)) : Wm Z X nL G V k n Q pc lw (.ref a :: st) :=
  fun H locs ls hM hS hl => va_getN cx.1 cx.2.1 cx.2.2.2.2.1 hin cx.2.2.2.1 cx.2.2.2.2.2.1.1 (hM.one ha hc9 hc hN) 0 rfl hc i hi (va_Nw.use rfl (cx.2.2.2.2.2.1.2.1 _ hlink)) (fun _ h => h) (by rw [List.getElem?_map, List.getElem?_range hi, ← hv]; rfl) d (kk H locs ls hM hS hl)
/-- what a field's change does to the memory -/
def putOK (G : zG) (V : zV) (G' : zG) (V' : zV) (c i a : Nat) (v : Value) : Prop := G'.1 = G.1 ∧ G'.2.1 = G.2.1 ∧ (∀ j : Nat, j < 50 → fV G' V' c j a = updV (fun j => fV G V c j a) i v j) ∧ (∀ q : Nat, q ≠ a → (∀ c k : Nat, fV G' V' c k q = fV G V c k q) ∧ ∀ t j : Nat, aV G' V' t q j = aV G V t q j) ∧ (zFr G V → a < G.1 → zFr G' V')
theorem putOK_I {c i a : Nat} {x : Int32} (ht : fTag c i = 0) (hi : i < 50) : putOK G V G (sI V (50 * c + i) a x) c i a (.int x) := by
  refine ⟨rfl, rfl, fun j hj => ?_, fun q hq => ⟨fun c' k' => ?_, fun t j => rfl⟩, fun h ha q f hq => ?_⟩
  · by_cases e : j = i
    · subst e
      simp [updV, fV, ht, sI, u2]
    · simp only [updV, if_neg e, fV, sI]
      rw [u2_fst _ _ (by omega)]
  · simp only [fV, sI]
    rw [u2_snd _ _ hq]
  · refine ⟨?_, (h q f hq).2⟩
    show u2 V.1 (50 * c + i) a x f q = 0
    rw [u2_snd _ _ (by omega)]
    exact (h q f hq).1
theorem putOK_L {c i a : Nat} {x : Int64} (ht : fTag c i = 1) (hi : i < 50) : putOK G V G (sL V (50 * c + i) a x) c i a (.long x) := by
  refine ⟨rfl, rfl, fun j hj => ?_, fun q hq => ⟨fun c' k' => ?_, fun t j => rfl⟩, fun h ha q f hq => ?_⟩
  · by_cases e : j = i
    · subst e
      simp [updV, fV, ht, sL, u2]
    · simp only [updV, if_neg e, fV, sL]
      rw [u2_fst _ _ (by omega)]
  · simp only [fV, sL]
    rw [u2_snd _ _ hq]
  · refine ⟨(h q f hq).1, ?_, (h q f hq).2.2⟩
    show u2 V.2.1 (50 * c + i) a x f q = 0
    rw [u2_snd _ _ (by omega)]
    exact (h q f hq).2.1
theorem putOK_R {c i a : Nat} {x : Option Nat} (ht : fTag c i = 2) (hi : i < 50) : putOK G V (sR G (50 * c + i) a x) V c i a (va_rf x) := by
  refine ⟨rfl, rfl, fun j hj => ?_, fun q hq => ⟨fun c' k' => ?_, fun t j => rfl⟩, fun h ha q f hq => ?_⟩
  · by_cases e : j = i
    · subst e
      simp [updV, fV, ht, sR, u2]
    · simp only [updV, if_neg e, fV, sR]
      rw [u2_fst _ _ (by omega)]
  · simp only [fV, sR]
    rw [u2_snd _ _ hq]
  · refine ⟨(h q f hq).1, (h q f hq).2.1, ?_, (h q f hq).2.2.2⟩
    show u2 G.2.2.1 (50 * c + i) a x f q = none
    have hq2 : G.1 ≤ q := hq
    rw [u2_snd _ _ (by omega)]
    exact (h q f hq).2.2.1
theorem mem_putf {G' : zG} {V' : zV} {H H1 : Heap} {a c i N : Nat} {v : Value} (hM : MemOK Z G V H) (hp : putOK G V G' V' c i a v) (ha : isK Z G a c) (hc9 : c < 9) (hN : fN c = N) (hN50 : N ≤ 50) (z : H1.size = H.size) (oq : ∀ q : Nat, q ≠ a → H1[q]? = H[q]?)
    (hs : t_OB a (Z.2.1.1 c) N (Z.2.1.2 c) H1 (updV (fun k => fV G V c k a) i v)) : MemOK Z G' V' H1 := by
  obtain ⟨p1, p2, p3, p4, p5⟩ := hp
  refine mem_put hM ha.1 p1 p2 z oq ?_ p4 (p5 hM.2.2.2.1 ha.2.1)
  unfold cOK
  rw [p2, ha.2.2]
  exact ⟨fun _ => hN ▸ t_OB.to hs (fun j hj => (p3 j (by omega)).symm), fun h => absurd hc9 h⟩
theorem x_putf {C : String} {T : u_T} {N c i idx a : Nat} {v : Value} {ty : FieldType} {G' : zG} {V' : zV} (ty0 : Nat → FieldType) (hc : vwCl[c]? = some (C, T, N)) (hin : ∀ w ∈ u_ws C T N, w ∈ WA) (hty : ∀ k, k < N → parseFieldDescriptor (T k).2.2.1 = some (ty0 k)) (hnm : ∀ a, a < N → ∀ b, b < N → a ≠ b → (T a).2.1 ≠ (T b).2.1) (hN : fN c = N) (hN50 : N ≤ 50) (hc9 : c < 9) (hi : i < N) (hlink : Cond.fieldLink own idx (T i).1 (T i).2.1 (T i).2.2.1 ∈ WA) (hfin : (T i).2.2.2 = false) (hd : parseFieldDescriptor (T i).2.2.1 = some ty) (hp : putOK G V G' V' c i a v)
    (cx : Cx Z X own nm cc nL ret D mc ms) (d : decode cc pc = .ok (.putfield idx, 3)) (ha : isK Z G a c) (hn : narrow ty v = v) (hfit : fits ty v = true) (kk : Wm Z X nL G' V' k n Q (pc + 3) lw st) : Wm Z X nL G V k n Q pc lw (v :: .ref a :: st) := by
  intro H locs ls hM hS hl
  have hts := cx.2.2.2.2.1
  have hK := cx.2.2.2.2.2.1.1
  have hap := va_apart (own := own) hts hin ty0 hty hnm hK hc
  obtain ⟨cell, q1, q2, q3, q4⟩ := hN ▸ hM.obj ha hc9
  obtain ⟨hSl, hfc, kC, hkC, hkind⟩ := hK.1 c _ hc
  obtain ⟨cf, kf, fi, f, hif, hsl⟩ := hSl i hi
  have hlay := hts _ (hin _ (u_in_lay hi))
  unfold u_lay at hlay
  rw [if_neg (by rw [hfin]; decide)] at hlay
  have hst := (u_facts hfc hkC (u_lays hts hin hi) hif).1
  have h6 := u_store hfc hkC hkind hlay hif hd hn hfit
  refine W.putK cx.1 cx.2.1 (f := f) ⟨cx.2.2.2.1, hts _ hlink, ⟨_, _, _, hif⟩, hst⟩ (by rw [q2]; exact h6) q1 q3 (by rw [hsl]; exact k2_hasslot (q4 i hi)) rfl rfl d fun H' e1 e2 e3 => ?_
  rw [hsl] at e1 ⊢
  exact kk H' _ ls (mem_putf hM hp ha hc9 hN hN50 e2 e3 ⟨_, e1, q2, q3, t_set q4 hap hi v⟩) (hS.put e2 e3 ha.1) hl
theorem x_putfN {C host : String} {T : u_T} {N c i idx a : Nat} {v : Value} {ty : FieldType} {G' : zG} {V' : zV} (ty0 : Nat → FieldType) (hc : vwCl[c]? = some (C, T, N)) (hin : ∀ w ∈ u_ws C T N, w ∈ WA) (hty : ∀ k, k < N → parseFieldDescriptor (T k).2.2.1 = some (ty0 k)) (hnm : ∀ a, a < N → ∀ b, b < N → a ≠ b → (T a).2.1 ≠ (T b).2.1) (hN : fN c = N) (hN50 : N ≤ 50) (hc9 : c < 9) (hi : i < N) (hlink : Cond.fieldLinkNest own idx (T i).1 (T i).2.1 (T i).2.2.1 host ∈ WN) (hfin : (T i).2.2.2 = false) (hd : parseFieldDescriptor (T i).2.2.1 = some ty) (hp : putOK G V G' V' c i a v)
    (cx : Cx Z X own nm cc nL ret D mc ms) (d : decode cc pc = .ok (.putfield idx, 3)) (ha : isK Z G a c) (hn : narrow ty v = v) (hfit : fits ty v = true) (kk : Wm Z X nL G' V' k n Q (pc + 3) lw st) : Wm Z X nL G V k n Q pc lw (v :: .ref a :: st) := by
  intro H locs ls hM hS hl
  have hts := cx.2.2.2.2.1
  have hK := cx.2.2.2.2.2.1.1
  have hap := va_apart (own := own) hts hin ty0 hty hnm hK hc
  obtain ⟨cell, q1, q2, q3, q4⟩ := hN ▸ hM.obj ha hc9
  obtain ⟨hSl, hfc, kC, hkC, hkind⟩ := hK.1 c _ hc
  obtain ⟨cf, kf, fi, f, hif, hsl⟩ := hSl i hi
  have hlay := hts _ (hin _ (u_in_lay hi))
  unfold u_lay at hlay
  rw [if_neg (by rw [hfin]; decide)] at hlay
  have hst := (u_facts hfc hkC (u_lays hts hin hi) hif).1
  have h6 := u_store hfc hkC hkind hlay hif hd hn hfit
  refine va_WputK cx.1 cx.2.1 (f := f) cx.2.2.2.1 (va_Nw.use rfl (cx.2.2.2.2.2.1.2.1 _ hlink)) hif hst (by rw [q2]; exact h6) q1 q3 (by rw [hsl]; exact k2_hasslot (q4 i hi)) rfl rfl d fun H' e1 e2 e3 => ?_
  rw [hsl] at e1 ⊢
  exact kk H' _ ls (mem_putf hM hp ha hc9 hN hN50 e2 e3 ⟨_, e1, q2, q3, t_set q4 hap hi v⟩) (hS.put e2 e3 ha.1) hl
theorem x_putfF {C : String} {T : u_T} {N c i idx a : Nat} {v : Value} {ty : FieldType} {G' : zG} {V' : zV} (ty0 : Nat → FieldType) (hc : vwCl[c]? = some (C, T, N)) (hin : ∀ w ∈ u_ws C T N, w ∈ WA) (hty : ∀ k, k < N → parseFieldDescriptor (T k).2.2.1 = some (ty0 k)) (hnm : ∀ a, a < N → ∀ b, b < N → a ≠ b → (T a).2.1 ≠ (T b).2.1) (hN : fN c = N) (hN50 : N ≤ 50) (hc9 : c < 9) (hi : i < N) (hlink : Cond.fieldLink own idx (T i).1 (T i).2.1 (T i).2.2.1 ∈ WA) (hfin : (T i).2.2.2 = true) (hdecl : (T i).1 = own) (hd : parseFieldDescriptor (T i).2.2.1 = some ty) (hp : putOK G V G' V' c i a v)
    (cx : Cx Z X own "<init>" cc nL ret D mc ms) (d : decode cc pc = .ok (.putfield idx, 3)) (ha : isK Z G a c) (hn : narrow ty v = v) (hfit : fits ty v = true) (kk : Wm Z X nL G' V' k n Q (pc + 3) lw st) : Wm Z X nL G V k n Q pc lw (v :: .ref a :: st) := by
  intro H locs ls hM hS hl
  have hts := cx.2.2.2.2.1
  have hK := cx.2.2.2.2.2.1.1
  have hap := va_apart (own := own) hts hin ty0 hty hnm hK hc
  obtain ⟨cell, q1, q2, q3, q4⟩ := hN ▸ hM.obj ha hc9
  obtain ⟨hSl, hfc, kC, hkC, hkind⟩ := hK.1 c _ hc
  obtain ⟨cf, kf, fi, f, hif, hsl⟩ := hSl i hi
  have hlay := hts _ (hin _ (u_in_lay hi))
  unfold u_lay at hlay
  rw [if_pos hfin] at hlay
  have hst := (u_facts hfc hkC (u_lays hts hin hi) hif).1
  have hcf : X.2.2.2.2.2.1.cls = cf := by
    obtain ⟨_, _, c', _, _, _, -, -, hf', -, -, -, hown2, -⟩ := Cond.laysFinal_spec hlay
    have e1 : c' = cf := by have := hif.symm.trans hf'; simp at this; exact this.1.symm
    rw [hdecl] at hown2
    rw [← e1]; exact Option.some.inj (cx.2.2.2.1.symm.trans hown2)
  have h6 := u_fits hfc hkC hkind (Or.inr hlay) hif hd hn hfit
  refine W.putFinK cx.1 cx.2.1 cx.2.2.2.1 (hts _ hlink) hif hst hcf cx.2.2.2.2.2.2.2.2.1 (by rw [q2]; exact h6) q1 q3 (by rw [hsl]; exact k2_hasslot (q4 i hi)) rfl rfl d fun H' e1 e2 e3 => ?_
  rw [hsl] at e1 ⊢
  exact kk H' _ ls (mem_putf hM hp ha hc9 hN hN50 e2 e3 ⟨_, e1, q2, q3, t_set q4 hap hi v⟩) (hS.put e2 e3 ha.1) hl
end XH
end
section
section XA
variable {Z : zP} {X : xP} {nL : Nat} {G : zG} {V : zV} {k n : Nat} {Q : State → Prop} {pc : Nat} {lw : List (Nat × Option Value)} {st : List Value} {own nm : String} {cc : ByteArray} {ret : Option FieldType} {D mc ms : Nat}
theorem Cx.tys {t : Nat} (cx : Cx Z X own nm cc nL ret D mc ms) (ht : t < 9) : ArrOfT X.2.2.2.2.1 (Z.2.2.1 t) (zTy t) ∧ va_RA X.2.2.2.2.1 (Z.2.2.1 t) (zTy t) := cx.2.2.2.2.2.1.1.2 t _ (zTys_at Z ht)
theorem nI_ix {j m : Nat} (h : j < m) (hm : m < 2 ^ 31) : ¬ (nI j < 0 ∨ m ≤ (nI j).toNatClampNeg) := nI_in h hm
theorem x_iaload {a m j : Nat} (cx : Cx Z X own nm cc nL ret D mc ms) (d : decode cc pc = .ok (.iaload, 1)) (ha : isA Z G a 1 m) (hj : j < m) (hm : m < 2 ^ 31) (kk : Wm Z X nL G V k n Q (pc + 1) lw (.int (V.2.2.1 a j) :: st)) : Wm Z X nL G V k n Q pc lw (.int (nI j) :: .ref a :: st) := by
  intro H locs ls hM hS hl
  have hc := nI_clamp (n := j) (by omega)
  exact W.iald (v := .int (V.2.2.1 a j)) cx.1 cx.2.1 (hM.arr ha) ((cx.tys (t := 1) (by decide)).1 m _) (fun q => by cases q) (by rw [arrV_size]; exact nI_ix hj hm) (by rw [hc, arrV_read _ _ hj]; rfl) rfl rfl d (kk H locs ls hM hS hl)
theorem x_baload {a m j : Nat} (cx : Cx Z X own nm cc nL ret D mc ms) (d : decode cc pc = .ok (.baload, 1)) (ha : isA Z G a 0 m) (hj : j < m) (hm : m < 2 ^ 31) (kk : Wm Z X nL G V k n Q (pc + 1) lw (.int (V.2.2.1 a j) :: st)) : Wm Z X nL G V k n Q pc lw (.int (nI j) :: .ref a :: st) := by
  intro H locs ls hM hS hl
  have hc := nI_clamp (n := j) (by omega)
  exact W.bald (v := .int (V.2.2.1 a j)) cx.1 cx.2.1 (hM.arr ha) ((cx.tys (t := 0) (by decide)).1 m _) (fun q => by cases q) (by rw [arrV_size]; exact nI_ix hj hm) (by rw [hc, arrV_read _ _ hj]; rfl) rfl rfl d (kk H locs ls hM hS hl)
theorem x_laload {a m j : Nat} (cx : Cx Z X own nm cc nL ret D mc ms) (d : decode cc pc = .ok (.laload, 1)) (ha : isA Z G a 2 m) (hj : j < m) (hm : m < 2 ^ 31) (kk : Wm Z X nL G V k n Q (pc + 1) lw (.long (V.2.2.2 a j) :: st)) : Wm Z X nL G V k n Q pc lw (.int (nI j) :: .ref a :: st) := by
  intro H locs ls hM hS hl
  have hc := nI_clamp (n := j) (by omega)
  exact W.lald (v := .long (V.2.2.2 a j)) cx.1 cx.2.1 (hM.arr ha) ((cx.tys (t := 2) (by decide)).1 m _) (fun q => by cases q) (by rw [arrV_size]; exact nI_ix hj hm) (by rw [hc, arrV_read _ _ hj]; rfl) rfl rfl d (kk H locs ls hM hS hl)
theorem zTy_ref {t : Nat} (h3 : 3 ≤ t) : (zTy t).isReference = true := by
  obtain ⟨u, rfl⟩ : ∃ u, t = u + 3 := ⟨t - 3, by omega⟩
  match u with
  | 0 => rfl
  | 1 => rfl
  | 2 => rfl
  | 3 => rfl
  | 4 => rfl
  | u + 5 => rfl
theorem aV_ref {t a j : Nat} (h3 : 3 ≤ t) : aV G V t a j = va_rf (G.2.2.2 a j) := by
  obtain ⟨u, rfl⟩ : ∃ u, t = u + 3 := ⟨t - 3, by omega⟩
  rfl
theorem x_aaload {a m j t : Nat} (cx : Cx Z X own nm cc nL ret D mc ms) (d : decode cc pc = .ok (.aaload, 1)) (ha : isA Z G a t m) (h3 : 3 ≤ t) (h9 : t < 9) (hj : j < m) (hm : m < 2 ^ 31) (kk : Wm Z X nL G V k n Q (pc + 1) lw (va_rf (G.2.2.2 a j) :: st)) : Wm Z X nL G V k n Q pc lw (.int (nI j) :: .ref a :: st) := by
  intro H locs ls hM hS hl
  have hc := nI_clamp (n := j) (by omega)
  exact W.aald (v := va_rf (G.2.2.2 a j)) cx.1 cx.2.1 (hM.arr ha) ((cx.tys h9).1 m _) (zTy_ref h3) (fun q => by cases q) (by rw [arrV_size]; exact nI_ix hj hm) (by rw [hc, arrV_read _ _ hj, aV_ref h3]) rfl rfl d (kk H locs ls hM hS hl)
theorem x_alen {a m t : Nat} (cx : Cx Z X own nm cc nL ret D mc ms) (d : decode cc pc = .ok (.arraylength, 1)) (ha : isA Z G a t m) (h9 : t < 9) (kk : Wm Z X nL G V k n Q (pc + 1) lw (.int (nI m) :: st)) : Wm Z X nL G V k n Q pc lw (.ref a :: st) :=
  fun H locs ls hM hS hl => W.alen (n := nI m) cx.1 cx.2.1 (hM.arr ha) ((cx.tys h9).1 m _) (by rw [arrV_size]; rfl) rfl rfl d (kk H locs ls hM hS hl)
theorem mem_puta {G' : zG} {V' : zV} {H H1 : Heap} {a t m i : Nat} {v : Value} (hM : MemOK Z G V H) (ha : isA Z G a t m) (hG : G'.1 = G.1) (hG2 : G'.2.1 = G.2.1) (z : H1.size = H.size) (oq : ∀ q : Nat, q ≠ a → H1[q]? = H[q]?) (e : H1[a]? = some ((arrV (Z.2.2.1 t) m (fun j => aV G V t a j)).setSlot i v))
    (hs : ∀ j : Nat, aV G' V' t a j = updV (fun j => aV G V t a j) i v j) (ho : ∀ q : Nat, q ≠ a → (∀ c k : Nat, fV G' V' c k q = fV G V c k q) ∧ ∀ t j : Nat, aV G' V' t q j = aV G V t q j) (hfr : zFr G' V') : MemOK Z G' V' H1 := by
  refine mem_put hM ha.1 hG hG2 z oq ?_ ho hfr
  unfold cOK
  rw [hG2, ha.2.2]
  refine ⟨fun h => absurd h (by omega), fun _ => ?_⟩
  rw [e, arrV_store]
  show _ = some (arrV (Z.2.2.1 (9 + t - 9)) m fun j => aV G' V' (9 + t - 9) a j)
  rw [show 9 + t - 9 = t by omega]
  exact congrArg some (congrArg (arrV _ _) (funext fun j => (hs j).symm))
theorem x_iastore {a m j : Nat} {x : Int32} (cx : Cx Z X own nm cc nL ret D mc ms) (d : decode cc pc = .ok (.iastore, 1)) (ha : isA Z G a 1 m) (hj : j < m) (hm : m < 2 ^ 31) (kk : Wm Z X nL G (sAI V a j x) k n Q (pc + 1) lw st) : Wm Z X nL G V k n Q pc lw (.int x :: .int (nI j) :: .ref a :: st) := by
  intro H locs ls hM hS hl
  have hc := nI_clamp (n := j) (by omega)
  refine W.iast cx.1 cx.2.1 (hM.arr ha) ((cx.tys (t := 1) (by decide)).1 m _) (fun q => by cases q) (by rw [arrV_size]; exact nI_ix hj hm) rfl rfl d fun H1 e z oq => ?_
  rw [hc] at e ⊢
  refine kk H1 _ ls (mem_puta hM ha rfl rfl z oq e (fun i => ?_) (fun q hq => ⟨fun c i => rfl, fun t i => ?_⟩) (fun q f hq => ?_)) (hS.put z oq ha.1) hl
  · by_cases h : i = j
    · subst h
      simp [updV, aV, sAI, u2]
    · simp only [updV, if_neg h, aV, sAI]
      rw [u2_snd _ _ h]
  · unfold aV sAI
    dsimp only
    rw [u2_fst _ _ hq]
  · obtain ⟨f1, f2, f3, f4, f5, f6⟩ := hM.2.2.2.1 q f hq
    refine ⟨f1, f2, f3, ?_, f5, f6⟩
    show u2 V.2.2.1 a j x q f = 0
    have := ha.2.1
    rw [u2_fst _ _ (by omega)]
    exact f4
theorem x_bastore {a m j : Nat} {x : Int32} (cx : Cx Z X own nm cc nL ret D mc ms) (d : decode cc pc = .ok (.bastore, 1)) (ha : isA Z G a 0 m) (hj : j < m) (hm : m < 2 ^ 31) (kk : Wm Z X nL G (sAI V a j x.toInt8.toInt32) k n Q (pc + 1) lw st) : Wm Z X nL G V k n Q pc lw (.int x :: .int (nI j) :: .ref a :: st) := by
  intro H locs ls hM hS hl
  have hc := nI_clamp (n := j) (by omega)
  refine W.bast cx.1 cx.2.1 (hM.arr ha) ((cx.tys (t := 0) (by decide)).1 m _) (fun q => by cases q) (by rw [arrV_size]; exact nI_ix hj hm) rfl rfl d fun H1 e z oq => ?_
  rw [hc] at e ⊢
  refine kk H1 _ ls (mem_puta (v := .int x.toInt8.toInt32) hM ha rfl rfl z oq e (fun i => ?_) (fun q hq => ⟨fun c i => rfl, fun t i => ?_⟩) (fun q f hq => ?_)) (hS.put z oq ha.1) hl
  · by_cases h : i = j
    · subst h
      simp [updV, aV, sAI, u2]
    · simp only [updV, if_neg h, aV, sAI]
      rw [u2_snd _ _ h]
  · unfold aV sAI
    dsimp only
    rw [u2_fst _ _ hq]
  · obtain ⟨f1, f2, f3, f4, f5, f6⟩ := hM.2.2.2.1 q f hq
    refine ⟨f1, f2, f3, ?_, f5, f6⟩
    show u2 V.2.2.1 a j _ q f = 0
    have := ha.2.1
    rw [u2_fst _ _ (by omega)]
    exact f4
theorem x_lastore {a m j : Nat} {x : Int64} (cx : Cx Z X own nm cc nL ret D mc ms) (d : decode cc pc = .ok (.lastore, 1)) (ha : isA Z G a 2 m) (hj : j < m) (hm : m < 2 ^ 31) (kk : Wm Z X nL G (sAJ V a j x) k n Q (pc + 1) lw st) : Wm Z X nL G V k n Q pc lw (.long x :: .int (nI j) :: .ref a :: st) := by
  intro H locs ls hM hS hl
  have hc := nI_clamp (n := j) (by omega)
  refine W.last cx.1 cx.2.1 (hM.arr ha) ((cx.tys (t := 2) (by decide)).1 m _) (fun q => by cases q) (by rw [arrV_size]; exact nI_ix hj hm) rfl rfl d fun H1 e z oq => ?_
  rw [hc] at e ⊢
  refine kk H1 _ ls (mem_puta hM ha rfl rfl z oq e (fun i => ?_) (fun q hq => ⟨fun c i => rfl, fun t i => ?_⟩) (fun q f hq => ?_)) (hS.put z oq ha.1) hl
  · by_cases h : i = j
    · subst h
      simp [updV, aV, sAJ, u2]
    · simp only [updV, if_neg h, aV, sAJ]
      rw [u2_snd _ _ h]
  · unfold aV sAJ
    dsimp only
    rw [u2_fst _ _ hq]
  · obtain ⟨f1, f2, f3, f4, f5, f6⟩ := hM.2.2.2.1 q f hq
    refine ⟨f1, f2, f3, f4, ?_, f6⟩
    show u2 V.2.2.2 a j x q f = 0
    have := ha.2.1
    rw [u2_fst _ _ (by omega)]
    exact f5
theorem mem_sAR {H H1 : Heap} {a t m j : Nat} {v : Option Nat} (hM : MemOK Z G V H) (ha : isA Z G a t m) (h3 : 3 ≤ t) (z : H1.size = H.size) (oq : ∀ q : Nat, q ≠ a → H1[q]? = H[q]?) (e : H1[a]? = some ((arrV (Z.2.2.1 t) m (fun j => aV G V t a j)).setSlot j (va_rf v))) : MemOK Z (sAR G a j v) V H1 := by
  refine mem_puta hM ha rfl rfl z oq e (fun i => ?_) (fun q hq => ⟨fun c i => rfl, fun t' i => ?_⟩) (fun q f hq => ?_)
  · rw [aV_ref h3]
    by_cases h : i = j
    · subst h
      simp [updV, sAR, u2]
    · simp only [updV, if_neg h, sAR]
      rw [u2_snd _ _ h, aV_ref h3]
  · unfold aV sAR
    dsimp only
    rw [u2_fst _ _ hq]
  · have hq2 : G.1 ≤ q := hq
    obtain ⟨f1, f2, f3, f4, f5, f6⟩ := hM.2.2.2.1 q f hq2
    refine ⟨f1, f2, f3, f4, f5, ?_⟩
    show u2 G.2.2.2 a j v q f = none
    have := ha.2.1
    rw [u2_fst _ _ (by omega)]
    exact f6
/-- an object goes into an array of references to its class (element type t: class c) -/
theorem x_aastore {a m j t c v N : Nat} {C : String} {T : u_T} (cx : Cx Z X own nm cc nL ret D mc ms) (hc : vwCl[c]? = some (C, T, N)) (hz : zTy t = .object C) (hc9 : c < 9) (d : decode cc pc = .ok (.aastore, 1)) (ha : isA Z G a t m) (h3 : 3 ≤ t) (h9 : t < 9) (hj : j < m) (hm : m < 2 ^ 31) (hv : isK Z G v c) (kk : Wm Z X nL (sAR G a j (some v)) V k n Q (pc + 1) lw st) : Wm Z X nL G V k n Q pc lw (.ref v :: .int (nI j) :: .ref a :: st) := by
  intro H locs ls hM hS hl
  have hcl := nI_clamp (n := j) (by omega)
  have hn := nI_ix hj hm
  obtain ⟨cellV, g1, g2, g3, -⟩ := hM.obj hv hc9
  have hcls := (cx.2.2.2.2.2.1.1.1 c _ hc).2
  have hRA := (cx.tys h9).2
  rw [hz] at hRA
  obtain ⟨kA, comp, k1, k2, k3, -⟩ := hRA
  have hcomp : comp = Z.2.1.1 c := Option.some.inj (k3.symm.trans hcls.1)
  subst hcomp
  obtain ⟨kC, hkC, -⟩ := hcls.2
  refine W.aast cx.1 cx.2.1 (hM.arr ha) (fun q h => by cases h) (fun h => by cases h) k1 k2 rfl hkC ⟨fun q => hn (Or.inl q), by rw [arrV_size, hcl]; exact hj⟩ g1 (fun q h => by rw [g3] at h; cases h) (by rw [g2]; exact hkC) (by rw [g2]; exact va_assign hcls) rfl rfl d fun H1 e z oq => ?_
  rw [hcl] at e ⊢
  exact kk H1 _ ls (mem_sAR (v := some v) hM ha h3 z oq e) (hS.put z oq ha.1) hl
theorem x_aastoreN {a m j t : Nat} {C : String} (cx : Cx Z X own nm cc nL ret D mc ms) (hz : zTy t = .object C) (d : decode cc pc = .ok (.aastore, 1)) (ha : isA Z G a t m) (h3 : 3 ≤ t) (h9 : t < 9) (hj : j < m) (hm : m < 2 ^ 31) (kk : Wm Z X nL (sAR G a j none) V k n Q (pc + 1) lw st) : Wm Z X nL G V k n Q pc lw (.null :: .int (nI j) :: .ref a :: st) := by
  intro H locs ls hM hS hl
  have hcl := nI_clamp (n := j) (by omega)
  have hn := nI_ix hj hm
  refine va_WaastN (C := C) cx.1 cx.2.1 (hM.arr ha) (hz ▸ (cx.tys h9).1 m _) (fun h => by cases h) (by rw [arrV_size]; exact hn) rfl rfl d fun H1 e z oq => ?_
  rw [hcl] at e ⊢
  exact kk H1 _ ls (mem_sAR (v := none) hM ha h3 z oq e) (hS.put z oq ha.1) hl
end XA
end
section
section XN
variable {Z : zP} {X : xP} {nL : Nat} {G : zG} {V : zV} {k n : Nat} {Q : State → Prop} {pc : Nat} {lw : List (Nat × Option Value)} {st : List Value} {own nm : String} {cc : ByteArray} {ret : Option FieldType} {D mc ms : Nat}
theorem fV_nG (t m c i a : Nat) : fV (nG G t m) V c i a = fV G V c i a := rfl
theorem aV_nG (t m c i a : Nat) : aV (nG G t m) V c i a = aV G V c i a := rfl
/-- one cell more -/
theorem mem_new {H H1 : Heap} {t m : Nat} (hM : MemOK Z G V H) (z : H1.size = G.1 + 1) (oq : ∀ q : Nat, q < G.1 → H1[q]? = H[q]?) (hs : cOK Z (nG G t m) V H1 G.1) : MemOK Z (nG G t m) V H1 := by
  refine ⟨z, Nat.le_succ_of_le hM.2.1, fun q h1 h2 => ?_, fun q f hq => ?_, fun q hq => ?_⟩
  · by_cases hqa : q = G.1
    · subst hqa
      exact hs
    · have h2' : q < G.1 + 1 := h2
      exact cOK_kept (hM.2.2.1 q h1 (by omega)) (va_up_ne _ _ hqa) (oq q (by omega)) (fun _ _ => rfl) (fun _ _ => rfl)
  · have hq' : G.1 + 1 ≤ q := hq
    exact hM.2.2.2.1 q f (by omega)
  · have := hM.2.1
    rw [oq q (by omega)]
    exact hM.2.2.2.2 q hq
theorem va_S.grow {A : Nat → Prop} {H0 H H1 : Heap} {locs : List Loc} (h : va_S A H0 H locs) (z : H.size ≤ H1.size) (oq : ∀ q : Nat, q < H.size → H1[q]? = H[q]?) : va_S A H0 H1 locs :=
  ⟨Nat.le_trans h.1 z, fun q h1 h2 => (oq q (Nat.lt_of_lt_of_le h1 h.1)).trans (h.2.1 q h1 h2), h.2.2⟩
theorem fV_fresh {c i : Nat} (hM : zFr G V) : fV G V c i G.1 = (match fTag c i with | 0 => .int 0 | 1 => .long 0 | _ => .null) := by
  obtain ⟨f1, f2, f3, -⟩ := hM G.1 (50 * c + i) (Nat.le_refl _)
  unfold fV
  split <;> simp_all [va_rf]
theorem aV_fresh {t j : Nat} (hM : zFr G V) : aV G V t G.1 j = defaultValue (zTy t) := by
  obtain ⟨f1, f2, f3, f4, f5, f6⟩ := hM G.1 j (Nat.le_refl _)
  match t with
  | 0 => show Value.int _ = _; rw [f4]; rfl
  | 1 => show Value.int _ = _; rw [f4]; rfl
  | 2 => show Value.long _ = _; rw [f5]; rfl
  | 3 => show va_rf _ = _; rw [f6]; rfl
  | 4 => show va_rf _ = _; rw [f6]; rfl
  | 5 => show va_rf _ = _; rw [f6]; rfl
  | 6 => show va_rf _ = _; rw [f6]; rfl
  | 7 => show va_rf _ = _; rw [f6]; rfl
  | u + 8 => show va_rf _ = _; rw [f6]; rfl
theorem x_new {C : String} {T : u_T} {N c idx : Nat} (ty : Nat → FieldType) (hc : vwCl[c]? = some (C, T, N)) (hin : ∀ w ∈ u_ws C T N, w ∈ WA) (hty : ∀ k, k < N → parseFieldDescriptor (T k).2.2.1 = some (ty k)) (hN : fN c = N) (hc9 : c < 9) (hdf : ∀ i, i < N → defaultValue (ty i) = (match fTag c i with | 0 => .int 0 | 1 => .long 0 | _ => .null)) (h1 : Cond.classLink own idx C ∈ WA) (h2 : Cond.instantiable C N ∈ WA) (h3 : Cond.initialized C ∈ WA)
    (cx : Cx Z X own nm cc nL ret D mc ms) (d : decode cc pc = .ok (.new idx, 3)) (hk : k + 1 ≤ mc) (hn : n + N ≤ ms) (kk : Wm Z X nL (nG G c 0) V (k + 1) (n + N) Q (pc + 3) lw (.ref G.1 :: st)) : Wm Z X nL G V k n Q pc lw st := by
  intro H locs ls hM hS hl
  have hts := cx.2.2.2.2.1
  have hKn := cx.2.2.2.2.2.1.1.1 c _ hc
  have c1 := cx.2.2.2.2.2.2.2.2.2.2.2.1
  have c2 := cx.2.2.2.2.2.2.2.2.2.2.2.2.1
  refine W.newcK cx.1 cx.2.1 cx.2.2.2.1 (hts _ h1) (hts _ h2) (hts _ h3) rfl d (by omega) (by omega) hKn.2.1 hM.1 fun H1 kC hkC e1 z1 o1 => ?_
  have hb := u_born ty hts hin hKn hkC e1 hty
  refine kk H1 locs ls (mem_new hM z1 o1 ?_) (hS.grow (by rw [z1, hM.1]; omega) (fun q hq => o1 q (hM.1 ▸ hq))) hl
  unfold cOK
  rw [show (nG G c 0).2.1 G.1 = (c, 0) from va_up_self _ _ _]
  refine ⟨fun _ => hN ▸ t_OB.to hb (fun j hj => ?_), fun h => absurd hc9 h⟩
  rw [hdf j hj, fV_nG, fV_fresh hM.2.2.2.1]
theorem x_newarray {at' : ArrayType} {m t : Nat} (ht : newarray.typeOf at' = zTy t) (h9 : t < 9) (hb : componentBytes (zTy t) ≤ 8) (hs : ("[" ++ (newarray.typeOf at').toString) = "[" ++ (zTy t).toString) (hRA : ∀ U : State, va_RA U (Z.2.2.1 t) (zTy t) → U.vm.findClass ("[" ++ (zTy t).toString) = some (Z.2.2.1 t)) (hw : Cond.arrayClass (newarray.typeOf at') ∈ WA)
    (cx : Cx Z X own nm cc nL ret D mc ms) (d : decode cc pc = .ok (.newarray at', 2)) (hm : m < 65536) (hk : k + 1 ≤ mc) (hn : n + m ≤ ms) (kk : Wm Z X nL (nG G (9 + t) m) V (k + 1) (n + m) Q (pc + 2) lw (.ref G.1 :: st)) : Wm Z X nL G V k n Q pc lw (.int (nI m) :: st) := by
  intro H locs ls hM hS hl
  have hts := cx.2.2.2.2.1
  have c1 := cx.2.2.2.2.2.2.2.2.2.2.2.1
  have c2 := cx.2.2.2.2.2.2.2.2.2.2.2.2.1
  have h0 : ¬ nI m < 0 := nI_pos (by omega)
  have hcl : (nI m).toNatClampNeg = m := nI_clamp (by omega)
  have hbb : m * componentBytes (newarray.typeOf at') ≤ 536870912 := by
    rw [ht]
    exact Nat.le_trans (Nat.mul_le_mul (Nat.le_of_lt hm) hb) (by omega)
  refine va_newaK cx.1 cx.2.1 (hts _ hw) rfl d rfl h0 hcl hbb (by omega) (by omega) hM.1 fun H1 cA e1 z1 o1 hAr hNm => ?_
  have hcA : cA = Z.2.2.1 t := by
    have := hRA _ (cx.tys h9).2
    rw [hs] at hNm
    exact Option.some.inj (hNm.symm.trans this)
  subst hcA
  refine kk H1 locs ls (mem_new hM z1 o1 ?_) (hS.grow (by rw [z1, hM.1]; omega) (fun q hq => o1 q (hM.1 ▸ hq))) hl
  unfold cOK
  rw [show (nG G (9 + t) m).2.1 G.1 = (9 + t, m) from va_up_self _ _ _]
  refine ⟨fun h => absurd h (by omega), fun _ => ?_⟩
  show H1[G.1]? = some (arrV (Z.2.2.1 (9 + t - 9)) m fun j => aV G V (9 + t - 9) G.1 j)
  rw [show 9 + t - 9 = t by omega, e1, ht]
  exact congrArg some (congrArg (arrV _ _) (funext fun j => (aV_fresh hM.2.2.2.1).symm))
theorem x_anewarray {C : String} {idx m t : Nat} (ht : zTy t = .object C) (h9 : t < 9) (hC : FieldType.object C ∈ WO) (h1 : Cond.classLink own idx C ∈ WA)
    (cx : Cx Z X own nm cc nL ret D mc ms) (d : decode cc pc = .ok (.anewarray idx, 3)) (hm : m < 65536) (hk : k + 1 ≤ mc) (hn : n + m ≤ ms) (kk : Wm Z X nL (nG G (9 + t) m) V (k + 1) (n + m) Q (pc + 3) lw (.ref G.1 :: st)) : Wm Z X nL G V k n Q pc lw (.int (nI m) :: st) := by
  intro H locs ls hM hS hl
  have hts := cx.2.2.2.2.1
  have c1 := cx.2.2.2.2.2.2.2.2.2.2.2.1
  have c2 := cx.2.2.2.2.2.2.2.2.2.2.2.2.1
  have hcl : (nI m).toNatClampNeg = m := nI_clamp (by omega)
  refine W.anew cx.1 cx.2.1 cx.2.2.2.1 (hts _ h1) (va_AO.use (cx.2.2.2.2.2.1.2.2.1 C hC)) rfl d rfl (nI_pos (by omega)) (by rw [hcl]; omega) (by omega) (by rw [hcl]; omega) fun cA kA comp f1 f2 f3 f4 => ?_
  rw [hcl]
  have hRA := (cx.tys h9).2
  rw [ht] at hRA
  obtain ⟨kB, compB, k1, k2, k3, k4⟩ := hRA
  have hcA : cA = Z.2.2.1 t := Option.some.inj (f1.symm.trans k4)
  subst hcA
  generalize hH1 : H.push ({ cls := Z.2.2.1 t, slots := Array.replicate m .null, vm := .none } : Cell) = H1
  have z1 : H1.size = G.1 + 1 := by rw [← hH1, Array.size_push, hM.1]
  have e1 : H1[G.1]? = some (arrV (Z.2.2.1 t) m (fun _ => .null)) := by rw [← hM.1, ← hH1, Array.getElem?_push_size, ← arrV_new]
  have o1 : ∀ q : Nat, q < G.1 → H1[q]? = H[q]? := fun q hq => by rw [← hH1, Array.getElem?_push, if_neg (by rw [hM.1]; omega)]
  rw [hM.1]
  refine kk H1 locs ls (mem_new hM z1 o1 ?_) (hS.grow (by rw [z1, hM.1]; omega) (fun q hq => o1 q (hM.1 ▸ hq))) hl
  unfold cOK
  rw [show (nG G (9 + t) m).2.1 G.1 = (9 + t, m) from va_up_self _ _ _]
  refine ⟨fun h => absurd h (by omega), fun _ => ?_⟩
  show H1[G.1]? = some (arrV (Z.2.2.1 (9 + t - 9)) m fun j => aV G V (9 + t - 9) G.1 j)
  rw [show 9 + t - 9 = t by omega, e1]
  exact congrArg some (congrArg (arrV _ _) (funext fun j => by rw [aV_fresh hM.2.2.2.1, ht]; rfl))
/-- Object's constructor -/
theorem x_objInit {a idx : Nat} (h1 : Cond.methodLink own idx objectInit ∈ WA) (h2 : Cond.instanceMethod objectInit ∈ WA) (h3 : Cond.code objectInit ⟨#[0xb1]⟩ 1 none ∈ WA)
    (cx : Cx Z X own nm cc nL ret D mc ms) (d : decode cc pc = .ok (.invokespecial idx, 3)) (hD : 1 ≤ D) (hst : (st.map fun v => v.category).sum ≤ 24) (kk : Wm Z X nL G V k n Q (pc + 3) lw st) : Wm Z X nL G V k n Q pc lw (.ref a :: st) := by
  intro H locs ls hM hS hl
  have hts := cx.2.2.2.2.1
  have c1 := cx.2.2.2.2.2.2.2.2.2.1
  have c2 := cx.2.2.2.2.2.2.2.2.2.2.1
  refine W.objInit cx.1 cx.2.1 cx.2.2.2.1 (hts _ h1) (hts _ h2) (hts _ h3) rfl (by show ls.size = _; rw [cx.2.2.1]; exact hl.1) rfl d (by omega) (by show 2 * 0 + _ + 12 ≤ _; omega) (kk H locs ls hM hS hl)
end XN
end
section
section XC
variable {Z : zP} {X : xP} {nL : Nat} {G : zG} {V : zV} {k n : Nat} {Q : State → Prop} {pc : Nat} {lw : List (Nat × Option Value)} {st : List Value} {own nm : String} {cc : ByteArray} {ret : Option FieldType} {D mc ms : Nat}
/-- a contract out of the walk of its body -/
theorem CT.of {l : Launch} {y : MethodName} {av : List Value} {Post : Option Value → zG → zV → Prop} (hy : plainName y.cls = true) (hn : (lg_sl av).length ≤ nL)
    (body : ∀ X : xP, X.2.1 = l → Cx Z X y.cls y.name cc nL ret D mc ms → Wm Z X nL G V 0 0 (rQ Z X mc ms Post) 0 ((lv_args 0 av).map (fun q => (q.1, some q.2))) []) : CT l Z y cc nL ret D mc ms av G V Post := by
  refine Met.ofW (cc := cc) (maxL := nL) (ret := ret) hy rfl ?_
  intro p e s m args below meth c s₁ B hml hv
  obtain ⟨rfl, hM, hA⟩ := hv
  have hl := lv_entry av (n := nL) hn
  rw [lg_entry_eq]
  generalize (lg_sl av ++ List.replicate (nL - (lg_sl av).length) Slot.unset).toArray = ls at hl ⊢
  have hts : ∀ w ∈ WA, w.before av.toArray s = true := fun w hw => atoms_spec (ws := .code y cc nL ret :: WA) B.pre w (List.mem_cons_of_mem _ hw)
  refine body (p, l, e, (headSpec (.code y cc nL ret :: WA) { frames := D, cells := mc, slots := ms, locals := 36 * D }).room, s, m, av.toArray, below, meth, c) rfl ⟨B.exec, B.bytes, hml, findClass_of_methodNamed B.named, hts, hA, B.notSynchronized, B.returns, (name_of_methodNamed B.named B.method).1, Nat.le_refl _, Nat.le_refl _, Nat.le_refl _, Nat.le_refl _, by show Z.1 ≤ s.heap.size; rw [hM.1]; exact hM.2.1⟩ s.heap [] ls hM va_S.rf ⟨hl.1, hl.2.1, fun i v hv => ?_⟩
  have key : ∀ (L : List (Nat × Value)), lk (L.map (fun q => (q.1, some q.2))) i = some v → (i, v) ∈ L := by
    intro L
    induction L with
    | nil => intro h; cases h
    | cons q t ih =>
      intro h
      rcases lk_cons h with ⟨h1, h2⟩ | ⟨h1, h2⟩
      · cases h2
        dsimp only at h1
        subst h1
        exact List.mem_cons_self
      · exact List.mem_cons_of_mem _ (ih h2)
  exact hl.2.2 (i, v) (key _ hv)
section ENDS
variable {Post : Option Value → zG → zV → Prop}
theorem MQ.widen {below : List Frame} {Qc : Array Value → State → Outcome → State → Prop} {a : Array Value} {s : State} {free : Addr → Prop} {p : Program} {l : Launch} {e : Env} {R : Room} {m : MethodId} {meth : Method} {c : Code} {H : Heap} {locs : List Loc} {g : JFrame} (h1 : k ≤ mc) (h2 : n ≤ ms) (h : W p l e R s m a below meth c H locs mc ms (MQ below Qc a s mc ms free) g) : W p l e R s m a below meth c H locs k n (MQ below Qc a s mc ms free) g := W.widen h1 h2 h
theorem x_ireturn {x : Int32} (cx : Cx Z X own nm cc nL (some .int) D mc ms) (d : decode cc pc = .ok (.ireturn, 1)) (h1 : k ≤ mc) (h2 : n ≤ ms) (hP : Post (some (.int x)) G V) : Wm Z X nL G V k n (rQ Z X mc ms Post) pc lw [.int x] :=
  fun H locs ls hM hS hl => MQ.widen h1 h2 (W.iret cx.1 cx.2.1 cx.2.2.2.2.2.2.2.1 (fun t ht _ => ⟨⟨_, G, V, rfl, hP, ht ▸ hM⟩, hS.F ht⟩) hS.2.2 d (hlocks := cx.2.2.2.2.2.2.1))
theorem x_zreturn {x : Int32} (cx : Cx Z X own nm cc nL (some .boolean) D mc ms) (d : decode cc pc = .ok (.ireturn, 1)) (h1 : k ≤ mc) (h2 : n ≤ ms) (hx : narrow .boolean (.int x) = .int x) (hP : Post (some (.int x)) G V) : Wm Z X nL G V k n (rQ Z X mc ms Post) pc lw [.int x] :=
  fun H locs ls hM hS hl => MQ.widen h1 h2 (W.zret cx.1 cx.2.1 cx.2.2.2.2.2.2.2.1 hx (fun t ht _ => ⟨⟨_, G, V, rfl, hP, ht ▸ hM⟩, hS.F ht⟩) hS.2.2 d (hlocks := cx.2.2.2.2.2.2.1))
theorem x_creturn {x : Int32} {ty : FieldType} (cx : Cx Z X own nm cc nL (some ty) D mc ms) (d : decode cc pc = .ok (.ireturn, 1)) (h1 : k ≤ mc) (h2 : n ≤ ms) (hx : narrow ty (.int x) = .int x) (hP : Post (some (.int x)) G V) : Wm Z X nL G V k n (rQ Z X mc ms Post) pc lw [.int x] :=
  fun H locs ls hM hS hl => MQ.widen h1 h2 (W.zret cx.1 cx.2.1 cx.2.2.2.2.2.2.2.1 hx (fun t ht _ => ⟨⟨_, G, V, rfl, hP, ht ▸ hM⟩, hS.F ht⟩) hS.2.2 d (hlocks := cx.2.2.2.2.2.2.1))
theorem x_lreturn {x : Int64} (cx : Cx Z X own nm cc nL (some .long) D mc ms) (d : decode cc pc = .ok (.lreturn, 1)) (h1 : k ≤ mc) (h2 : n ≤ ms) (hP : Post (some (.long x)) G V) : Wm Z X nL G V k n (rQ Z X mc ms Post) pc lw [.long x] :=
  fun H locs ls hM hS hl => MQ.widen h1 h2 (W.lret cx.1 cx.2.1 cx.2.2.2.2.2.2.2.1 (fun t ht _ => ⟨⟨_, G, V, rfl, hP, ht ▸ hM⟩, hS.F ht⟩) hS.2.2 d (hlocks := cx.2.2.2.2.2.2.1))
theorem x_return (cx : Cx Z X own nm cc nL none D mc ms) (d : decode cc pc = .ok (.return_, 1)) (h1 : k ≤ mc) (h2 : n ≤ ms) (hP : Post none G V) : Wm Z X nL G V k n (rQ Z X mc ms Post) pc lw [] :=
  fun H locs ls hM hS hl => MQ.widen h1 h2 (W.vret cx.1 cx.2.1 cx.2.2.2.2.2.2.2.1 (fun t ht _ => ⟨⟨_, G, V, rfl, hP, ht ▸ hM⟩, hS.F ht⟩) hS.2.2 d (hlocks := cx.2.2.2.2.2.2.1))
theorem x_areturn {o : Option Nat} {C : String} (cx : Cx Z X own nm cc nL (some (.object C)) D mc ms) (d : decode cc pc = .ok (.areturn, 1)) (h1 : k ≤ mc) (h2 : n ≤ ms) (hP : Post (some (va_rf o)) G V) : Wm Z X nL G V k n (rQ Z X mc ms Post) pc lw [va_rf o] :=
  fun H locs ls hM hS hl => MQ.widen h1 h2 (W.aret cx.1 cx.2.1 cx.2.2.2.2.2.2.2.1 (Or.inl ⟨C, rfl⟩) (by cases o with | none => exact Or.inl rfl | some a => exact Or.inr ⟨a, rfl⟩) (fun t ht _ => ⟨⟨_, G, V, rfl, hP, ht ▸ hM⟩, hS.F ht⟩) hS.2.2 d (hlocks := cx.2.2.2.2.2.2.1))
end ENDS
/-- behind a call -/
theorem x_run {Post : Option Value → zG → zV → Prop} {rest st0 : List Value} {c1 s1 : Nat} {a : Array Value}
    (hr : ∀ (H : Heap) (locs : List Loc) (ls : Array Slot), MemOK Z G V H → lwOK lw nL ls → va_Run X.1 X.2.1 X.2.2.1 X.2.2.2.1 X.2.2.2.2.1 X.2.2.2.2.2.1 X.2.2.2.2.2.2.1 X.2.2.2.2.2.2.2.1 X.2.2.2.2.2.2.2.2.1 X.2.2.2.2.2.2.2.2.2 H locs k n c1 s1 (F0 X.2.2.2.2.2.1 pc ls st0) rest (zQ Z Post a) (fun q => Z.1 ≤ q))
    (kk : ∀ (r : Option Value) (G' : zG) (V' : zV), Post r G' V' → Wm Z X nL G' V' (k + c1) (n + s1) Q (pc + 3) lw (r.toList ++ rest)) : Wm Z X nL G V k n Q pc lw st0 := by
  intro H locs ls hM hS hl T hT Xs
  obtain ⟨v, st₀, t, T', L, h0, X', hL, e1, e2, ⟨⟨r, G', V', hv, hp, hM'⟩, hz, hk⟩, stp⟩ := hr H locs ls hM hl T hT Xs
  cases hv
  rw [h0] at hz hk
  obtain ⟨t2, a1, b1⟩ := kk v G' V' hp T'.heap (locs ++ L) ls (e1 ▸ hM') ⟨Nat.le_trans hS.1 (by rw [e1]; exact hz), fun q h1 h2 => by rw [e1, hk q (Nat.lt_of_lt_of_le h1 hS.1) h2]; exact hS.2.1 q h1 h2, fun q hq => by
      rcases List.mem_append.mp hq with h | h
      · exact hS.2.2 q h
      · exact hL q h⟩ hl T' rfl X'
  exact ⟨t2, stp t2 a1, b1⟩
theorem CT.blind {Z : zP} {G : zG} {V : zV} {av : List Value} : FrameBlind (va_Pc av (fun U => MemOK Z G V U.heap ∧ Amb Z U)) := fun a U g mk q => ⟨q.1, q.2.1, Amb.same (s := U) (U := U.calling g mk a) rfl q.2.2⟩
/-- what a call needs of the tables: by the words -/
def cW (own : String) (idx : Nat) (y : MethodName) (cy : ByteArray) (ny : Nat) (ry : Option FieldType) (na : Nat) : Prop :=
  Cond.methodLink own idx y ∈ WA ∧ Cond.code y cy ny ry ∈ WA ∧ Cond.initialized y.cls ∈ WA ∧ (y.cls ≠ "java/lang/invoke/MethodHandle" ∧ y.cls ≠ "java/lang/invoke/VarHandle" ∧ (parseMethodDescriptor y.desc).map (fun d => d.parameters.length) = some na) ∧ ny ≤ 17
def cWN (own : String) (idx : Nat) (y : MethodName) (cy : ByteArray) (ny : Nat) (ry : Option FieldType) (na : Nat) (host : String) : Prop :=
  Cond.methodLinkNest own idx y host ∈ WN ∧ Cond.code y cy ny ry ∈ WA ∧ Cond.initialized y.cls ∈ WA ∧ (y.cls ≠ "java/lang/invoke/MethodHandle" ∧ y.cls ≠ "java/lang/invoke/VarHandle" ∧ (parseMethodDescriptor y.desc).map (fun d => d.parameters.length) = some na) ∧ ny ≤ 17
theorem WA_code {y : MethodName} {cy : ByteArray} {ny : Nat} {ry : Option FieldType} (h : Cond.code y cy ny ry ∈ WA) : GoodIn WA (.code y cy ny ry :: WA) := fun w hw => by
  rcases List.mem_cons.mp hw with rfl | hw
  · exact WA_good _ h
  · exact WA_good w hw
theorem Cx.room {dy ny : Nat} (cx : Cx Z X own nm cc nL ret D mc ms) (hd : dy + 1 ≤ D) (hn : ny ≤ 17) : dy + 1 ≤ X.2.2.2.1.frames ∧ 8 + (ny + 11) + 36 * dy ≤ X.2.2.2.1.locals := by
  have c1 := cx.2.2.2.2.2.2.2.2.2.1
  have c2 := cx.2.2.2.2.2.2.2.2.2.2.1
  omega
theorem Cx.callB {idx dy ny c1 s1 na : Nat} {y : MethodName} {cy : ByteArray} {ry : Option FieldType} (cx : Cx Z X own nm cc nL ret D mc ms) (w : cW own idx y cy ny ry na) (hd : dy + 1 ≤ D) :
    CallB X.2.2.2.1 X.2.2.2.2.1 X.2.2.2.2.2.2.1 own idx y cy ny ry (.code y cy ny ry :: WA) { frames := dy, cells := c1, slots := s1, locals := 36 * dy } c1 s1 na :=
  callB_of na cx.2.2.2.2.1 (WA_code w.2.1) rfl rfl rfl (cx.2.2.2.2.1 _ w.2.2.1) (cx.2.2.2.2.1 _ w.1) w.2.2.2.1 (cx.room hd w.2.2.2.2)
theorem Cx.callN {idx dy ny c1 s1 na : Nat} {y : MethodName} {cy : ByteArray} {ry : Option FieldType} {host : String} (cx : Cx Z X own nm cc nL ret D mc ms) (w : cWN own idx y cy ny ry na host) (hd : dy + 1 ≤ D) :
    va_CN X.2.2.2.1 X.2.2.2.2.1 X.2.2.2.2.2.2.1 own idx y host cy ny ry (.code y cy ny ry :: WA) { frames := dy, cells := c1, slots := s1, locals := 36 * dy } c1 s1 na :=
  va_cnB na cx.2.2.2.2.1 (WA_code w.2.1) rfl rfl rfl (cx.2.2.2.2.2.1.2.1 _ w.1) (cx.2.2.2.2.1 _ w.2.2.1) w.2.2.2.1 (cx.room hd w.2.2.2.2)
theorem Cx.pre {H : Heap} {av : List Value} (cx : Cx Z X own nm cc nL ret D mc ms) (hM : MemOK Z G V H) : ∀ U : State, U.heap = H → X.2.2.2.2.1.WarmedH U.vm → va_Pc av (fun U => MemOK Z G V U.heap ∧ Amb Z U) av.toArray U :=
  fun U hU hW => ⟨rfl, hU ▸ hM, cx.2.2.2.2.2.1.moved hW⟩
theorem Cx.fix (cx : Cx Z X own nm cc nL ret D mc ms) : CallFix X.1 X.2.2.2.2.2.1 X.2.2.2.2.2.2.2.2.2 cc nL X.2.2.2.2.1 X.2.2.2.2.2.2.1 WA own := ⟨cx.1, cx.2.1, cx.2.2.1, cx.2.2.2.1, cx.2.2.2.2.1⟩
theorem Cx.fit {c1 s1 : Nat} (cx : Cx Z X own nm cc nL ret D mc ms) (hk : k + c1 ≤ mc) (hn : n + s1 ≤ ms) : k + c1 ≤ X.2.2.2.1.cells ∧ n + s1 ≤ X.2.2.2.1.slots := by
  have h1 := cx.2.2.2.2.2.2.2.2.2.2.2.1
  have h2 := cx.2.2.2.2.2.2.2.2.2.2.2.2.1
  omega
theorem MemOK.recv {H : Heap} {b c N : Nat} {C : String} {T : u_T} {U : State} (hM : MemOK Z G V H) (hA : Amb Z U) (hb : isK Z G b c) (hc9 : c < 9) (hc : vwCl[c]? = some (C, T, N)) : ∃ cellB : Cell, H[b]? = some cellB ∧ cellB.vm.isStatics = false ∧ U.vm.findClass C = some cellB.cls := by
  obtain ⟨cell, g1, g2, g3, -⟩ := hM.obj hb hc9
  exact ⟨cell, g1, by rw [g3]; rfl, by rw [g2]; exact (hA.1.1 c _ hc).2.1⟩
section CALLS
variable {idx dy ny c1 s1 b c N : Nat} {y : MethodName} {cy : ByteArray} {ry : Option FieldType} {av rest : List Value} {Post : Option Value → zG → zV → Prop} {C host : String} {T : u_T}
/-- a call of an object's method -/
theorem x_callV (w : cW own idx y cy ny ry av.length) (w2 : Cond.instanceMethod y ∈ WA) (w3 : Cond.selects y.cls y y ∈ WA) (hc : vwCl[c]? = some (y.cls, T, N)) (hc9 : c < 9) (hb : isK Z G b c) (hC : CT X.2.1 Z y cy ny ry dy c1 s1 (.ref b :: av) G V Post) (cx : Cx Z X own nm cc nL ret D mc ms) (d : decode cc pc = .ok (.invokevirtual idx, 3)) (hd : dy + 1 ≤ D) (hk : k + c1 ≤ mc) (hn : n + s1 ≤ ms) (hr : (rest.map fun v => v.category).sum ≤ 8)
    (kk : ∀ (r : Option Value) (G' : zG) (V' : zV), Post r G' V' → Wm Z X nL G' V' (k + c1) (n + s1) Q (pc + 3) lw (r.toList ++ rest)) : Wm Z X nL G V k n Q pc lw (av.reverse ++ .ref b :: rest) :=
  x_run (fun H locs ls hM hl => va_runV cx.fix hC ⟨cx.callB w hd, cx.2.2.2.2.1 _ w2, cx.2.2.2.2.1 _ w3⟩ ⟨CT.blind, hM.recv cx.2.2.2.2.2.1 hb hc9 hc, cx.pre hM⟩ rfl rfl hl.1 rfl (lv_room hr) d (cx.fit hk hn)) kk
theorem x_callS (w : cW own idx y cy ny ry av.length) (w2 : Cond.static y ∈ WA) (hC : CT X.2.1 Z y cy ny ry dy c1 s1 av G V Post) (cx : Cx Z X own nm cc nL ret D mc ms) (d : decode cc pc = .ok (.invokestatic idx, 3)) (hd : dy + 1 ≤ D) (hk : k + c1 ≤ mc) (hn : n + s1 ≤ ms) (hr : (rest.map fun v => v.category).sum ≤ 8)
    (kk : ∀ (r : Option Value) (G' : zG) (V' : zV), Post r G' V' → Wm Z X nL G' V' (k + c1) (n + s1) Q (pc + 3) lw (r.toList ++ rest)) : Wm Z X nL G V k n Q pc lw (av.reverse ++ rest) :=
  x_run (fun H locs ls hM hl => va_runS cx.fix hC ⟨cx.callB w hd, cx.2.2.2.2.1 _ w2⟩ ⟨CT.blind, cx.pre hM⟩ rfl rfl hl.1 rfl (lv_room hr) d (cx.fit hk hn)) kk
theorem x_callI (w : cW own idx y cy ny none av.length) (w2 : Cond.instanceMethod y ∈ WA) (hy : y.name = "<init>") (hC : CT X.2.1 Z y cy ny none dy c1 s1 (.ref b :: av) G V Post) (cx : Cx Z X own nm cc nL ret D mc ms) (d : decode cc pc = .ok (.invokespecial idx, 3)) (hd : dy + 1 ≤ D) (hk : k + c1 ≤ mc) (hn : n + s1 ≤ ms) (hr : (rest.map fun v => v.category).sum ≤ 8)
    (kk : ∀ (r : Option Value) (G' : zG) (V' : zV), Post r G' V' → Wm Z X nL G' V' (k + c1) (n + s1) Q (pc + 3) lw (r.toList ++ rest)) : Wm Z X nL G V k n Q pc lw (av.reverse ++ .ref b :: rest) :=
  x_run (fun H locs ls hM hl => va_runI cx.fix hC ⟨cx.callB w hd, hy, cx.2.2.2.2.1 _ w2⟩ ⟨CT.blind, cx.pre hM⟩ rfl rfl hl.1 rfl (lv_room hr) d (cx.fit hk hn)) kk
theorem x_callVN (w : cWN own idx y cy ny ry av.length host) (w2 : Cond.instanceMethod y ∈ WA) (w3 : Cond.selects y.cls y y ∈ WA) (hc : vwCl[c]? = some (y.cls, T, N)) (hc9 : c < 9) (hb : isK Z G b c) (hC : CT X.2.1 Z y cy ny ry dy c1 s1 (.ref b :: av) G V Post) (cx : Cx Z X own nm cc nL ret D mc ms) (d : decode cc pc = .ok (.invokevirtual idx, 3)) (hd : dy + 1 ≤ D) (hk : k + c1 ≤ mc) (hn : n + s1 ≤ ms) (hr : (rest.map fun v => v.category).sum ≤ 8)
    (kk : ∀ (r : Option Value) (G' : zG) (V' : zV), Post r G' V' → Wm Z X nL G' V' (k + c1) (n + s1) Q (pc + 3) lw (r.toList ++ rest)) : Wm Z X nL G V k n Q pc lw (av.reverse ++ .ref b :: rest) :=
  x_run (fun H locs ls hM hl => va_runVN cx.fix hC ⟨cx.callN w hd, cx.2.2.2.2.1 _ w2, cx.2.2.2.2.1 _ w3⟩ ⟨CT.blind, hM.recv cx.2.2.2.2.2.1 hb hc9 hc, cx.pre hM⟩ rfl rfl hl.1 rfl (lv_room hr) d (cx.fit hk hn)) kk
theorem x_callSN (w : cWN own idx y cy ny ry av.length host) (w2 : Cond.static y ∈ WA) (hC : CT X.2.1 Z y cy ny ry dy c1 s1 av G V Post) (cx : Cx Z X own nm cc nL ret D mc ms) (d : decode cc pc = .ok (.invokestatic idx, 3)) (hd : dy + 1 ≤ D) (hk : k + c1 ≤ mc) (hn : n + s1 ≤ ms) (hr : (rest.map fun v => v.category).sum ≤ 8)
    (kk : ∀ (r : Option Value) (G' : zG) (V' : zV), Post r G' V' → Wm Z X nL G' V' (k + c1) (n + s1) Q (pc + 3) lw (r.toList ++ rest)) : Wm Z X nL G V k n Q pc lw (av.reverse ++ rest) :=
  x_run (fun H locs ls hM hl => va_runSN cx.fix hC ⟨cx.callN w hd, cx.2.2.2.2.1 _ w2, trivial⟩ ⟨CT.blind, cx.pre hM⟩ rfl rfl hl.1 rfl (lv_room hr) d (cx.fit hk hn)) kk
theorem x_callIN (w : cWN own idx y cy ny none av.length host) (w2 : Cond.instanceMethod y ∈ WA) (hy : y.name = "<init>") (hC : CT X.2.1 Z y cy ny none dy c1 s1 (.ref b :: av) G V Post) (cx : Cx Z X own nm cc nL ret D mc ms) (d : decode cc pc = .ok (.invokespecial idx, 3)) (hd : dy + 1 ≤ D) (hk : k + c1 ≤ mc) (hn : n + s1 ≤ ms) (hr : (rest.map fun v => v.category).sum ≤ 8)
    (kk : ∀ (r : Option Value) (G' : zG) (V' : zV), Post r G' V' → Wm Z X nL G' V' (k + c1) (n + s1) Q (pc + 3) lw (r.toList ++ rest)) : Wm Z X nL G V k n Q pc lw (av.reverse ++ .ref b :: rest) :=
  x_run (fun H locs ls hM hl => va_runIN cx.fix hC ⟨cx.callN w hd, hy, cx.2.2.2.2.1 _ w2⟩ ⟨CT.blind, cx.pre hM⟩ rfl rfl hl.1 rfl (lv_room hr) d (cx.fit hk hn)) kk
end CALLS
section AFTER
variable {G1 : zG} {V1 : zV} {rest : List Value}
theorem kI {x : Int32} (h : Wm Z X nL G1 V1 k n Q pc lw (.int x :: rest)) : ∀ (r : Option Value) (G' : zG) (V' : zV), pI x G1 V1 r G' V' → Wm Z X nL G' V' k n Q pc lw (r.toList ++ rest) := by
  rintro r G' V' ⟨rfl, rfl, rfl⟩
  exact h
theorem kJ {x : Int64} (h : Wm Z X nL G1 V1 k n Q pc lw (.long x :: rest)) : ∀ (r : Option Value) (G' : zG) (V' : zV), pJ x G1 V1 r G' V' → Wm Z X nL G' V' k n Q pc lw (r.toList ++ rest) := by
  rintro r G' V' ⟨rfl, rfl, rfl⟩
  exact h
theorem kV (h : Wm Z X nL G1 V1 k n Q pc lw rest) : ∀ (r : Option Value) (G' : zG) (V' : zV), pV G1 V1 r G' V' → Wm Z X nL G' V' k n Q pc lw (r.toList ++ rest) := by
  rintro r G' V' ⟨rfl, rfl, rfl⟩
  exact h
theorem kR {o : Option Nat} (h : Wm Z X nL G1 V1 k n Q pc lw (va_rf o :: rest)) : ∀ (r : Option Value) (G' : zG) (V' : zV), pR o G1 V1 r G' V' → Wm Z X nL G' V' k n Q pc lw (r.toList ++ rest) := by
  rintro r G' V' ⟨rfl, rfl, rfl⟩
  exact h
end AFTER
end XC
end
section
section XD
variable {Z : zP} {X : xP} {nL : Nat} {G : zG} {V : zV} {k n : Nat} {Q : State → Prop} {pc : Nat} {lw : List (Nat × Option Value)} {st : List Value} {own nm : String} {cc : ByteArray} {ret : Option FieldType} {D mc ms : Nat}
def MV (own : String) (idx : Nat) (y : MethodName) (cy : ByteArray) (ny : Nat) (ry : Option FieldType) (na c : Nat) : Prop := cW own idx y cy ny ry na ∧ Cond.instanceMethod y ∈ WA ∧ Cond.selects y.cls y y ∈ WA ∧ (∃ (T : u_T) (N : Nat), vwCl[c]? = some (y.cls, T, N)) ∧ c < 9
def MS (own : String) (idx : Nat) (y : MethodName) (cy : ByteArray) (ny : Nat) (ry : Option FieldType) (na : Nat) : Prop := cW own idx y cy ny ry na ∧ Cond.static y ∈ WA
def MI (own : String) (idx : Nat) (y : MethodName) (cy : ByteArray) (ny na : Nat) : Prop := cW own idx y cy ny none na ∧ Cond.instanceMethod y ∈ WA ∧ y.name = "<init>"
def MVN (own : String) (idx : Nat) (y : MethodName) (cy : ByteArray) (ny : Nat) (ry : Option FieldType) (na c : Nat) : Prop := (∃ host : String, cWN own idx y cy ny ry na host) ∧ Cond.instanceMethod y ∈ WA ∧ Cond.selects y.cls y y ∈ WA ∧ (∃ (T : u_T) (N : Nat), vwCl[c]? = some (y.cls, T, N)) ∧ c < 9
def MSN (own : String) (idx : Nat) (y : MethodName) (cy : ByteArray) (ny : Nat) (ry : Option FieldType) (na : Nat) : Prop := (∃ host : String, cWN own idx y cy ny ry na host) ∧ Cond.static y ∈ WA
def MIN (own : String) (idx : Nat) (y : MethodName) (cy : ByteArray) (ny na : Nat) : Prop := (∃ host : String, cWN own idx y cy ny none na host) ∧ Cond.instanceMethod y ∈ WA ∧ y.name = "<init>"
variable {idx dy ny c1 s1 b c : Nat} {y : MethodName} {cy : ByteArray} {ry : Option FieldType} {rest : List Value} {Post : Option Value → zG → zV → Prop}
theorem x_V0 (w : MV own idx y cy ny ry 0 c) (hb : isK Z G b c) (hC : CT X.2.1 Z y cy ny ry dy c1 s1 [.ref b] G V Post) (cx : Cx Z X own nm cc nL ret D mc ms) (d : decode cc pc = .ok (.invokevirtual idx, 3)) (kk : ∀ (r : Option Value) (G' : zG) (V' : zV), Post r G' V' → Wm Z X nL G' V' (k + c1) (n + s1) Q (pc + 3) lw (r.toList ++ rest)) (hd : dy + 1 ≤ D := by decide) (hk : k + c1 ≤ mc := by first | exact Nat.le_of_ble_eq_true rfl | omega) (hn : n + s1 ≤ ms := by first | exact Nat.le_of_ble_eq_true rfl | omega) (hr : (rest.map fun v => v.category).sum ≤ 8 := by exact Nat.le_of_ble_eq_true rfl) : Wm Z X nL G V k n Q pc lw (.ref b :: rest) := by
  obtain ⟨w1, w2, w3, ⟨T, N, w4⟩, w5⟩ := w
  exact x_callV (av := []) w1 w2 w3 w4 w5 hb hC cx d hd hk hn hr kk
theorem x_V1 {v1 : Value} (w : MV own idx y cy ny ry 1 c) (hb : isK Z G b c) (hC : CT X.2.1 Z y cy ny ry dy c1 s1 [.ref b, v1] G V Post) (cx : Cx Z X own nm cc nL ret D mc ms) (d : decode cc pc = .ok (.invokevirtual idx, 3)) (kk : ∀ (r : Option Value) (G' : zG) (V' : zV), Post r G' V' → Wm Z X nL G' V' (k + c1) (n + s1) Q (pc + 3) lw (r.toList ++ rest)) (hd : dy + 1 ≤ D := by decide) (hk : k + c1 ≤ mc := by first | exact Nat.le_of_ble_eq_true rfl | omega) (hn : n + s1 ≤ ms := by first | exact Nat.le_of_ble_eq_true rfl | omega) (hr : (rest.map fun v => v.category).sum ≤ 8 := by exact Nat.le_of_ble_eq_true rfl) : Wm Z X nL G V k n Q pc lw (v1 :: .ref b :: rest) := by
  obtain ⟨w1, w2, w3, ⟨T, N, w4⟩, w5⟩ := w
  exact x_callV (av := [v1]) w1 w2 w3 w4 w5 hb hC cx d hd hk hn hr kk
theorem x_V2 {v1 v2 : Value} (w : MV own idx y cy ny ry 2 c) (hb : isK Z G b c) (hC : CT X.2.1 Z y cy ny ry dy c1 s1 [.ref b, v1, v2] G V Post) (cx : Cx Z X own nm cc nL ret D mc ms) (d : decode cc pc = .ok (.invokevirtual idx, 3)) (kk : ∀ (r : Option Value) (G' : zG) (V' : zV), Post r G' V' → Wm Z X nL G' V' (k + c1) (n + s1) Q (pc + 3) lw (r.toList ++ rest)) (hd : dy + 1 ≤ D := by decide) (hk : k + c1 ≤ mc := by first | exact Nat.le_of_ble_eq_true rfl | omega) (hn : n + s1 ≤ ms := by first | exact Nat.le_of_ble_eq_true rfl | omega) (hr : (rest.map fun v => v.category).sum ≤ 8 := by exact Nat.le_of_ble_eq_true rfl) : Wm Z X nL G V k n Q pc lw (v2 :: v1 :: .ref b :: rest) := by
  obtain ⟨w1, w2, w3, ⟨T, N, w4⟩, w5⟩ := w
  exact x_callV (av := [v1, v2]) w1 w2 w3 w4 w5 hb hC cx d hd hk hn hr kk
theorem x_V3 {v1 v2 v3 : Value} (w : MV own idx y cy ny ry 3 c) (hb : isK Z G b c) (hC : CT X.2.1 Z y cy ny ry dy c1 s1 [.ref b, v1, v2, v3] G V Post) (cx : Cx Z X own nm cc nL ret D mc ms) (d : decode cc pc = .ok (.invokevirtual idx, 3)) (kk : ∀ (r : Option Value) (G' : zG) (V' : zV), Post r G' V' → Wm Z X nL G' V' (k + c1) (n + s1) Q (pc + 3) lw (r.toList ++ rest)) (hd : dy + 1 ≤ D := by decide) (hk : k + c1 ≤ mc := by first | exact Nat.le_of_ble_eq_true rfl | omega) (hn : n + s1 ≤ ms := by first | exact Nat.le_of_ble_eq_true rfl | omega) (hr : (rest.map fun v => v.category).sum ≤ 8 := by exact Nat.le_of_ble_eq_true rfl) : Wm Z X nL G V k n Q pc lw (v3 :: v2 :: v1 :: .ref b :: rest) := by
  obtain ⟨w1, w2, w3, ⟨T, N, w4⟩, w5⟩ := w
  exact x_callV (av := [v1, v2, v3]) w1 w2 w3 w4 w5 hb hC cx d hd hk hn hr kk
theorem x_V4 {v1 v2 v3 v4 : Value} (w : MV own idx y cy ny ry 4 c) (hb : isK Z G b c) (hC : CT X.2.1 Z y cy ny ry dy c1 s1 [.ref b, v1, v2, v3, v4] G V Post) (cx : Cx Z X own nm cc nL ret D mc ms) (d : decode cc pc = .ok (.invokevirtual idx, 3)) (kk : ∀ (r : Option Value) (G' : zG) (V' : zV), Post r G' V' → Wm Z X nL G' V' (k + c1) (n + s1) Q (pc + 3) lw (r.toList ++ rest)) (hd : dy + 1 ≤ D := by decide) (hk : k + c1 ≤ mc := by first | exact Nat.le_of_ble_eq_true rfl | omega) (hn : n + s1 ≤ ms := by first | exact Nat.le_of_ble_eq_true rfl | omega) (hr : (rest.map fun v => v.category).sum ≤ 8 := by exact Nat.le_of_ble_eq_true rfl) : Wm Z X nL G V k n Q pc lw (v4 :: v3 :: v2 :: v1 :: .ref b :: rest) := by
  obtain ⟨w1, w2, w3, ⟨T, N, w4⟩, w5⟩ := w
  exact x_callV (av := [v1, v2, v3, v4]) w1 w2 w3 w4 w5 hb hC cx d hd hk hn hr kk
theorem x_V5 {v1 v2 v3 v4 v5 : Value} (w : MV own idx y cy ny ry 5 c) (hb : isK Z G b c) (hC : CT X.2.1 Z y cy ny ry dy c1 s1 [.ref b, v1, v2, v3, v4, v5] G V Post) (cx : Cx Z X own nm cc nL ret D mc ms) (d : decode cc pc = .ok (.invokevirtual idx, 3)) (kk : ∀ (r : Option Value) (G' : zG) (V' : zV), Post r G' V' → Wm Z X nL G' V' (k + c1) (n + s1) Q (pc + 3) lw (r.toList ++ rest)) (hd : dy + 1 ≤ D := by decide) (hk : k + c1 ≤ mc := by first | exact Nat.le_of_ble_eq_true rfl | omega) (hn : n + s1 ≤ ms := by first | exact Nat.le_of_ble_eq_true rfl | omega) (hr : (rest.map fun v => v.category).sum ≤ 8 := by exact Nat.le_of_ble_eq_true rfl) : Wm Z X nL G V k n Q pc lw (v5 :: v4 :: v3 :: v2 :: v1 :: .ref b :: rest) := by
  obtain ⟨w1, w2, w3, ⟨T, N, w4⟩, w5⟩ := w
  exact x_callV (av := [v1, v2, v3, v4, v5]) w1 w2 w3 w4 w5 hb hC cx d hd hk hn hr kk
theorem x_V6 {v1 v2 v3 v4 v5 v6 : Value} (w : MV own idx y cy ny ry 6 c) (hb : isK Z G b c) (hC : CT X.2.1 Z y cy ny ry dy c1 s1 [.ref b, v1, v2, v3, v4, v5, v6] G V Post) (cx : Cx Z X own nm cc nL ret D mc ms) (d : decode cc pc = .ok (.invokevirtual idx, 3)) (kk : ∀ (r : Option Value) (G' : zG) (V' : zV), Post r G' V' → Wm Z X nL G' V' (k + c1) (n + s1) Q (pc + 3) lw (r.toList ++ rest)) (hd : dy + 1 ≤ D := by decide) (hk : k + c1 ≤ mc := by first | exact Nat.le_of_ble_eq_true rfl | omega) (hn : n + s1 ≤ ms := by first | exact Nat.le_of_ble_eq_true rfl | omega) (hr : (rest.map fun v => v.category).sum ≤ 8 := by exact Nat.le_of_ble_eq_true rfl) : Wm Z X nL G V k n Q pc lw (v6 :: v5 :: v4 :: v3 :: v2 :: v1 :: .ref b :: rest) := by
  obtain ⟨w1, w2, w3, ⟨T, N, w4⟩, w5⟩ := w
  exact x_callV (av := [v1, v2, v3, v4, v5, v6]) w1 w2 w3 w4 w5 hb hC cx d hd hk hn hr kk
theorem x_VN0 (w : MVN own idx y cy ny ry 0 c) (hb : isK Z G b c) (hC : CT X.2.1 Z y cy ny ry dy c1 s1 [.ref b] G V Post) (cx : Cx Z X own nm cc nL ret D mc ms) (d : decode cc pc = .ok (.invokevirtual idx, 3)) (kk : ∀ (r : Option Value) (G' : zG) (V' : zV), Post r G' V' → Wm Z X nL G' V' (k + c1) (n + s1) Q (pc + 3) lw (r.toList ++ rest)) (hd : dy + 1 ≤ D := by decide) (hk : k + c1 ≤ mc := by first | exact Nat.le_of_ble_eq_true rfl | omega) (hn : n + s1 ≤ ms := by first | exact Nat.le_of_ble_eq_true rfl | omega) (hr : (rest.map fun v => v.category).sum ≤ 8 := by exact Nat.le_of_ble_eq_true rfl) : Wm Z X nL G V k n Q pc lw (.ref b :: rest) := by
  obtain ⟨⟨host, w1⟩, w2, w3, ⟨T, N, w4⟩, w5⟩ := w
  exact x_callVN (av := []) w1 w2 w3 w4 w5 hb hC cx d hd hk hn hr kk
theorem x_VN1 {v1 : Value} (w : MVN own idx y cy ny ry 1 c) (hb : isK Z G b c) (hC : CT X.2.1 Z y cy ny ry dy c1 s1 [.ref b, v1] G V Post) (cx : Cx Z X own nm cc nL ret D mc ms) (d : decode cc pc = .ok (.invokevirtual idx, 3)) (kk : ∀ (r : Option Value) (G' : zG) (V' : zV), Post r G' V' → Wm Z X nL G' V' (k + c1) (n + s1) Q (pc + 3) lw (r.toList ++ rest)) (hd : dy + 1 ≤ D := by decide) (hk : k + c1 ≤ mc := by first | exact Nat.le_of_ble_eq_true rfl | omega) (hn : n + s1 ≤ ms := by first | exact Nat.le_of_ble_eq_true rfl | omega) (hr : (rest.map fun v => v.category).sum ≤ 8 := by exact Nat.le_of_ble_eq_true rfl) : Wm Z X nL G V k n Q pc lw (v1 :: .ref b :: rest) := by
  obtain ⟨⟨host, w1⟩, w2, w3, ⟨T, N, w4⟩, w5⟩ := w
  exact x_callVN (av := [v1]) w1 w2 w3 w4 w5 hb hC cx d hd hk hn hr kk
theorem x_VN2 {v1 v2 : Value} (w : MVN own idx y cy ny ry 2 c) (hb : isK Z G b c) (hC : CT X.2.1 Z y cy ny ry dy c1 s1 [.ref b, v1, v2] G V Post) (cx : Cx Z X own nm cc nL ret D mc ms) (d : decode cc pc = .ok (.invokevirtual idx, 3)) (kk : ∀ (r : Option Value) (G' : zG) (V' : zV), Post r G' V' → Wm Z X nL G' V' (k + c1) (n + s1) Q (pc + 3) lw (r.toList ++ rest)) (hd : dy + 1 ≤ D := by decide) (hk : k + c1 ≤ mc := by first | exact Nat.le_of_ble_eq_true rfl | omega) (hn : n + s1 ≤ ms := by first | exact Nat.le_of_ble_eq_true rfl | omega) (hr : (rest.map fun v => v.category).sum ≤ 8 := by exact Nat.le_of_ble_eq_true rfl) : Wm Z X nL G V k n Q pc lw (v2 :: v1 :: .ref b :: rest) := by
  obtain ⟨⟨host, w1⟩, w2, w3, ⟨T, N, w4⟩, w5⟩ := w
  exact x_callVN (av := [v1, v2]) w1 w2 w3 w4 w5 hb hC cx d hd hk hn hr kk
theorem x_VN3 {v1 v2 v3 : Value} (w : MVN own idx y cy ny ry 3 c) (hb : isK Z G b c) (hC : CT X.2.1 Z y cy ny ry dy c1 s1 [.ref b, v1, v2, v3] G V Post) (cx : Cx Z X own nm cc nL ret D mc ms) (d : decode cc pc = .ok (.invokevirtual idx, 3)) (kk : ∀ (r : Option Value) (G' : zG) (V' : zV), Post r G' V' → Wm Z X nL G' V' (k + c1) (n + s1) Q (pc + 3) lw (r.toList ++ rest)) (hd : dy + 1 ≤ D := by decide) (hk : k + c1 ≤ mc := by first | exact Nat.le_of_ble_eq_true rfl | omega) (hn : n + s1 ≤ ms := by first | exact Nat.le_of_ble_eq_true rfl | omega) (hr : (rest.map fun v => v.category).sum ≤ 8 := by exact Nat.le_of_ble_eq_true rfl) : Wm Z X nL G V k n Q pc lw (v3 :: v2 :: v1 :: .ref b :: rest) := by
  obtain ⟨⟨host, w1⟩, w2, w3, ⟨T, N, w4⟩, w5⟩ := w
  exact x_callVN (av := [v1, v2, v3]) w1 w2 w3 w4 w5 hb hC cx d hd hk hn hr kk
theorem x_VN4 {v1 v2 v3 v4 : Value} (w : MVN own idx y cy ny ry 4 c) (hb : isK Z G b c) (hC : CT X.2.1 Z y cy ny ry dy c1 s1 [.ref b, v1, v2, v3, v4] G V Post) (cx : Cx Z X own nm cc nL ret D mc ms) (d : decode cc pc = .ok (.invokevirtual idx, 3)) (kk : ∀ (r : Option Value) (G' : zG) (V' : zV), Post r G' V' → Wm Z X nL G' V' (k + c1) (n + s1) Q (pc + 3) lw (r.toList ++ rest)) (hd : dy + 1 ≤ D := by decide) (hk : k + c1 ≤ mc := by first | exact Nat.le_of_ble_eq_true rfl | omega) (hn : n + s1 ≤ ms := by first | exact Nat.le_of_ble_eq_true rfl | omega) (hr : (rest.map fun v => v.category).sum ≤ 8 := by exact Nat.le_of_ble_eq_true rfl) : Wm Z X nL G V k n Q pc lw (v4 :: v3 :: v2 :: v1 :: .ref b :: rest) := by
  obtain ⟨⟨host, w1⟩, w2, w3, ⟨T, N, w4⟩, w5⟩ := w
  exact x_callVN (av := [v1, v2, v3, v4]) w1 w2 w3 w4 w5 hb hC cx d hd hk hn hr kk
theorem x_VN5 {v1 v2 v3 v4 v5 : Value} (w : MVN own idx y cy ny ry 5 c) (hb : isK Z G b c) (hC : CT X.2.1 Z y cy ny ry dy c1 s1 [.ref b, v1, v2, v3, v4, v5] G V Post) (cx : Cx Z X own nm cc nL ret D mc ms) (d : decode cc pc = .ok (.invokevirtual idx, 3)) (kk : ∀ (r : Option Value) (G' : zG) (V' : zV), Post r G' V' → Wm Z X nL G' V' (k + c1) (n + s1) Q (pc + 3) lw (r.toList ++ rest)) (hd : dy + 1 ≤ D := by decide) (hk : k + c1 ≤ mc := by first | exact Nat.le_of_ble_eq_true rfl | omega) (hn : n + s1 ≤ ms := by first | exact Nat.le_of_ble_eq_true rfl | omega) (hr : (rest.map fun v => v.category).sum ≤ 8 := by exact Nat.le_of_ble_eq_true rfl) : Wm Z X nL G V k n Q pc lw (v5 :: v4 :: v3 :: v2 :: v1 :: .ref b :: rest) := by
  obtain ⟨⟨host, w1⟩, w2, w3, ⟨T, N, w4⟩, w5⟩ := w
  exact x_callVN (av := [v1, v2, v3, v4, v5]) w1 w2 w3 w4 w5 hb hC cx d hd hk hn hr kk
theorem x_VN6 {v1 v2 v3 v4 v5 v6 : Value} (w : MVN own idx y cy ny ry 6 c) (hb : isK Z G b c) (hC : CT X.2.1 Z y cy ny ry dy c1 s1 [.ref b, v1, v2, v3, v4, v5, v6] G V Post) (cx : Cx Z X own nm cc nL ret D mc ms) (d : decode cc pc = .ok (.invokevirtual idx, 3)) (kk : ∀ (r : Option Value) (G' : zG) (V' : zV), Post r G' V' → Wm Z X nL G' V' (k + c1) (n + s1) Q (pc + 3) lw (r.toList ++ rest)) (hd : dy + 1 ≤ D := by decide) (hk : k + c1 ≤ mc := by first | exact Nat.le_of_ble_eq_true rfl | omega) (hn : n + s1 ≤ ms := by first | exact Nat.le_of_ble_eq_true rfl | omega) (hr : (rest.map fun v => v.category).sum ≤ 8 := by exact Nat.le_of_ble_eq_true rfl) : Wm Z X nL G V k n Q pc lw (v6 :: v5 :: v4 :: v3 :: v2 :: v1 :: .ref b :: rest) := by
  obtain ⟨⟨host, w1⟩, w2, w3, ⟨T, N, w4⟩, w5⟩ := w
  exact x_callVN (av := [v1, v2, v3, v4, v5, v6]) w1 w2 w3 w4 w5 hb hC cx d hd hk hn hr kk
theorem x_S0 (w : MS own idx y cy ny ry 0) (hC : CT X.2.1 Z y cy ny ry dy c1 s1 [] G V Post) (cx : Cx Z X own nm cc nL ret D mc ms) (d : decode cc pc = .ok (.invokestatic idx, 3)) (kk : ∀ (r : Option Value) (G' : zG) (V' : zV), Post r G' V' → Wm Z X nL G' V' (k + c1) (n + s1) Q (pc + 3) lw (r.toList ++ rest)) (hd : dy + 1 ≤ D := by decide) (hk : k + c1 ≤ mc := by first | exact Nat.le_of_ble_eq_true rfl | omega) (hn : n + s1 ≤ ms := by first | exact Nat.le_of_ble_eq_true rfl | omega) (hr : (rest.map fun v => v.category).sum ≤ 8 := by exact Nat.le_of_ble_eq_true rfl) : Wm Z X nL G V k n Q pc lw (rest) := by
  exact x_callS (av := []) w.1 w.2 hC cx d hd hk hn hr kk
theorem x_S1 {v1 : Value} (w : MS own idx y cy ny ry 1) (hC : CT X.2.1 Z y cy ny ry dy c1 s1 [v1] G V Post) (cx : Cx Z X own nm cc nL ret D mc ms) (d : decode cc pc = .ok (.invokestatic idx, 3)) (kk : ∀ (r : Option Value) (G' : zG) (V' : zV), Post r G' V' → Wm Z X nL G' V' (k + c1) (n + s1) Q (pc + 3) lw (r.toList ++ rest)) (hd : dy + 1 ≤ D := by decide) (hk : k + c1 ≤ mc := by first | exact Nat.le_of_ble_eq_true rfl | omega) (hn : n + s1 ≤ ms := by first | exact Nat.le_of_ble_eq_true rfl | omega) (hr : (rest.map fun v => v.category).sum ≤ 8 := by exact Nat.le_of_ble_eq_true rfl) : Wm Z X nL G V k n Q pc lw (v1 :: rest) := by
  exact x_callS (av := [v1]) w.1 w.2 hC cx d hd hk hn hr kk
theorem x_S2 {v1 v2 : Value} (w : MS own idx y cy ny ry 2) (hC : CT X.2.1 Z y cy ny ry dy c1 s1 [v1, v2] G V Post) (cx : Cx Z X own nm cc nL ret D mc ms) (d : decode cc pc = .ok (.invokestatic idx, 3)) (kk : ∀ (r : Option Value) (G' : zG) (V' : zV), Post r G' V' → Wm Z X nL G' V' (k + c1) (n + s1) Q (pc + 3) lw (r.toList ++ rest)) (hd : dy + 1 ≤ D := by decide) (hk : k + c1 ≤ mc := by first | exact Nat.le_of_ble_eq_true rfl | omega) (hn : n + s1 ≤ ms := by first | exact Nat.le_of_ble_eq_true rfl | omega) (hr : (rest.map fun v => v.category).sum ≤ 8 := by exact Nat.le_of_ble_eq_true rfl) : Wm Z X nL G V k n Q pc lw (v2 :: v1 :: rest) := by
  exact x_callS (av := [v1, v2]) w.1 w.2 hC cx d hd hk hn hr kk
theorem x_S3 {v1 v2 v3 : Value} (w : MS own idx y cy ny ry 3) (hC : CT X.2.1 Z y cy ny ry dy c1 s1 [v1, v2, v3] G V Post) (cx : Cx Z X own nm cc nL ret D mc ms) (d : decode cc pc = .ok (.invokestatic idx, 3)) (kk : ∀ (r : Option Value) (G' : zG) (V' : zV), Post r G' V' → Wm Z X nL G' V' (k + c1) (n + s1) Q (pc + 3) lw (r.toList ++ rest)) (hd : dy + 1 ≤ D := by decide) (hk : k + c1 ≤ mc := by first | exact Nat.le_of_ble_eq_true rfl | omega) (hn : n + s1 ≤ ms := by first | exact Nat.le_of_ble_eq_true rfl | omega) (hr : (rest.map fun v => v.category).sum ≤ 8 := by exact Nat.le_of_ble_eq_true rfl) : Wm Z X nL G V k n Q pc lw (v3 :: v2 :: v1 :: rest) := by
  exact x_callS (av := [v1, v2, v3]) w.1 w.2 hC cx d hd hk hn hr kk
theorem x_S4 {v1 v2 v3 v4 : Value} (w : MS own idx y cy ny ry 4) (hC : CT X.2.1 Z y cy ny ry dy c1 s1 [v1, v2, v3, v4] G V Post) (cx : Cx Z X own nm cc nL ret D mc ms) (d : decode cc pc = .ok (.invokestatic idx, 3)) (kk : ∀ (r : Option Value) (G' : zG) (V' : zV), Post r G' V' → Wm Z X nL G' V' (k + c1) (n + s1) Q (pc + 3) lw (r.toList ++ rest)) (hd : dy + 1 ≤ D := by decide) (hk : k + c1 ≤ mc := by first | exact Nat.le_of_ble_eq_true rfl | omega) (hn : n + s1 ≤ ms := by first | exact Nat.le_of_ble_eq_true rfl | omega) (hr : (rest.map fun v => v.category).sum ≤ 8 := by exact Nat.le_of_ble_eq_true rfl) : Wm Z X nL G V k n Q pc lw (v4 :: v3 :: v2 :: v1 :: rest) := by
  exact x_callS (av := [v1, v2, v3, v4]) w.1 w.2 hC cx d hd hk hn hr kk
theorem x_S5 {v1 v2 v3 v4 v5 : Value} (w : MS own idx y cy ny ry 5) (hC : CT X.2.1 Z y cy ny ry dy c1 s1 [v1, v2, v3, v4, v5] G V Post) (cx : Cx Z X own nm cc nL ret D mc ms) (d : decode cc pc = .ok (.invokestatic idx, 3)) (kk : ∀ (r : Option Value) (G' : zG) (V' : zV), Post r G' V' → Wm Z X nL G' V' (k + c1) (n + s1) Q (pc + 3) lw (r.toList ++ rest)) (hd : dy + 1 ≤ D := by decide) (hk : k + c1 ≤ mc := by first | exact Nat.le_of_ble_eq_true rfl | omega) (hn : n + s1 ≤ ms := by first | exact Nat.le_of_ble_eq_true rfl | omega) (hr : (rest.map fun v => v.category).sum ≤ 8 := by exact Nat.le_of_ble_eq_true rfl) : Wm Z X nL G V k n Q pc lw (v5 :: v4 :: v3 :: v2 :: v1 :: rest) := by
  exact x_callS (av := [v1, v2, v3, v4, v5]) w.1 w.2 hC cx d hd hk hn hr kk
theorem x_S6 {v1 v2 v3 v4 v5 v6 : Value} (w : MS own idx y cy ny ry 6) (hC : CT X.2.1 Z y cy ny ry dy c1 s1 [v1, v2, v3, v4, v5, v6] G V Post) (cx : Cx Z X own nm cc nL ret D mc ms) (d : decode cc pc = .ok (.invokestatic idx, 3)) (kk : ∀ (r : Option Value) (G' : zG) (V' : zV), Post r G' V' → Wm Z X nL G' V' (k + c1) (n + s1) Q (pc + 3) lw (r.toList ++ rest)) (hd : dy + 1 ≤ D := by decide) (hk : k + c1 ≤ mc := by first | exact Nat.le_of_ble_eq_true rfl | omega) (hn : n + s1 ≤ ms := by first | exact Nat.le_of_ble_eq_true rfl | omega) (hr : (rest.map fun v => v.category).sum ≤ 8 := by exact Nat.le_of_ble_eq_true rfl) : Wm Z X nL G V k n Q pc lw (v6 :: v5 :: v4 :: v3 :: v2 :: v1 :: rest) := by
  exact x_callS (av := [v1, v2, v3, v4, v5, v6]) w.1 w.2 hC cx d hd hk hn hr kk
theorem x_SN0 (w : MSN own idx y cy ny ry 0) (hC : CT X.2.1 Z y cy ny ry dy c1 s1 [] G V Post) (cx : Cx Z X own nm cc nL ret D mc ms) (d : decode cc pc = .ok (.invokestatic idx, 3)) (kk : ∀ (r : Option Value) (G' : zG) (V' : zV), Post r G' V' → Wm Z X nL G' V' (k + c1) (n + s1) Q (pc + 3) lw (r.toList ++ rest)) (hd : dy + 1 ≤ D := by decide) (hk : k + c1 ≤ mc := by first | exact Nat.le_of_ble_eq_true rfl | omega) (hn : n + s1 ≤ ms := by first | exact Nat.le_of_ble_eq_true rfl | omega) (hr : (rest.map fun v => v.category).sum ≤ 8 := by exact Nat.le_of_ble_eq_true rfl) : Wm Z X nL G V k n Q pc lw (rest) := by
  obtain ⟨⟨host, w1⟩, w2⟩ := w
  exact x_callSN (av := []) w1 w2 hC cx d hd hk hn hr kk
theorem x_SN1 {v1 : Value} (w : MSN own idx y cy ny ry 1) (hC : CT X.2.1 Z y cy ny ry dy c1 s1 [v1] G V Post) (cx : Cx Z X own nm cc nL ret D mc ms) (d : decode cc pc = .ok (.invokestatic idx, 3)) (kk : ∀ (r : Option Value) (G' : zG) (V' : zV), Post r G' V' → Wm Z X nL G' V' (k + c1) (n + s1) Q (pc + 3) lw (r.toList ++ rest)) (hd : dy + 1 ≤ D := by decide) (hk : k + c1 ≤ mc := by first | exact Nat.le_of_ble_eq_true rfl | omega) (hn : n + s1 ≤ ms := by first | exact Nat.le_of_ble_eq_true rfl | omega) (hr : (rest.map fun v => v.category).sum ≤ 8 := by exact Nat.le_of_ble_eq_true rfl) : Wm Z X nL G V k n Q pc lw (v1 :: rest) := by
  obtain ⟨⟨host, w1⟩, w2⟩ := w
  exact x_callSN (av := [v1]) w1 w2 hC cx d hd hk hn hr kk
theorem x_SN2 {v1 v2 : Value} (w : MSN own idx y cy ny ry 2) (hC : CT X.2.1 Z y cy ny ry dy c1 s1 [v1, v2] G V Post) (cx : Cx Z X own nm cc nL ret D mc ms) (d : decode cc pc = .ok (.invokestatic idx, 3)) (kk : ∀ (r : Option Value) (G' : zG) (V' : zV), Post r G' V' → Wm Z X nL G' V' (k + c1) (n + s1) Q (pc + 3) lw (r.toList ++ rest)) (hd : dy + 1 ≤ D := by decide) (hk : k + c1 ≤ mc := by first | exact Nat.le_of_ble_eq_true rfl | omega) (hn : n + s1 ≤ ms := by first | exact Nat.le_of_ble_eq_true rfl | omega) (hr : (rest.map fun v => v.category).sum ≤ 8 := by exact Nat.le_of_ble_eq_true rfl) : Wm Z X nL G V k n Q pc lw (v2 :: v1 :: rest) := by
  obtain ⟨⟨host, w1⟩, w2⟩ := w
  exact x_callSN (av := [v1, v2]) w1 w2 hC cx d hd hk hn hr kk
theorem x_SN3 {v1 v2 v3 : Value} (w : MSN own idx y cy ny ry 3) (hC : CT X.2.1 Z y cy ny ry dy c1 s1 [v1, v2, v3] G V Post) (cx : Cx Z X own nm cc nL ret D mc ms) (d : decode cc pc = .ok (.invokestatic idx, 3)) (kk : ∀ (r : Option Value) (G' : zG) (V' : zV), Post r G' V' → Wm Z X nL G' V' (k + c1) (n + s1) Q (pc + 3) lw (r.toList ++ rest)) (hd : dy + 1 ≤ D := by decide) (hk : k + c1 ≤ mc := by first | exact Nat.le_of_ble_eq_true rfl | omega) (hn : n + s1 ≤ ms := by first | exact Nat.le_of_ble_eq_true rfl | omega) (hr : (rest.map fun v => v.category).sum ≤ 8 := by exact Nat.le_of_ble_eq_true rfl) : Wm Z X nL G V k n Q pc lw (v3 :: v2 :: v1 :: rest) := by
  obtain ⟨⟨host, w1⟩, w2⟩ := w
  exact x_callSN (av := [v1, v2, v3]) w1 w2 hC cx d hd hk hn hr kk
theorem x_SN4 {v1 v2 v3 v4 : Value} (w : MSN own idx y cy ny ry 4) (hC : CT X.2.1 Z y cy ny ry dy c1 s1 [v1, v2, v3, v4] G V Post) (cx : Cx Z X own nm cc nL ret D mc ms) (d : decode cc pc = .ok (.invokestatic idx, 3)) (kk : ∀ (r : Option Value) (G' : zG) (V' : zV), Post r G' V' → Wm Z X nL G' V' (k + c1) (n + s1) Q (pc + 3) lw (r.toList ++ rest)) (hd : dy + 1 ≤ D := by decide) (hk : k + c1 ≤ mc := by first | exact Nat.le_of_ble_eq_true rfl | omega) (hn : n + s1 ≤ ms := by first | exact Nat.le_of_ble_eq_true rfl | omega) (hr : (rest.map fun v => v.category).sum ≤ 8 := by exact Nat.le_of_ble_eq_true rfl) : Wm Z X nL G V k n Q pc lw (v4 :: v3 :: v2 :: v1 :: rest) := by
  obtain ⟨⟨host, w1⟩, w2⟩ := w
  exact x_callSN (av := [v1, v2, v3, v4]) w1 w2 hC cx d hd hk hn hr kk
theorem x_SN5 {v1 v2 v3 v4 v5 : Value} (w : MSN own idx y cy ny ry 5) (hC : CT X.2.1 Z y cy ny ry dy c1 s1 [v1, v2, v3, v4, v5] G V Post) (cx : Cx Z X own nm cc nL ret D mc ms) (d : decode cc pc = .ok (.invokestatic idx, 3)) (kk : ∀ (r : Option Value) (G' : zG) (V' : zV), Post r G' V' → Wm Z X nL G' V' (k + c1) (n + s1) Q (pc + 3) lw (r.toList ++ rest)) (hd : dy + 1 ≤ D := by decide) (hk : k + c1 ≤ mc := by first | exact Nat.le_of_ble_eq_true rfl | omega) (hn : n + s1 ≤ ms := by first | exact Nat.le_of_ble_eq_true rfl | omega) (hr : (rest.map fun v => v.category).sum ≤ 8 := by exact Nat.le_of_ble_eq_true rfl) : Wm Z X nL G V k n Q pc lw (v5 :: v4 :: v3 :: v2 :: v1 :: rest) := by
  obtain ⟨⟨host, w1⟩, w2⟩ := w
  exact x_callSN (av := [v1, v2, v3, v4, v5]) w1 w2 hC cx d hd hk hn hr kk
theorem x_SN6 {v1 v2 v3 v4 v5 v6 : Value} (w : MSN own idx y cy ny ry 6) (hC : CT X.2.1 Z y cy ny ry dy c1 s1 [v1, v2, v3, v4, v5, v6] G V Post) (cx : Cx Z X own nm cc nL ret D mc ms) (d : decode cc pc = .ok (.invokestatic idx, 3)) (kk : ∀ (r : Option Value) (G' : zG) (V' : zV), Post r G' V' → Wm Z X nL G' V' (k + c1) (n + s1) Q (pc + 3) lw (r.toList ++ rest)) (hd : dy + 1 ≤ D := by decide) (hk : k + c1 ≤ mc := by first | exact Nat.le_of_ble_eq_true rfl | omega) (hn : n + s1 ≤ ms := by first | exact Nat.le_of_ble_eq_true rfl | omega) (hr : (rest.map fun v => v.category).sum ≤ 8 := by exact Nat.le_of_ble_eq_true rfl) : Wm Z X nL G V k n Q pc lw (v6 :: v5 :: v4 :: v3 :: v2 :: v1 :: rest) := by
  obtain ⟨⟨host, w1⟩, w2⟩ := w
  exact x_callSN (av := [v1, v2, v3, v4, v5, v6]) w1 w2 hC cx d hd hk hn hr kk
theorem x_I0 (w : MI own idx y cy ny 0) (hC : CT X.2.1 Z y cy ny none dy c1 s1 [.ref b] G V Post) (cx : Cx Z X own nm cc nL ret D mc ms) (d : decode cc pc = .ok (.invokespecial idx, 3)) (kk : ∀ (r : Option Value) (G' : zG) (V' : zV), Post r G' V' → Wm Z X nL G' V' (k + c1) (n + s1) Q (pc + 3) lw (r.toList ++ rest)) (hd : dy + 1 ≤ D := by decide) (hk : k + c1 ≤ mc := by first | exact Nat.le_of_ble_eq_true rfl | omega) (hn : n + s1 ≤ ms := by first | exact Nat.le_of_ble_eq_true rfl | omega) (hr : (rest.map fun v => v.category).sum ≤ 8 := by exact Nat.le_of_ble_eq_true rfl) : Wm Z X nL G V k n Q pc lw (.ref b :: rest) := by
  exact x_callI (av := []) w.1 w.2.1 w.2.2 hC cx d hd hk hn hr kk
theorem x_I1 {v1 : Value} (w : MI own idx y cy ny 1) (hC : CT X.2.1 Z y cy ny none dy c1 s1 [.ref b, v1] G V Post) (cx : Cx Z X own nm cc nL ret D mc ms) (d : decode cc pc = .ok (.invokespecial idx, 3)) (kk : ∀ (r : Option Value) (G' : zG) (V' : zV), Post r G' V' → Wm Z X nL G' V' (k + c1) (n + s1) Q (pc + 3) lw (r.toList ++ rest)) (hd : dy + 1 ≤ D := by decide) (hk : k + c1 ≤ mc := by first | exact Nat.le_of_ble_eq_true rfl | omega) (hn : n + s1 ≤ ms := by first | exact Nat.le_of_ble_eq_true rfl | omega) (hr : (rest.map fun v => v.category).sum ≤ 8 := by exact Nat.le_of_ble_eq_true rfl) : Wm Z X nL G V k n Q pc lw (v1 :: .ref b :: rest) := by
  exact x_callI (av := [v1]) w.1 w.2.1 w.2.2 hC cx d hd hk hn hr kk
theorem x_I2 {v1 v2 : Value} (w : MI own idx y cy ny 2) (hC : CT X.2.1 Z y cy ny none dy c1 s1 [.ref b, v1, v2] G V Post) (cx : Cx Z X own nm cc nL ret D mc ms) (d : decode cc pc = .ok (.invokespecial idx, 3)) (kk : ∀ (r : Option Value) (G' : zG) (V' : zV), Post r G' V' → Wm Z X nL G' V' (k + c1) (n + s1) Q (pc + 3) lw (r.toList ++ rest)) (hd : dy + 1 ≤ D := by decide) (hk : k + c1 ≤ mc := by first | exact Nat.le_of_ble_eq_true rfl | omega) (hn : n + s1 ≤ ms := by first | exact Nat.le_of_ble_eq_true rfl | omega) (hr : (rest.map fun v => v.category).sum ≤ 8 := by exact Nat.le_of_ble_eq_true rfl) : Wm Z X nL G V k n Q pc lw (v2 :: v1 :: .ref b :: rest) := by
  exact x_callI (av := [v1, v2]) w.1 w.2.1 w.2.2 hC cx d hd hk hn hr kk
theorem x_I3 {v1 v2 v3 : Value} (w : MI own idx y cy ny 3) (hC : CT X.2.1 Z y cy ny none dy c1 s1 [.ref b, v1, v2, v3] G V Post) (cx : Cx Z X own nm cc nL ret D mc ms) (d : decode cc pc = .ok (.invokespecial idx, 3)) (kk : ∀ (r : Option Value) (G' : zG) (V' : zV), Post r G' V' → Wm Z X nL G' V' (k + c1) (n + s1) Q (pc + 3) lw (r.toList ++ rest)) (hd : dy + 1 ≤ D := by decide) (hk : k + c1 ≤ mc := by first | exact Nat.le_of_ble_eq_true rfl | omega) (hn : n + s1 ≤ ms := by first | exact Nat.le_of_ble_eq_true rfl | omega) (hr : (rest.map fun v => v.category).sum ≤ 8 := by exact Nat.le_of_ble_eq_true rfl) : Wm Z X nL G V k n Q pc lw (v3 :: v2 :: v1 :: .ref b :: rest) := by
  exact x_callI (av := [v1, v2, v3]) w.1 w.2.1 w.2.2 hC cx d hd hk hn hr kk
theorem x_I4 {v1 v2 v3 v4 : Value} (w : MI own idx y cy ny 4) (hC : CT X.2.1 Z y cy ny none dy c1 s1 [.ref b, v1, v2, v3, v4] G V Post) (cx : Cx Z X own nm cc nL ret D mc ms) (d : decode cc pc = .ok (.invokespecial idx, 3)) (kk : ∀ (r : Option Value) (G' : zG) (V' : zV), Post r G' V' → Wm Z X nL G' V' (k + c1) (n + s1) Q (pc + 3) lw (r.toList ++ rest)) (hd : dy + 1 ≤ D := by decide) (hk : k + c1 ≤ mc := by first | exact Nat.le_of_ble_eq_true rfl | omega) (hn : n + s1 ≤ ms := by first | exact Nat.le_of_ble_eq_true rfl | omega) (hr : (rest.map fun v => v.category).sum ≤ 8 := by exact Nat.le_of_ble_eq_true rfl) : Wm Z X nL G V k n Q pc lw (v4 :: v3 :: v2 :: v1 :: .ref b :: rest) := by
  exact x_callI (av := [v1, v2, v3, v4]) w.1 w.2.1 w.2.2 hC cx d hd hk hn hr kk
theorem x_I5 {v1 v2 v3 v4 v5 : Value} (w : MI own idx y cy ny 5) (hC : CT X.2.1 Z y cy ny none dy c1 s1 [.ref b, v1, v2, v3, v4, v5] G V Post) (cx : Cx Z X own nm cc nL ret D mc ms) (d : decode cc pc = .ok (.invokespecial idx, 3)) (kk : ∀ (r : Option Value) (G' : zG) (V' : zV), Post r G' V' → Wm Z X nL G' V' (k + c1) (n + s1) Q (pc + 3) lw (r.toList ++ rest)) (hd : dy + 1 ≤ D := by decide) (hk : k + c1 ≤ mc := by first | exact Nat.le_of_ble_eq_true rfl | omega) (hn : n + s1 ≤ ms := by first | exact Nat.le_of_ble_eq_true rfl | omega) (hr : (rest.map fun v => v.category).sum ≤ 8 := by exact Nat.le_of_ble_eq_true rfl) : Wm Z X nL G V k n Q pc lw (v5 :: v4 :: v3 :: v2 :: v1 :: .ref b :: rest) := by
  exact x_callI (av := [v1, v2, v3, v4, v5]) w.1 w.2.1 w.2.2 hC cx d hd hk hn hr kk
theorem x_I6 {v1 v2 v3 v4 v5 v6 : Value} (w : MI own idx y cy ny 6) (hC : CT X.2.1 Z y cy ny none dy c1 s1 [.ref b, v1, v2, v3, v4, v5, v6] G V Post) (cx : Cx Z X own nm cc nL ret D mc ms) (d : decode cc pc = .ok (.invokespecial idx, 3)) (kk : ∀ (r : Option Value) (G' : zG) (V' : zV), Post r G' V' → Wm Z X nL G' V' (k + c1) (n + s1) Q (pc + 3) lw (r.toList ++ rest)) (hd : dy + 1 ≤ D := by decide) (hk : k + c1 ≤ mc := by first | exact Nat.le_of_ble_eq_true rfl | omega) (hn : n + s1 ≤ ms := by first | exact Nat.le_of_ble_eq_true rfl | omega) (hr : (rest.map fun v => v.category).sum ≤ 8 := by exact Nat.le_of_ble_eq_true rfl) : Wm Z X nL G V k n Q pc lw (v6 :: v5 :: v4 :: v3 :: v2 :: v1 :: .ref b :: rest) := by
  exact x_callI (av := [v1, v2, v3, v4, v5, v6]) w.1 w.2.1 w.2.2 hC cx d hd hk hn hr kk
theorem x_IN0 (w : MIN own idx y cy ny 0) (hC : CT X.2.1 Z y cy ny none dy c1 s1 [.ref b] G V Post) (cx : Cx Z X own nm cc nL ret D mc ms) (d : decode cc pc = .ok (.invokespecial idx, 3)) (kk : ∀ (r : Option Value) (G' : zG) (V' : zV), Post r G' V' → Wm Z X nL G' V' (k + c1) (n + s1) Q (pc + 3) lw (r.toList ++ rest)) (hd : dy + 1 ≤ D := by decide) (hk : k + c1 ≤ mc := by first | exact Nat.le_of_ble_eq_true rfl | omega) (hn : n + s1 ≤ ms := by first | exact Nat.le_of_ble_eq_true rfl | omega) (hr : (rest.map fun v => v.category).sum ≤ 8 := by exact Nat.le_of_ble_eq_true rfl) : Wm Z X nL G V k n Q pc lw (.ref b :: rest) := by
  obtain ⟨⟨host, w1⟩, w2, w3⟩ := w
  exact x_callIN (av := []) w1 w2 w3 hC cx d hd hk hn hr kk
theorem x_IN1 {v1 : Value} (w : MIN own idx y cy ny 1) (hC : CT X.2.1 Z y cy ny none dy c1 s1 [.ref b, v1] G V Post) (cx : Cx Z X own nm cc nL ret D mc ms) (d : decode cc pc = .ok (.invokespecial idx, 3)) (kk : ∀ (r : Option Value) (G' : zG) (V' : zV), Post r G' V' → Wm Z X nL G' V' (k + c1) (n + s1) Q (pc + 3) lw (r.toList ++ rest)) (hd : dy + 1 ≤ D := by decide) (hk : k + c1 ≤ mc := by first | exact Nat.le_of_ble_eq_true rfl | omega) (hn : n + s1 ≤ ms := by first | exact Nat.le_of_ble_eq_true rfl | omega) (hr : (rest.map fun v => v.category).sum ≤ 8 := by exact Nat.le_of_ble_eq_true rfl) : Wm Z X nL G V k n Q pc lw (v1 :: .ref b :: rest) := by
  obtain ⟨⟨host, w1⟩, w2, w3⟩ := w
  exact x_callIN (av := [v1]) w1 w2 w3 hC cx d hd hk hn hr kk
theorem x_IN2 {v1 v2 : Value} (w : MIN own idx y cy ny 2) (hC : CT X.2.1 Z y cy ny none dy c1 s1 [.ref b, v1, v2] G V Post) (cx : Cx Z X own nm cc nL ret D mc ms) (d : decode cc pc = .ok (.invokespecial idx, 3)) (kk : ∀ (r : Option Value) (G' : zG) (V' : zV), Post r G' V' → Wm Z X nL G' V' (k + c1) (n + s1) Q (pc + 3) lw (r.toList ++ rest)) (hd : dy + 1 ≤ D := by decide) (hk : k + c1 ≤ mc := by first | exact Nat.le_of_ble_eq_true rfl | omega) (hn : n + s1 ≤ ms := by first | exact Nat.le_of_ble_eq_true rfl | omega) (hr : (rest.map fun v => v.category).sum ≤ 8 := by exact Nat.le_of_ble_eq_true rfl) : Wm Z X nL G V k n Q pc lw (v2 :: v1 :: .ref b :: rest) := by
  obtain ⟨⟨host, w1⟩, w2, w3⟩ := w
  exact x_callIN (av := [v1, v2]) w1 w2 w3 hC cx d hd hk hn hr kk
theorem x_IN3 {v1 v2 v3 : Value} (w : MIN own idx y cy ny 3) (hC : CT X.2.1 Z y cy ny none dy c1 s1 [.ref b, v1, v2, v3] G V Post) (cx : Cx Z X own nm cc nL ret D mc ms) (d : decode cc pc = .ok (.invokespecial idx, 3)) (kk : ∀ (r : Option Value) (G' : zG) (V' : zV), Post r G' V' → Wm Z X nL G' V' (k + c1) (n + s1) Q (pc + 3) lw (r.toList ++ rest)) (hd : dy + 1 ≤ D := by decide) (hk : k + c1 ≤ mc := by first | exact Nat.le_of_ble_eq_true rfl | omega) (hn : n + s1 ≤ ms := by first | exact Nat.le_of_ble_eq_true rfl | omega) (hr : (rest.map fun v => v.category).sum ≤ 8 := by exact Nat.le_of_ble_eq_true rfl) : Wm Z X nL G V k n Q pc lw (v3 :: v2 :: v1 :: .ref b :: rest) := by
  obtain ⟨⟨host, w1⟩, w2, w3⟩ := w
  exact x_callIN (av := [v1, v2, v3]) w1 w2 w3 hC cx d hd hk hn hr kk
theorem x_IN4 {v1 v2 v3 v4 : Value} (w : MIN own idx y cy ny 4) (hC : CT X.2.1 Z y cy ny none dy c1 s1 [.ref b, v1, v2, v3, v4] G V Post) (cx : Cx Z X own nm cc nL ret D mc ms) (d : decode cc pc = .ok (.invokespecial idx, 3)) (kk : ∀ (r : Option Value) (G' : zG) (V' : zV), Post r G' V' → Wm Z X nL G' V' (k + c1) (n + s1) Q (pc + 3) lw (r.toList ++ rest)) (hd : dy + 1 ≤ D := by decide) (hk : k + c1 ≤ mc := by first | exact Nat.le_of_ble_eq_true rfl | omega) (hn : n + s1 ≤ ms := by first | exact Nat.le_of_ble_eq_true rfl | omega) (hr : (rest.map fun v => v.category).sum ≤ 8 := by exact Nat.le_of_ble_eq_true rfl) : Wm Z X nL G V k n Q pc lw (v4 :: v3 :: v2 :: v1 :: .ref b :: rest) := by
  obtain ⟨⟨host, w1⟩, w2, w3⟩ := w
  exact x_callIN (av := [v1, v2, v3, v4]) w1 w2 w3 hC cx d hd hk hn hr kk
theorem x_IN5 {v1 v2 v3 v4 v5 : Value} (w : MIN own idx y cy ny 5) (hC : CT X.2.1 Z y cy ny none dy c1 s1 [.ref b, v1, v2, v3, v4, v5] G V Post) (cx : Cx Z X own nm cc nL ret D mc ms) (d : decode cc pc = .ok (.invokespecial idx, 3)) (kk : ∀ (r : Option Value) (G' : zG) (V' : zV), Post r G' V' → Wm Z X nL G' V' (k + c1) (n + s1) Q (pc + 3) lw (r.toList ++ rest)) (hd : dy + 1 ≤ D := by decide) (hk : k + c1 ≤ mc := by first | exact Nat.le_of_ble_eq_true rfl | omega) (hn : n + s1 ≤ ms := by first | exact Nat.le_of_ble_eq_true rfl | omega) (hr : (rest.map fun v => v.category).sum ≤ 8 := by exact Nat.le_of_ble_eq_true rfl) : Wm Z X nL G V k n Q pc lw (v5 :: v4 :: v3 :: v2 :: v1 :: .ref b :: rest) := by
  obtain ⟨⟨host, w1⟩, w2, w3⟩ := w
  exact x_callIN (av := [v1, v2, v3, v4, v5]) w1 w2 w3 hC cx d hd hk hn hr kk
theorem x_IN6 {v1 v2 v3 v4 v5 v6 : Value} (w : MIN own idx y cy ny 6) (hC : CT X.2.1 Z y cy ny none dy c1 s1 [.ref b, v1, v2, v3, v4, v5, v6] G V Post) (cx : Cx Z X own nm cc nL ret D mc ms) (d : decode cc pc = .ok (.invokespecial idx, 3)) (kk : ∀ (r : Option Value) (G' : zG) (V' : zV), Post r G' V' → Wm Z X nL G' V' (k + c1) (n + s1) Q (pc + 3) lw (r.toList ++ rest)) (hd : dy + 1 ≤ D := by decide) (hk : k + c1 ≤ mc := by first | exact Nat.le_of_ble_eq_true rfl | omega) (hn : n + s1 ≤ ms := by first | exact Nat.le_of_ble_eq_true rfl | omega) (hr : (rest.map fun v => v.category).sum ≤ 8 := by exact Nat.le_of_ble_eq_true rfl) : Wm Z X nL G V k n Q pc lw (v6 :: v5 :: v4 :: v3 :: v2 :: v1 :: .ref b :: rest) := by
  obtain ⟨⟨host, w1⟩, w2, w3⟩ := w
  exact x_callIN (av := [v1, v2, v3, v4, v5, v6]) w1 w2 w3 hC cx d hd hk hn hr kk
end XD
/-- a method's instructions: place, instruction, length -/
def dAll (b : ByteArray) (l : List (Nat × Instr × Nat)) : Bool := l.all (fun q => decide (decode b q.1 = .ok q.2))
theorem dA {b : ByteArray} {l : List (Nat × Instr × Nat)} (h : dAll b l = true) {i pc : Nat} {q : Instr × Nat} (hi : l[i]? = some (pc, q)) : decode b pc = .ok q := by
  have := List.all_eq_true.mp h (pc, q) (List.mem_of_getElem? hi)
  simpa using this
theorem narrow_rf {C : String} (v : Option Nat) : narrow (.object C) (va_rf v) = va_rf v := by cases v <;> rfl
theorem fits_rf {C : String} (v : Option Nat) : fits (.object C) (va_rf v) = true := by cases v <;> rfl
theorem narrow_rfA {t : FieldType} (v : Option Nat) : narrow (.array t) (va_rf v) = va_rf v := by cases v <;> rfl
theorem fits_rfA {t : FieldType} (v : Option Nat) : fits (.array t) (va_rf v) = true := by cases v <;> rfl
end
section
theorem wa {w : Cond} (h : w ∈ tables_1) (g : goodWord w = true) : w ∈ WA := WA_in (List.mem_append_right _ h) g
theorem wn {w : Cond} (h : w ∈ tables_1) (g : nestW w = true) : w ∈ WN := List.mem_filter.mpr ⟨h, g⟩
theorem tt1 {w : Cond} {j : Nat} (h : tables_1_1[j]? = some w) : w ∈ tables_1 := List.mem_append_left _ (List.mem_of_getElem? h)
theorem tt2 {w : Cond} {j : Nat} (h : tables_1_2[j]? = some w) : w ∈ tables_1 := List.mem_append_right _ (List.mem_append_left _ (List.mem_of_getElem? h))
theorem tt3 {w : Cond} {j : Nat} (h : tables_1_3[j]? = some w) : w ∈ tables_1 := List.mem_append_right _ (List.mem_append_right _ (List.mem_append_left _ (List.mem_of_getElem? h)))
theorem tt4 {w : Cond} {j : Nat} (h : tables_1_4[j]? = some w) : w ∈ tables_1 := List.mem_append_right _ (List.mem_append_right _ (List.mem_append_right _ (List.mem_append_left _ (List.mem_of_getElem? h))))
theorem tt5 {w : Cond} {j : Nat} (h : tables_1_5[j]? = some w) : w ∈ tables_1 := List.mem_append_right _ (List.mem_append_right _ (List.mem_append_right _ (List.mem_append_right _ (List.mem_append_left _ (List.mem_of_getElem? h)))))
theorem tt6 {w : Cond} {j : Nat} (h : tables_1_6[j]? = some w) : w ∈ tables_1 := List.mem_append_right _ (List.mem_append_right _ (List.mem_append_right _ (List.mem_append_right _ (List.mem_append_right _ (List.mem_append_left _ (List.mem_of_getElem? h))))))
theorem tt7 {w : Cond} {j : Nat} (h : tables_1_7[j]? = some w) : w ∈ tables_1 := List.mem_append_right _ (List.mem_append_right _ (List.mem_append_right _ (List.mem_append_right _ (List.mem_append_right _ (List.mem_append_right _ (List.mem_of_getElem? h))))))
theorem sel_in {q : MethodName × Nat} (h : q ∈ lw_privs) : Cond.selects q.1.cls q.1 q.1 ∈ WA := WA_in (List.mem_append_left _ (List.mem_map.mpr ⟨q, h, rfl⟩)) rfl
theorem sp1 {q : MethodName × Nat} {j : Nat} (h : lw_privs_1[j]? = some q) : q ∈ lw_privs := List.mem_append_left _ (List.mem_of_getElem? h)
theorem sp2 {q : MethodName × Nat} {j : Nat} (h : lw_privs_2[j]? = some q) : q ∈ lw_privs := List.mem_append_right _ (List.mem_append_left _ (List.mem_of_getElem? h))
theorem sp3 {q : MethodName × Nat} {j : Nat} (h : lw_privs_3[j]? = some q) : q ∈ lw_privs := List.mem_append_right _ (List.mem_append_right _ (List.mem_append_left _ (List.mem_of_getElem? h)))
theorem sp4 {q : MethodName × Nat} {j : Nat} (h : lw_privs_4[j]? = some q) : q ∈ lw_privs := List.mem_append_right _ (List.mem_append_right _ (List.mem_append_right _ (List.mem_append_left _ (List.mem_of_getElem? h))))
theorem sp5 {q : MethodName × Nat} {j : Nat} (h : lw_privs_5[j]? = some q) : q ∈ lw_privs := List.mem_append_right _ (List.mem_append_right _ (List.mem_append_right _ (List.mem_append_right _ (List.mem_of_getElem? h))))
theorem yi_RL : Cond.initialized RL ∈ WA := wa (tt1 (j := 0) rfl) rfl
theorem yi_RX7 : Cond.initialized RX7 ∈ WA := wa (tt1 (j := 1) rfl) rfl
theorem yi_RX6 : Cond.initialized RX6 ∈ WA := wa (tt1 (j := 2) rfl) rfl
theorem yi_RX5 : Cond.initialized RX5 ∈ WA := wa (tt1 (j := 3) rfl) rfl
theorem yi_RX0 : Cond.initialized RX0 ∈ WA := wa (tt1 (j := 4) rfl) rfl
theorem yi_RX4 : Cond.initialized RX4 ∈ WA := wa (tt1 (j := 5) rfl) rfl
theorem yi_RX1 : Cond.initialized RX1 ∈ WA := wa (tt1 (j := 6) rfl) rfl
theorem yi_RX8 : Cond.initialized RX8 ∈ WA := wa (tt1 (j := 7) rfl) rfl
theorem yi_RX2 : Cond.initialized RX2 ∈ WA := wa (tt1 (j := 8) rfl) rfl
theorem yi_RJ10 : Cond.initialized RJ10 ∈ WA := wa (tt1 (j := 9) rfl) rfl
theorem yi_RX3 : Cond.initialized RX3 ∈ WA := wa (tt1 (j := 10) rfl) rfl
theorem yi_RJ0 : Cond.initialized RJ0 ∈ WA := wa (tt1 (j := 11) rfl) rfl
theorem yi_RJ1 : Cond.initialized RJ1 ∈ WA := wa (tt1 (j := 12) rfl) rfl
theorem yi_RJ3 : Cond.initialized RJ3 ∈ WA := wa (tt1 (j := 13) rfl) rfl
theorem yi_RJ2 : Cond.initialized RJ2 ∈ WA := wa (tt1 (j := 14) rfl) rfl
theorem yi_RJ9 : Cond.initialized RJ9 ∈ WA := wa (tt1 (j := 15) rfl) rfl
theorem inX0 : ∀ w ∈ u_ws RX0 TX0 1, w ∈ WA := by
  intro w hw
  obtain ⟨k, hk, rfl⟩ := List.mem_map.mp hw
  have hk : k < 1 := List.mem_range.mp hk
  match k, hk with
  | 0, _ => exact wa (tt1 (j := 45) rfl) rfl
  | k + 1, hk => omega
theorem yn_X0 : Cond.instantiable RX0 1 ∈ WA := wa (tt1 (j := 39) rfl) rfl
theorem inX1 : ∀ w ∈ u_ws RX1 TX1 15, w ∈ WA := by
  intro w hw
  obtain ⟨k, hk, rfl⟩ := List.mem_map.mp hw
  have hk : k < 15 := List.mem_range.mp hk
  match k, hk with
  | 0, _ => exact wa (tt1 (j := 148) rfl) rfl
  | 1, _ => exact wa (tt1 (j := 150) rfl) rfl
  | 2, _ => exact wa (tt1 (j := 152) rfl) rfl
  | 3, _ => exact wa (tt1 (j := 154) rfl) rfl
  | 4, _ => exact wa (tt1 (j := 156) rfl) rfl
  | 5, _ => exact wa (tt1 (j := 158) rfl) rfl
  | 6, _ => exact wa (tt1 (j := 160) rfl) rfl
  | 7, _ => exact wa (tt1 (j := 162) rfl) rfl
  | 8, _ => exact wa (tt1 (j := 164) rfl) rfl
  | 9, _ => exact wa (tt1 (j := 166) rfl) rfl
  | 10, _ => exact wa (tt1 (j := 168) rfl) rfl
  | 11, _ => exact wa (tt1 (j := 170) rfl) rfl
  | 12, _ => exact wa (tt1 (j := 172) rfl) rfl
  | 13, _ => exact wa (tt1 (j := 174) rfl) rfl
  | 14, _ => exact wa (tt1 (j := 176) rfl) rfl
  | k + 15, hk => omega
theorem yn_X1 : Cond.instantiable RX1 15 ∈ WA := wa (tt1 (j := 123) rfl) rfl
theorem inX2 : ∀ w ∈ u_ws RX2 TX2 2, w ∈ WA := by
  intro w hw
  obtain ⟨k, hk, rfl⟩ := List.mem_map.mp hw
  have hk : k < 2 := List.mem_range.mp hk
  match k, hk with
  | 0, _ => exact wa (tt2 (j := 0) rfl) rfl
  | 1, _ => exact wa (tt2 (j := 2) rfl) rfl
  | k + 2, hk => omega
theorem yn_X2 : Cond.instantiable RX2 2 ∈ WA := wa (tt1 (j := 232) rfl) rfl
theorem inX3 : ∀ w ∈ u_ws RX3 TX3 4, w ∈ WA := by
  intro w hw
  obtain ⟨k, hk, rfl⟩ := List.mem_map.mp hw
  have hk : k < 4 := List.mem_range.mp hk
  match k, hk with
  | 0, _ => exact wa (tt2 (j := 95) rfl) rfl
  | 1, _ => exact wa (tt2 (j := 97) rfl) rfl
  | 2, _ => exact wa (tt2 (j := 99) rfl) rfl
  | 3, _ => exact wa (tt2 (j := 101) rfl) rfl
  | k + 4, hk => omega
theorem yn_X3 : Cond.instantiable RX3 4 ∈ WA := wa (tt2 (j := 77) rfl) rfl
theorem inX4 : ∀ w ∈ u_ws RX4 TX4 5, w ∈ WA := by
  intro w hw
  obtain ⟨k, hk, rfl⟩ := List.mem_map.mp hw
  have hk : k < 5 := List.mem_range.mp hk
  match k, hk with
  | 0, _ => exact wa (tt1 (j := 105) rfl) rfl
  | 1, _ => exact wa (tt1 (j := 107) rfl) rfl
  | 2, _ => exact wa (tt1 (j := 109) rfl) rfl
  | 3, _ => exact wa (tt1 (j := 111) rfl) rfl
  | 4, _ => exact wa (tt1 (j := 113) rfl) rfl
  | k + 5, hk => omega
theorem yn_X4 : Cond.instantiable RX4 5 ∈ WA := wa (tt1 (j := 94) rfl) rfl
theorem inX5 : ∀ w ∈ u_ws RX5 TX5 8, w ∈ WA := by
  intro w hw
  obtain ⟨k, hk, rfl⟩ := List.mem_map.mp hw
  have hk : k < 8 := List.mem_range.mp hk
  match k, hk with
  | 0, _ => exact wa (tt1 (j := 59) rfl) rfl
  | 1, _ => exact wa (tt1 (j := 61) rfl) rfl
  | 2, _ => exact wa (tt1 (j := 63) rfl) rfl
  | 3, _ => exact wa (tt1 (j := 65) rfl) rfl
  | 4, _ => exact wa (tt1 (j := 67) rfl) rfl
  | 5, _ => exact wa (tt1 (j := 69) rfl) rfl
  | 6, _ => exact wa (tt1 (j := 71) rfl) rfl
  | 7, _ => exact wa (tt1 (j := 73) rfl) rfl
  | k + 8, hk => omega
theorem yn_X5 : Cond.instantiable RX5 8 ∈ WA := wa (tt1 (j := 33) rfl) rfl
theorem inX6 : ∀ w ∈ u_ws RX6 TX6 4, w ∈ WA := by
  intro w hw
  obtain ⟨k, hk, rfl⟩ := List.mem_map.mp hw
  have hk : k < 4 := List.mem_range.mp hk
  match k, hk with
  | 0, _ => exact wa (tt1 (j := 84) rfl) rfl
  | 1, _ => exact wa (tt1 (j := 86) rfl) rfl
  | 2, _ => exact wa (tt1 (j := 88) rfl) rfl
  | 3, _ => exact wa (tt1 (j := 90) rfl) rfl
  | k + 4, hk => omega
theorem yn_X6 : Cond.instantiable RX6 4 ∈ WA := wa (tt1 (j := 25) rfl) rfl
theorem inX7 : ∀ w ∈ u_ws RX7 TX7 12, w ∈ WA := by
  intro w hw
  obtain ⟨k, hk, rfl⟩ := List.mem_map.mp hw
  have hk : k < 12 := List.mem_range.mp hk
  match k, hk with
  | 0, _ => exact wa (tt1 (j := 196) rfl) rfl
  | 1, _ => exact wa (tt1 (j := 198) rfl) rfl
  | 2, _ => exact wa (tt1 (j := 200) rfl) rfl
  | 3, _ => exact wa (tt1 (j := 202) rfl) rfl
  | 4, _ => exact wa (tt1 (j := 204) rfl) rfl
  | 5, _ => exact wa (tt1 (j := 206) rfl) rfl
  | 6, _ => exact wa (tt1 (j := 208) rfl) rfl
  | 7, _ => exact wa (tt1 (j := 210) rfl) rfl
  | 8, _ => exact wa (tt1 (j := 212) rfl) rfl
  | 9, _ => exact wa (tt1 (j := 214) rfl) rfl
  | 10, _ => exact wa (tt1 (j := 216) rfl) rfl
  | 11, _ => exact wa (tt1 (j := 218) rfl) rfl
  | k + 12, hk => omega
theorem yn_X7 : Cond.instantiable RX7 12 ∈ WA := wa (tt1 (j := 17) rfl) rfl
theorem inX8 : ∀ w ∈ u_ws RX8 TX8 46, w ∈ WA := by
  intro w hw
  obtain ⟨k, hk, rfl⟩ := List.mem_map.mp hw
  have hk : k < 46 := List.mem_range.mp hk
  match k, hk with
  | 0, _ => exact wa (tt5 (j := 126) rfl) rfl
  | 1, _ => exact wa (tt5 (j := 128) rfl) rfl
  | 2, _ => exact wa (tt5 (j := 130) rfl) rfl
  | 3, _ => exact wa (tt5 (j := 132) rfl) rfl
  | 4, _ => exact wa (tt5 (j := 134) rfl) rfl
  | 5, _ => exact wa (tt5 (j := 136) rfl) rfl
  | 6, _ => exact wa (tt5 (j := 138) rfl) rfl
  | 7, _ => exact wa (tt5 (j := 140) rfl) rfl
  | 8, _ => exact wa (tt5 (j := 142) rfl) rfl
  | 9, _ => exact wa (tt5 (j := 144) rfl) rfl
  | 10, _ => exact wa (tt5 (j := 146) rfl) rfl
  | 11, _ => exact wa (tt5 (j := 148) rfl) rfl
  | 12, _ => exact wa (tt5 (j := 150) rfl) rfl
  | 13, _ => exact wa (tt5 (j := 152) rfl) rfl
  | 14, _ => exact wa (tt5 (j := 154) rfl) rfl
  | 15, _ => exact wa (tt5 (j := 156) rfl) rfl
  | 16, _ => exact wa (tt5 (j := 158) rfl) rfl
  | 17, _ => exact wa (tt5 (j := 160) rfl) rfl
  | 18, _ => exact wa (tt5 (j := 162) rfl) rfl
  | 19, _ => exact wa (tt5 (j := 164) rfl) rfl
  | 20, _ => exact wa (tt5 (j := 166) rfl) rfl
  | 21, _ => exact wa (tt5 (j := 168) rfl) rfl
  | 22, _ => exact wa (tt5 (j := 170) rfl) rfl
  | 23, _ => exact wa (tt5 (j := 172) rfl) rfl
  | 24, _ => exact wa (tt5 (j := 174) rfl) rfl
  | 25, _ => exact wa (tt5 (j := 176) rfl) rfl
  | 26, _ => exact wa (tt5 (j := 178) rfl) rfl
  | 27, _ => exact wa (tt5 (j := 180) rfl) rfl
  | 28, _ => exact wa (tt5 (j := 182) rfl) rfl
  | 29, _ => exact wa (tt5 (j := 184) rfl) rfl
  | 30, _ => exact wa (tt5 (j := 186) rfl) rfl
  | 31, _ => exact wa (tt5 (j := 188) rfl) rfl
  | 32, _ => exact wa (tt5 (j := 190) rfl) rfl
  | 33, _ => exact wa (tt5 (j := 192) rfl) rfl
  | 34, _ => exact wa (tt5 (j := 194) rfl) rfl
  | 35, _ => exact wa (tt5 (j := 196) rfl) rfl
  | 36, _ => exact wa (tt5 (j := 198) rfl) rfl
  | 37, _ => exact wa (tt5 (j := 200) rfl) rfl
  | 38, _ => exact wa (tt5 (j := 202) rfl) rfl
  | 39, _ => exact wa (tt5 (j := 204) rfl) rfl
  | 40, _ => exact wa (tt5 (j := 206) rfl) rfl
  | 41, _ => exact wa (tt5 (j := 208) rfl) rfl
  | 42, _ => exact wa (tt5 (j := 210) rfl) rfl
  | 43, _ => exact wa (tt5 (j := 212) rfl) rfl
  | 44, _ => exact wa (tt5 (j := 214) rfl) rfl
  | 45, _ => exact wa (tt5 (j := 216) rfl) rfl
  | k + 46, hk => omega
theorem yn_X8 : Cond.instantiable RX8 46 ∈ WA := wa (tt5 (j := 71) rfl) rfl
theorem yc_X7_init : Cond.code yX7_init cX7_init 2 none ∈ WA := wa (tt1 (j := 20) rfl) rfl
theorem yd_X7_init : yX7_init.cls ≠ "java/lang/invoke/MethodHandle" ∧ yX7_init.cls ≠ "java/lang/invoke/VarHandle" ∧ (parseMethodDescriptor yX7_init.desc).map (fun d => d.parameters.length) = some 0 := by decide +kernel
theorem ym_X7_init : Cond.instanceMethod yX7_init ∈ WA := wa (tt1 (j := 19) rfl) rfl
theorem yc_X6_init : Cond.code yX6_init cX6_init 2 none ∈ WA := wa (tt1 (j := 28) rfl) rfl
theorem yd_X6_init : yX6_init.cls ≠ "java/lang/invoke/MethodHandle" ∧ yX6_init.cls ≠ "java/lang/invoke/VarHandle" ∧ (parseMethodDescriptor yX6_init.desc).map (fun d => d.parameters.length) = some 0 := by decide +kernel
theorem ym_X6_init : Cond.instanceMethod yX6_init ∈ WA := wa (tt1 (j := 27) rfl) rfl
theorem yc_X5_init : Cond.code yX5_init cX5_init 1 none ∈ WA := wa (tt1 (j := 36) rfl) rfl
theorem yd_X5_init : yX5_init.cls ≠ "java/lang/invoke/MethodHandle" ∧ yX5_init.cls ≠ "java/lang/invoke/VarHandle" ∧ (parseMethodDescriptor yX5_init.desc).map (fun d => d.parameters.length) = some 0 := by decide +kernel
theorem ym_X5_init : Cond.instanceMethod yX5_init ∈ WA := wa (tt1 (j := 35) rfl) rfl
theorem yc_X0_init : Cond.code yX0_init cX0_init 1 none ∈ WA := wa (tt1 (j := 42) rfl) rfl
theorem yd_X0_init : yX0_init.cls ≠ "java/lang/invoke/MethodHandle" ∧ yX0_init.cls ≠ "java/lang/invoke/VarHandle" ∧ (parseMethodDescriptor yX0_init.desc).map (fun d => d.parameters.length) = some 0 := by decide +kernel
theorem ym_X0_init : Cond.instanceMethod yX0_init ∈ WA := wa (tt1 (j := 41) rfl) rfl
theorem yc_X4_init : Cond.code yX4_init cX4_init 1 none ∈ WA := wa (tt1 (j := 97) rfl) rfl
theorem yd_X4_init : yX4_init.cls ≠ "java/lang/invoke/MethodHandle" ∧ yX4_init.cls ≠ "java/lang/invoke/VarHandle" ∧ (parseMethodDescriptor yX4_init.desc).map (fun d => d.parameters.length) = some 0 := by decide +kernel
theorem ym_X4_init : Cond.instanceMethod yX4_init ∈ WA := wa (tt1 (j := 96) rfl) rfl
theorem yc_X1_init : Cond.code yX1_init cX1_init 1 none ∈ WA := wa (tt1 (j := 126) rfl) rfl
theorem yd_X1_init : yX1_init.cls ≠ "java/lang/invoke/MethodHandle" ∧ yX1_init.cls ≠ "java/lang/invoke/VarHandle" ∧ (parseMethodDescriptor yX1_init.desc).map (fun d => d.parameters.length) = some 0 := by decide +kernel
theorem ym_X1_init : Cond.instanceMethod yX1_init ∈ WA := wa (tt1 (j := 125) rfl) rfl
theorem yc_X7_row : Cond.code yX7_row cX7_row 4 (some .int) ∈ WA := wa (tt1 (j := 224) rfl) rfl
theorem yd_X7_row : yX7_row.cls ≠ "java/lang/invoke/MethodHandle" ∧ yX7_row.cls ≠ "java/lang/invoke/VarHandle" ∧ (parseMethodDescriptor yX7_row.desc).map (fun d => d.parameters.length) = some 3 := by decide +kernel
theorem ym_X7_row : Cond.instanceMethod yX7_row ∈ WA := wa (tt1 (j := 222) rfl) rfl
theorem yv_X7_row : Cond.selects yX7_row.cls yX7_row yX7_row ∈ WA := wa (tt1 (j := 223) rfl) rfl
theorem yc_X7_isShelf : Cond.code yX7_isShelf cX7_isShelf 1 (some .boolean) ∈ WA := wa (tt1 (j := 227) rfl) rfl
theorem yd_X7_isShelf : yX7_isShelf.cls ≠ "java/lang/invoke/MethodHandle" ∧ yX7_isShelf.cls ≠ "java/lang/invoke/VarHandle" ∧ (parseMethodDescriptor yX7_isShelf.desc).map (fun d => d.parameters.length) = some 1 := by decide +kernel
theorem ys_X7_isShelf : Cond.static yX7_isShelf ∈ WA := wa (tt1 (j := 226) rfl) rfl
theorem yc_X7_refuse : Cond.code yX7_refuse cX7_refuse 3 (some .int) ∈ WA := wa (tt1 (j := 231) rfl) rfl
theorem yd_X7_refuse : yX7_refuse.cls ≠ "java/lang/invoke/MethodHandle" ∧ yX7_refuse.cls ≠ "java/lang/invoke/VarHandle" ∧ (parseMethodDescriptor yX7_refuse.desc).map (fun d => d.parameters.length) = some 1 := by decide +kernel
theorem ym_X7_refuse : Cond.instanceMethod yX7_refuse ∈ WA := wa (tt1 (j := 230) rfl) rfl
theorem yv_X7_refuse : Cond.selects yX7_refuse.cls yX7_refuse yX7_refuse ∈ WA := sel_in (q := (yX7_refuse, 12)) (sp1 (j := 0) rfl)
theorem yc_X2_init : Cond.code yX2_init cX2_init 3 none ∈ WA := wa (tt1 (j := 235) rfl) rfl
theorem yd_X2_init : yX2_init.cls ≠ "java/lang/invoke/MethodHandle" ∧ yX2_init.cls ≠ "java/lang/invoke/VarHandle" ∧ (parseMethodDescriptor yX2_init.desc).map (fun d => d.parameters.length) = some 2 := by decide +kernel
theorem ym_X2_init : Cond.instanceMethod yX2_init ∈ WA := wa (tt1 (j := 234) rfl) rfl
theorem yc_X7_putOnShelf : Cond.code yX7_putOnShelf cX7_putOnShelf 4 none ∈ WA := wa (tt2 (j := 8) rfl) rfl
theorem yd_X7_putOnShelf : yX7_putOnShelf.cls ≠ "java/lang/invoke/MethodHandle" ∧ yX7_putOnShelf.cls ≠ "java/lang/invoke/VarHandle" ∧ (parseMethodDescriptor yX7_putOnShelf.desc).map (fun d => d.parameters.length) = some 3 := by decide +kernel
theorem ym_X7_putOnShelf : Cond.instanceMethod yX7_putOnShelf ∈ WA := wa (tt2 (j := 7) rfl) rfl
theorem yv_X7_putOnShelf : Cond.selects yX7_putOnShelf.cls yX7_putOnShelf yX7_putOnShelf ∈ WA := sel_in (q := (yX7_putOnShelf, 12)) (sp1 (j := 1) rfl)
theorem yc_X7_set : Cond.code yX7_set cX7_set 6 (some .int) ∈ WA := wa (tt2 (j := 12) rfl) rfl
theorem yd_X7_set : yX7_set.cls ≠ "java/lang/invoke/MethodHandle" ∧ yX7_set.cls ≠ "java/lang/invoke/VarHandle" ∧ (parseMethodDescriptor yX7_set.desc).map (fun d => d.parameters.length) = some 3 := by decide +kernel
theorem ym_X7_set : Cond.instanceMethod yX7_set ∈ WA := wa (tt2 (j := 10) rfl) rfl
theorem yv_X7_set : Cond.selects yX7_set.cls yX7_set yX7_set ∈ WA := wa (tt2 (j := 11) rfl) rfl
theorem yc_X7_rowAt : Cond.code yX7_rowAt cX7_rowAt 2 (some (.object "SendTheBox$Row")) ∈ WA := wa (tt2 (j := 16) rfl) rfl
theorem yd_X7_rowAt : yX7_rowAt.cls ≠ "java/lang/invoke/MethodHandle" ∧ yX7_rowAt.cls ≠ "java/lang/invoke/VarHandle" ∧ (parseMethodDescriptor yX7_rowAt.desc).map (fun d => d.parameters.length) = some 1 := by decide +kernel
theorem ym_X7_rowAt : Cond.instanceMethod yX7_rowAt ∈ WA := wa (tt2 (j := 15) rfl) rfl
theorem yv_X7_rowAt : Cond.selects yX7_rowAt.cls yX7_rowAt yX7_rowAt ∈ WA := sel_in (q := (yX7_rowAt, 12)) (sp1 (j := 2) rfl)
theorem yc_X7_lackOnShelf : Cond.code yX7_lackOnShelf cX7_lackOnShelf 2 (some .int) ∈ WA := wa (tt2 (j := 20) rfl) rfl
theorem yd_X7_lackOnShelf : yX7_lackOnShelf.cls ≠ "java/lang/invoke/MethodHandle" ∧ yX7_lackOnShelf.cls ≠ "java/lang/invoke/VarHandle" ∧ (parseMethodDescriptor yX7_lackOnShelf.desc).map (fun d => d.parameters.length) = some 1 := by decide +kernel
theorem ym_X7_lackOnShelf : Cond.instanceMethod yX7_lackOnShelf ∈ WA := wa (tt2 (j := 19) rfl) rfl
theorem yv_X7_lackOnShelf : Cond.selects yX7_lackOnShelf.cls yX7_lackOnShelf yX7_lackOnShelf ∈ WA := sel_in (q := (yX7_lackOnShelf, 12)) (sp1 (j := 3) rfl)
theorem yc_X7_ruleAt : Cond.code yX7_ruleAt cX7_ruleAt 2 (some (.object "SendTheBox$Rule")) ∈ WA := wa (tt2 (j := 24) rfl) rfl
theorem yd_X7_ruleAt : yX7_ruleAt.cls ≠ "java/lang/invoke/MethodHandle" ∧ yX7_ruleAt.cls ≠ "java/lang/invoke/VarHandle" ∧ (parseMethodDescriptor yX7_ruleAt.desc).map (fun d => d.parameters.length) = some 1 := by decide +kernel
theorem ym_X7_ruleAt : Cond.instanceMethod yX7_ruleAt ∈ WA := wa (tt2 (j := 23) rfl) rfl
theorem yv_X7_ruleAt : Cond.selects yX7_ruleAt.cls yX7_ruleAt yX7_ruleAt ∈ WA := sel_in (q := (yX7_ruleAt, 12)) (sp1 (j := 4) rfl)
theorem yc_X2_hasPlace : Cond.code yX2_hasPlace cX2_hasPlace 2 (some .boolean) ∈ WA := wa (tt2 (j := 28) rfl) rfl
theorem yd_X2_hasPlace : yX2_hasPlace.cls ≠ "java/lang/invoke/MethodHandle" ∧ yX2_hasPlace.cls ≠ "java/lang/invoke/VarHandle" ∧ (parseMethodDescriptor yX2_hasPlace.desc).map (fun d => d.parameters.length) = some 1 := by decide +kernel
theorem ym_X2_hasPlace : Cond.instanceMethod yX2_hasPlace ∈ WA := wa (tt2 (j := 26) rfl) rfl
theorem yv_X2_hasPlace : Cond.selects yX2_hasPlace.cls yX2_hasPlace yX2_hasPlace ∈ WA := wa (tt2 (j := 27) rfl) rfl
theorem yc_X2_put : Cond.code yX2_put cX2_put 4 none ∈ WA := wa (tt2 (j := 32) rfl) rfl
theorem yd_X2_put : yX2_put.cls ≠ "java/lang/invoke/MethodHandle" ∧ yX2_put.cls ≠ "java/lang/invoke/VarHandle" ∧ (parseMethodDescriptor yX2_put.desc).map (fun d => d.parameters.length) = some 2 := by decide +kernel
theorem ym_X2_put : Cond.instanceMethod yX2_put ∈ WA := wa (tt2 (j := 30) rfl) rfl
theorem yv_X2_put : Cond.selects yX2_put.cls yX2_put yX2_put ∈ WA := wa (tt2 (j := 31) rfl) rfl
theorem yc_X2_lowestBits : Cond.code yX2_lowestBits cX2_lowestBits 3 (some .long) ∈ WA := wa (tt2 (j := 37) rfl) rfl
theorem yd_X2_lowestBits : yX2_lowestBits.cls ≠ "java/lang/invoke/MethodHandle" ∧ yX2_lowestBits.cls ≠ "java/lang/invoke/VarHandle" ∧ (parseMethodDescriptor yX2_lowestBits.desc).map (fun d => d.parameters.length) = some 1 := by decide +kernel
theorem ym_X2_lowestBits : Cond.instanceMethod yX2_lowestBits ∈ WA := wa (tt2 (j := 36) rfl) rfl
theorem yv_X2_lowestBits : Cond.selects yX2_lowestBits.cls yX2_lowestBits yX2_lowestBits ∈ WA := sel_in (q := (yX2_lowestBits, 2)) (sp1 (j := 5) rfl)
theorem yc_X7_copy : Cond.code yX7_copy cX7_copy 8 (some .int) ∈ WA := wa (tt2 (j := 41) rfl) rfl
theorem yd_X7_copy : yX7_copy.cls ≠ "java/lang/invoke/MethodHandle" ∧ yX7_copy.cls ≠ "java/lang/invoke/VarHandle" ∧ (parseMethodDescriptor yX7_copy.desc).map (fun d => d.parameters.length) = some 5 := by decide +kernel
theorem ym_X7_copy : Cond.instanceMethod yX7_copy ∈ WA := wa (tt2 (j := 39) rfl) rfl
theorem yv_X7_copy : Cond.selects yX7_copy.cls yX7_copy yX7_copy ∈ WA := wa (tt2 (j := 40) rfl) rfl
theorem yc_X2_hasRange : Cond.code yX2_hasRange cX2_hasRange 3 (some .boolean) ∈ WA := wa (tt2 (j := 45) rfl) rfl
theorem yd_X2_hasRange : yX2_hasRange.cls ≠ "java/lang/invoke/MethodHandle" ∧ yX2_hasRange.cls ≠ "java/lang/invoke/VarHandle" ∧ (parseMethodDescriptor yX2_hasRange.desc).map (fun d => d.parameters.length) = some 2 := by decide +kernel
theorem ym_X2_hasRange : Cond.instanceMethod yX2_hasRange ∈ WA := wa (tt2 (j := 43) rfl) rfl
theorem yv_X2_hasRange : Cond.selects yX2_hasRange.cls yX2_hasRange yX2_hasRange ∈ WA := wa (tt2 (j := 44) rfl) rfl
theorem yc_X2_take : Cond.code yX2_take cX2_take 5 none ∈ WA := wa (tt2 (j := 49) rfl) rfl
theorem yd_X2_take : yX2_take.cls ≠ "java/lang/invoke/MethodHandle" ∧ yX2_take.cls ≠ "java/lang/invoke/VarHandle" ∧ (parseMethodDescriptor yX2_take.desc).map (fun d => d.parameters.length) = some 4 := by decide +kernel
theorem ym_X2_take : Cond.instanceMethod yX2_take ∈ WA := wa (tt2 (j := 47) rfl) rfl
theorem yv_X2_take : Cond.selects yX2_take.cls yX2_take yX2_take ∈ WA := wa (tt2 (j := 48) rfl) rfl
theorem yc_X7_element : Cond.code yX7_element cX7_element 4 (some .long) ∈ WA := wa (tt2 (j := 57) rfl) rfl
theorem yd_X7_element : yX7_element.cls ≠ "java/lang/invoke/MethodHandle" ∧ yX7_element.cls ≠ "java/lang/invoke/VarHandle" ∧ (parseMethodDescriptor yX7_element.desc).map (fun d => d.parameters.length) = some 2 := by decide +kernel
theorem ym_X7_element : Cond.instanceMethod yX7_element ∈ WA := wa (tt2 (j := 55) rfl) rfl
theorem yv_X7_element : Cond.selects yX7_element.cls yX7_element yX7_element ∈ WA := wa (tt2 (j := 56) rfl) rfl
theorem yc_X2_valueAt : Cond.code yX2_valueAt cX2_valueAt 2 (some .long) ∈ WA := wa (tt2 (j := 61) rfl) rfl
theorem yd_X2_valueAt : yX2_valueAt.cls ≠ "java/lang/invoke/MethodHandle" ∧ yX2_valueAt.cls ≠ "java/lang/invoke/VarHandle" ∧ (parseMethodDescriptor yX2_valueAt.desc).map (fun d => d.parameters.length) = some 1 := by decide +kernel
theorem ym_X2_valueAt : Cond.instanceMethod yX2_valueAt ∈ WA := wa (tt2 (j := 59) rfl) rfl
theorem yv_X2_valueAt : Cond.selects yX2_valueAt.cls yX2_valueAt yX2_valueAt ∈ WA := wa (tt2 (j := 60) rfl) rfl
theorem yc_X7_at_ : Cond.code yX7_at_ cX7_at_ 2 (some .long) ∈ WA := wa (tt2 (j := 64) rfl) rfl
theorem yd_X7_at_ : yX7_at_.cls ≠ "java/lang/invoke/MethodHandle" ∧ yX7_at_.cls ≠ "java/lang/invoke/VarHandle" ∧ (parseMethodDescriptor yX7_at_.desc).map (fun d => d.parameters.length) = some 2 := by decide +kernel
theorem ys_X7_at_ : Cond.static yX7_at_ ∈ WA := wa (tt2 (j := 63) rfl) rfl
theorem yc_X7_holds : Cond.code yX7_holds cX7_holds 4 (some .int) ∈ WA := wa (tt2 (j := 68) rfl) rfl
theorem yd_X7_holds : yX7_holds.cls ≠ "java/lang/invoke/MethodHandle" ∧ yX7_holds.cls ≠ "java/lang/invoke/VarHandle" ∧ (parseMethodDescriptor yX7_holds.desc).map (fun d => d.parameters.length) = some 1 := by decide +kernel
theorem ym_X7_holds : Cond.instanceMethod yX7_holds ∈ WA := wa (tt2 (j := 66) rfl) rfl
theorem yv_X7_holds : Cond.selects yX7_holds.cls yX7_holds yX7_holds ∈ WA := wa (tt2 (j := 67) rfl) rfl
theorem yc_X7_rule : Cond.code yX7_rule cX7_rule 5 (some .int) ∈ WA := wa (tt2 (j := 72) rfl) rfl
theorem yd_X7_rule : yX7_rule.cls ≠ "java/lang/invoke/MethodHandle" ∧ yX7_rule.cls ≠ "java/lang/invoke/VarHandle" ∧ (parseMethodDescriptor yX7_rule.desc).map (fun d => d.parameters.length) = some 3 := by decide +kernel
theorem ym_X7_rule : Cond.instanceMethod yX7_rule ∈ WA := wa (tt2 (j := 70) rfl) rfl
theorem yv_X7_rule : Cond.selects yX7_rule.cls yX7_rule yX7_rule ∈ WA := wa (tt2 (j := 71) rfl) rfl
theorem yc_X3_mayBe : Cond.code yX3_mayBe cX3_mayBe 2 (some .boolean) ∈ WA := wa (tt2 (j := 75) rfl) rfl
theorem yd_X3_mayBe : yX3_mayBe.cls ≠ "java/lang/invoke/MethodHandle" ∧ yX3_mayBe.cls ≠ "java/lang/invoke/VarHandle" ∧ (parseMethodDescriptor yX3_mayBe.desc).map (fun d => d.parameters.length) = some 2 := by decide +kernel
theorem ys_X3_mayBe : Cond.static yX3_mayBe ∈ WA := wa (tt2 (j := 74) rfl) rfl
theorem yc_X3_init : Cond.code yX3_init cX3_init 4 none ∈ WA := wa (tt2 (j := 80) rfl) rfl
theorem yd_X3_init : yX3_init.cls ≠ "java/lang/invoke/MethodHandle" ∧ yX3_init.cls ≠ "java/lang/invoke/VarHandle" ∧ (parseMethodDescriptor yX3_init.desc).map (fun d => d.parameters.length) = some 3 := by decide +kernel
theorem ym_X3_init : Cond.instanceMethod yX3_init ∈ WA := wa (tt2 (j := 79) rfl) rfl
theorem yc_X2_twin : Cond.code yX2_twin cX2_twin 2 (some (.object "SendTheBox$Row")) ∈ WA := wa (tt2 (j := 85) rfl) rfl
theorem yd_X2_twin : yX2_twin.cls ≠ "java/lang/invoke/MethodHandle" ∧ yX2_twin.cls ≠ "java/lang/invoke/VarHandle" ∧ (parseMethodDescriptor yX2_twin.desc).map (fun d => d.parameters.length) = some 0 := by decide +kernel
theorem ym_X2_twin : Cond.instanceMethod yX2_twin ∈ WA := wa (tt2 (j := 83) rfl) rfl
theorem yv_X2_twin : Cond.selects yX2_twin.cls yX2_twin yX2_twin ∈ WA := wa (tt2 (j := 84) rfl) rfl
theorem yc_X7_says : Cond.code yX7_says cX7_says 4 (some .int) ∈ WA := wa (tt2 (j := 107) rfl) rfl
theorem yd_X7_says : yX7_says.cls ≠ "java/lang/invoke/MethodHandle" ∧ yX7_says.cls ≠ "java/lang/invoke/VarHandle" ∧ (parseMethodDescriptor yX7_says.desc).map (fun d => d.parameters.length) = some 2 := by decide +kernel
theorem ym_X7_says : Cond.instanceMethod yX7_says ∈ WA := wa (tt2 (j := 105) rfl) rfl
theorem yv_X7_says : Cond.selects yX7_says.cls yX7_says yX7_says ∈ WA := wa (tt2 (j := 106) rfl) rfl
theorem yc_X3_isOfKind : Cond.code yX3_isOfKind cX3_isOfKind 2 (some .boolean) ∈ WA := wa (tt2 (j := 111) rfl) rfl
theorem yd_X3_isOfKind : yX3_isOfKind.cls ≠ "java/lang/invoke/MethodHandle" ∧ yX3_isOfKind.cls ≠ "java/lang/invoke/VarHandle" ∧ (parseMethodDescriptor yX3_isOfKind.desc).map (fun d => d.parameters.length) = some 1 := by decide +kernel
theorem ym_X3_isOfKind : Cond.instanceMethod yX3_isOfKind ∈ WA := wa (tt2 (j := 109) rfl) rfl
theorem yv_X3_isOfKind : Cond.selects yX3_isOfKind.cls yX3_isOfKind yX3_isOfKind ∈ WA := wa (tt2 (j := 110) rfl) rfl
theorem yc_X3_numberAs : Cond.code yX3_numberAs cX3_numberAs 2 (some .int) ∈ WA := wa (tt2 (j := 115) rfl) rfl
theorem yd_X3_numberAs : yX3_numberAs.cls ≠ "java/lang/invoke/MethodHandle" ∧ yX3_numberAs.cls ≠ "java/lang/invoke/VarHandle" ∧ (parseMethodDescriptor yX3_numberAs.desc).map (fun d => d.parameters.length) = some 1 := by decide +kernel
theorem ym_X3_numberAs : Cond.instanceMethod yX3_numberAs ∈ WA := wa (tt2 (j := 113) rfl) rfl
theorem yv_X3_numberAs : Cond.selects yX3_numberAs.cls yX3_numberAs yX3_numberAs ∈ WA := wa (tt2 (j := 114) rfl) rfl
theorem yc_X2_size : Cond.code yX2_size cX2_size 1 (some .int) ∈ WA := wa (tt2 (j := 119) rfl) rfl
theorem yd_X2_size : yX2_size.cls ≠ "java/lang/invoke/MethodHandle" ∧ yX2_size.cls ≠ "java/lang/invoke/VarHandle" ∧ (parseMethodDescriptor yX2_size.desc).map (fun d => d.parameters.length) = some 0 := by decide +kernel
theorem ym_X2_size : Cond.instanceMethod yX2_size ∈ WA := wa (tt2 (j := 117) rfl) rfl
theorem yv_X2_size : Cond.selects yX2_size.cls yX2_size yX2_size ∈ WA := wa (tt2 (j := 118) rfl) rfl
theorem yc_X7_feed : Cond.code yX7_feed cX7_feed 3 (some .int) ∈ WA := wa (tt2 (j := 123) rfl) rfl
theorem yd_X7_feed : yX7_feed.cls ≠ "java/lang/invoke/MethodHandle" ∧ yX7_feed.cls ≠ "java/lang/invoke/VarHandle" ∧ (parseMethodDescriptor yX7_feed.desc).map (fun d => d.parameters.length) = some 2 := by decide +kernel
theorem ym_X7_feed : Cond.instanceMethod yX7_feed ∈ WA := wa (tt2 (j := 121) rfl) rfl
theorem yv_X7_feed : Cond.selects yX7_feed.cls yX7_feed yX7_feed ∈ WA := wa (tt2 (j := 122) rfl) rfl
theorem yc_X4_hasPlaceFor : Cond.code yX4_hasPlaceFor cX4_hasPlaceFor 2 (some .boolean) ∈ WA := wa (tt2 (j := 127) rfl) rfl
theorem yd_X4_hasPlaceFor : yX4_hasPlaceFor.cls ≠ "java/lang/invoke/MethodHandle" ∧ yX4_hasPlaceFor.cls ≠ "java/lang/invoke/VarHandle" ∧ (parseMethodDescriptor yX4_hasPlaceFor.desc).map (fun d => d.parameters.length) = some 1 := by decide +kernel
theorem ym_X4_hasPlaceFor : Cond.instanceMethod yX4_hasPlaceFor ∈ WA := wa (tt2 (j := 125) rfl) rfl
theorem yv_X4_hasPlaceFor : Cond.selects yX4_hasPlaceFor.cls yX4_hasPlaceFor yX4_hasPlaceFor ∈ WA := wa (tt2 (j := 126) rfl) rfl
theorem yc_X4_append : Cond.code yX4_append cX4_append 4 (some .int) ∈ WA := wa (tt2 (j := 131) rfl) rfl
theorem yd_X4_append : yX4_append.cls ≠ "java/lang/invoke/MethodHandle" ∧ yX4_append.cls ≠ "java/lang/invoke/VarHandle" ∧ (parseMethodDescriptor yX4_append.desc).map (fun d => d.parameters.length) = some 2 := by decide +kernel
theorem ym_X4_append : Cond.instanceMethod yX4_append ∈ WA := wa (tt2 (j := 129) rfl) rfl
theorem yv_X4_append : Cond.selects yX4_append.cls yX4_append yX4_append ∈ WA := wa (tt2 (j := 130) rfl) rfl
theorem yc_X7_wipe : Cond.code yX7_wipe cX7_wipe 1 (some .int) ∈ WA := wa (tt2 (j := 135) rfl) rfl
theorem yd_X7_wipe : yX7_wipe.cls ≠ "java/lang/invoke/MethodHandle" ∧ yX7_wipe.cls ≠ "java/lang/invoke/VarHandle" ∧ (parseMethodDescriptor yX7_wipe.desc).map (fun d => d.parameters.length) = some 0 := by decide +kernel
theorem ym_X7_wipe : Cond.instanceMethod yX7_wipe ∈ WA := wa (tt2 (j := 133) rfl) rfl
theorem yv_X7_wipe : Cond.selects yX7_wipe.cls yX7_wipe yX7_wipe ∈ WA := wa (tt2 (j := 134) rfl) rfl
theorem yc_X4_clear : Cond.code yX4_clear cX4_clear 2 (some .int) ∈ WA := wa (tt2 (j := 139) rfl) rfl
theorem yd_X4_clear : yX4_clear.cls ≠ "java/lang/invoke/MethodHandle" ∧ yX4_clear.cls ≠ "java/lang/invoke/VarHandle" ∧ (parseMethodDescriptor yX4_clear.desc).map (fun d => d.parameters.length) = some 0 := by decide +kernel
theorem ym_X4_clear : Cond.instanceMethod yX4_clear ∈ WA := wa (tt2 (j := 137) rfl) rfl
theorem yv_X4_clear : Cond.selects yX4_clear.cls yX4_clear yX4_clear ∈ WA := wa (tt2 (j := 138) rfl) rfl
theorem yc_X7_house : Cond.code yX7_house cX7_house 2 (some .int) ∈ WA := wa (tt2 (j := 143) rfl) rfl
theorem yd_X7_house : yX7_house.cls ≠ "java/lang/invoke/MethodHandle" ∧ yX7_house.cls ≠ "java/lang/invoke/VarHandle" ∧ (parseMethodDescriptor yX7_house.desc).map (fun d => d.parameters.length) = some 0 := by decide +kernel
theorem ym_X7_house : Cond.instanceMethod yX7_house ∈ WA := wa (tt2 (j := 141) rfl) rfl
theorem yv_X7_house : Cond.selects yX7_house.cls yX7_house yX7_house ∈ WA := wa (tt2 (j := 142) rfl) rfl
theorem yc_X6_isFull : Cond.code yX6_isFull cX6_isFull 1 (some .boolean) ∈ WA := wa (tt2 (j := 147) rfl) rfl
theorem yd_X6_isFull : yX6_isFull.cls ≠ "java/lang/invoke/MethodHandle" ∧ yX6_isFull.cls ≠ "java/lang/invoke/VarHandle" ∧ (parseMethodDescriptor yX6_isFull.desc).map (fun d => d.parameters.length) = some 0 := by decide +kernel
theorem ym_X6_isFull : Cond.instanceMethod yX6_isFull ∈ WA := wa (tt2 (j := 145) rfl) rfl
theorem yv_X6_isFull : Cond.selects yX6_isFull.cls yX6_isFull yX6_isFull ∈ WA := wa (tt2 (j := 146) rfl) rfl
theorem yc_X4_readInto : Cond.code yX4_readInto cX4_readInto 3 (some .int) ∈ WA := wa (tt2 (j := 151) rfl) rfl
theorem yd_X4_readInto : yX4_readInto.cls ≠ "java/lang/invoke/MethodHandle" ∧ yX4_readInto.cls ≠ "java/lang/invoke/VarHandle" ∧ (parseMethodDescriptor yX4_readInto.desc).map (fun d => d.parameters.length) = some 1 := by decide +kernel
theorem ym_X4_readInto : Cond.instanceMethod yX4_readInto ∈ WA := wa (tt2 (j := 149) rfl) rfl
theorem yv_X4_readInto : Cond.selects yX4_readInto.cls yX4_readInto yX4_readInto ∈ WA := wa (tt2 (j := 150) rfl) rfl
theorem yc_X0_clear : Cond.code yX0_clear cX0_clear 2 none ∈ WA := wa (tt2 (j := 155) rfl) rfl
theorem yd_X0_clear : yX0_clear.cls ≠ "java/lang/invoke/MethodHandle" ∧ yX0_clear.cls ≠ "java/lang/invoke/VarHandle" ∧ (parseMethodDescriptor yX0_clear.desc).map (fun d => d.parameters.length) = some 0 := by decide +kernel
theorem ym_X0_clear : Cond.instanceMethod yX0_clear ∈ WA := wa (tt2 (j := 153) rfl) rfl
theorem yv_X0_clear : Cond.selects yX0_clear.cls yX0_clear yX0_clear ∈ WA := wa (tt2 (j := 154) rfl) rfl
theorem yc_X0_putNumber : Cond.code yX0_putNumber cX0_putNumber 3 none ∈ WA := wa (tt2 (j := 159) rfl) rfl
theorem yd_X0_putNumber : yX0_putNumber.cls ≠ "java/lang/invoke/MethodHandle" ∧ yX0_putNumber.cls ≠ "java/lang/invoke/VarHandle" ∧ (parseMethodDescriptor yX0_putNumber.desc).map (fun d => d.parameters.length) = some 2 := by decide +kernel
theorem ym_X0_putNumber : Cond.instanceMethod yX0_putNumber ∈ WA := wa (tt2 (j := 157) rfl) rfl
theorem yv_X0_putNumber : Cond.selects yX0_putNumber.cls yX0_putNumber yX0_putNumber ∈ WA := wa (tt2 (j := 158) rfl) rfl
theorem yc_X7_put : Cond.code yX7_put cX7_put 3 none ∈ WA := wa (tt2 (j := 162) rfl) rfl
theorem yd_X7_put : yX7_put.cls ≠ "java/lang/invoke/MethodHandle" ∧ yX7_put.cls ≠ "java/lang/invoke/VarHandle" ∧ (parseMethodDescriptor yX7_put.desc).map (fun d => d.parameters.length) = some 3 := by decide +kernel
theorem ys_X7_put : Cond.static yX7_put ∈ WA := wa (tt2 (j := 161) rfl) rfl
theorem yc_X4_advance : Cond.code yX4_advance cX4_advance 1 none ∈ WA := wa (tt2 (j := 166) rfl) rfl
theorem yd_X4_advance : yX4_advance.cls ≠ "java/lang/invoke/MethodHandle" ∧ yX4_advance.cls ≠ "java/lang/invoke/VarHandle" ∧ (parseMethodDescriptor yX4_advance.desc).map (fun d => d.parameters.length) = some 0 := by decide +kernel
theorem ym_X4_advance : Cond.instanceMethod yX4_advance ∈ WA := wa (tt2 (j := 165) rfl) rfl
theorem yv_X4_advance : Cond.selects yX4_advance.cls yX4_advance yX4_advance ∈ WA := sel_in (q := (yX4_advance, 5)) (sp1 (j := 6) rfl)
theorem yc_X4_byteAt : Cond.code yX4_byteAt cX4_byteAt 2 (some .int) ∈ WA := wa (tt2 (j := 170) rfl) rfl
theorem yd_X4_byteAt : yX4_byteAt.cls ≠ "java/lang/invoke/MethodHandle" ∧ yX4_byteAt.cls ≠ "java/lang/invoke/VarHandle" ∧ (parseMethodDescriptor yX4_byteAt.desc).map (fun d => d.parameters.length) = some 1 := by decide +kernel
theorem ym_X4_byteAt : Cond.instanceMethod yX4_byteAt ∈ WA := wa (tt2 (j := 169) rfl) rfl
theorem yv_X4_byteAt : Cond.selects yX4_byteAt.cls yX4_byteAt yX4_byteAt ∈ WA := sel_in (q := (yX4_byteAt, 5)) (sp1 (j := 7) rfl)
theorem yc_X4_kindOf : Cond.code yX4_kindOf cX4_kindOf 1 (some .int) ∈ WA := wa (tt2 (j := 173) rfl) rfl
theorem yd_X4_kindOf : yX4_kindOf.cls ≠ "java/lang/invoke/MethodHandle" ∧ yX4_kindOf.cls ≠ "java/lang/invoke/VarHandle" ∧ (parseMethodDescriptor yX4_kindOf.desc).map (fun d => d.parameters.length) = some 1 := by decide +kernel
theorem ys_X4_kindOf : Cond.static yX4_kindOf ∈ WA := wa (tt2 (j := 172) rfl) rfl
theorem yc_X4_readStatement : Cond.code yX4_readStatement cX4_readStatement 2 (some .boolean) ∈ WA := wa (tt2 (j := 177) rfl) rfl
theorem yd_X4_readStatement : yX4_readStatement.cls ≠ "java/lang/invoke/MethodHandle" ∧ yX4_readStatement.cls ≠ "java/lang/invoke/VarHandle" ∧ (parseMethodDescriptor yX4_readStatement.desc).map (fun d => d.parameters.length) = some 1 := by decide +kernel
theorem ym_X4_readStatement : Cond.instanceMethod yX4_readStatement ∈ WA := wa (tt2 (j := 176) rfl) rfl
theorem yv_X4_readStatement : Cond.selects yX4_readStatement.cls yX4_readStatement yX4_readStatement ∈ WA := sel_in (q := (yX4_readStatement, 5)) (sp1 (j := 8) rfl)
theorem yc_X4_isWord : Cond.code yX4_isWord cX4_isWord 3 (some .boolean) ∈ WA := wa (tt2 (j := 182) rfl) rfl
theorem yd_X4_isWord : yX4_isWord.cls ≠ "java/lang/invoke/MethodHandle" ∧ yX4_isWord.cls ≠ "java/lang/invoke/VarHandle" ∧ (parseMethodDescriptor yX4_isWord.desc).map (fun d => d.parameters.length) = some 1 := by decide +kernel
theorem ym_X4_isWord : Cond.instanceMethod yX4_isWord ∈ WA := wa (tt2 (j := 181) rfl) rfl
theorem yv_X4_isWord : Cond.selects yX4_isWord.cls yX4_isWord yX4_isWord ∈ WA := sel_in (q := (yX4_isWord, 5)) (sp1 (j := 9) rfl)
theorem yc_J0_length_8abf5 : Cond.code yJ0_length_8abf5 cJ0_length_8abf5 1 (some .int) ∈ WA := wa (tt2 (j := 186) rfl) rfl
theorem yd_J0_length_8abf5 : yJ0_length_8abf5.cls ≠ "java/lang/invoke/MethodHandle" ∧ yJ0_length_8abf5.cls ≠ "java/lang/invoke/VarHandle" ∧ (parseMethodDescriptor yJ0_length_8abf5.desc).map (fun d => d.parameters.length) = some 0 := by decide +kernel
theorem ym_J0_length_8abf5 : Cond.instanceMethod yJ0_length_8abf5 ∈ WA := wa (tt2 (j := 184) rfl) rfl
theorem yv_J0_length_8abf5 : Cond.selects yJ0_length_8abf5.cls yJ0_length_8abf5 yJ0_length_8abf5 ∈ WA := wa (tt2 (j := 185) rfl) rfl
theorem yc_J0_coder_7d493 : Cond.code yJ0_coder_7d493 cJ0_coder_7d493 1 (some .byte) ∈ WA := wa (tt2 (j := 190) rfl) rfl
theorem yd_J0_coder_7d493 : yJ0_coder_7d493.cls ≠ "java/lang/invoke/MethodHandle" ∧ yJ0_coder_7d493.cls ≠ "java/lang/invoke/VarHandle" ∧ (parseMethodDescriptor yJ0_coder_7d493.desc).map (fun d => d.parameters.length) = some 0 := by decide +kernel
theorem ym_J0_coder_7d493 : Cond.instanceMethod yJ0_coder_7d493 ∈ WA := wa (tt2 (j := 188) rfl) rfl
theorem yv_J0_coder_7d493 : Cond.selects yJ0_coder_7d493.cls yJ0_coder_7d493 yJ0_coder_7d493 ∈ WA := wa (tt2 (j := 189) rfl) rfl
theorem yc_J0_charAt_5068e : Cond.code yJ0_charAt_5068e cJ0_charAt_5068e 2 (some .char) ∈ WA := wa (tt2 (j := 196) rfl) rfl
theorem yd_J0_charAt_5068e : yJ0_charAt_5068e.cls ≠ "java/lang/invoke/MethodHandle" ∧ yJ0_charAt_5068e.cls ≠ "java/lang/invoke/VarHandle" ∧ (parseMethodDescriptor yJ0_charAt_5068e.desc).map (fun d => d.parameters.length) = some 1 := by decide +kernel
theorem ym_J0_charAt_5068e : Cond.instanceMethod yJ0_charAt_5068e ∈ WA := wa (tt2 (j := 194) rfl) rfl
theorem yv_J0_charAt_5068e : Cond.selects yJ0_charAt_5068e.cls yJ0_charAt_5068e yJ0_charAt_5068e ∈ WA := wa (tt2 (j := 195) rfl) rfl
theorem yc_J0_isLatin1_aae02 : Cond.code yJ0_isLatin1_aae02 cJ0_isLatin1_aae02 1 (some .boolean) ∈ WA := wa (tt2 (j := 200) rfl) rfl
theorem yd_J0_isLatin1_aae02 : yJ0_isLatin1_aae02.cls ≠ "java/lang/invoke/MethodHandle" ∧ yJ0_isLatin1_aae02.cls ≠ "java/lang/invoke/VarHandle" ∧ (parseMethodDescriptor yJ0_isLatin1_aae02.desc).map (fun d => d.parameters.length) = some 0 := by decide +kernel
theorem ym_J0_isLatin1_aae02 : Cond.instanceMethod yJ0_isLatin1_aae02 ∈ WA := wa (tt2 (j := 198) rfl) rfl
theorem yv_J0_isLatin1_aae02 : Cond.selects yJ0_isLatin1_aae02.cls yJ0_isLatin1_aae02 yJ0_isLatin1_aae02 ∈ WA := wa (tt2 (j := 199) rfl) rfl
theorem yc_J1_charAt_3b067 : Cond.code yJ1_charAt_3b067 cJ1_charAt_3b067 2 (some .char) ∈ WA := wa (tt2 (j := 203) rfl) rfl
theorem yd_J1_charAt_3b067 : yJ1_charAt_3b067.cls ≠ "java/lang/invoke/MethodHandle" ∧ yJ1_charAt_3b067.cls ≠ "java/lang/invoke/VarHandle" ∧ (parseMethodDescriptor yJ1_charAt_3b067.desc).map (fun d => d.parameters.length) = some 2 := by decide +kernel
theorem ys_J1_charAt_3b067 : Cond.static yJ1_charAt_3b067 ∈ WA := wa (tt2 (j := 202) rfl) rfl
theorem yc_J0_checkIndex_df160 : Cond.code yJ0_checkIndex_df160 cJ0_checkIndex_df160 2 none ∈ WA := wa (tt2 (j := 206) rfl) rfl
theorem yd_J0_checkIndex_df160 : yJ0_checkIndex_df160.cls ≠ "java/lang/invoke/MethodHandle" ∧ yJ0_checkIndex_df160.cls ≠ "java/lang/invoke/VarHandle" ∧ (parseMethodDescriptor yJ0_checkIndex_df160.desc).map (fun d => d.parameters.length) = some 2 := by decide +kernel
theorem ys_J0_checkIndex_df160 : Cond.static yJ0_checkIndex_df160 ∈ WA := wa (tt2 (j := 205) rfl) rfl
theorem yc_J3_checkIndex_8e157 : Cond.code yJ3_checkIndex_8e157 cJ3_checkIndex_8e157 3 (some .int) ∈ WA := wa (tt2 (j := 211) rfl) rfl
theorem yd_J3_checkIndex_8e157 : yJ3_checkIndex_8e157.cls ≠ "java/lang/invoke/MethodHandle" ∧ yJ3_checkIndex_8e157.cls ≠ "java/lang/invoke/VarHandle" ∧ (parseMethodDescriptor yJ3_checkIndex_8e157.desc).map (fun d => d.parameters.length) = some 3 := by decide +kernel
theorem ys_J3_checkIndex_8e157 : Cond.static yJ3_checkIndex_8e157 ∈ WA := wa (tt2 (j := 210) rfl) rfl
theorem yc_J2_charAt_3b067 : Cond.code yJ2_charAt_3b067 cJ2_charAt_3b067 2 (some .char) ∈ WA := wa (tt2 (j := 214) rfl) rfl
theorem yd_J2_charAt_3b067 : yJ2_charAt_3b067.cls ≠ "java/lang/invoke/MethodHandle" ∧ yJ2_charAt_3b067.cls ≠ "java/lang/invoke/VarHandle" ∧ (parseMethodDescriptor yJ2_charAt_3b067.desc).map (fun d => d.parameters.length) = some 2 := by decide +kernel
theorem ys_J2_charAt_3b067 : Cond.static yJ2_charAt_3b067 ∈ WA := wa (tt2 (j := 213) rfl) rfl
theorem yc_J2_checkIndex_2214a : Cond.code yJ2_checkIndex_2214a cJ2_checkIndex_2214a 2 none ∈ WA := wa (tt2 (j := 217) rfl) rfl
theorem yd_J2_checkIndex_2214a : yJ2_checkIndex_2214a.cls ≠ "java/lang/invoke/MethodHandle" ∧ yJ2_checkIndex_2214a.cls ≠ "java/lang/invoke/VarHandle" ∧ (parseMethodDescriptor yJ2_checkIndex_2214a.desc).map (fun d => d.parameters.length) = some 2 := by decide +kernel
theorem ys_J2_checkIndex_2214a : Cond.static yJ2_checkIndex_2214a ∈ WA := wa (tt2 (j := 216) rfl) rfl
theorem yc_J2_length_9d52b : Cond.code yJ2_length_9d52b cJ2_length_9d52b 1 (some .int) ∈ WA := wa (tt2 (j := 220) rfl) rfl
theorem yd_J2_length_9d52b : yJ2_length_9d52b.cls ≠ "java/lang/invoke/MethodHandle" ∧ yJ2_length_9d52b.cls ≠ "java/lang/invoke/VarHandle" ∧ (parseMethodDescriptor yJ2_length_9d52b.desc).map (fun d => d.parameters.length) = some 1 := by decide +kernel
theorem ys_J2_length_9d52b : Cond.static yJ2_length_9d52b ∈ WA := wa (tt2 (j := 219) rfl) rfl
theorem yc_J2_getChar_3b067 : Cond.code yJ2_getChar_3b067 cJ2_getChar_3b067 2 (some .char) ∈ WA := wa (tt2 (j := 224) rfl) rfl
theorem yd_J2_getChar_3b067 : yJ2_getChar_3b067.cls ≠ "java/lang/invoke/MethodHandle" ∧ yJ2_getChar_3b067.cls ≠ "java/lang/invoke/VarHandle" ∧ (parseMethodDescriptor yJ2_getChar_3b067.desc).map (fun d => d.parameters.length) = some 2 := by decide +kernel
theorem ys_J2_getChar_3b067 : Cond.static yJ2_getChar_3b067 ∈ WA := wa (tt2 (j := 223) rfl) rfl
theorem yc_X4_readHouseNumber : Cond.code yX4_readHouseNumber cX4_readHouseNumber 4 (some .boolean) ∈ WA := wa (tt2 (j := 234) rfl) rfl
theorem yd_X4_readHouseNumber : yX4_readHouseNumber.cls ≠ "java/lang/invoke/MethodHandle" ∧ yX4_readHouseNumber.cls ≠ "java/lang/invoke/VarHandle" ∧ (parseMethodDescriptor yX4_readHouseNumber.desc).map (fun d => d.parameters.length) = some 2 := by decide +kernel
theorem ym_X4_readHouseNumber : Cond.instanceMethod yX4_readHouseNumber ∈ WA := wa (tt2 (j := 233) rfl) rfl
theorem yv_X4_readHouseNumber : Cond.selects yX4_readHouseNumber.cls yX4_readHouseNumber yX4_readHouseNumber ∈ WA := sel_in (q := (yX4_readHouseNumber, 5)) (sp1 (j := 10) rfl)
theorem yc_X4_numberHere : Cond.code yX4_numberHere cX4_numberHere 3 (some .int) ∈ WA := wa (tt2 (j := 238) rfl) rfl
theorem yd_X4_numberHere : yX4_numberHere.cls ≠ "java/lang/invoke/MethodHandle" ∧ yX4_numberHere.cls ≠ "java/lang/invoke/VarHandle" ∧ (parseMethodDescriptor yX4_numberHere.desc).map (fun d => d.parameters.length) = some 0 := by decide +kernel
theorem ym_X4_numberHere : Cond.instanceMethod yX4_numberHere ∈ WA := wa (tt2 (j := 237) rfl) rfl
theorem yv_X4_numberHere : Cond.selects yX4_numberHere.cls yX4_numberHere yX4_numberHere ∈ WA := sel_in (q := (yX4_numberHere, 5)) (sp1 (j := 11) rfl)
theorem yc_X0_mayBe : Cond.code yX0_mayBe cX0_mayBe 2 (some .boolean) ∈ WA := wa (tt3 (j := 1) rfl) rfl
theorem yd_X0_mayBe : yX0_mayBe.cls ≠ "java/lang/invoke/MethodHandle" ∧ yX0_mayBe.cls ≠ "java/lang/invoke/VarHandle" ∧ (parseMethodDescriptor yX0_mayBe.desc).map (fun d => d.parameters.length) = some 2 := by decide +kernel
theorem ys_X0_mayBe : Cond.static yX0_mayBe ∈ WA := wa (tt3 (j := 0) rfl) rfl
theorem yc_X0_sorts : Cond.code yX0_sorts cX0_sorts 1 (some .int) ∈ WA := wa (tt3 (j := 10) rfl) rfl
theorem yd_X0_sorts : yX0_sorts.cls ≠ "java/lang/invoke/MethodHandle" ∧ yX0_sorts.cls ≠ "java/lang/invoke/VarHandle" ∧ (parseMethodDescriptor yX0_sorts.desc).map (fun d => d.parameters.length) = some 0 := by decide +kernel
theorem ym_X0_sorts : Cond.instanceMethod yX0_sorts ∈ WA := wa (tt3 (j := 8) rfl) rfl
theorem yv_X0_sorts : Cond.selects yX0_sorts.cls yX0_sorts yX0_sorts ∈ WA := wa (tt3 (j := 9) rfl) rfl
theorem yc_X0_number : Cond.code yX0_number cX0_number 2 (some .int) ∈ WA := wa (tt3 (j := 14) rfl) rfl
theorem yd_X0_number : yX0_number.cls ≠ "java/lang/invoke/MethodHandle" ∧ yX0_number.cls ≠ "java/lang/invoke/VarHandle" ∧ (parseMethodDescriptor yX0_number.desc).map (fun d => d.parameters.length) = some 1 := by decide +kernel
theorem ym_X0_number : Cond.instanceMethod yX0_number ∈ WA := wa (tt3 (j := 12) rfl) rfl
theorem yv_X0_number : Cond.selects yX0_number.cls yX0_number yX0_number ∈ WA := wa (tt3 (j := 13) rfl) rfl
theorem yc_X4_readSort : Cond.code yX4_readSort cX4_readSort 5 (some .boolean) ∈ WA := wa (tt3 (j := 18) rfl) rfl
theorem yd_X4_readSort : yX4_readSort.cls ≠ "java/lang/invoke/MethodHandle" ∧ yX4_readSort.cls ≠ "java/lang/invoke/VarHandle" ∧ (parseMethodDescriptor yX4_readSort.desc).map (fun d => d.parameters.length) = some 1 := by decide +kernel
theorem ym_X4_readSort : Cond.instanceMethod yX4_readSort ∈ WA := wa (tt3 (j := 17) rfl) rfl
theorem yv_X4_readSort : Cond.selects yX4_readSort.cls yX4_readSort yX4_readSort ∈ WA := sel_in (q := (yX4_readSort, 5)) (sp1 (j := 12) rfl)
theorem yc_X4_sortWord : Cond.code yX4_sortWord cX4_sortWord 1 (some (.object "java/lang/String")) ∈ WA := wa (tt3 (j := 21) rfl) rfl
theorem yd_X4_sortWord : yX4_sortWord.cls ≠ "java/lang/invoke/MethodHandle" ∧ yX4_sortWord.cls ≠ "java/lang/invoke/VarHandle" ∧ (parseMethodDescriptor yX4_sortWord.desc).map (fun d => d.parameters.length) = some 1 := by decide +kernel
theorem ys_X4_sortWord : Cond.static yX4_sortWord ∈ WA := wa (tt3 (j := 20) rfl) rfl
theorem yc_X4_readSortNumber : Cond.code yX4_readSortNumber cX4_readSortNumber 5 (some .boolean) ∈ WA := wa (tt3 (j := 29) rfl) rfl
theorem yd_X4_readSortNumber : yX4_readSortNumber.cls ≠ "java/lang/invoke/MethodHandle" ∧ yX4_readSortNumber.cls ≠ "java/lang/invoke/VarHandle" ∧ (parseMethodDescriptor yX4_readSortNumber.desc).map (fun d => d.parameters.length) = some 3 := by decide +kernel
theorem ym_X4_readSortNumber : Cond.instanceMethod yX4_readSortNumber ∈ WA := wa (tt3 (j := 28) rfl) rfl
theorem yv_X4_readSortNumber : Cond.selects yX4_readSortNumber.cls yX4_readSortNumber yX4_readSortNumber ∈ WA := sel_in (q := (yX4_readSortNumber, 5)) (sp1 (j := 13) rfl)
theorem yc_X0_mayBeOfSort : Cond.code yX0_mayBeOfSort cX0_mayBeOfSort 2 (some .boolean) ∈ WA := wa (tt3 (j := 32) rfl) rfl
theorem yd_X0_mayBeOfSort : yX0_mayBeOfSort.cls ≠ "java/lang/invoke/MethodHandle" ∧ yX0_mayBeOfSort.cls ≠ "java/lang/invoke/VarHandle" ∧ (parseMethodDescriptor yX0_mayBeOfSort.desc).map (fun d => d.parameters.length) = some 2 := by decide +kernel
theorem ys_X0_mayBeOfSort : Cond.static yX0_mayBeOfSort ∈ WA := wa (tt3 (j := 31) rfl) rfl
theorem yc_X0_putSortNumber : Cond.code yX0_putSortNumber cX0_putSortNumber 4 none ∈ WA := wa (tt3 (j := 36) rfl) rfl
theorem yd_X0_putSortNumber : yX0_putSortNumber.cls ≠ "java/lang/invoke/MethodHandle" ∧ yX0_putSortNumber.cls ≠ "java/lang/invoke/VarHandle" ∧ (parseMethodDescriptor yX0_putSortNumber.desc).map (fun d => d.parameters.length) = some 3 := by decide +kernel
theorem ym_X0_putSortNumber : Cond.instanceMethod yX0_putSortNumber ∈ WA := wa (tt3 (j := 34) rfl) rfl
theorem yv_X0_putSortNumber : Cond.selects yX0_putSortNumber.cls yX0_putSortNumber yX0_putSortNumber ∈ WA := wa (tt3 (j := 35) rfl) rfl
theorem yc_X0_placeOf : Cond.code yX0_placeOf cX0_placeOf 2 (some .int) ∈ WA := wa (tt3 (j := 39) rfl) rfl
theorem yd_X0_placeOf : yX0_placeOf.cls ≠ "java/lang/invoke/MethodHandle" ∧ yX0_placeOf.cls ≠ "java/lang/invoke/VarHandle" ∧ (parseMethodDescriptor yX0_placeOf.desc).map (fun d => d.parameters.length) = some 2 := by decide +kernel
theorem ys_X0_placeOf : Cond.static yX0_placeOf ∈ WA := wa (tt3 (j := 38) rfl) rfl
theorem yc_X6_add : Cond.code yX6_add cX6_add 3 (some .int) ∈ WA := wa (tt3 (j := 43) rfl) rfl
theorem yd_X6_add : yX6_add.cls ≠ "java/lang/invoke/MethodHandle" ∧ yX6_add.cls ≠ "java/lang/invoke/VarHandle" ∧ (parseMethodDescriptor yX6_add.desc).map (fun d => d.parameters.length) = some 1 := by decide +kernel
theorem ym_X6_add : Cond.instanceMethod yX6_add ∈ WA := wa (tt3 (j := 41) rfl) rfl
theorem yv_X6_add : Cond.selects yX6_add.cls yX6_add yX6_add ∈ WA := wa (tt3 (j := 42) rfl) rfl
theorem yc_X0_become : Cond.code yX0_become cX0_become 3 none ∈ WA := wa (tt3 (j := 47) rfl) rfl
theorem yd_X0_become : yX0_become.cls ≠ "java/lang/invoke/MethodHandle" ∧ yX0_become.cls ≠ "java/lang/invoke/VarHandle" ∧ (parseMethodDescriptor yX0_become.desc).map (fun d => d.parameters.length) = some 1 := by decide +kernel
theorem ym_X0_become : Cond.instanceMethod yX0_become ∈ WA := wa (tt3 (j := 45) rfl) rfl
theorem yv_X0_become : Cond.selects yX0_become.cls yX0_become yX0_become ∈ WA := wa (tt3 (j := 46) rfl) rfl
theorem yc_X7_at : Cond.code yX7_at cX7_at 2 (some .int) ∈ WA := wa (tt3 (j := 50) rfl) rfl
theorem yd_X7_at : yX7_at.cls ≠ "java/lang/invoke/MethodHandle" ∧ yX7_at.cls ≠ "java/lang/invoke/VarHandle" ∧ (parseMethodDescriptor yX7_at.desc).map (fun d => d.parameters.length) = some 2 := by decide +kernel
theorem ys_X7_at : Cond.static yX7_at ∈ WA := wa (tt3 (j := 49) rfl) rfl
theorem yc_X7_houseOf : Cond.code yX7_houseOf cX7_houseOf 4 (some .int) ∈ WA := wa (tt3 (j := 54) rfl) rfl
theorem yd_X7_houseOf : yX7_houseOf.cls ≠ "java/lang/invoke/MethodHandle" ∧ yX7_houseOf.cls ≠ "java/lang/invoke/VarHandle" ∧ (parseMethodDescriptor yX7_houseOf.desc).map (fun d => d.parameters.length) = some 2 := by decide +kernel
theorem ym_X7_houseOf : Cond.instanceMethod yX7_houseOf ∈ WA := wa (tt3 (j := 52) rfl) rfl
theorem yv_X7_houseOf : Cond.selects yX7_houseOf.cls yX7_houseOf yX7_houseOf ∈ WA := wa (tt3 (j := 53) rfl) rfl
theorem yc_X6_houseAt : Cond.code yX6_houseAt cX6_houseAt 2 (some (.object "SendTheBox$House")) ∈ WA := wa (tt3 (j := 58) rfl) rfl
theorem yd_X6_houseAt : yX6_houseAt.cls ≠ "java/lang/invoke/MethodHandle" ∧ yX6_houseAt.cls ≠ "java/lang/invoke/VarHandle" ∧ (parseMethodDescriptor yX6_houseAt.desc).map (fun d => d.parameters.length) = some 1 := by decide +kernel
theorem ym_X6_houseAt : Cond.instanceMethod yX6_houseAt ∈ WA := wa (tt3 (j := 56) rfl) rfl
theorem yv_X6_houseAt : Cond.selects yX6_houseAt.cls yX6_houseAt yX6_houseAt ∈ WA := wa (tt3 (j := 57) rfl) rfl
theorem yc_X7_sortOf : Cond.code yX7_sortOf cX7_sortOf 5 (some .int) ∈ WA := wa (tt3 (j := 63) rfl) rfl
theorem yd_X7_sortOf : yX7_sortOf.cls ≠ "java/lang/invoke/MethodHandle" ∧ yX7_sortOf.cls ≠ "java/lang/invoke/VarHandle" ∧ (parseMethodDescriptor yX7_sortOf.desc).map (fun d => d.parameters.length) = some 3 := by decide +kernel
theorem ym_X7_sortOf : Cond.instanceMethod yX7_sortOf ∈ WA := wa (tt3 (j := 61) rfl) rfl
theorem yv_X7_sortOf : Cond.selects yX7_sortOf.cls yX7_sortOf yX7_sortOf ∈ WA := wa (tt3 (j := 62) rfl) rfl
theorem yc_X0_hasSort : Cond.code yX0_hasSort cX0_hasSort 2 (some .boolean) ∈ WA := wa (tt3 (j := 67) rfl) rfl
theorem yd_X0_hasSort : yX0_hasSort.cls ≠ "java/lang/invoke/MethodHandle" ∧ yX0_hasSort.cls ≠ "java/lang/invoke/VarHandle" ∧ (parseMethodDescriptor yX0_hasSort.desc).map (fun d => d.parameters.length) = some 1 := by decide +kernel
theorem ym_X0_hasSort : Cond.instanceMethod yX0_hasSort ∈ WA := wa (tt3 (j := 65) rfl) rfl
theorem yv_X0_hasSort : Cond.selects yX0_hasSort.cls yX0_hasSort yX0_hasSort ∈ WA := wa (tt3 (j := 66) rfl) rfl
theorem yc_X0_sortNumber : Cond.code yX0_sortNumber cX0_sortNumber 3 (some .int) ∈ WA := wa (tt3 (j := 72) rfl) rfl
theorem yd_X0_sortNumber : yX0_sortNumber.cls ≠ "java/lang/invoke/MethodHandle" ∧ yX0_sortNumber.cls ≠ "java/lang/invoke/VarHandle" ∧ (parseMethodDescriptor yX0_sortNumber.desc).map (fun d => d.parameters.length) = some 2 := by decide +kernel
theorem ym_X0_sortNumber : Cond.instanceMethod yX0_sortNumber ∈ WA := wa (tt3 (j := 70) rfl) rfl
theorem yv_X0_sortNumber : Cond.selects yX0_sortNumber.cls yX0_sortNumber yX0_sortNumber ∈ WA := wa (tt3 (j := 71) rfl) rfl
theorem yc_X7_alter : Cond.code yX7_alter cX7_alter 7 (some .int) ∈ WA := wa (tt3 (j := 76) rfl) rfl
theorem yd_X7_alter : yX7_alter.cls ≠ "java/lang/invoke/MethodHandle" ∧ yX7_alter.cls ≠ "java/lang/invoke/VarHandle" ∧ (parseMethodDescriptor yX7_alter.desc).map (fun d => d.parameters.length) = some 3 := by decide +kernel
theorem ym_X7_alter : Cond.instanceMethod yX7_alter ∈ WA := wa (tt3 (j := 74) rfl) rfl
theorem yv_X7_alter : Cond.selects yX7_alter.cls yX7_alter yX7_alter ∈ WA := wa (tt3 (j := 75) rfl) rfl
theorem yc_X7_change : Cond.code yX7_change cX7_change 8 (some .int) ∈ WA := wa (tt3 (j := 82) rfl) rfl
theorem yd_X7_change : yX7_change.cls ≠ "java/lang/invoke/MethodHandle" ∧ yX7_change.cls ≠ "java/lang/invoke/VarHandle" ∧ (parseMethodDescriptor yX7_change.desc).map (fun d => d.parameters.length) = some 4 := by decide +kernel
theorem ym_X7_change : Cond.instanceMethod yX7_change ∈ WA := wa (tt3 (j := 80) rfl) rfl
theorem yv_X7_change : Cond.selects yX7_change.cls yX7_change yX7_change ∈ WA := wa (tt3 (j := 81) rfl) rfl
theorem yc_X7_of : Cond.code yX7_of cX7_of 3 (some .int) ∈ WA := wa (tt3 (j := 88) rfl) rfl
theorem yd_X7_of : yX7_of.cls ≠ "java/lang/invoke/MethodHandle" ∧ yX7_of.cls ≠ "java/lang/invoke/VarHandle" ∧ (parseMethodDescriptor yX7_of.desc).map (fun d => d.parameters.length) = some 2 := by decide +kernel
theorem ym_X7_of : Cond.instanceMethod yX7_of ∈ WA := wa (tt3 (j := 86) rfl) rfl
theorem yv_X7_of : Cond.selects yX7_of.cls yX7_of yX7_of ∈ WA := wa (tt3 (j := 87) rfl) rfl
theorem yc_X7_standing : Cond.code yX7_standing cX7_standing 2 (some .int) ∈ WA := wa (tt3 (j := 91) rfl) rfl
theorem yd_X7_standing : yX7_standing.cls ≠ "java/lang/invoke/MethodHandle" ∧ yX7_standing.cls ≠ "java/lang/invoke/VarHandle" ∧ (parseMethodDescriptor yX7_standing.desc).map (fun d => d.parameters.length) = some 2 := by decide +kernel
theorem ys_X7_standing : Cond.static yX7_standing ∈ WA := wa (tt3 (j := 90) rfl) rfl
theorem yc_X7_space : Cond.code yX7_space cX7_space 4 (some .int) ∈ WA := wa (tt3 (j := 95) rfl) rfl
theorem yd_X7_space : yX7_space.cls ≠ "java/lang/invoke/MethodHandle" ∧ yX7_space.cls ≠ "java/lang/invoke/VarHandle" ∧ (parseMethodDescriptor yX7_space.desc).map (fun d => d.parameters.length) = some 2 := by decide +kernel
theorem ym_X7_space : Cond.instanceMethod yX7_space ∈ WA := wa (tt3 (j := 93) rfl) rfl
theorem yv_X7_space : Cond.selects yX7_space.cls yX7_space yX7_space ∈ WA := wa (tt3 (j := 94) rfl) rfl
theorem yc_X7_planOf : Cond.code yX7_planOf cX7_planOf 4 (some (.object "SendTheBox$Plan")) ∈ WA := wa (tt3 (j := 99) rfl) rfl
theorem yd_X7_planOf : yX7_planOf.cls ≠ "java/lang/invoke/MethodHandle" ∧ yX7_planOf.cls ≠ "java/lang/invoke/VarHandle" ∧ (parseMethodDescriptor yX7_planOf.desc).map (fun d => d.parameters.length) = some 1 := by decide +kernel
theorem ym_X7_planOf : Cond.instanceMethod yX7_planOf ∈ WA := wa (tt3 (j := 98) rfl) rfl
theorem yv_X7_planOf : Cond.selects yX7_planOf.cls yX7_planOf yX7_planOf ∈ WA := sel_in (q := (yX7_planOf, 12)) (sp1 (j := 14) rfl)
theorem yc_X1_turnTo : Cond.code yX1_turnTo cX1_turnTo 3 none ∈ WA := wa (tt3 (j := 103) rfl) rfl
theorem yd_X1_turnTo : yX1_turnTo.cls ≠ "java/lang/invoke/MethodHandle" ∧ yX1_turnTo.cls ≠ "java/lang/invoke/VarHandle" ∧ (parseMethodDescriptor yX1_turnTo.desc).map (fun d => d.parameters.length) = some 1 := by decide +kernel
theorem ym_X1_turnTo : Cond.instanceMethod yX1_turnTo ∈ WA := wa (tt3 (j := 101) rfl) rfl
theorem yv_X1_turnTo : Cond.selects yX1_turnTo.cls yX1_turnTo yX1_turnTo ∈ WA := wa (tt3 (j := 102) rfl) rfl
theorem yc_X0_isLike : Cond.code yX0_isLike cX0_isLike 3 (some .boolean) ∈ WA := wa (tt3 (j := 107) rfl) rfl
theorem yd_X0_isLike : yX0_isLike.cls ≠ "java/lang/invoke/MethodHandle" ∧ yX0_isLike.cls ≠ "java/lang/invoke/VarHandle" ∧ (parseMethodDescriptor yX0_isLike.desc).map (fun d => d.parameters.length) = some 1 := by decide +kernel
theorem ym_X0_isLike : Cond.instanceMethod yX0_isLike ∈ WA := wa (tt3 (j := 105) rfl) rfl
theorem yv_X0_isLike : Cond.selects yX0_isLike.cls yX0_isLike yX0_isLike ∈ WA := wa (tt3 (j := 106) rfl) rfl
theorem yc_X0_days : Cond.code yX0_days cX0_days 1 (some .int) ∈ WA := wa (tt3 (j := 112) rfl) rfl
theorem yd_X0_days : yX0_days.cls ≠ "java/lang/invoke/MethodHandle" ∧ yX0_days.cls ≠ "java/lang/invoke/VarHandle" ∧ (parseMethodDescriptor yX0_days.desc).map (fun d => d.parameters.length) = some 0 := by decide +kernel
theorem ym_X0_days : Cond.instanceMethod yX0_days ∈ WA := wa (tt3 (j := 110) rfl) rfl
theorem yv_X0_days : Cond.selects yX0_days.cls yX0_days yX0_days ∈ WA := wa (tt3 (j := 111) rfl) rfl
theorem yc_X0_states : Cond.code yX0_states cX0_states 1 (some .int) ∈ WA := wa (tt3 (j := 117) rfl) rfl
theorem yd_X0_states : yX0_states.cls ≠ "java/lang/invoke/MethodHandle" ∧ yX0_states.cls ≠ "java/lang/invoke/VarHandle" ∧ (parseMethodDescriptor yX0_states.desc).map (fun d => d.parameters.length) = some 0 := by decide +kernel
theorem ym_X0_states : Cond.instanceMethod yX0_states ∈ WA := wa (tt3 (j := 115) rfl) rfl
theorem yv_X0_states : Cond.selects yX0_states.cls yX0_states yX0_states ∈ WA := wa (tt3 (j := 116) rfl) rfl
theorem yc_X7_oneOf : Cond.code yX7_oneOf cX7_oneOf 1 (some .int) ∈ WA := wa (tt3 (j := 120) rfl) rfl
theorem yd_X7_oneOf : yX7_oneOf.cls ≠ "java/lang/invoke/MethodHandle" ∧ yX7_oneOf.cls ≠ "java/lang/invoke/VarHandle" ∧ (parseMethodDescriptor yX7_oneOf.desc).map (fun d => d.parameters.length) = some 1 := by decide +kernel
theorem ys_X7_oneOf : Cond.static yX7_oneOf ∈ WA := wa (tt3 (j := 119) rfl) rfl
theorem yc_X0_sumOf : Cond.code yX0_sumOf cX0_sumOf 5 (some .int) ∈ WA := wa (tt3 (j := 124) rfl) rfl
theorem yd_X0_sumOf : yX0_sumOf.cls ≠ "java/lang/invoke/MethodHandle" ∧ yX0_sumOf.cls ≠ "java/lang/invoke/VarHandle" ∧ (parseMethodDescriptor yX0_sumOf.desc).map (fun d => d.parameters.length) = some 2 := by decide +kernel
theorem ym_X0_sumOf : Cond.instanceMethod yX0_sumOf ∈ WA := wa (tt3 (j := 122) rfl) rfl
theorem yv_X0_sumOf : Cond.selects yX0_sumOf.cls yX0_sumOf yX0_sumOf ∈ WA := wa (tt3 (j := 123) rfl) rfl
theorem yc_X0_fillFor : Cond.code yX0_fillFor cX0_fillFor 8 (some .int) ∈ WA := wa (tt3 (j := 131) rfl) rfl
theorem yd_X0_fillFor : yX0_fillFor.cls ≠ "java/lang/invoke/MethodHandle" ∧ yX0_fillFor.cls ≠ "java/lang/invoke/VarHandle" ∧ (parseMethodDescriptor yX0_fillFor.desc).map (fun d => d.parameters.length) = some 1 := by decide +kernel
theorem ym_X0_fillFor : Cond.instanceMethod yX0_fillFor ∈ WA := wa (tt3 (j := 129) rfl) rfl
theorem yv_X0_fillFor : Cond.selects yX0_fillFor.cls yX0_fillFor yX0_fillFor ∈ WA := wa (tt3 (j := 130) rfl) rfl
theorem yc_J9_min_7cf53 : Cond.code yJ9_min_7cf53 cJ9_min_7cf53 2 (some .int) ∈ WA := wa (tt3 (j := 134) rfl) rfl
theorem yd_J9_min_7cf53 : yJ9_min_7cf53.cls ≠ "java/lang/invoke/MethodHandle" ∧ yJ9_min_7cf53.cls ≠ "java/lang/invoke/VarHandle" ∧ (parseMethodDescriptor yJ9_min_7cf53.desc).map (fun d => d.parameters.length) = some 2 := by decide +kernel
theorem ys_J9_min_7cf53 : Cond.static yJ9_min_7cf53 ∈ WA := wa (tt3 (j := 133) rfl) rfl
theorem yc_X1_hasState : Cond.code yX1_hasState cX1_hasState 2 (some .boolean) ∈ WA := wa (tt3 (j := 138) rfl) rfl
theorem yd_X1_hasState : yX1_hasState.cls ≠ "java/lang/invoke/MethodHandle" ∧ yX1_hasState.cls ≠ "java/lang/invoke/VarHandle" ∧ (parseMethodDescriptor yX1_hasState.desc).map (fun d => d.parameters.length) = some 1 := by decide +kernel
theorem ym_X1_hasState : Cond.instanceMethod yX1_hasState ∈ WA := wa (tt3 (j := 136) rfl) rfl
theorem yv_X1_hasState : Cond.selects yX1_hasState.cls yX1_hasState yX1_hasState ∈ WA := wa (tt3 (j := 137) rfl) rfl
theorem yc_X1_roomOf : Cond.code yX1_roomOf cX1_roomOf 2 (some .int) ∈ WA := wa (tt3 (j := 142) rfl) rfl
theorem yd_X1_roomOf : yX1_roomOf.cls ≠ "java/lang/invoke/MethodHandle" ∧ yX1_roomOf.cls ≠ "java/lang/invoke/VarHandle" ∧ (parseMethodDescriptor yX1_roomOf.desc).map (fun d => d.parameters.length) = some 1 := by decide +kernel
theorem ym_X1_roomOf : Cond.instanceMethod yX1_roomOf ∈ WA := wa (tt3 (j := 140) rfl) rfl
theorem yv_X1_roomOf : Cond.selects yX1_roomOf.cls yX1_roomOf yX1_roomOf ∈ WA := wa (tt3 (j := 141) rfl) rfl
theorem yc_X7_scale : Cond.code yX7_scale cX7_scale 4 (some .long) ∈ WA := wa (tt3 (j := 147) rfl) rfl
theorem yd_X7_scale : yX7_scale.cls ≠ "java/lang/invoke/MethodHandle" ∧ yX7_scale.cls ≠ "java/lang/invoke/VarHandle" ∧ (parseMethodDescriptor yX7_scale.desc).map (fun d => d.parameters.length) = some 2 := by decide +kernel
theorem ym_X7_scale : Cond.instanceMethod yX7_scale ∈ WA := wa (tt3 (j := 145) rfl) rfl
theorem yv_X7_scale : Cond.selects yX7_scale.cls yX7_scale yX7_scale ∈ WA := wa (tt3 (j := 146) rfl) rfl
theorem yc_X7_scaleOf : Cond.code yX7_scaleOf cX7_scaleOf 2 (some .long) ∈ WA := wa (tt3 (j := 152) rfl) rfl
theorem yd_X7_scaleOf : yX7_scaleOf.cls ≠ "java/lang/invoke/MethodHandle" ∧ yX7_scaleOf.cls ≠ "java/lang/invoke/VarHandle" ∧ (parseMethodDescriptor yX7_scaleOf.desc).map (fun d => d.parameters.length) = some 2 := by decide +kernel
theorem ys_X7_scaleOf : Cond.static yX7_scaleOf ∈ WA := wa (tt3 (j := 151) rfl) rfl
theorem yc_X7_timesOf : Cond.code yX7_timesOf cX7_timesOf 1 (some .long) ∈ WA := wa (tt3 (j := 155) rfl) rfl
theorem yd_X7_timesOf : yX7_timesOf.cls ≠ "java/lang/invoke/MethodHandle" ∧ yX7_timesOf.cls ≠ "java/lang/invoke/VarHandle" ∧ (parseMethodDescriptor yX7_timesOf.desc).map (fun d => d.parameters.length) = some 1 := by decide +kernel
theorem ys_X7_timesOf : Cond.static yX7_timesOf ∈ WA := wa (tt3 (j := 154) rfl) rfl
theorem yc_X7_cost : Cond.code yX7_cost cX7_cost 5 (some .long) ∈ WA := wa (tt3 (j := 159) rfl) rfl
theorem yd_X7_cost : yX7_cost.cls ≠ "java/lang/invoke/MethodHandle" ∧ yX7_cost.cls ≠ "java/lang/invoke/VarHandle" ∧ (parseMethodDescriptor yX7_cost.desc).map (fun d => d.parameters.length) = some 3 := by decide +kernel
theorem ym_X7_cost : Cond.instanceMethod yX7_cost ∈ WA := wa (tt3 (j := 157) rfl) rfl
theorem yv_X7_cost : Cond.selects yX7_cost.cls yX7_cost yX7_cost ∈ WA := wa (tt3 (j := 158) rfl) rfl
theorem yc_X1_hasPlace : Cond.code yX1_hasPlace cX1_hasPlace 3 (some .boolean) ∈ WA := wa (tt3 (j := 163) rfl) rfl
theorem yd_X1_hasPlace : yX1_hasPlace.cls ≠ "java/lang/invoke/MethodHandle" ∧ yX1_hasPlace.cls ≠ "java/lang/invoke/VarHandle" ∧ (parseMethodDescriptor yX1_hasPlace.desc).map (fun d => d.parameters.length) = some 2 := by decide +kernel
theorem ym_X1_hasPlace : Cond.instanceMethod yX1_hasPlace ∈ WA := wa (tt3 (j := 161) rfl) rfl
theorem yv_X1_hasPlace : Cond.selects yX1_hasPlace.cls yX1_hasPlace yX1_hasPlace ∈ WA := wa (tt3 (j := 162) rfl) rfl
theorem yc_X1_leastCost : Cond.code yX1_leastCost cX1_leastCost 3 (some .long) ∈ WA := wa (tt3 (j := 168) rfl) rfl
theorem yd_X1_leastCost : yX1_leastCost.cls ≠ "java/lang/invoke/MethodHandle" ∧ yX1_leastCost.cls ≠ "java/lang/invoke/VarHandle" ∧ (parseMethodDescriptor yX1_leastCost.desc).map (fun d => d.parameters.length) = some 2 := by decide +kernel
theorem ym_X1_leastCost : Cond.instanceMethod yX1_leastCost ∈ WA := wa (tt3 (j := 166) rfl) rfl
theorem yv_X1_leastCost : Cond.selects yX1_leastCost.cls yX1_leastCost yX1_leastCost ∈ WA := wa (tt3 (j := 167) rfl) rfl
theorem yc_X1_workOut : Cond.code yX1_workOut cX1_workOut 4 none ∈ WA := wa (tt3 (j := 172) rfl) rfl
theorem yd_X1_workOut : yX1_workOut.cls ≠ "java/lang/invoke/MethodHandle" ∧ yX1_workOut.cls ≠ "java/lang/invoke/VarHandle" ∧ (parseMethodDescriptor yX1_workOut.desc).map (fun d => d.parameters.length) = some 1 := by decide +kernel
theorem ym_X1_workOut : Cond.instanceMethod yX1_workOut ∈ WA := wa (tt3 (j := 171) rfl) rfl
theorem yv_X1_workOut : Cond.selects yX1_workOut.cls yX1_workOut yX1_workOut ∈ WA := sel_in (q := (yX1_workOut, 15)) (sp1 (j := 15) rfl)
theorem yc_X1_startFromEnd : Cond.code yX1_startFromEnd cX1_startFromEnd 2 none ∈ WA := wa (tt3 (j := 177) rfl) rfl
theorem yd_X1_startFromEnd : yX1_startFromEnd.cls ≠ "java/lang/invoke/MethodHandle" ∧ yX1_startFromEnd.cls ≠ "java/lang/invoke/VarHandle" ∧ (parseMethodDescriptor yX1_startFromEnd.desc).map (fun d => d.parameters.length) = some 0 := by decide +kernel
theorem ym_X1_startFromEnd : Cond.instanceMethod yX1_startFromEnd ∈ WA := wa (tt3 (j := 176) rfl) rfl
theorem yv_X1_startFromEnd : Cond.selects yX1_startFromEnd.cls yX1_startFromEnd yX1_startFromEnd ∈ WA := sel_in (q := (yX1_startFromEnd, 15)) (sp2 (j := 0) rfl)
theorem yc_X7_put_ : Cond.code yX7_put_ cX7_put_ 4 none ∈ WA := wa (tt3 (j := 180) rfl) rfl
theorem yd_X7_put_ : yX7_put_.cls ≠ "java/lang/invoke/MethodHandle" ∧ yX7_put_.cls ≠ "java/lang/invoke/VarHandle" ∧ (parseMethodDescriptor yX7_put_.desc).map (fun d => d.parameters.length) = some 3 := by decide +kernel
theorem ys_X7_put_ : Cond.static yX7_put_ ∈ WA := wa (tt3 (j := 179) rfl) rfl
theorem yc_X1_takeCosts : Cond.code yX1_takeCosts cX1_takeCosts 3 none ∈ WA := wa (tt3 (j := 184) rfl) rfl
theorem yd_X1_takeCosts : yX1_takeCosts.cls ≠ "java/lang/invoke/MethodHandle" ∧ yX1_takeCosts.cls ≠ "java/lang/invoke/VarHandle" ∧ (parseMethodDescriptor yX1_takeCosts.desc).map (fun d => d.parameters.length) = some 1 := by decide +kernel
theorem ym_X1_takeCosts : Cond.instanceMethod yX1_takeCosts ∈ WA := wa (tt3 (j := 183) rfl) rfl
theorem yv_X1_takeCosts : Cond.selects yX1_takeCosts.cls yX1_takeCosts yX1_takeCosts ∈ WA := sel_in (q := (yX1_takeCosts, 15)) (sp2 (j := 1) rfl)
theorem yc_X1_placeOf : Cond.code yX1_placeOf cX1_placeOf 2 (some .int) ∈ WA := wa (tt3 (j := 187) rfl) rfl
theorem yd_X1_placeOf : yX1_placeOf.cls ≠ "java/lang/invoke/MethodHandle" ∧ yX1_placeOf.cls ≠ "java/lang/invoke/VarHandle" ∧ (parseMethodDescriptor yX1_placeOf.desc).map (fun d => d.parameters.length) = some 2 := by decide +kernel
theorem ys_X1_placeOf : Cond.static yX1_placeOf ∈ WA := wa (tt3 (j := 186) rfl) rfl
theorem yc_X1_goBackToLoad : Cond.code yX1_goBackToLoad cX1_goBackToLoad 15 none ∈ WA := wa (tt3 (j := 192) rfl) rfl
theorem yd_X1_goBackToLoad : yX1_goBackToLoad.cls ≠ "java/lang/invoke/MethodHandle" ∧ yX1_goBackToLoad.cls ≠ "java/lang/invoke/VarHandle" ∧ (parseMethodDescriptor yX1_goBackToLoad.desc).map (fun d => d.parameters.length) = some 1 := by decide +kernel
theorem ym_X1_goBackToLoad : Cond.instanceMethod yX1_goBackToLoad ∈ WA := wa (tt3 (j := 191) rfl) rfl
theorem yv_X1_goBackToLoad : Cond.selects yX1_goBackToLoad.cls yX1_goBackToLoad yX1_goBackToLoad ∈ WA := sel_in (q := (yX1_goBackToLoad, 15)) (sp2 (j := 2) rfl)
theorem yc_X1_keepWork : Cond.code yX1_keepWork cX1_keepWork 4 none ∈ WA := wa (tt3 (j := 201) rfl) rfl
theorem yd_X1_keepWork : yX1_keepWork.cls ≠ "java/lang/invoke/MethodHandle" ∧ yX1_keepWork.cls ≠ "java/lang/invoke/VarHandle" ∧ (parseMethodDescriptor yX1_keepWork.desc).map (fun d => d.parameters.length) = some 2 := by decide +kernel
theorem ym_X1_keepWork : Cond.instanceMethod yX1_keepWork ∈ WA := wa (tt3 (j := 200) rfl) rfl
theorem yv_X1_keepWork : Cond.selects yX1_keepWork.cls yX1_keepWork yX1_keepWork ∈ WA := sel_in (q := (yX1_keepWork, 15)) (sp2 (j := 3) rfl)
theorem yc_X1_boxCost : Cond.code yX1_boxCost cX1_boxCost 2 (some .long) ∈ WA := wa (tt3 (j := 205) rfl) rfl
theorem yd_X1_boxCost : yX1_boxCost.cls ≠ "java/lang/invoke/MethodHandle" ∧ yX1_boxCost.cls ≠ "java/lang/invoke/VarHandle" ∧ (parseMethodDescriptor yX1_boxCost.desc).map (fun d => d.parameters.length) = some 1 := by decide +kernel
theorem ym_X1_boxCost : Cond.instanceMethod yX1_boxCost ∈ WA := wa (tt3 (j := 204) rfl) rfl
theorem yv_X1_boxCost : Cond.selects yX1_boxCost.cls yX1_boxCost yX1_boxCost ∈ WA := sel_in (q := (yX1_boxCost, 15)) (sp2 (j := 4) rfl)
theorem yc_X1_unitOf : Cond.code yX1_unitOf cX1_unitOf 2 (some .long) ∈ WA := wa (tt3 (j := 210) rfl) rfl
theorem yd_X1_unitOf : yX1_unitOf.cls ≠ "java/lang/invoke/MethodHandle" ∧ yX1_unitOf.cls ≠ "java/lang/invoke/VarHandle" ∧ (parseMethodDescriptor yX1_unitOf.desc).map (fun d => d.parameters.length) = some 1 := by decide +kernel
theorem ym_X1_unitOf : Cond.instanceMethod yX1_unitOf ∈ WA := wa (tt3 (j := 209) rfl) rfl
theorem yv_X1_unitOf : Cond.selects yX1_unitOf.cls yX1_unitOf yX1_unitOf ∈ WA := sel_in (q := (yX1_unitOf, 15)) (sp2 (j := 5) rfl)
theorem yc_X1_goBackBest : Cond.code yX1_goBackBest cX1_goBackBest 6 none ∈ WA := wa (tt3 (j := 215) rfl) rfl
theorem yd_X1_goBackBest : yX1_goBackBest.cls ≠ "java/lang/invoke/MethodHandle" ∧ yX1_goBackBest.cls ≠ "java/lang/invoke/VarHandle" ∧ (parseMethodDescriptor yX1_goBackBest.desc).map (fun d => d.parameters.length) = some 2 := by decide +kernel
theorem ym_X1_goBackBest : Cond.instanceMethod yX1_goBackBest ∈ WA := wa (tt3 (j := 214) rfl) rfl
theorem yv_X1_goBackBest : Cond.selects yX1_goBackBest.cls yX1_goBackBest yX1_goBackBest ∈ WA := sel_in (q := (yX1_goBackBest, 15)) (sp2 (j := 6) rfl)
theorem yc_X1_pick : Cond.code yX1_pick cX1_pick 15 (some .int) ∈ WA := wa (tt3 (j := 219) rfl) rfl
theorem yd_X1_pick : yX1_pick.cls ≠ "java/lang/invoke/MethodHandle" ∧ yX1_pick.cls ≠ "java/lang/invoke/VarHandle" ∧ (parseMethodDescriptor yX1_pick.desc).map (fun d => d.parameters.length) = some 3 := by decide +kernel
theorem ym_X1_pick : Cond.instanceMethod yX1_pick ∈ WA := wa (tt3 (j := 218) rfl) rfl
theorem yv_X1_pick : Cond.selects yX1_pick.cls yX1_pick yX1_pick ∈ WA := sel_in (q := (yX1_pick, 15)) (sp2 (j := 7) rfl)
theorem yc_X1_mix : Cond.code yX1_mix cX1_mix 11 none ∈ WA := wa (tt3 (j := 223) rfl) rfl
theorem yd_X1_mix : yX1_mix.cls ≠ "java/lang/invoke/MethodHandle" ∧ yX1_mix.cls ≠ "java/lang/invoke/VarHandle" ∧ (parseMethodDescriptor yX1_mix.desc).map (fun d => d.parameters.length) = some 3 := by decide +kernel
theorem ym_X1_mix : Cond.instanceMethod yX1_mix ∈ WA := wa (tt3 (j := 222) rfl) rfl
theorem yv_X1_mix : Cond.selects yX1_mix.cls yX1_mix yX1_mix ∈ WA := sel_in (q := (yX1_mix, 15)) (sp2 (j := 8) rfl)
theorem yc_X7_best : Cond.code yX7_best cX7_best 5 (some .int) ∈ WA := wa (tt3 (j := 227) rfl) rfl
theorem yd_X7_best : yX7_best.cls ≠ "java/lang/invoke/MethodHandle" ∧ yX7_best.cls ≠ "java/lang/invoke/VarHandle" ∧ (parseMethodDescriptor yX7_best.desc).map (fun d => d.parameters.length) = some 3 := by decide +kernel
theorem ym_X7_best : Cond.instanceMethod yX7_best ∈ WA := wa (tt3 (j := 225) rfl) rfl
theorem yv_X7_best : Cond.selects yX7_best.cls yX7_best yX7_best ∈ WA := wa (tt3 (j := 226) rfl) rfl
theorem yc_X1_hasDay : Cond.code yX1_hasDay cX1_hasDay 3 (some .boolean) ∈ WA := wa (tt3 (j := 231) rfl) rfl
theorem yd_X1_hasDay : yX1_hasDay.cls ≠ "java/lang/invoke/MethodHandle" ∧ yX1_hasDay.cls ≠ "java/lang/invoke/VarHandle" ∧ (parseMethodDescriptor yX1_hasDay.desc).map (fun d => d.parameters.length) = some 2 := by decide +kernel
theorem ym_X1_hasDay : Cond.instanceMethod yX1_hasDay ∈ WA := wa (tt3 (j := 229) rfl) rfl
theorem yv_X1_hasDay : Cond.selects yX1_hasDay.cls yX1_hasDay yX1_hasDay ∈ WA := wa (tt3 (j := 230) rfl) rfl
theorem yc_X1_bestLoad : Cond.code yX1_bestLoad cX1_bestLoad 3 (some .int) ∈ WA := wa (tt3 (j := 236) rfl) rfl
theorem yd_X1_bestLoad : yX1_bestLoad.cls ≠ "java/lang/invoke/MethodHandle" ∧ yX1_bestLoad.cls ≠ "java/lang/invoke/VarHandle" ∧ (parseMethodDescriptor yX1_bestLoad.desc).map (fun d => d.parameters.length) = some 2 := by decide +kernel
theorem ym_X1_bestLoad : Cond.instanceMethod yX1_bestLoad ∈ WA := wa (tt3 (j := 234) rfl) rfl
theorem yv_X1_bestLoad : Cond.selects yX1_bestLoad.cls yX1_bestLoad yX1_bestLoad ∈ WA := wa (tt3 (j := 235) rfl) rfl
theorem yc_X1_loadWorkedOut : Cond.code yX1_loadWorkedOut cX1_loadWorkedOut 3 (some .int) ∈ WA := wa (tt4 (j := 0) rfl) rfl
theorem yd_X1_loadWorkedOut : yX1_loadWorkedOut.cls ≠ "java/lang/invoke/MethodHandle" ∧ yX1_loadWorkedOut.cls ≠ "java/lang/invoke/VarHandle" ∧ (parseMethodDescriptor yX1_loadWorkedOut.desc).map (fun d => d.parameters.length) = some 2 := by decide +kernel
theorem ym_X1_loadWorkedOut : Cond.instanceMethod yX1_loadWorkedOut ∈ WA := wa (tt3 (j := 239) rfl) rfl
theorem yv_X1_loadWorkedOut : Cond.selects yX1_loadWorkedOut.cls yX1_loadWorkedOut yX1_loadWorkedOut ∈ WA := sel_in (q := (yX1_loadWorkedOut, 15)) (sp2 (j := 9) rfl)
theorem yc_X7_fill : Cond.code yX7_fill cX7_fill 4 (some .int) ∈ WA := wa (tt4 (j := 4) rfl) rfl
theorem yd_X7_fill : yX7_fill.cls ≠ "java/lang/invoke/MethodHandle" ∧ yX7_fill.cls ≠ "java/lang/invoke/VarHandle" ∧ (parseMethodDescriptor yX7_fill.desc).map (fun d => d.parameters.length) = some 2 := by decide +kernel
theorem ym_X7_fill : Cond.instanceMethod yX7_fill ∈ WA := wa (tt4 (j := 2) rfl) rfl
theorem yv_X7_fill : Cond.selects yX7_fill.cls yX7_fill yX7_fill ∈ WA := wa (tt4 (j := 3) rfl) rfl
theorem yc_X1_fillOf : Cond.code yX1_fillOf cX1_fillOf 2 (some .int) ∈ WA := wa (tt4 (j := 8) rfl) rfl
theorem yd_X1_fillOf : yX1_fillOf.cls ≠ "java/lang/invoke/MethodHandle" ∧ yX1_fillOf.cls ≠ "java/lang/invoke/VarHandle" ∧ (parseMethodDescriptor yX1_fillOf.desc).map (fun d => d.parameters.length) = some 1 := by decide +kernel
theorem ym_X1_fillOf : Cond.instanceMethod yX1_fillOf ∈ WA := wa (tt4 (j := 6) rfl) rfl
theorem yv_X1_fillOf : Cond.selects yX1_fillOf.cls yX1_fillOf yX1_fillOf ∈ WA := wa (tt4 (j := 7) rfl) rfl
theorem yc_X7_waits : Cond.code yX7_waits cX7_waits 5 (some .long) ∈ WA := wa (tt4 (j := 12) rfl) rfl
theorem yd_X7_waits : yX7_waits.cls ≠ "java/lang/invoke/MethodHandle" ∧ yX7_waits.cls ≠ "java/lang/invoke/VarHandle" ∧ (parseMethodDescriptor yX7_waits.desc).map (fun d => d.parameters.length) = some 3 := by decide +kernel
theorem ym_X7_waits : Cond.instanceMethod yX7_waits ∈ WA := wa (tt4 (j := 10) rfl) rfl
theorem yv_X7_waits : Cond.selects yX7_waits.cls yX7_waits yX7_waits ∈ WA := wa (tt4 (j := 11) rfl) rfl
theorem yc_X1_costWith : Cond.code yX1_costWith cX1_costWith 10 (some .long) ∈ WA := wa (tt4 (j := 16) rfl) rfl
theorem yd_X1_costWith : yX1_costWith.cls ≠ "java/lang/invoke/MethodHandle" ∧ yX1_costWith.cls ≠ "java/lang/invoke/VarHandle" ∧ (parseMethodDescriptor yX1_costWith.desc).map (fun d => d.parameters.length) = some 3 := by decide +kernel
theorem ym_X1_costWith : Cond.instanceMethod yX1_costWith ∈ WA := wa (tt4 (j := 14) rfl) rfl
theorem yv_X1_costWith : Cond.selects yX1_costWith.cls yX1_costWith yX1_costWith ∈ WA := wa (tt4 (j := 15) rfl) rfl
theorem yc_X7_once : Cond.code yX7_once cX7_once 5 (some .long) ∈ WA := wa (tt4 (j := 20) rfl) rfl
theorem yd_X7_once : yX7_once.cls ≠ "java/lang/invoke/MethodHandle" ∧ yX7_once.cls ≠ "java/lang/invoke/VarHandle" ∧ (parseMethodDescriptor yX7_once.desc).map (fun d => d.parameters.length) = some 3 := by decide +kernel
theorem ym_X7_once : Cond.instanceMethod yX7_once ∈ WA := wa (tt4 (j := 18) rfl) rfl
theorem yv_X7_once : Cond.selects yX7_once.cls yX7_once yX7_once ∈ WA := wa (tt4 (j := 19) rfl) rfl
theorem yc_X7_dear : Cond.code yX7_dear cX7_dear 6 (some .long) ∈ WA := wa (tt4 (j := 24) rfl) rfl
theorem yd_X7_dear : yX7_dear.cls ≠ "java/lang/invoke/MethodHandle" ∧ yX7_dear.cls ≠ "java/lang/invoke/VarHandle" ∧ (parseMethodDescriptor yX7_dear.desc).map (fun d => d.parameters.length) = some 4 := by decide +kernel
theorem ym_X7_dear : Cond.instanceMethod yX7_dear ∈ WA := wa (tt4 (j := 22) rfl) rfl
theorem yv_X7_dear : Cond.selects yX7_dear.cls yX7_dear yX7_dear ∈ WA := wa (tt4 (j := 23) rfl) rfl
theorem yc_X1_hasSort : Cond.code yX1_hasSort cX1_hasSort 2 (some .boolean) ∈ WA := wa (tt4 (j := 28) rfl) rfl
theorem yd_X1_hasSort : yX1_hasSort.cls ≠ "java/lang/invoke/MethodHandle" ∧ yX1_hasSort.cls ≠ "java/lang/invoke/VarHandle" ∧ (parseMethodDescriptor yX1_hasSort.desc).map (fun d => d.parameters.length) = some 1 := by decide +kernel
theorem ym_X1_hasSort : Cond.instanceMethod yX1_hasSort ∈ WA := wa (tt4 (j := 26) rfl) rfl
theorem yv_X1_hasSort : Cond.selects yX1_hasSort.cls yX1_hasSort yX1_hasSort ∈ WA := wa (tt4 (j := 27) rfl) rfl
theorem yc_X7_promise : Cond.code yX7_promise cX7_promise 4 (some .long) ∈ WA := wa (tt4 (j := 33) rfl) rfl
theorem yd_X7_promise : yX7_promise.cls ≠ "java/lang/invoke/MethodHandle" ∧ yX7_promise.cls ≠ "java/lang/invoke/VarHandle" ∧ (parseMethodDescriptor yX7_promise.desc).map (fun d => d.parameters.length) = some 2 := by decide +kernel
theorem ym_X7_promise : Cond.instanceMethod yX7_promise ∈ WA := wa (tt4 (j := 31) rfl) rfl
theorem yv_X7_promise : Cond.selects yX7_promise.cls yX7_promise yX7_promise ∈ WA := wa (tt4 (j := 32) rfl) rfl
theorem yc_X1_costOfPromise : Cond.code yX1_costOfPromise cX1_costOfPromise 3 (some .long) ∈ WA := wa (tt4 (j := 37) rfl) rfl
theorem yd_X1_costOfPromise : yX1_costOfPromise.cls ≠ "java/lang/invoke/MethodHandle" ∧ yX1_costOfPromise.cls ≠ "java/lang/invoke/VarHandle" ∧ (parseMethodDescriptor yX1_costOfPromise.desc).map (fun d => d.parameters.length) = some 1 := by decide +kernel
theorem ym_X1_costOfPromise : Cond.instanceMethod yX1_costOfPromise ∈ WA := wa (tt4 (j := 35) rfl) rfl
theorem yv_X1_costOfPromise : Cond.selects yX1_costOfPromise.cls yX1_costOfPromise yX1_costOfPromise ∈ WA := wa (tt4 (j := 36) rfl) rfl
theorem yc_X1_goBackPromised : Cond.code yX1_goBackPromised cX1_goBackPromised 5 none ∈ WA := wa (tt4 (j := 41) rfl) rfl
theorem yd_X1_goBackPromised : yX1_goBackPromised.cls ≠ "java/lang/invoke/MethodHandle" ∧ yX1_goBackPromised.cls ≠ "java/lang/invoke/VarHandle" ∧ (parseMethodDescriptor yX1_goBackPromised.desc).map (fun d => d.parameters.length) = some 2 := by decide +kernel
theorem ym_X1_goBackPromised : Cond.instanceMethod yX1_goBackPromised ∈ WA := wa (tt4 (j := 40) rfl) rfl
theorem yv_X1_goBackPromised : Cond.selects yX1_goBackPromised.cls yX1_goBackPromised yX1_goBackPromised ∈ WA := sel_in (q := (yX1_goBackPromised, 15)) (sp2 (j := 10) rfl)
theorem yc_X7_shape : Cond.code yX7_shape cX7_shape 4 (some .int) ∈ WA := wa (tt4 (j := 45) rfl) rfl
theorem yd_X7_shape : yX7_shape.cls ≠ "java/lang/invoke/MethodHandle" ∧ yX7_shape.cls ≠ "java/lang/invoke/VarHandle" ∧ (parseMethodDescriptor yX7_shape.desc).map (fun d => d.parameters.length) = some 2 := by decide +kernel
theorem ym_X7_shape : Cond.instanceMethod yX7_shape ∈ WA := wa (tt4 (j := 43) rfl) rfl
theorem yv_X7_shape : Cond.selects yX7_shape.cls yX7_shape yX7_shape ∈ WA := wa (tt4 (j := 44) rfl) rfl
theorem yc_X1_bar : Cond.code yX1_bar cX1_bar 5 (some .int) ∈ WA := wa (tt4 (j := 49) rfl) rfl
theorem yd_X1_bar : yX1_bar.cls ≠ "java/lang/invoke/MethodHandle" ∧ yX1_bar.cls ≠ "java/lang/invoke/VarHandle" ∧ (parseMethodDescriptor yX1_bar.desc).map (fun d => d.parameters.length) = some 1 := by decide +kernel
theorem ym_X1_bar : Cond.instanceMethod yX1_bar ∈ WA := wa (tt4 (j := 47) rfl) rfl
theorem yv_X1_bar : Cond.selects yX1_bar.cls yX1_bar yX1_bar ∈ WA := wa (tt4 (j := 48) rfl) rfl
theorem yc_X1_leastRoomSent : Cond.code yX1_leastRoomSent cX1_leastRoomSent 4 (some .int) ∈ WA := wa (tt4 (j := 53) rfl) rfl
theorem yd_X1_leastRoomSent : yX1_leastRoomSent.cls ≠ "java/lang/invoke/MethodHandle" ∧ yX1_leastRoomSent.cls ≠ "java/lang/invoke/VarHandle" ∧ (parseMethodDescriptor yX1_leastRoomSent.desc).map (fun d => d.parameters.length) = some 1 := by decide +kernel
theorem ym_X1_leastRoomSent : Cond.instanceMethod yX1_leastRoomSent ∈ WA := wa (tt4 (j := 52) rfl) rfl
theorem yv_X1_leastRoomSent : Cond.selects yX1_leastRoomSent.cls yX1_leastRoomSent yX1_leastRoomSent ∈ WA := sel_in (q := (yX1_leastRoomSent, 15)) (sp2 (j := 11) rfl)
theorem yc_X1_oddFrom : Cond.code yX1_oddFrom cX1_oddFrom 4 (some .int) ∈ WA := wa (tt4 (j := 58) rfl) rfl
theorem yd_X1_oddFrom : yX1_oddFrom.cls ≠ "java/lang/invoke/MethodHandle" ∧ yX1_oddFrom.cls ≠ "java/lang/invoke/VarHandle" ∧ (parseMethodDescriptor yX1_oddFrom.desc).map (fun d => d.parameters.length) = some 2 := by decide +kernel
theorem ym_X1_oddFrom : Cond.instanceMethod yX1_oddFrom ∈ WA := wa (tt4 (j := 57) rfl) rfl
theorem yv_X1_oddFrom : Cond.selects yX1_oddFrom.cls yX1_oddFrom yX1_oddFrom ∈ WA := sel_in (q := (yX1_oddFrom, 15)) (sp2 (j := 12) rfl)
theorem yc_J9_max_7cf53 : Cond.code yJ9_max_7cf53 cJ9_max_7cf53 2 (some .int) ∈ WA := wa (tt4 (j := 61) rfl) rfl
theorem yd_J9_max_7cf53 : yJ9_max_7cf53.cls ≠ "java/lang/invoke/MethodHandle" ∧ yJ9_max_7cf53.cls ≠ "java/lang/invoke/VarHandle" ∧ (parseMethodDescriptor yJ9_max_7cf53.desc).map (fun d => d.parameters.length) = some 2 := by decide +kernel
theorem ys_J9_max_7cf53 : Cond.static yJ9_max_7cf53 ∈ WA := wa (tt4 (j := 60) rfl) rfl
theorem yc_X7_odd : Cond.code yX7_odd cX7_odd 4 (some .int) ∈ WA := wa (tt4 (j := 65) rfl) rfl
theorem yd_X7_odd : yX7_odd.cls ≠ "java/lang/invoke/MethodHandle" ∧ yX7_odd.cls ≠ "java/lang/invoke/VarHandle" ∧ (parseMethodDescriptor yX7_odd.desc).map (fun d => d.parameters.length) = some 2 := by decide +kernel
theorem ym_X7_odd : Cond.instanceMethod yX7_odd ∈ WA := wa (tt4 (j := 63) rfl) rfl
theorem yv_X7_odd : Cond.selects yX7_odd.cls yX7_odd yX7_odd ∈ WA := wa (tt4 (j := 64) rfl) rfl
theorem yc_X1_oddState : Cond.code yX1_oddState cX1_oddState 3 (some .int) ∈ WA := wa (tt4 (j := 69) rfl) rfl
theorem yd_X1_oddState : yX1_oddState.cls ≠ "java/lang/invoke/MethodHandle" ∧ yX1_oddState.cls ≠ "java/lang/invoke/VarHandle" ∧ (parseMethodDescriptor yX1_oddState.desc).map (fun d => d.parameters.length) = some 1 := by decide +kernel
theorem ym_X1_oddState : Cond.instanceMethod yX1_oddState ∈ WA := wa (tt4 (j := 67) rfl) rfl
theorem yv_X1_oddState : Cond.selects yX1_oddState.cls yX1_oddState yX1_oddState ∈ WA := wa (tt4 (j := 68) rfl) rfl
theorem yc_X7_judge : Cond.code yX7_judge cX7_judge 6 (some .int) ∈ WA := wa (tt4 (j := 73) rfl) rfl
theorem yd_X7_judge : yX7_judge.cls ≠ "java/lang/invoke/MethodHandle" ∧ yX7_judge.cls ≠ "java/lang/invoke/VarHandle" ∧ (parseMethodDescriptor yX7_judge.desc).map (fun d => d.parameters.length) = some 3 := by decide +kernel
theorem ym_X7_judge : Cond.instanceMethod yX7_judge ∈ WA := wa (tt4 (j := 71) rfl) rfl
theorem yv_X7_judge : Cond.selects yX7_judge.cls yX7_judge yX7_judge ∈ WA := wa (tt4 (j := 72) rfl) rfl
theorem yc_X1_judgeOf : Cond.code yX1_judgeOf cX1_judgeOf 8 (some .int) ∈ WA := wa (tt4 (j := 78) rfl) rfl
theorem yd_X1_judgeOf : yX1_judgeOf.cls ≠ "java/lang/invoke/MethodHandle" ∧ yX1_judgeOf.cls ≠ "java/lang/invoke/VarHandle" ∧ (parseMethodDescriptor yX1_judgeOf.desc).map (fun d => d.parameters.length) = some 2 := by decide +kernel
theorem ym_X1_judgeOf : Cond.instanceMethod yX1_judgeOf ∈ WA := wa (tt4 (j := 76) rfl) rfl
theorem yv_X1_judgeOf : Cond.selects yX1_judgeOf.cls yX1_judgeOf yX1_judgeOf ∈ WA := wa (tt4 (j := 77) rfl) rfl
theorem yc_X7_load : Cond.code yX7_load cX7_load 7 (some .int) ∈ WA := wa (tt4 (j := 83) rfl) rfl
theorem yd_X7_load : yX7_load.cls ≠ "java/lang/invoke/MethodHandle" ∧ yX7_load.cls ≠ "java/lang/invoke/VarHandle" ∧ (parseMethodDescriptor yX7_load.desc).map (fun d => d.parameters.length) = some 4 := by decide +kernel
theorem ym_X7_load : Cond.instanceMethod yX7_load ∈ WA := wa (tt4 (j := 81) rfl) rfl
theorem yv_X7_load : Cond.selects yX7_load.cls yX7_load yX7_load ∈ WA := wa (tt4 (j := 82) rfl) rfl
theorem yc_X7_ruleFor : Cond.code yX7_ruleFor cX7_ruleFor 4 (some (.object "SendTheBox$Rule")) ∈ WA := wa (tt4 (j := 87) rfl) rfl
theorem yd_X7_ruleFor : yX7_ruleFor.cls ≠ "java/lang/invoke/MethodHandle" ∧ yX7_ruleFor.cls ≠ "java/lang/invoke/VarHandle" ∧ (parseMethodDescriptor yX7_ruleFor.desc).map (fun d => d.parameters.length) = some 2 := by decide +kernel
theorem ym_X7_ruleFor : Cond.instanceMethod yX7_ruleFor ∈ WA := wa (tt4 (j := 86) rfl) rfl
theorem yv_X7_ruleFor : Cond.selects yX7_ruleFor.cls yX7_ruleFor yX7_ruleFor ∈ WA := sel_in (q := (yX7_ruleFor, 12)) (sp2 (j := 13) rfl)
theorem yc_X1_getReadyFor : Cond.code yX1_getReadyFor cX1_getReadyFor 2 none ∈ WA := wa (tt4 (j := 91) rfl) rfl
theorem yd_X1_getReadyFor : yX1_getReadyFor.cls ≠ "java/lang/invoke/MethodHandle" ∧ yX1_getReadyFor.cls ≠ "java/lang/invoke/VarHandle" ∧ (parseMethodDescriptor yX1_getReadyFor.desc).map (fun d => d.parameters.length) = some 1 := by decide +kernel
theorem ym_X1_getReadyFor : Cond.instanceMethod yX1_getReadyFor ∈ WA := wa (tt4 (j := 89) rfl) rfl
theorem yv_X1_getReadyFor : Cond.selects yX1_getReadyFor.cls yX1_getReadyFor yX1_getReadyFor ∈ WA := wa (tt4 (j := 90) rfl) rfl
theorem yc_X1_loadBy : Cond.code yX1_loadBy cX1_loadBy 4 (some .int) ∈ WA := wa (tt4 (j := 95) rfl) rfl
theorem yd_X1_loadBy : yX1_loadBy.cls ≠ "java/lang/invoke/MethodHandle" ∧ yX1_loadBy.cls ≠ "java/lang/invoke/VarHandle" ∧ (parseMethodDescriptor yX1_loadBy.desc).map (fun d => d.parameters.length) = some 3 := by decide +kernel
theorem ym_X1_loadBy : Cond.instanceMethod yX1_loadBy ∈ WA := wa (tt4 (j := 93) rfl) rfl
theorem yv_X1_loadBy : Cond.selects yX1_loadBy.cls yX1_loadBy yX1_loadBy ∈ WA := wa (tt4 (j := 94) rfl) rfl
theorem yc_X3_fills : Cond.code yX3_fills cX3_fills 4 (some .boolean) ∈ WA := wa (tt4 (j := 99) rfl) rfl
theorem yd_X3_fills : yX3_fills.cls ≠ "java/lang/invoke/MethodHandle" ∧ yX3_fills.cls ≠ "java/lang/invoke/VarHandle" ∧ (parseMethodDescriptor yX3_fills.desc).map (fun d => d.parameters.length) = some 3 := by decide +kernel
theorem ym_X3_fills : Cond.instanceMethod yX3_fills ∈ WA := wa (tt4 (j := 97) rfl) rfl
theorem yv_X3_fills : Cond.selects yX3_fills.cls yX3_fills yX3_fills ∈ WA := wa (tt4 (j := 98) rfl) rfl
theorem yc_X3_isItsDay : Cond.code yX3_isItsDay cX3_isItsDay 2 (some .boolean) ∈ WA := wa (tt4 (j := 103) rfl) rfl
theorem yd_X3_isItsDay : yX3_isItsDay.cls ≠ "java/lang/invoke/MethodHandle" ∧ yX3_isItsDay.cls ≠ "java/lang/invoke/VarHandle" ∧ (parseMethodDescriptor yX3_isItsDay.desc).map (fun d => d.parameters.length) = some 1 := by decide +kernel
theorem ym_X3_isItsDay : Cond.instanceMethod yX3_isItsDay ∈ WA := wa (tt4 (j := 102) rfl) rfl
theorem yv_X3_isItsDay : Cond.selects yX3_isItsDay.cls yX3_isItsDay yX3_isItsDay ∈ WA := sel_in (q := (yX3_isItsDay, 4)) (sp2 (j := 14) rfl)
theorem yc_X7_mean : Cond.code yX7_mean cX7_mean 7 (some .long) ∈ WA := wa (tt4 (j := 109) rfl) rfl
theorem yd_X7_mean : yX7_mean.cls ≠ "java/lang/invoke/MethodHandle" ∧ yX7_mean.cls ≠ "java/lang/invoke/VarHandle" ∧ (parseMethodDescriptor yX7_mean.desc).map (fun d => d.parameters.length) = some 4 := by decide +kernel
theorem ym_X7_mean : Cond.instanceMethod yX7_mean ∈ WA := wa (tt4 (j := 107) rfl) rfl
theorem yv_X7_mean : Cond.selects yX7_mean.cls yX7_mean yX7_mean ∈ WA := wa (tt4 (j := 108) rfl) rfl
theorem yc_X1_costBy : Cond.code yX1_costBy cX1_costBy 8 (some .long) ∈ WA := wa (tt4 (j := 113) rfl) rfl
theorem yd_X1_costBy : yX1_costBy.cls ≠ "java/lang/invoke/MethodHandle" ∧ yX1_costBy.cls ≠ "java/lang/invoke/VarHandle" ∧ (parseMethodDescriptor yX1_costBy.desc).map (fun d => d.parameters.length) = some 3 := by decide +kernel
theorem ym_X1_costBy : Cond.instanceMethod yX1_costBy ∈ WA := wa (tt4 (j := 111) rfl) rfl
theorem yv_X1_costBy : Cond.selects yX1_costBy.cls yX1_costBy yX1_costBy ∈ WA := wa (tt4 (j := 112) rfl) rfl
theorem yc_X7_lose : Cond.code yX7_lose cX7_lose 7 (some .long) ∈ WA := wa (tt4 (j := 118) rfl) rfl
theorem yd_X7_lose : yX7_lose.cls ≠ "java/lang/invoke/MethodHandle" ∧ yX7_lose.cls ≠ "java/lang/invoke/VarHandle" ∧ (parseMethodDescriptor yX7_lose.desc).map (fun d => d.parameters.length) = some 4 := by decide +kernel
theorem ym_X7_lose : Cond.instanceMethod yX7_lose ∈ WA := wa (tt4 (j := 116) rfl) rfl
theorem yv_X7_lose : Cond.selects yX7_lose.cls yX7_lose yX7_lose ∈ WA := wa (tt4 (j := 117) rfl) rfl
theorem yc_X7_boy : Cond.code yX7_boy cX7_boy 10 (some .int) ∈ WA := wa (tt4 (j := 122) rfl) rfl
theorem yd_X7_boy : yX7_boy.cls ≠ "java/lang/invoke/MethodHandle" ∧ yX7_boy.cls ≠ "java/lang/invoke/VarHandle" ∧ (parseMethodDescriptor yX7_boy.desc).map (fun d => d.parameters.length) = some 1 := by decide +kernel
theorem ym_X7_boy : Cond.instanceMethod yX7_boy ∈ WA := wa (tt4 (j := 120) rfl) rfl
theorem yv_X7_boy : Cond.selects yX7_boy.cls yX7_boy yX7_boy ∈ WA := wa (tt4 (j := 121) rfl) rfl
theorem yc_X7_chance : Cond.code yX7_chance cX7_chance 7 (some .long) ∈ WA := wa (tt4 (j := 126) rfl) rfl
theorem yd_X7_chance : yX7_chance.cls ≠ "java/lang/invoke/MethodHandle" ∧ yX7_chance.cls ≠ "java/lang/invoke/VarHandle" ∧ (parseMethodDescriptor yX7_chance.desc).map (fun d => d.parameters.length) = some 4 := by decide +kernel
theorem ym_X7_chance : Cond.instanceMethod yX7_chance ∈ WA := wa (tt4 (j := 124) rfl) rfl
theorem yv_X7_chance : Cond.selects yX7_chance.cls yX7_chance yX7_chance ∈ WA := wa (tt4 (j := 125) rfl) rfl
theorem yc_X1_chanceBy : Cond.code yX1_chanceBy cX1_chanceBy 4 (some .long) ∈ WA := wa (tt4 (j := 130) rfl) rfl
theorem yd_X1_chanceBy : yX1_chanceBy.cls ≠ "java/lang/invoke/MethodHandle" ∧ yX1_chanceBy.cls ≠ "java/lang/invoke/VarHandle" ∧ (parseMethodDescriptor yX1_chanceBy.desc).map (fun d => d.parameters.length) = some 3 := by decide +kernel
theorem ym_X1_chanceBy : Cond.instanceMethod yX1_chanceBy ∈ WA := wa (tt4 (j := 128) rfl) rfl
theorem yv_X1_chanceBy : Cond.selects yX1_chanceBy.cls yX1_chanceBy yX1_chanceBy ∈ WA := wa (tt4 (j := 129) rfl) rfl
theorem yc_X1_spread : Cond.code yX1_spread cX1_spread 4 none ∈ WA := wa (tt4 (j := 134) rfl) rfl
theorem yd_X1_spread : yX1_spread.cls ≠ "java/lang/invoke/MethodHandle" ∧ yX1_spread.cls ≠ "java/lang/invoke/VarHandle" ∧ (parseMethodDescriptor yX1_spread.desc).map (fun d => d.parameters.length) = some 2 := by decide +kernel
theorem ym_X1_spread : Cond.instanceMethod yX1_spread ∈ WA := wa (tt4 (j := 133) rfl) rfl
theorem yv_X1_spread : Cond.selects yX1_spread.cls yX1_spread yX1_spread ∈ WA := sel_in (q := (yX1_spread, 15)) (sp2 (j := 15) rfl)
theorem yc_X1_startSpread : Cond.code yX1_startSpread cX1_startSpread 2 none ∈ WA := wa (tt4 (j := 138) rfl) rfl
theorem yd_X1_startSpread : yX1_startSpread.cls ≠ "java/lang/invoke/MethodHandle" ∧ yX1_startSpread.cls ≠ "java/lang/invoke/VarHandle" ∧ (parseMethodDescriptor yX1_startSpread.desc).map (fun d => d.parameters.length) = some 0 := by decide +kernel
theorem ym_X1_startSpread : Cond.instanceMethod yX1_startSpread ∈ WA := wa (tt4 (j := 137) rfl) rfl
theorem yv_X1_startSpread : Cond.selects yX1_startSpread.cls yX1_startSpread yX1_startSpread ∈ WA := sel_in (q := (yX1_startSpread, 15)) (sp3 (j := 0) rfl)
theorem yc_X1_spreadLoad : Cond.code yX1_spreadLoad cX1_spreadLoad 13 (some .long) ∈ WA := wa (tt4 (j := 142) rfl) rfl
theorem yd_X1_spreadLoad : yX1_spreadLoad.cls ≠ "java/lang/invoke/MethodHandle" ∧ yX1_spreadLoad.cls ≠ "java/lang/invoke/VarHandle" ∧ (parseMethodDescriptor yX1_spreadLoad.desc).map (fun d => d.parameters.length) = some 2 := by decide +kernel
theorem ym_X1_spreadLoad : Cond.instanceMethod yX1_spreadLoad ∈ WA := wa (tt4 (j := 141) rfl) rfl
theorem yv_X1_spreadLoad : Cond.selects yX1_spreadLoad.cls yX1_spreadLoad yX1_spreadLoad ∈ WA := sel_in (q := (yX1_spreadLoad, 15)) (sp3 (j := 1) rfl)
theorem yc_X1_spreadWhatComes : Cond.code yX1_spreadWhatComes cX1_spreadWhatComes 8 none ∈ WA := wa (tt4 (j := 146) rfl) rfl
theorem yd_X1_spreadWhatComes : yX1_spreadWhatComes.cls ≠ "java/lang/invoke/MethodHandle" ∧ yX1_spreadWhatComes.cls ≠ "java/lang/invoke/VarHandle" ∧ (parseMethodDescriptor yX1_spreadWhatComes.desc).map (fun d => d.parameters.length) = some 0 := by decide +kernel
theorem ym_X1_spreadWhatComes : Cond.instanceMethod yX1_spreadWhatComes ∈ WA := wa (tt4 (j := 145) rfl) rfl
theorem yv_X1_spreadWhatComes : Cond.selects yX1_spreadWhatComes.cls yX1_spreadWhatComes yX1_spreadWhatComes ∈ WA := sel_in (q := (yX1_spreadWhatComes, 15)) (sp3 (j := 2) rfl)
theorem yc_X7_reach : Cond.code yX7_reach cX7_reach 6 (some .int) ∈ WA := wa (tt4 (j := 150) rfl) rfl
theorem yd_X7_reach : yX7_reach.cls ≠ "java/lang/invoke/MethodHandle" ∧ yX7_reach.cls ≠ "java/lang/invoke/VarHandle" ∧ (parseMethodDescriptor yX7_reach.desc).map (fun d => d.parameters.length) = some 3 := by decide +kernel
theorem ym_X7_reach : Cond.instanceMethod yX7_reach ∈ WA := wa (tt4 (j := 148) rfl) rfl
theorem yv_X7_reach : Cond.selects yX7_reach.cls yX7_reach yX7_reach ∈ WA := wa (tt4 (j := 149) rfl) rfl
theorem yc_X1_statesBy : Cond.code yX1_statesBy cX1_statesBy 5 (some .int) ∈ WA := wa (tt4 (j := 154) rfl) rfl
theorem yd_X1_statesBy : yX1_statesBy.cls ≠ "java/lang/invoke/MethodHandle" ∧ yX1_statesBy.cls ≠ "java/lang/invoke/VarHandle" ∧ (parseMethodDescriptor yX1_statesBy.desc).map (fun d => d.parameters.length) = some 2 := by decide +kernel
theorem ym_X1_statesBy : Cond.instanceMethod yX1_statesBy ∈ WA := wa (tt4 (j := 152) rfl) rfl
theorem yv_X1_statesBy : Cond.selects yX1_statesBy.cls yX1_statesBy yX1_statesBy ∈ WA := wa (tt4 (j := 153) rfl) rfl
theorem yc_X7_held : Cond.code yX7_held cX7_held 6 (some .long) ∈ WA := wa (tt4 (j := 158) rfl) rfl
theorem yd_X7_held : yX7_held.cls ≠ "java/lang/invoke/MethodHandle" ∧ yX7_held.cls ≠ "java/lang/invoke/VarHandle" ∧ (parseMethodDescriptor yX7_held.desc).map (fun d => d.parameters.length) = some 3 := by decide +kernel
theorem ym_X7_held : Cond.instanceMethod yX7_held ∈ WA := wa (tt4 (j := 156) rfl) rfl
theorem yv_X7_held : Cond.selects yX7_held.cls yX7_held yX7_held ∈ WA := wa (tt4 (j := 157) rfl) rfl
theorem yc_X1_heldBy : Cond.code yX1_heldBy cX1_heldBy 9 (some .long) ∈ WA := wa (tt4 (j := 162) rfl) rfl
theorem yd_X1_heldBy : yX1_heldBy.cls ≠ "java/lang/invoke/MethodHandle" ∧ yX1_heldBy.cls ≠ "java/lang/invoke/VarHandle" ∧ (parseMethodDescriptor yX1_heldBy.desc).map (fun d => d.parameters.length) = some 2 := by decide +kernel
theorem ym_X1_heldBy : Cond.instanceMethod yX1_heldBy ∈ WA := wa (tt4 (j := 160) rfl) rfl
theorem yv_X1_heldBy : Cond.selects yX1_heldBy.cls yX1_heldBy yX1_heldBy ∈ WA := wa (tt4 (j := 161) rfl) rfl
theorem yc_X7_boxes : Cond.code yX7_boxes cX7_boxes 5 (some .long) ∈ WA := wa (tt4 (j := 166) rfl) rfl
theorem yd_X7_boxes : yX7_boxes.cls ≠ "java/lang/invoke/MethodHandle" ∧ yX7_boxes.cls ≠ "java/lang/invoke/VarHandle" ∧ (parseMethodDescriptor yX7_boxes.desc).map (fun d => d.parameters.length) = some 2 := by decide +kernel
theorem ym_X7_boxes : Cond.instanceMethod yX7_boxes ∈ WA := wa (tt4 (j := 164) rfl) rfl
theorem yv_X7_boxes : Cond.selects yX7_boxes.cls yX7_boxes yX7_boxes ∈ WA := wa (tt4 (j := 165) rfl) rfl
theorem yc_X1_boxesBy : Cond.code yX1_boxesBy cX1_boxesBy 5 (some .long) ∈ WA := wa (tt4 (j := 170) rfl) rfl
theorem yd_X1_boxesBy : yX1_boxesBy.cls ≠ "java/lang/invoke/MethodHandle" ∧ yX1_boxesBy.cls ≠ "java/lang/invoke/VarHandle" ∧ (parseMethodDescriptor yX1_boxesBy.desc).map (fun d => d.parameters.length) = some 1 := by decide +kernel
theorem ym_X1_boxesBy : Cond.instanceMethod yX1_boxesBy ∈ WA := wa (tt4 (j := 168) rfl) rfl
theorem yv_X1_boxesBy : Cond.selects yX1_boxesBy.cls yX1_boxesBy yX1_boxesBy ∈ WA := wa (tt4 (j := 169) rfl) rfl
theorem yc_X7_plain : Cond.code yX7_plain cX7_plain 3 (some .int) ∈ WA := wa (tt4 (j := 174) rfl) rfl
theorem yd_X7_plain : yX7_plain.cls ≠ "java/lang/invoke/MethodHandle" ∧ yX7_plain.cls ≠ "java/lang/invoke/VarHandle" ∧ (parseMethodDescriptor yX7_plain.desc).map (fun d => d.parameters.length) = some 1 := by decide +kernel
theorem ym_X7_plain : Cond.instanceMethod yX7_plain ∈ WA := wa (tt4 (j := 172) rfl) rfl
theorem yv_X7_plain : Cond.selects yX7_plain.cls yX7_plain yX7_plain ∈ WA := wa (tt4 (j := 173) rfl) rfl
theorem yc_X1_bestFullRule : Cond.code yX1_bestFullRule cX1_bestFullRule 7 (some .int) ∈ WA := wa (tt4 (j := 178) rfl) rfl
theorem yd_X1_bestFullRule : yX1_bestFullRule.cls ≠ "java/lang/invoke/MethodHandle" ∧ yX1_bestFullRule.cls ≠ "java/lang/invoke/VarHandle" ∧ (parseMethodDescriptor yX1_bestFullRule.desc).map (fun d => d.parameters.length) = some 0 := by decide +kernel
theorem ym_X1_bestFullRule : Cond.instanceMethod yX1_bestFullRule ∈ WA := wa (tt4 (j := 176) rfl) rfl
theorem yv_X1_bestFullRule : Cond.selects yX1_bestFullRule.cls yX1_bestFullRule yX1_bestFullRule ∈ WA := wa (tt4 (j := 177) rfl) rfl
theorem yc_X1_isRoomOfSome : Cond.code yX1_isRoomOfSome cX1_isRoomOfSome 3 (some .boolean) ∈ WA := wa (tt4 (j := 182) rfl) rfl
theorem yd_X1_isRoomOfSome : yX1_isRoomOfSome.cls ≠ "java/lang/invoke/MethodHandle" ∧ yX1_isRoomOfSome.cls ≠ "java/lang/invoke/VarHandle" ∧ (parseMethodDescriptor yX1_isRoomOfSome.desc).map (fun d => d.parameters.length) = some 1 := by decide +kernel
theorem ym_X1_isRoomOfSome : Cond.instanceMethod yX1_isRoomOfSome ∈ WA := wa (tt4 (j := 181) rfl) rfl
theorem yv_X1_isRoomOfSome : Cond.selects yX1_isRoomOfSome.cls yX1_isRoomOfSome yX1_isRoomOfSome ∈ WA := sel_in (q := (yX1_isRoomOfSome, 15)) (sp3 (j := 3) rfl)
theorem yc_X7_every : Cond.code yX7_every cX7_every 3 (some .int) ∈ WA := wa (tt4 (j := 189) rfl) rfl
theorem yd_X7_every : yX7_every.cls ≠ "java/lang/invoke/MethodHandle" ∧ yX7_every.cls ≠ "java/lang/invoke/VarHandle" ∧ (parseMethodDescriptor yX7_every.desc).map (fun d => d.parameters.length) = some 1 := by decide +kernel
theorem ym_X7_every : Cond.instanceMethod yX7_every ∈ WA := wa (tt4 (j := 187) rfl) rfl
theorem yv_X7_every : Cond.selects yX7_every.cls yX7_every yX7_every ∈ WA := wa (tt4 (j := 188) rfl) rfl
theorem yc_X1_bestDayRule : Cond.code yX1_bestDayRule cX1_bestDayRule 7 (some .int) ∈ WA := wa (tt4 (j := 193) rfl) rfl
theorem yd_X1_bestDayRule : yX1_bestDayRule.cls ≠ "java/lang/invoke/MethodHandle" ∧ yX1_bestDayRule.cls ≠ "java/lang/invoke/VarHandle" ∧ (parseMethodDescriptor yX1_bestDayRule.desc).map (fun d => d.parameters.length) = some 0 := by decide +kernel
theorem ym_X1_bestDayRule : Cond.instanceMethod yX1_bestDayRule ∈ WA := wa (tt4 (j := 191) rfl) rfl
theorem yv_X1_bestDayRule : Cond.selects yX1_bestDayRule.cls yX1_bestDayRule yX1_bestDayRule ∈ WA := wa (tt4 (j := 192) rfl) rfl
theorem yc_X7_join : Cond.code yX7_join cX7_join 5 (some .int) ∈ WA := wa (tt4 (j := 197) rfl) rfl
theorem yd_X7_join : yX7_join.cls ≠ "java/lang/invoke/MethodHandle" ∧ yX7_join.cls ≠ "java/lang/invoke/VarHandle" ∧ (parseMethodDescriptor yX7_join.desc).map (fun d => d.parameters.length) = some 2 := by decide +kernel
theorem ym_X7_join : Cond.instanceMethod yX7_join ∈ WA := wa (tt4 (j := 195) rfl) rfl
theorem yv_X7_join : Cond.selects yX7_join.cls yX7_join yX7_join ∈ WA := wa (tt4 (j := 196) rfl) rfl
theorem yc_X0_goesWith : Cond.code yX0_goesWith cX0_goesWith 2 (some .boolean) ∈ WA := wa (tt4 (j := 201) rfl) rfl
theorem yd_X0_goesWith : yX0_goesWith.cls ≠ "java/lang/invoke/MethodHandle" ∧ yX0_goesWith.cls ≠ "java/lang/invoke/VarHandle" ∧ (parseMethodDescriptor yX0_goesWith.desc).map (fun d => d.parameters.length) = some 1 := by decide +kernel
theorem ym_X0_goesWith : Cond.instanceMethod yX0_goesWith ∈ WA := wa (tt4 (j := 199) rfl) rfl
theorem yv_X0_goesWith : Cond.selects yX0_goesWith.cls yX0_goesWith yX0_goesWith ∈ WA := wa (tt4 (j := 200) rfl) rfl
theorem yc_X0_addSortsOf : Cond.code yX0_addSortsOf cX0_addSortsOf 4 none ∈ WA := wa (tt4 (j := 207) rfl) rfl
theorem yd_X0_addSortsOf : yX0_addSortsOf.cls ≠ "java/lang/invoke/MethodHandle" ∧ yX0_addSortsOf.cls ≠ "java/lang/invoke/VarHandle" ∧ (parseMethodDescriptor yX0_addSortsOf.desc).map (fun d => d.parameters.length) = some 1 := by decide +kernel
theorem ym_X0_addSortsOf : Cond.instanceMethod yX0_addSortsOf ∈ WA := wa (tt4 (j := 205) rfl) rfl
theorem yv_X0_addSortsOf : Cond.selects yX0_addSortsOf.cls yX0_addSortsOf yX0_addSortsOf ∈ WA := wa (tt4 (j := 206) rfl) rfl
theorem yc_X7_saved : Cond.code yX7_saved cX7_saved 8 (some .long) ∈ WA := wa (tt4 (j := 212) rfl) rfl
theorem yd_X7_saved : yX7_saved.cls ≠ "java/lang/invoke/MethodHandle" ∧ yX7_saved.cls ≠ "java/lang/invoke/VarHandle" ∧ (parseMethodDescriptor yX7_saved.desc).map (fun d => d.parameters.length) = some 2 := by decide +kernel
theorem ym_X7_saved : Cond.instanceMethod yX7_saved ∈ WA := wa (tt4 (j := 210) rfl) rfl
theorem yv_X7_saved : Cond.selects yX7_saved.cls yX7_saved yX7_saved ∈ WA := wa (tt4 (j := 211) rfl) rfl
theorem yc_J9_max_f86c9 : Cond.code yJ9_max_f86c9 cJ9_max_f86c9 4 (some .long) ∈ WA := wa (tt4 (j := 215) rfl) rfl
theorem yd_J9_max_f86c9 : yJ9_max_f86c9.cls ≠ "java/lang/invoke/MethodHandle" ∧ yJ9_max_f86c9.cls ≠ "java/lang/invoke/VarHandle" ∧ (parseMethodDescriptor yJ9_max_f86c9.desc).map (fun d => d.parameters.length) = some 2 := by decide +kernel
theorem ys_J9_max_f86c9 : Cond.static yJ9_max_f86c9 ∈ WA := wa (tt4 (j := 214) rfl) rfl
theorem yc_X7_seed : Cond.code yX7_seed cX7_seed 2 (some .int) ∈ WA := wa (tt4 (j := 219) rfl) rfl
theorem yd_X7_seed : yX7_seed.cls ≠ "java/lang/invoke/MethodHandle" ∧ yX7_seed.cls ≠ "java/lang/invoke/VarHandle" ∧ (parseMethodDescriptor yX7_seed.desc).map (fun d => d.parameters.length) = some 1 := by decide +kernel
theorem ym_X7_seed : Cond.instanceMethod yX7_seed ∈ WA := wa (tt4 (j := 217) rfl) rfl
theorem yv_X7_seed : Cond.selects yX7_seed.cls yX7_seed yX7_seed ∈ WA := wa (tt4 (j := 218) rfl) rfl
theorem yc_X6_changeSeed : Cond.code yX6_changeSeed cX6_changeSeed 3 (some .int) ∈ WA := wa (tt4 (j := 223) rfl) rfl
theorem yd_X6_changeSeed : yX6_changeSeed.cls ≠ "java/lang/invoke/MethodHandle" ∧ yX6_changeSeed.cls ≠ "java/lang/invoke/VarHandle" ∧ (parseMethodDescriptor yX6_changeSeed.desc).map (fun d => d.parameters.length) = some 1 := by decide +kernel
theorem ym_X6_changeSeed : Cond.instanceMethod yX6_changeSeed ∈ WA := wa (tt4 (j := 221) rfl) rfl
theorem yv_X6_changeSeed : Cond.selects yX6_changeSeed.cls yX6_changeSeed yX6_changeSeed ∈ WA := wa (tt4 (j := 222) rfl) rfl
theorem yc_X7_begin : Cond.code yX7_begin cX7_begin 5 (some .int) ∈ WA := wa (tt4 (j := 227) rfl) rfl
theorem yd_X7_begin : yX7_begin.cls ≠ "java/lang/invoke/MethodHandle" ∧ yX7_begin.cls ≠ "java/lang/invoke/VarHandle" ∧ (parseMethodDescriptor yX7_begin.desc).map (fun d => d.parameters.length) = some 2 := by decide +kernel
theorem ym_X7_begin : Cond.instanceMethod yX7_begin ∈ WA := wa (tt4 (j := 225) rfl) rfl
theorem yv_X7_begin : Cond.selects yX7_begin.cls yX7_begin yX7_begin ∈ WA := wa (tt4 (j := 226) rfl) rfl
theorem yc_X5_start : Cond.code yX5_start cX5_start 3 none ∈ WA := wa (tt4 (j := 231) rfl) rfl
theorem yd_X5_start : yX5_start.cls ≠ "java/lang/invoke/MethodHandle" ∧ yX5_start.cls ≠ "java/lang/invoke/VarHandle" ∧ (parseMethodDescriptor yX5_start.desc).map (fun d => d.parameters.length) = some 2 := by decide +kernel
theorem ym_X5_start : Cond.instanceMethod yX5_start ∈ WA := wa (tt4 (j := 229) rfl) rfl
theorem yv_X5_start : Cond.selects yX5_start.cls yX5_start yX5_start ∈ WA := wa (tt4 (j := 230) rfl) rfl
theorem yc_X7_step : Cond.code yX7_step cX7_step 3 (some .int) ∈ WA := wa (tt4 (j := 237) rfl) rfl
theorem yd_X7_step : yX7_step.cls ≠ "java/lang/invoke/MethodHandle" ∧ yX7_step.cls ≠ "java/lang/invoke/VarHandle" ∧ (parseMethodDescriptor yX7_step.desc).map (fun d => d.parameters.length) = some 1 := by decide +kernel
theorem ym_X7_step : Cond.instanceMethod yX7_step ∈ WA := wa (tt4 (j := 235) rfl) rfl
theorem yv_X7_step : Cond.selects yX7_step.cls yX7_step yX7_step ∈ WA := wa (tt4 (j := 236) rfl) rfl
theorem yc_X5_isUnderWay : Cond.code yX5_isUnderWay cX5_isUnderWay 1 (some .boolean) ∈ WA := wa (tt5 (j := 1) rfl) rfl
theorem yd_X5_isUnderWay : yX5_isUnderWay.cls ≠ "java/lang/invoke/MethodHandle" ∧ yX5_isUnderWay.cls ≠ "java/lang/invoke/VarHandle" ∧ (parseMethodDescriptor yX5_isUnderWay.desc).map (fun d => d.parameters.length) = some 0 := by decide +kernel
theorem ym_X5_isUnderWay : Cond.instanceMethod yX5_isUnderWay ∈ WA := wa (tt4 (j := 239) rfl) rfl
theorem yv_X5_isUnderWay : Cond.selects yX5_isUnderWay.cls yX5_isUnderWay yX5_isUnderWay ∈ WA := wa (tt5 (j := 0) rfl) rfl
theorem yc_X5_daysLeft : Cond.code yX5_daysLeft cX5_daysLeft 1 (some .int) ∈ WA := wa (tt5 (j := 5) rfl) rfl
theorem yd_X5_daysLeft : yX5_daysLeft.cls ≠ "java/lang/invoke/MethodHandle" ∧ yX5_daysLeft.cls ≠ "java/lang/invoke/VarHandle" ∧ (parseMethodDescriptor yX5_daysLeft.desc).map (fun d => d.parameters.length) = some 0 := by decide +kernel
theorem ym_X5_daysLeft : Cond.instanceMethod yX5_daysLeft ∈ WA := wa (tt5 (j := 3) rfl) rfl
theorem yv_X5_daysLeft : Cond.selects yX5_daysLeft.cls yX5_daysLeft yX5_daysLeft ∈ WA := wa (tt5 (j := 4) rfl) rfl
theorem yc_X7_passDays : Cond.code yX7_passDays cX7_passDays 6 (some .int) ∈ WA := wa (tt5 (j := 9) rfl) rfl
theorem yd_X7_passDays : yX7_passDays.cls ≠ "java/lang/invoke/MethodHandle" ∧ yX7_passDays.cls ≠ "java/lang/invoke/VarHandle" ∧ (parseMethodDescriptor yX7_passDays.desc).map (fun d => d.parameters.length) = some 3 := by decide +kernel
theorem ym_X7_passDays : Cond.instanceMethod yX7_passDays ∈ WA := wa (tt5 (j := 8) rfl) rfl
theorem yv_X7_passDays : Cond.selects yX7_passDays.cls yX7_passDays yX7_passDays ∈ WA := sel_in (q := (yX7_passDays, 12)) (sp3 (j := 4) rfl)
theorem yc_X5_passDay : Cond.code yX5_passDay cX5_passDay 6 (some .int) ∈ WA := wa (tt5 (j := 13) rfl) rfl
theorem yd_X5_passDay : yX5_passDay.cls ≠ "java/lang/invoke/MethodHandle" ∧ yX5_passDay.cls ≠ "java/lang/invoke/VarHandle" ∧ (parseMethodDescriptor yX5_passDay.desc).map (fun d => d.parameters.length) = some 2 := by decide +kernel
theorem ym_X5_passDay : Cond.instanceMethod yX5_passDay ∈ WA := wa (tt5 (j := 11) rfl) rfl
theorem yv_X5_passDay : Cond.selects yX5_passDay.cls yX5_passDay yX5_passDay ∈ WA := wa (tt5 (j := 12) rfl) rfl
theorem yc_X6_draw : Cond.code yX6_draw cX6_draw 2 (some .int) ∈ WA := wa (tt5 (j := 17) rfl) rfl
theorem yd_X6_draw : yX6_draw.cls ≠ "java/lang/invoke/MethodHandle" ∧ yX6_draw.cls ≠ "java/lang/invoke/VarHandle" ∧ (parseMethodDescriptor yX6_draw.desc).map (fun d => d.parameters.length) = some 1 := by decide +kernel
theorem ym_X6_draw : Cond.instanceMethod yX6_draw ∈ WA := wa (tt5 (j := 15) rfl) rfl
theorem yv_X6_draw : Cond.selects yX6_draw.cls yX6_draw yX6_draw ∈ WA := wa (tt5 (j := 16) rfl) rfl
theorem yc_X5_send : Cond.code yX5_send cX5_send 3 (some .int) ∈ WA := wa (tt5 (j := 24) rfl) rfl
theorem yd_X5_send : yX5_send.cls ≠ "java/lang/invoke/MethodHandle" ∧ yX5_send.cls ≠ "java/lang/invoke/VarHandle" ∧ (parseMethodDescriptor yX5_send.desc).map (fun d => d.parameters.length) = some 1 := by decide +kernel
theorem ym_X5_send : Cond.instanceMethod yX5_send ∈ WA := wa (tt5 (j := 23) rfl) rfl
theorem yv_X5_send : Cond.selects yX5_send.cls yX5_send yX5_send ∈ WA := sel_in (q := (yX5_send, 8)) (sp3 (j := 5) rfl)
theorem yc_X5_receive : Cond.code yX5_receive cX5_receive 2 (some .int) ∈ WA := wa (tt5 (j := 32) rfl) rfl
theorem yd_X5_receive : yX5_receive.cls ≠ "java/lang/invoke/MethodHandle" ∧ yX5_receive.cls ≠ "java/lang/invoke/VarHandle" ∧ (parseMethodDescriptor yX5_receive.desc).map (fun d => d.parameters.length) = some 1 := by decide +kernel
theorem ym_X5_receive : Cond.instanceMethod yX5_receive ∈ WA := wa (tt5 (j := 31) rfl) rfl
theorem yv_X5_receive : Cond.selects yX5_receive.cls yX5_receive yX5_receive ∈ WA := sel_in (q := (yX5_receive, 8)) (sp3 (j := 6) rfl)
theorem yc_X7_week : Cond.code yX7_week cX7_week 2 (some .int) ∈ WA := wa (tt5 (j := 37) rfl) rfl
theorem yd_X7_week : yX7_week.cls ≠ "java/lang/invoke/MethodHandle" ∧ yX7_week.cls ≠ "java/lang/invoke/VarHandle" ∧ (parseMethodDescriptor yX7_week.desc).map (fun d => d.parameters.length) = some 1 := by decide +kernel
theorem ym_X7_week : Cond.instanceMethod yX7_week ∈ WA := wa (tt5 (j := 35) rfl) rfl
theorem yv_X7_week : Cond.selects yX7_week.cls yX7_week yX7_week ∈ WA := wa (tt5 (j := 36) rfl) rfl
theorem yc_X5_number : Cond.code yX5_number cX5_number 2 (some .int) ∈ WA := wa (tt5 (j := 41) rfl) rfl
theorem yd_X5_number : yX5_number.cls ≠ "java/lang/invoke/MethodHandle" ∧ yX5_number.cls ≠ "java/lang/invoke/VarHandle" ∧ (parseMethodDescriptor yX5_number.desc).map (fun d => d.parameters.length) = some 1 := by decide +kernel
theorem ym_X5_number : Cond.instanceMethod yX5_number ∈ WA := wa (tt5 (j := 39) rfl) rfl
theorem yv_X5_number : Cond.selects yX5_number.cls yX5_number yX5_number ∈ WA := wa (tt5 (j := 40) rfl) rfl
theorem yc_X7_weeks : Cond.code yX7_weeks cX7_weeks 8 (some .int) ∈ WA := wa (tt5 (j := 45) rfl) rfl
theorem yd_X7_weeks : yX7_weeks.cls ≠ "java/lang/invoke/MethodHandle" ∧ yX7_weeks.cls ≠ "java/lang/invoke/VarHandle" ∧ (parseMethodDescriptor yX7_weeks.desc).map (fun d => d.parameters.length) = some 3 := by decide +kernel
theorem ym_X7_weeks : Cond.instanceMethod yX7_weeks ∈ WA := wa (tt5 (j := 43) rfl) rfl
theorem yv_X7_weeks : Cond.selects yX7_weeks.cls yX7_weeks yX7_weeks ∈ WA := wa (tt5 (j := 44) rfl) rfl
theorem yc_X7_image : Cond.code yX7_image cX7_image 1 (some .int) ∈ WA := wa (tt5 (j := 49) rfl) rfl
theorem yd_X7_image : yX7_image.cls ≠ "java/lang/invoke/MethodHandle" ∧ yX7_image.cls ≠ "java/lang/invoke/VarHandle" ∧ (parseMethodDescriptor yX7_image.desc).map (fun d => d.parameters.length) = some 0 := by decide +kernel
theorem ym_X7_image : Cond.instanceMethod yX7_image ∈ WA := wa (tt5 (j := 47) rfl) rfl
theorem yv_X7_image : Cond.selects yX7_image.cls yX7_image yX7_image ∈ WA := wa (tt5 (j := 48) rfl) rfl
theorem yc_X6_become : Cond.code yX6_become cX6_become 3 none ∈ WA := wa (tt5 (j := 53) rfl) rfl
theorem yd_X6_become : yX6_become.cls ≠ "java/lang/invoke/MethodHandle" ∧ yX6_become.cls ≠ "java/lang/invoke/VarHandle" ∧ (parseMethodDescriptor yX6_become.desc).map (fun d => d.parameters.length) = some 1 := by decide +kernel
theorem ym_X6_become : Cond.instanceMethod yX6_become ∈ WA := wa (tt5 (j := 51) rfl) rfl
theorem yv_X6_become : Cond.selects yX6_become.cls yX6_become yX6_become ∈ WA := wa (tt5 (j := 52) rfl) rfl
theorem yc_X5_become : Cond.code yX5_become cX5_become 2 none ∈ WA := wa (tt5 (j := 57) rfl) rfl
theorem yd_X5_become : yX5_become.cls ≠ "java/lang/invoke/MethodHandle" ∧ yX5_become.cls ≠ "java/lang/invoke/VarHandle" ∧ (parseMethodDescriptor yX5_become.desc).map (fun d => d.parameters.length) = some 1 := by decide +kernel
theorem ym_X5_become : Cond.instanceMethod yX5_become ∈ WA := wa (tt5 (j := 55) rfl) rfl
theorem yv_X5_become : Cond.selects yX5_become.cls yX5_become yX5_become ∈ WA := wa (tt5 (j := 56) rfl) rfl
theorem yc_X7_back : Cond.code yX7_back cX7_back 1 (some .int) ∈ WA := wa (tt5 (j := 61) rfl) rfl
theorem yd_X7_back : yX7_back.cls ≠ "java/lang/invoke/MethodHandle" ∧ yX7_back.cls ≠ "java/lang/invoke/VarHandle" ∧ (parseMethodDescriptor yX7_back.desc).map (fun d => d.parameters.length) = some 0 := by decide +kernel
theorem ym_X7_back : Cond.instanceMethod yX7_back ∈ WA := wa (tt5 (j := 59) rfl) rfl
theorem yv_X7_back : Cond.selects yX7_back.cls yX7_back yX7_back ∈ WA := wa (tt5 (j := 60) rfl) rfl
theorem yc_X7_status : Cond.code yX7_status cX7_status 3 (some .int) ∈ WA := wa (tt5 (j := 65) rfl) rfl
theorem yd_X7_status : yX7_status.cls ≠ "java/lang/invoke/MethodHandle" ∧ yX7_status.cls ≠ "java/lang/invoke/VarHandle" ∧ (parseMethodDescriptor yX7_status.desc).map (fun d => d.parameters.length) = some 1 := by decide +kernel
theorem ym_X7_status : Cond.instanceMethod yX7_status ∈ WA := wa (tt5 (j := 63) rfl) rfl
theorem yv_X7_status : Cond.selects yX7_status.cls yX7_status yX7_status ∈ WA := wa (tt5 (j := 64) rfl) rfl
theorem yc_X7_shelvesInUse : Cond.code yX7_shelvesInUse cX7_shelvesInUse 3 (some .int) ∈ WA := wa (tt5 (j := 69) rfl) rfl
theorem yd_X7_shelvesInUse : yX7_shelvesInUse.cls ≠ "java/lang/invoke/MethodHandle" ∧ yX7_shelvesInUse.cls ≠ "java/lang/invoke/VarHandle" ∧ (parseMethodDescriptor yX7_shelvesInUse.desc).map (fun d => d.parameters.length) = some 0 := by decide +kernel
theorem ym_X7_shelvesInUse : Cond.instanceMethod yX7_shelvesInUse ∈ WA := wa (tt5 (j := 68) rfl) rfl
theorem yv_X7_shelvesInUse : Cond.selects yX7_shelvesInUse.cls yX7_shelvesInUse yX7_shelvesInUse ∈ WA := sel_in (q := (yX7_shelvesInUse, 12)) (sp3 (j := 7) rfl)
theorem yc_X8_init : Cond.code yX8_init cX8_init 1 none ∈ WA := wa (tt5 (j := 74) rfl) rfl
theorem yd_X8_init : yX8_init.cls ≠ "java/lang/invoke/MethodHandle" ∧ yX8_init.cls ≠ "java/lang/invoke/VarHandle" ∧ (parseMethodDescriptor yX8_init.desc).map (fun d => d.parameters.length) = some 0 := by decide +kernel
theorem ym_X8_init : Cond.instanceMethod yX8_init ∈ WA := wa (tt5 (j := 73) rfl) rfl
theorem yc_X8_row : Cond.code yX8_row cX8_row 5 (some .int) ∈ WA := wa (tt5 (j := 222) rfl) rfl
theorem yd_X8_row : yX8_row.cls ≠ "java/lang/invoke/MethodHandle" ∧ yX8_row.cls ≠ "java/lang/invoke/VarHandle" ∧ (parseMethodDescriptor yX8_row.desc).map (fun d => d.parameters.length) = some 3 := by decide +kernel
theorem ym_X8_row : Cond.instanceMethod yX8_row ∈ WA := wa (tt5 (j := 220) rfl) rfl
theorem yv_X8_row : Cond.selects yX8_row.cls yX8_row yX8_row ∈ WA := wa (tt5 (j := 221) rfl) rfl
theorem yc_X8_in : Cond.code yX8_in cX8_in 6 (some .boolean) ∈ WA := wa (tt5 (j := 226) rfl) rfl
theorem yd_X8_in : yX8_in.cls ≠ "java/lang/invoke/MethodHandle" ∧ yX8_in.cls ≠ "java/lang/invoke/VarHandle" ∧ (parseMethodDescriptor yX8_in.desc).map (fun d => d.parameters.length) = some 3 := by decide +kernel
theorem ys_X8_in : Cond.static yX8_in ∈ WA := wa (tt5 (j := 225) rfl) rfl
theorem yc_X8_refuse : Cond.code yX8_refuse cX8_refuse 2 (some .int) ∈ WA := wa (tt5 (j := 232) rfl) rfl
theorem yd_X8_refuse : yX8_refuse.cls ≠ "java/lang/invoke/MethodHandle" ∧ yX8_refuse.cls ≠ "java/lang/invoke/VarHandle" ∧ (parseMethodDescriptor yX8_refuse.desc).map (fun d => d.parameters.length) = some 1 := by decide +kernel
theorem ym_X8_refuse : Cond.instanceMethod yX8_refuse ∈ WA := wa (tt5 (j := 231) rfl) rfl
theorem yv_X8_refuse : Cond.selects yX8_refuse.cls yX8_refuse yX8_refuse ∈ WA := sel_in (q := (yX8_refuse, 46)) (sp3 (j := 8) rfl)
theorem yc_X8_set : Cond.code yX8_set cX8_set 5 (some .int) ∈ WA := wa (tt5 (j := 236) rfl) rfl
theorem yd_X8_set : yX8_set.cls ≠ "java/lang/invoke/MethodHandle" ∧ yX8_set.cls ≠ "java/lang/invoke/VarHandle" ∧ (parseMethodDescriptor yX8_set.desc).map (fun d => d.parameters.length) = some 3 := by decide +kernel
theorem ym_X8_set : Cond.instanceMethod yX8_set ∈ WA := wa (tt5 (j := 234) rfl) rfl
theorem yv_X8_set : Cond.selects yX8_set.cls yX8_set yX8_set ∈ WA := wa (tt5 (j := 235) rfl) rfl
theorem yc_X8_fit : Cond.code yX8_fit cX8_fit 3 (some .long) ∈ WA := wa (tt5 (j := 239) rfl) rfl
theorem yd_X8_fit : yX8_fit.cls ≠ "java/lang/invoke/MethodHandle" ∧ yX8_fit.cls ≠ "java/lang/invoke/VarHandle" ∧ (parseMethodDescriptor yX8_fit.desc).map (fun d => d.parameters.length) = some 2 := by decide +kernel
theorem ys_X8_fit : Cond.static yX8_fit ∈ WA := wa (tt5 (j := 238) rfl) rfl
theorem yc_X8_copy : Cond.code yX8_copy cX8_copy 7 (some .int) ∈ WA := wa (tt6 (j := 3) rfl) rfl
theorem yd_X8_copy : yX8_copy.cls ≠ "java/lang/invoke/MethodHandle" ∧ yX8_copy.cls ≠ "java/lang/invoke/VarHandle" ∧ (parseMethodDescriptor yX8_copy.desc).map (fun d => d.parameters.length) = some 5 := by decide +kernel
theorem ym_X8_copy : Cond.instanceMethod yX8_copy ∈ WA := wa (tt6 (j := 1) rfl) rfl
theorem yv_X8_copy : Cond.selects yX8_copy.cls yX8_copy yX8_copy ∈ WA := wa (tt6 (j := 2) rfl) rfl
theorem yc_X8_element : Cond.code yX8_element cX8_element 3 (some .long) ∈ WA := wa (tt6 (j := 7) rfl) rfl
theorem yd_X8_element : yX8_element.cls ≠ "java/lang/invoke/MethodHandle" ∧ yX8_element.cls ≠ "java/lang/invoke/VarHandle" ∧ (parseMethodDescriptor yX8_element.desc).map (fun d => d.parameters.length) = some 2 := by decide +kernel
theorem ym_X8_element : Cond.instanceMethod yX8_element ∈ WA := wa (tt6 (j := 5) rfl) rfl
theorem yv_X8_element : Cond.selects yX8_element.cls yX8_element yX8_element ∈ WA := wa (tt6 (j := 6) rfl) rfl
theorem yc_X8_holds : Cond.code yX8_holds cX8_holds 2 (some .int) ∈ WA := wa (tt6 (j := 11) rfl) rfl
theorem yd_X8_holds : yX8_holds.cls ≠ "java/lang/invoke/MethodHandle" ∧ yX8_holds.cls ≠ "java/lang/invoke/VarHandle" ∧ (parseMethodDescriptor yX8_holds.desc).map (fun d => d.parameters.length) = some 1 := by decide +kernel
theorem ym_X8_holds : Cond.instanceMethod yX8_holds ∈ WA := wa (tt6 (j := 9) rfl) rfl
theorem yv_X8_holds : Cond.selects yX8_holds.cls yX8_holds yX8_holds ∈ WA := wa (tt6 (j := 10) rfl) rfl
theorem yc_X8_rule : Cond.code yX8_rule cX8_rule 5 (some .int) ∈ WA := wa (tt6 (j := 15) rfl) rfl
theorem yd_X8_rule : yX8_rule.cls ≠ "java/lang/invoke/MethodHandle" ∧ yX8_rule.cls ≠ "java/lang/invoke/VarHandle" ∧ (parseMethodDescriptor yX8_rule.desc).map (fun d => d.parameters.length) = some 3 := by decide +kernel
theorem ym_X8_rule : Cond.instanceMethod yX8_rule ∈ WA := wa (tt6 (j := 13) rfl) rfl
theorem yv_X8_rule : Cond.selects yX8_rule.cls yX8_rule yX8_rule ∈ WA := wa (tt6 (j := 14) rfl) rfl
theorem yc_X8_mayBy : Cond.code yX8_mayBy cX8_mayBy 2 (some .boolean) ∈ WA := wa (tt6 (j := 19) rfl) rfl
theorem yd_X8_mayBy : yX8_mayBy.cls ≠ "java/lang/invoke/MethodHandle" ∧ yX8_mayBy.cls ≠ "java/lang/invoke/VarHandle" ∧ (parseMethodDescriptor yX8_mayBy.desc).map (fun d => d.parameters.length) = some 2 := by decide +kernel
theorem ys_X8_mayBy : Cond.static yX8_mayBy ∈ WA := wa (tt6 (j := 18) rfl) rfl
theorem yc_X8_says : Cond.code yX8_says cX8_says 4 (some .int) ∈ WA := wa (tt6 (j := 25) rfl) rfl
theorem yd_X8_says : yX8_says.cls ≠ "java/lang/invoke/MethodHandle" ∧ yX8_says.cls ≠ "java/lang/invoke/VarHandle" ∧ (parseMethodDescriptor yX8_says.desc).map (fun d => d.parameters.length) = some 2 := by decide +kernel
theorem ym_X8_says : Cond.instanceMethod yX8_says ∈ WA := wa (tt6 (j := 23) rfl) rfl
theorem yv_X8_says : Cond.selects yX8_says.cls yX8_says yX8_says ∈ WA := wa (tt6 (j := 24) rfl) rfl
theorem yc_X8_feed : Cond.code yX8_feed cX8_feed 4 (some .int) ∈ WA := wa (tt6 (j := 29) rfl) rfl
theorem yd_X8_feed : yX8_feed.cls ≠ "java/lang/invoke/MethodHandle" ∧ yX8_feed.cls ≠ "java/lang/invoke/VarHandle" ∧ (parseMethodDescriptor yX8_feed.desc).map (fun d => d.parameters.length) = some 2 := by decide +kernel
theorem ym_X8_feed : Cond.instanceMethod yX8_feed ∈ WA := wa (tt6 (j := 27) rfl) rfl
theorem yv_X8_feed : Cond.selects yX8_feed.cls yX8_feed yX8_feed ∈ WA := wa (tt6 (j := 28) rfl) rfl
theorem yc_X8_wipe : Cond.code yX8_wipe cX8_wipe 2 (some .int) ∈ WA := wa (tt6 (j := 33) rfl) rfl
theorem yd_X8_wipe : yX8_wipe.cls ≠ "java/lang/invoke/MethodHandle" ∧ yX8_wipe.cls ≠ "java/lang/invoke/VarHandle" ∧ (parseMethodDescriptor yX8_wipe.desc).map (fun d => d.parameters.length) = some 0 := by decide +kernel
theorem ym_X8_wipe : Cond.instanceMethod yX8_wipe ∈ WA := wa (tt6 (j := 31) rfl) rfl
theorem yv_X8_wipe : Cond.selects yX8_wipe.cls yX8_wipe yX8_wipe ∈ WA := wa (tt6 (j := 32) rfl) rfl
theorem yc_X8_house : Cond.code yX8_house cX8_house 2 (some .int) ∈ WA := wa (tt6 (j := 37) rfl) rfl
theorem yd_X8_house : yX8_house.cls ≠ "java/lang/invoke/MethodHandle" ∧ yX8_house.cls ≠ "java/lang/invoke/VarHandle" ∧ (parseMethodDescriptor yX8_house.desc).map (fun d => d.parameters.length) = some 0 := by decide +kernel
theorem ym_X8_house : Cond.instanceMethod yX8_house ∈ WA := wa (tt6 (j := 35) rfl) rfl
theorem yv_X8_house : Cond.selects yX8_house.cls yX8_house yX8_house ∈ WA := wa (tt6 (j := 36) rfl) rfl
theorem yc_X8_read : Cond.code yX8_read cX8_read 2 (some .boolean) ∈ WA := wa (tt6 (j := 41) rfl) rfl
theorem yd_X8_read : yX8_read.cls ≠ "java/lang/invoke/MethodHandle" ∧ yX8_read.cls ≠ "java/lang/invoke/VarHandle" ∧ (parseMethodDescriptor yX8_read.desc).map (fun d => d.parameters.length) = some 1 := by decide +kernel
theorem ym_X8_read : Cond.instanceMethod yX8_read ∈ WA := wa (tt6 (j := 40) rfl) rfl
theorem yv_X8_read : Cond.selects yX8_read.cls yX8_read yX8_read ∈ WA := sel_in (q := (yX8_read, 46)) (sp3 (j := 9) rfl)
theorem yc_X8_look : Cond.code yX8_look cX8_look 1 none ∈ WA := wa (tt6 (j := 45) rfl) rfl
theorem yd_X8_look : yX8_look.cls ≠ "java/lang/invoke/MethodHandle" ∧ yX8_look.cls ≠ "java/lang/invoke/VarHandle" ∧ (parseMethodDescriptor yX8_look.desc).map (fun d => d.parameters.length) = some 0 := by decide +kernel
theorem ym_X8_look : Cond.instanceMethod yX8_look ∈ WA := wa (tt6 (j := 44) rfl) rfl
theorem yv_X8_look : Cond.selects yX8_look.cls yX8_look yX8_look ∈ WA := sel_in (q := (yX8_look, 46)) (sp3 (j := 10) rfl)
theorem yc_X8_isLetter : Cond.code yX8_isLetter cX8_isLetter 1 (some .boolean) ∈ WA := wa (tt6 (j := 48) rfl) rfl
theorem yd_X8_isLetter : yX8_isLetter.cls ≠ "java/lang/invoke/MethodHandle" ∧ yX8_isLetter.cls ≠ "java/lang/invoke/VarHandle" ∧ (parseMethodDescriptor yX8_isLetter.desc).map (fun d => d.parameters.length) = some 1 := by decide +kernel
theorem ys_X8_isLetter : Cond.static yX8_isLetter ∈ WA := wa (tt6 (j := 47) rfl) rfl
theorem yc_X8_isDigit : Cond.code yX8_isDigit cX8_isDigit 1 (some .boolean) ∈ WA := wa (tt6 (j := 51) rfl) rfl
theorem yd_X8_isDigit : yX8_isDigit.cls ≠ "java/lang/invoke/MethodHandle" ∧ yX8_isDigit.cls ≠ "java/lang/invoke/VarHandle" ∧ (parseMethodDescriptor yX8_isDigit.desc).map (fun d => d.parameters.length) = some 1 := by decide +kernel
theorem ys_X8_isDigit : Cond.static yX8_isDigit ∈ WA := wa (tt6 (j := 50) rfl) rfl
theorem yc_X8_statement : Cond.code yX8_statement cX8_statement 3 (some .boolean) ∈ WA := wa (tt6 (j := 58) rfl) rfl
theorem yd_X8_statement : yX8_statement.cls ≠ "java/lang/invoke/MethodHandle" ∧ yX8_statement.cls ≠ "java/lang/invoke/VarHandle" ∧ (parseMethodDescriptor yX8_statement.desc).map (fun d => d.parameters.length) = some 1 := by decide +kernel
theorem ym_X8_statement : Cond.instanceMethod yX8_statement ∈ WA := wa (tt6 (j := 57) rfl) rfl
theorem yv_X8_statement : Cond.selects yX8_statement.cls yX8_statement yX8_statement ∈ WA := sel_in (q := (yX8_statement, 46)) (sp3 (j := 11) rfl)
theorem yc_X8_isWord : Cond.code yX8_isWord cX8_isWord 3 (some .boolean) ∈ WA := wa (tt6 (j := 63) rfl) rfl
theorem yd_X8_isWord : yX8_isWord.cls ≠ "java/lang/invoke/MethodHandle" ∧ yX8_isWord.cls ≠ "java/lang/invoke/VarHandle" ∧ (parseMethodDescriptor yX8_isWord.desc).map (fun d => d.parameters.length) = some 1 := by decide +kernel
theorem ym_X8_isWord : Cond.instanceMethod yX8_isWord ∈ WA := wa (tt6 (j := 62) rfl) rfl
theorem yv_X8_isWord : Cond.selects yX8_isWord.cls yX8_isWord yX8_isWord ∈ WA := sel_in (q := (yX8_isWord, 46)) (sp3 (j := 12) rfl)
theorem yc_X8_told : Cond.code yX8_told cX8_told 6 (some .boolean) ∈ WA := wa (tt6 (j := 69) rfl) rfl
theorem yd_X8_told : yX8_told.cls ≠ "java/lang/invoke/MethodHandle" ∧ yX8_told.cls ≠ "java/lang/invoke/VarHandle" ∧ (parseMethodDescriptor yX8_told.desc).map (fun d => d.parameters.length) = some 5 := by decide +kernel
theorem ym_X8_told : Cond.instanceMethod yX8_told ∈ WA := wa (tt6 (j := 68) rfl) rfl
theorem yv_X8_told : Cond.selects yX8_told.cls yX8_told yX8_told ∈ WA := sel_in (q := (yX8_told, 46)) (sp3 (j := 13) rfl)
theorem yc_X8_wrong : Cond.code yX8_wrong cX8_wrong 1 (some .boolean) ∈ WA := wa (tt6 (j := 73) rfl) rfl
theorem yd_X8_wrong : yX8_wrong.cls ≠ "java/lang/invoke/MethodHandle" ∧ yX8_wrong.cls ≠ "java/lang/invoke/VarHandle" ∧ (parseMethodDescriptor yX8_wrong.desc).map (fun d => d.parameters.length) = some 0 := by decide +kernel
theorem ym_X8_wrong : Cond.instanceMethod yX8_wrong ∈ WA := wa (tt6 (j := 72) rfl) rfl
theorem yv_X8_wrong : Cond.selects yX8_wrong.cls yX8_wrong yX8_wrong ∈ WA := sel_in (q := (yX8_wrong, 46)) (sp3 (j := 14) rfl)
theorem yc_X8_houseOf : Cond.code yX8_houseOf cX8_houseOf 3 (some .int) ∈ WA := wa (tt6 (j := 85) rfl) rfl
theorem yd_X8_houseOf : yX8_houseOf.cls ≠ "java/lang/invoke/MethodHandle" ∧ yX8_houseOf.cls ≠ "java/lang/invoke/VarHandle" ∧ (parseMethodDescriptor yX8_houseOf.desc).map (fun d => d.parameters.length) = some 2 := by decide +kernel
theorem ym_X8_houseOf : Cond.instanceMethod yX8_houseOf ∈ WA := wa (tt6 (j := 83) rfl) rfl
theorem yv_X8_houseOf : Cond.selects yX8_houseOf.cls yX8_houseOf yX8_houseOf ∈ WA := wa (tt6 (j := 84) rfl) rfl
theorem yc_X8_isHouse : Cond.code yX8_isHouse cX8_isHouse 2 (some .boolean) ∈ WA := wa (tt6 (j := 89) rfl) rfl
theorem yd_X8_isHouse : yX8_isHouse.cls ≠ "java/lang/invoke/MethodHandle" ∧ yX8_isHouse.cls ≠ "java/lang/invoke/VarHandle" ∧ (parseMethodDescriptor yX8_isHouse.desc).map (fun d => d.parameters.length) = some 1 := by decide +kernel
theorem ym_X8_isHouse : Cond.instanceMethod yX8_isHouse ∈ WA := wa (tt6 (j := 88) rfl) rfl
theorem yv_X8_isHouse : Cond.selects yX8_isHouse.cls yX8_isHouse yX8_isHouse ∈ WA := sel_in (q := (yX8_isHouse, 46)) (sp3 (j := 15) rfl)
theorem yc_X8_sortOf : Cond.code yX8_sortOf cX8_sortOf 4 (some .int) ∈ WA := wa (tt6 (j := 93) rfl) rfl
theorem yd_X8_sortOf : yX8_sortOf.cls ≠ "java/lang/invoke/MethodHandle" ∧ yX8_sortOf.cls ≠ "java/lang/invoke/VarHandle" ∧ (parseMethodDescriptor yX8_sortOf.desc).map (fun d => d.parameters.length) = some 3 := by decide +kernel
theorem ym_X8_sortOf : Cond.instanceMethod yX8_sortOf ∈ WA := wa (tt6 (j := 91) rfl) rfl
theorem yv_X8_sortOf : Cond.selects yX8_sortOf.cls yX8_sortOf yX8_sortOf ∈ WA := wa (tt6 (j := 92) rfl) rfl
theorem yc_X8_sorts : Cond.code yX8_sorts cX8_sorts 2 (some .int) ∈ WA := wa (tt6 (j := 97) rfl) rfl
theorem yd_X8_sorts : yX8_sorts.cls ≠ "java/lang/invoke/MethodHandle" ∧ yX8_sorts.cls ≠ "java/lang/invoke/VarHandle" ∧ (parseMethodDescriptor yX8_sorts.desc).map (fun d => d.parameters.length) = some 1 := by decide +kernel
theorem ym_X8_sorts : Cond.instanceMethod yX8_sorts ∈ WA := wa (tt6 (j := 96) rfl) rfl
theorem yv_X8_sorts : Cond.selects yX8_sorts.cls yX8_sorts yX8_sorts ∈ WA := sel_in (q := (yX8_sorts, 46)) (sp4 (j := 0) rfl)
theorem yc_X8_alter : Cond.code yX8_alter cX8_alter 5 (some .int) ∈ WA := wa (tt6 (j := 101) rfl) rfl
theorem yd_X8_alter : yX8_alter.cls ≠ "java/lang/invoke/MethodHandle" ∧ yX8_alter.cls ≠ "java/lang/invoke/VarHandle" ∧ (parseMethodDescriptor yX8_alter.desc).map (fun d => d.parameters.length) = some 3 := by decide +kernel
theorem ym_X8_alter : Cond.instanceMethod yX8_alter ∈ WA := wa (tt6 (j := 99) rfl) rfl
theorem yv_X8_alter : Cond.selects yX8_alter.cls yX8_alter yX8_alter ∈ WA := wa (tt6 (j := 100) rfl) rfl
theorem yc_X8_change : Cond.code yX8_change cX8_change 7 (some .int) ∈ WA := wa (tt6 (j := 108) rfl) rfl
theorem yd_X8_change : yX8_change.cls ≠ "java/lang/invoke/MethodHandle" ∧ yX8_change.cls ≠ "java/lang/invoke/VarHandle" ∧ (parseMethodDescriptor yX8_change.desc).map (fun d => d.parameters.length) = some 4 := by decide +kernel
theorem ym_X8_change : Cond.instanceMethod yX8_change ∈ WA := wa (tt6 (j := 106) rfl) rfl
theorem yv_X8_change : Cond.selects yX8_change.cls yX8_change yX8_change ∈ WA := wa (tt6 (j := 107) rfl) rfl
theorem yc_X8_of : Cond.code yX8_of cX8_of 3 (some .int) ∈ WA := wa (tt6 (j := 113) rfl) rfl
theorem yd_X8_of : yX8_of.cls ≠ "java/lang/invoke/MethodHandle" ∧ yX8_of.cls ≠ "java/lang/invoke/VarHandle" ∧ (parseMethodDescriptor yX8_of.desc).map (fun d => d.parameters.length) = some 2 := by decide +kernel
theorem ym_X8_of : Cond.instanceMethod yX8_of ∈ WA := wa (tt6 (j := 111) rfl) rfl
theorem yv_X8_of : Cond.selects yX8_of.cls yX8_of yX8_of ∈ WA := wa (tt6 (j := 112) rfl) rfl
theorem yc_X8_ofState : Cond.code yX8_ofState cX8_ofState 2 (some .int) ∈ WA := wa (tt6 (j := 117) rfl) rfl
theorem yd_X8_ofState : yX8_ofState.cls ≠ "java/lang/invoke/MethodHandle" ∧ yX8_ofState.cls ≠ "java/lang/invoke/VarHandle" ∧ (parseMethodDescriptor yX8_ofState.desc).map (fun d => d.parameters.length) = some 2 := by decide +kernel
theorem ys_X8_ofState : Cond.static yX8_ofState ∈ WA := wa (tt6 (j := 116) rfl) rfl
theorem yc_X8_power : Cond.code yX8_power cX8_power 4 (some .int) ∈ WA := wa (tt6 (j := 120) rfl) rfl
theorem yd_X8_power : yX8_power.cls ≠ "java/lang/invoke/MethodHandle" ∧ yX8_power.cls ≠ "java/lang/invoke/VarHandle" ∧ (parseMethodDescriptor yX8_power.desc).map (fun d => d.parameters.length) = some 2 := by decide +kernel
theorem ys_X8_power : Cond.static yX8_power ∈ WA := wa (tt6 (j := 119) rfl) rfl
theorem yc_X8_space : Cond.code yX8_space cX8_space 3 (some .int) ∈ WA := wa (tt6 (j := 124) rfl) rfl
theorem yd_X8_space : yX8_space.cls ≠ "java/lang/invoke/MethodHandle" ∧ yX8_space.cls ≠ "java/lang/invoke/VarHandle" ∧ (parseMethodDescriptor yX8_space.desc).map (fun d => d.parameters.length) = some 2 := by decide +kernel
theorem ym_X8_space : Cond.instanceMethod yX8_space ∈ WA := wa (tt6 (j := 122) rfl) rfl
theorem yv_X8_space : Cond.selects yX8_space.cls yX8_space yX8_space ∈ WA := wa (tt6 (j := 123) rfl) rfl
theorem yc_X8_isState : Cond.code yX8_isState cX8_isState 3 (some .boolean) ∈ WA := wa (tt6 (j := 128) rfl) rfl
theorem yd_X8_isState : yX8_isState.cls ≠ "java/lang/invoke/MethodHandle" ∧ yX8_isState.cls ≠ "java/lang/invoke/VarHandle" ∧ (parseMethodDescriptor yX8_isState.desc).map (fun d => d.parameters.length) = some 2 := by decide +kernel
theorem ym_X8_isState : Cond.instanceMethod yX8_isState ∈ WA := wa (tt6 (j := 127) rfl) rfl
theorem yv_X8_isState : Cond.selects yX8_isState.cls yX8_isState yX8_isState ∈ WA := sel_in (q := (yX8_isState, 46)) (sp4 (j := 1) rfl)
theorem yc_X8_states : Cond.code yX8_states cX8_states 2 (some .int) ∈ WA := wa (tt6 (j := 132) rfl) rfl
theorem yd_X8_states : yX8_states.cls ≠ "java/lang/invoke/MethodHandle" ∧ yX8_states.cls ≠ "java/lang/invoke/VarHandle" ∧ (parseMethodDescriptor yX8_states.desc).map (fun d => d.parameters.length) = some 1 := by decide +kernel
theorem ym_X8_states : Cond.instanceMethod yX8_states ∈ WA := wa (tt6 (j := 131) rfl) rfl
theorem yv_X8_states : Cond.selects yX8_states.cls yX8_states yX8_states ∈ WA := sel_in (q := (yX8_states, 46)) (sp4 (j := 2) rfl)
theorem yc_X8_sum : Cond.code yX8_sum cX8_sum 6 (some .int) ∈ WA := wa (tt6 (j := 136) rfl) rfl
theorem yd_X8_sum : yX8_sum.cls ≠ "java/lang/invoke/MethodHandle" ∧ yX8_sum.cls ≠ "java/lang/invoke/VarHandle" ∧ (parseMethodDescriptor yX8_sum.desc).map (fun d => d.parameters.length) = some 3 := by decide +kernel
theorem ym_X8_sum : Cond.instanceMethod yX8_sum ∈ WA := wa (tt6 (j := 135) rfl) rfl
theorem yv_X8_sum : Cond.selects yX8_sum.cls yX8_sum yX8_sum ∈ WA := sel_in (q := (yX8_sum, 46)) (sp4 (j := 3) rfl)
theorem yc_X8_numberOf : Cond.code yX8_numberOf cX8_numberOf 4 (some .int) ∈ WA := wa (tt6 (j := 140) rfl) rfl
theorem yd_X8_numberOf : yX8_numberOf.cls ≠ "java/lang/invoke/MethodHandle" ∧ yX8_numberOf.cls ≠ "java/lang/invoke/VarHandle" ∧ (parseMethodDescriptor yX8_numberOf.desc).map (fun d => d.parameters.length) = some 3 := by decide +kernel
theorem ym_X8_numberOf : Cond.instanceMethod yX8_numberOf ∈ WA := wa (tt6 (j := 139) rfl) rfl
theorem yv_X8_numberOf : Cond.selects yX8_numberOf.cls yX8_numberOf yX8_numberOf ∈ WA := sel_in (q := (yX8_numberOf, 46)) (sp4 (j := 4) rfl)
theorem yc_X8_scale : Cond.code yX8_scale cX8_scale 3 (some .long) ∈ WA := wa (tt6 (j := 144) rfl) rfl
theorem yd_X8_scale : yX8_scale.cls ≠ "java/lang/invoke/MethodHandle" ∧ yX8_scale.cls ≠ "java/lang/invoke/VarHandle" ∧ (parseMethodDescriptor yX8_scale.desc).map (fun d => d.parameters.length) = some 2 := by decide +kernel
theorem ym_X8_scale : Cond.instanceMethod yX8_scale ∈ WA := wa (tt6 (j := 142) rfl) rfl
theorem yv_X8_scale : Cond.selects yX8_scale.cls yX8_scale yX8_scale ∈ WA := wa (tt6 (j := 143) rfl) rfl
theorem yc_X8_isLeft : Cond.code yX8_isLeft cX8_isLeft 3 (some .boolean) ∈ WA := wa (tt6 (j := 148) rfl) rfl
theorem yd_X8_isLeft : yX8_isLeft.cls ≠ "java/lang/invoke/MethodHandle" ∧ yX8_isLeft.cls ≠ "java/lang/invoke/VarHandle" ∧ (parseMethodDescriptor yX8_isLeft.desc).map (fun d => d.parameters.length) = some 2 := by decide +kernel
theorem ym_X8_isLeft : Cond.instanceMethod yX8_isLeft ∈ WA := wa (tt6 (j := 147) rfl) rfl
theorem yv_X8_isLeft : Cond.selects yX8_isLeft.cls yX8_isLeft yX8_isLeft ∈ WA := sel_in (q := (yX8_isLeft, 46)) (sp4 (j := 5) rfl)
theorem yc_X8_scaleOf : Cond.code yX8_scaleOf cX8_scaleOf 6 (some .long) ∈ WA := wa (tt6 (j := 152) rfl) rfl
theorem yd_X8_scaleOf : yX8_scaleOf.cls ≠ "java/lang/invoke/MethodHandle" ∧ yX8_scaleOf.cls ≠ "java/lang/invoke/VarHandle" ∧ (parseMethodDescriptor yX8_scaleOf.desc).map (fun d => d.parameters.length) = some 2 := by decide +kernel
theorem ym_X8_scaleOf : Cond.instanceMethod yX8_scaleOf ∈ WA := wa (tt6 (j := 151) rfl) rfl
theorem yv_X8_scaleOf : Cond.selects yX8_scaleOf.cls yX8_scaleOf yX8_scaleOf ∈ WA := sel_in (q := (yX8_scaleOf, 46)) (sp4 (j := 6) rfl)
theorem yc_X8_fill : Cond.code yX8_fill cX8_fill 3 (some .int) ∈ WA := wa (tt6 (j := 156) rfl) rfl
theorem yd_X8_fill : yX8_fill.cls ≠ "java/lang/invoke/MethodHandle" ∧ yX8_fill.cls ≠ "java/lang/invoke/VarHandle" ∧ (parseMethodDescriptor yX8_fill.desc).map (fun d => d.parameters.length) = some 2 := by decide +kernel
theorem ym_X8_fill : Cond.instanceMethod yX8_fill ∈ WA := wa (tt6 (j := 154) rfl) rfl
theorem yv_X8_fill : Cond.selects yX8_fill.cls yX8_fill yX8_fill ∈ WA := wa (tt6 (j := 155) rfl) rfl
theorem yc_X8_fillOf : Cond.code yX8_fillOf cX8_fillOf 10 (some .int) ∈ WA := wa (tt6 (j := 160) rfl) rfl
theorem yd_X8_fillOf : yX8_fillOf.cls ≠ "java/lang/invoke/MethodHandle" ∧ yX8_fillOf.cls ≠ "java/lang/invoke/VarHandle" ∧ (parseMethodDescriptor yX8_fillOf.desc).map (fun d => d.parameters.length) = some 2 := by decide +kernel
theorem ym_X8_fillOf : Cond.instanceMethod yX8_fillOf ∈ WA := wa (tt6 (j := 159) rfl) rfl
theorem yv_X8_fillOf : Cond.selects yX8_fillOf.cls yX8_fillOf yX8_fillOf ∈ WA := sel_in (q := (yX8_fillOf, 46)) (sp4 (j := 7) rfl)
theorem yc_X8_cost : Cond.code yX8_cost cX8_cost 4 (some .long) ∈ WA := wa (tt6 (j := 164) rfl) rfl
theorem yd_X8_cost : yX8_cost.cls ≠ "java/lang/invoke/MethodHandle" ∧ yX8_cost.cls ≠ "java/lang/invoke/VarHandle" ∧ (parseMethodDescriptor yX8_cost.desc).map (fun d => d.parameters.length) = some 3 := by decide +kernel
theorem ym_X8_cost : Cond.instanceMethod yX8_cost ∈ WA := wa (tt6 (j := 162) rfl) rfl
theorem yv_X8_cost : Cond.selects yX8_cost.cls yX8_cost yX8_cost ∈ WA := wa (tt6 (j := 163) rfl) rfl
theorem yc_X8_findBest : Cond.code yX8_findBest cX8_findBest 10 none ∈ WA := wa (tt6 (j := 168) rfl) rfl
theorem yd_X8_findBest : yX8_findBest.cls ≠ "java/lang/invoke/MethodHandle" ∧ yX8_findBest.cls ≠ "java/lang/invoke/VarHandle" ∧ (parseMethodDescriptor yX8_findBest.desc).map (fun d => d.parameters.length) = some 1 := by decide +kernel
theorem ym_X8_findBest : Cond.instanceMethod yX8_findBest ∈ WA := wa (tt6 (j := 167) rfl) rfl
theorem yv_X8_findBest : Cond.selects yX8_findBest.cls yX8_findBest yX8_findBest ∈ WA := sel_in (q := (yX8_findBest, 46)) (sp4 (j := 8) rfl)
theorem yc_X8_findWays : Cond.code yX8_findWays cX8_findWays 8 none ∈ WA := wa (tt6 (j := 172) rfl) rfl
theorem yd_X8_findWays : yX8_findWays.cls ≠ "java/lang/invoke/MethodHandle" ∧ yX8_findWays.cls ≠ "java/lang/invoke/VarHandle" ∧ (parseMethodDescriptor yX8_findWays.desc).map (fun d => d.parameters.length) = some 1 := by decide +kernel
theorem ym_X8_findWays : Cond.instanceMethod yX8_findWays ∈ WA := wa (tt6 (j := 171) rfl) rfl
theorem yv_X8_findWays : Cond.selects yX8_findWays.cls yX8_findWays yX8_findWays ∈ WA := sel_in (q := (yX8_findWays, 46)) (sp4 (j := 9) rfl)
theorem yc_X8_behind : Cond.code yX8_behind cX8_behind 11 (some .long) ∈ WA := wa (tt6 (j := 176) rfl) rfl
theorem yd_X8_behind : yX8_behind.cls ≠ "java/lang/invoke/MethodHandle" ∧ yX8_behind.cls ≠ "java/lang/invoke/VarHandle" ∧ (parseMethodDescriptor yX8_behind.desc).map (fun d => d.parameters.length) = some 4 := by decide +kernel
theorem ym_X8_behind : Cond.instanceMethod yX8_behind ∈ WA := wa (tt6 (j := 175) rfl) rfl
theorem yv_X8_behind : Cond.selects yX8_behind.cls yX8_behind yX8_behind ∈ WA := sel_in (q := (yX8_behind, 46)) (sp4 (j := 10) rfl)
theorem yc_X8_isLoad : Cond.code yX8_isLoad cX8_isLoad 4 (some .boolean) ∈ WA := wa (tt6 (j := 180) rfl) rfl
theorem yd_X8_isLoad : yX8_isLoad.cls ≠ "java/lang/invoke/MethodHandle" ∧ yX8_isLoad.cls ≠ "java/lang/invoke/VarHandle" ∧ (parseMethodDescriptor yX8_isLoad.desc).map (fun d => d.parameters.length) = some 3 := by decide +kernel
theorem ym_X8_isLoad : Cond.instanceMethod yX8_isLoad ∈ WA := wa (tt6 (j := 179) rfl) rfl
theorem yv_X8_isLoad : Cond.selects yX8_isLoad.cls yX8_isLoad yX8_isLoad ∈ WA := sel_in (q := (yX8_isLoad, 46)) (sp4 (j := 11) rfl)
theorem yc_X8_boxOf : Cond.code yX8_boxOf cX8_boxOf 3 (some .long) ∈ WA := wa (tt6 (j := 184) rfl) rfl
theorem yd_X8_boxOf : yX8_boxOf.cls ≠ "java/lang/invoke/MethodHandle" ∧ yX8_boxOf.cls ≠ "java/lang/invoke/VarHandle" ∧ (parseMethodDescriptor yX8_boxOf.desc).map (fun d => d.parameters.length) = some 2 := by decide +kernel
theorem ym_X8_boxOf : Cond.instanceMethod yX8_boxOf ∈ WA := wa (tt6 (j := 183) rfl) rfl
theorem yv_X8_boxOf : Cond.selects yX8_boxOf.cls yX8_boxOf yX8_boxOf ∈ WA := sel_in (q := (yX8_boxOf, 46)) (sp4 (j := 12) rfl)
theorem yc_X8_best : Cond.code yX8_best cX8_best 4 (some .int) ∈ WA := wa (tt6 (j := 188) rfl) rfl
theorem yd_X8_best : yX8_best.cls ≠ "java/lang/invoke/MethodHandle" ∧ yX8_best.cls ≠ "java/lang/invoke/VarHandle" ∧ (parseMethodDescriptor yX8_best.desc).map (fun d => d.parameters.length) = some 3 := by decide +kernel
theorem ym_X8_best : Cond.instanceMethod yX8_best ∈ WA := wa (tt6 (j := 186) rfl) rfl
theorem yv_X8_best : Cond.selects yX8_best.cls yX8_best yX8_best ∈ WA := wa (tt6 (j := 187) rfl) rfl
theorem yc_X8_load : Cond.code yX8_load cX8_load 6 (some .int) ∈ WA := wa (tt6 (j := 192) rfl) rfl
theorem yd_X8_load : yX8_load.cls ≠ "java/lang/invoke/MethodHandle" ∧ yX8_load.cls ≠ "java/lang/invoke/VarHandle" ∧ (parseMethodDescriptor yX8_load.desc).map (fun d => d.parameters.length) = some 4 := by decide +kernel
theorem ym_X8_load : Cond.instanceMethod yX8_load ∈ WA := wa (tt6 (j := 190) rfl) rfl
theorem yv_X8_load : Cond.selects yX8_load.cls yX8_load yX8_load ∈ WA := wa (tt6 (j := 191) rfl) rfl
theorem yc_X8_noRule : Cond.code yX8_noRule cX8_noRule 2 (some .int) ∈ WA := wa (tt6 (j := 196) rfl) rfl
theorem yd_X8_noRule : yX8_noRule.cls ≠ "java/lang/invoke/MethodHandle" ∧ yX8_noRule.cls ≠ "java/lang/invoke/VarHandle" ∧ (parseMethodDescriptor yX8_noRule.desc).map (fun d => d.parameters.length) = some 1 := by decide +kernel
theorem ym_X8_noRule : Cond.instanceMethod yX8_noRule ∈ WA := wa (tt6 (j := 195) rfl) rfl
theorem yv_X8_noRule : Cond.selects yX8_noRule.cls yX8_noRule yX8_noRule ∈ WA := sel_in (q := (yX8_noRule, 46)) (sp4 (j := 13) rfl)
theorem yc_X8_loadBy : Cond.code yX8_loadBy cX8_loadBy 5 (some .int) ∈ WA := wa (tt6 (j := 200) rfl) rfl
theorem yd_X8_loadBy : yX8_loadBy.cls ≠ "java/lang/invoke/MethodHandle" ∧ yX8_loadBy.cls ≠ "java/lang/invoke/VarHandle" ∧ (parseMethodDescriptor yX8_loadBy.desc).map (fun d => d.parameters.length) = some 4 := by decide +kernel
theorem ym_X8_loadBy : Cond.instanceMethod yX8_loadBy ∈ WA := wa (tt6 (j := 199) rfl) rfl
theorem yv_X8_loadBy : Cond.selects yX8_loadBy.cls yX8_loadBy yX8_loadBy ∈ WA := sel_in (q := (yX8_loadBy, 46)) (sp4 (j := 14) rfl)
theorem yc_X8_fillsBy : Cond.code yX8_fillsBy cX8_fillsBy 5 (some .boolean) ∈ WA := wa (tt6 (j := 204) rfl) rfl
theorem yd_X8_fillsBy : yX8_fillsBy.cls ≠ "java/lang/invoke/MethodHandle" ∧ yX8_fillsBy.cls ≠ "java/lang/invoke/VarHandle" ∧ (parseMethodDescriptor yX8_fillsBy.desc).map (fun d => d.parameters.length) = some 4 := by decide +kernel
theorem ym_X8_fillsBy : Cond.instanceMethod yX8_fillsBy ∈ WA := wa (tt6 (j := 203) rfl) rfl
theorem yv_X8_fillsBy : Cond.selects yX8_fillsBy.cls yX8_fillsBy yX8_fillsBy ∈ WA := sel_in (q := (yX8_fillsBy, 46)) (sp4 (j := 15) rfl)
theorem yc_X8_mean : Cond.code yX8_mean cX8_mean 5 (some .long) ∈ WA := wa (tt6 (j := 208) rfl) rfl
theorem yd_X8_mean : yX8_mean.cls ≠ "java/lang/invoke/MethodHandle" ∧ yX8_mean.cls ≠ "java/lang/invoke/VarHandle" ∧ (parseMethodDescriptor yX8_mean.desc).map (fun d => d.parameters.length) = some 4 := by decide +kernel
theorem ym_X8_mean : Cond.instanceMethod yX8_mean ∈ WA := wa (tt6 (j := 206) rfl) rfl
theorem yv_X8_mean : Cond.selects yX8_mean.cls yX8_mean yX8_mean ∈ WA := wa (tt6 (j := 207) rfl) rfl
theorem yc_X8_byShelf : Cond.code yX8_byShelf cX8_byShelf 7 (some .long) ∈ WA := wa (tt6 (j := 212) rfl) rfl
theorem yd_X8_byShelf : yX8_byShelf.cls ≠ "java/lang/invoke/MethodHandle" ∧ yX8_byShelf.cls ≠ "java/lang/invoke/VarHandle" ∧ (parseMethodDescriptor yX8_byShelf.desc).map (fun d => d.parameters.length) = some 5 := by decide +kernel
theorem ym_X8_byShelf : Cond.instanceMethod yX8_byShelf ∈ WA := wa (tt6 (j := 211) rfl) rfl
theorem yv_X8_byShelf : Cond.selects yX8_byShelf.cls yX8_byShelf yX8_byShelf ∈ WA := sel_in (q := (yX8_byShelf, 46)) (sp5 (j := 0) rfl)
theorem yc_X8_findByRule : Cond.code yX8_findByRule cX8_findByRule 3 none ∈ WA := wa (tt6 (j := 216) rfl) rfl
theorem yd_X8_findByRule : yX8_findByRule.cls ≠ "java/lang/invoke/MethodHandle" ∧ yX8_findByRule.cls ≠ "java/lang/invoke/VarHandle" ∧ (parseMethodDescriptor yX8_findByRule.desc).map (fun d => d.parameters.length) = some 2 := by decide +kernel
theorem ym_X8_findByRule : Cond.instanceMethod yX8_findByRule ∈ WA := wa (tt6 (j := 215) rfl) rfl
theorem yv_X8_findByRule : Cond.selects yX8_findByRule.cls yX8_findByRule yX8_findByRule ∈ WA := sel_in (q := (yX8_findByRule, 46)) (sp5 (j := 1) rfl)
theorem yc_X8_goesByRule : Cond.code yX8_goesByRule cX8_goesByRule 10 none ∈ WA := wa (tt6 (j := 220) rfl) rfl
theorem yd_X8_goesByRule : yX8_goesByRule.cls ≠ "java/lang/invoke/MethodHandle" ∧ yX8_goesByRule.cls ≠ "java/lang/invoke/VarHandle" ∧ (parseMethodDescriptor yX8_goesByRule.desc).map (fun d => d.parameters.length) = some 2 := by decide +kernel
theorem ym_X8_goesByRule : Cond.instanceMethod yX8_goesByRule ∈ WA := wa (tt6 (j := 219) rfl) rfl
theorem yv_X8_goesByRule : Cond.selects yX8_goesByRule.cls yX8_goesByRule yX8_goesByRule ∈ WA := sel_in (q := (yX8_goesByRule, 46)) (sp5 (j := 2) rfl)
theorem yc_X8_lose : Cond.code yX8_lose cX8_lose 5 (some .long) ∈ WA := wa (tt6 (j := 224) rfl) rfl
theorem yd_X8_lose : yX8_lose.cls ≠ "java/lang/invoke/MethodHandle" ∧ yX8_lose.cls ≠ "java/lang/invoke/VarHandle" ∧ (parseMethodDescriptor yX8_lose.desc).map (fun d => d.parameters.length) = some 4 := by decide +kernel
theorem ym_X8_lose : Cond.instanceMethod yX8_lose ∈ WA := wa (tt6 (j := 222) rfl) rfl
theorem yv_X8_lose : Cond.selects yX8_lose.cls yX8_lose yX8_lose ∈ WA := wa (tt6 (j := 223) rfl) rfl
theorem yc_X8_boy : Cond.code yX8_boy cX8_boy 8 (some .int) ∈ WA := wa (tt6 (j := 228) rfl) rfl
theorem yd_X8_boy : yX8_boy.cls ≠ "java/lang/invoke/MethodHandle" ∧ yX8_boy.cls ≠ "java/lang/invoke/VarHandle" ∧ (parseMethodDescriptor yX8_boy.desc).map (fun d => d.parameters.length) = some 1 := by decide +kernel
theorem ym_X8_boy : Cond.instanceMethod yX8_boy ∈ WA := wa (tt6 (j := 226) rfl) rfl
theorem yv_X8_boy : Cond.selects yX8_boy.cls yX8_boy yX8_boy ∈ WA := wa (tt6 (j := 227) rfl) rfl
theorem yc_X8_waits : Cond.code yX8_waits cX8_waits 4 (some .long) ∈ WA := wa (tt6 (j := 232) rfl) rfl
theorem yd_X8_waits : yX8_waits.cls ≠ "java/lang/invoke/MethodHandle" ∧ yX8_waits.cls ≠ "java/lang/invoke/VarHandle" ∧ (parseMethodDescriptor yX8_waits.desc).map (fun d => d.parameters.length) = some 3 := by decide +kernel
theorem ym_X8_waits : Cond.instanceMethod yX8_waits ∈ WA := wa (tt6 (j := 230) rfl) rfl
theorem yv_X8_waits : Cond.selects yX8_waits.cls yX8_waits yX8_waits ∈ WA := wa (tt6 (j := 231) rfl) rfl
theorem yc_X8_once : Cond.code yX8_once cX8_once 4 (some .long) ∈ WA := wa (tt6 (j := 236) rfl) rfl
theorem yd_X8_once : yX8_once.cls ≠ "java/lang/invoke/MethodHandle" ∧ yX8_once.cls ≠ "java/lang/invoke/VarHandle" ∧ (parseMethodDescriptor yX8_once.desc).map (fun d => d.parameters.length) = some 3 := by decide +kernel
theorem ym_X8_once : Cond.instanceMethod yX8_once ∈ WA := wa (tt6 (j := 234) rfl) rfl
theorem yv_X8_once : Cond.selects yX8_once.cls yX8_once yX8_once ∈ WA := wa (tt6 (j := 235) rfl) rfl
theorem yc_X8_withLoad : Cond.code yX8_withLoad cX8_withLoad 10 (some .long) ∈ WA := wa (tt7 (j := 0) rfl) rfl
theorem yd_X8_withLoad : yX8_withLoad.cls ≠ "java/lang/invoke/MethodHandle" ∧ yX8_withLoad.cls ≠ "java/lang/invoke/VarHandle" ∧ (parseMethodDescriptor yX8_withLoad.desc).map (fun d => d.parameters.length) = some 5 := by decide +kernel
theorem ym_X8_withLoad : Cond.instanceMethod yX8_withLoad ∈ WA := wa (tt6 (j := 239) rfl) rfl
theorem yv_X8_withLoad : Cond.selects yX8_withLoad.cls yX8_withLoad yX8_withLoad ∈ WA := sel_in (q := (yX8_withLoad, 46)) (sp5 (j := 3) rfl)
theorem yc_X8_chance : Cond.code yX8_chance cX8_chance 6 (some .long) ∈ WA := wa (tt7 (j := 4) rfl) rfl
theorem yd_X8_chance : yX8_chance.cls ≠ "java/lang/invoke/MethodHandle" ∧ yX8_chance.cls ≠ "java/lang/invoke/VarHandle" ∧ (parseMethodDescriptor yX8_chance.desc).map (fun d => d.parameters.length) = some 4 := by decide +kernel
theorem ym_X8_chance : Cond.instanceMethod yX8_chance ∈ WA := wa (tt7 (j := 2) rfl) rfl
theorem yv_X8_chance : Cond.selects yX8_chance.cls yX8_chance yX8_chance ∈ WA := wa (tt7 (j := 3) rfl) rfl
theorem yc_X8_findChances : Cond.code yX8_findChances cX8_findChances 8 none ∈ WA := wa (tt7 (j := 8) rfl) rfl
theorem yd_X8_findChances : yX8_findChances.cls ≠ "java/lang/invoke/MethodHandle" ∧ yX8_findChances.cls ≠ "java/lang/invoke/VarHandle" ∧ (parseMethodDescriptor yX8_findChances.desc).map (fun d => d.parameters.length) = some 2 := by decide +kernel
theorem ym_X8_findChances : Cond.instanceMethod yX8_findChances ∈ WA := wa (tt7 (j := 7) rfl) rfl
theorem yv_X8_findChances : Cond.selects yX8_findChances.cls yX8_findChances yX8_findChances ∈ WA := sel_in (q := (yX8_findChances, 46)) (sp5 (j := 4) rfl)
theorem yc_X8_goesOn : Cond.code yX8_goesOn cX8_goesOn 14 none ∈ WA := wa (tt7 (j := 12) rfl) rfl
theorem yd_X8_goesOn : yX8_goesOn.cls ≠ "java/lang/invoke/MethodHandle" ∧ yX8_goesOn.cls ≠ "java/lang/invoke/VarHandle" ∧ (parseMethodDescriptor yX8_goesOn.desc).map (fun d => d.parameters.length) = some 4 := by decide +kernel
theorem ym_X8_goesOn : Cond.instanceMethod yX8_goesOn ∈ WA := wa (tt7 (j := 11) rfl) rfl
theorem yv_X8_goesOn : Cond.selects yX8_goesOn.cls yX8_goesOn yX8_goesOn ∈ WA := sel_in (q := (yX8_goesOn, 46)) (sp5 (j := 5) rfl)
theorem yc_X8_reach : Cond.code yX8_reach cX8_reach 7 (some .int) ∈ WA := wa (tt7 (j := 16) rfl) rfl
theorem yd_X8_reach : yX8_reach.cls ≠ "java/lang/invoke/MethodHandle" ∧ yX8_reach.cls ≠ "java/lang/invoke/VarHandle" ∧ (parseMethodDescriptor yX8_reach.desc).map (fun d => d.parameters.length) = some 3 := by decide +kernel
theorem ym_X8_reach : Cond.instanceMethod yX8_reach ∈ WA := wa (tt7 (j := 14) rfl) rfl
theorem yv_X8_reach : Cond.selects yX8_reach.cls yX8_reach yX8_reach ∈ WA := wa (tt7 (j := 15) rfl) rfl
theorem yc_X8_held : Cond.code yX8_held cX8_held 5 (some .long) ∈ WA := wa (tt7 (j := 20) rfl) rfl
theorem yd_X8_held : yX8_held.cls ≠ "java/lang/invoke/MethodHandle" ∧ yX8_held.cls ≠ "java/lang/invoke/VarHandle" ∧ (parseMethodDescriptor yX8_held.desc).map (fun d => d.parameters.length) = some 3 := by decide +kernel
theorem ym_X8_held : Cond.instanceMethod yX8_held ∈ WA := wa (tt7 (j := 18) rfl) rfl
theorem yv_X8_held : Cond.selects yX8_held.cls yX8_held yX8_held ∈ WA := wa (tt7 (j := 19) rfl) rfl
theorem yc_X8_meanOf : Cond.code yX8_meanOf cX8_meanOf 14 (some .long) ∈ WA := wa (tt7 (j := 24) rfl) rfl
theorem yd_X8_meanOf : yX8_meanOf.cls ≠ "java/lang/invoke/MethodHandle" ∧ yX8_meanOf.cls ≠ "java/lang/invoke/VarHandle" ∧ (parseMethodDescriptor yX8_meanOf.desc).map (fun d => d.parameters.length) = some 3 := by decide +kernel
theorem ym_X8_meanOf : Cond.instanceMethod yX8_meanOf ∈ WA := wa (tt7 (j := 23) rfl) rfl
theorem yv_X8_meanOf : Cond.selects yX8_meanOf.cls yX8_meanOf yX8_meanOf ∈ WA := sel_in (q := (yX8_meanOf, 46)) (sp5 (j := 6) rfl)
theorem yc_X8_boxes : Cond.code yX8_boxes cX8_boxes 4 (some .long) ∈ WA := wa (tt7 (j := 28) rfl) rfl
theorem yd_X8_boxes : yX8_boxes.cls ≠ "java/lang/invoke/MethodHandle" ∧ yX8_boxes.cls ≠ "java/lang/invoke/VarHandle" ∧ (parseMethodDescriptor yX8_boxes.desc).map (fun d => d.parameters.length) = some 2 := by decide +kernel
theorem ym_X8_boxes : Cond.instanceMethod yX8_boxes ∈ WA := wa (tt7 (j := 26) rfl) rfl
theorem yv_X8_boxes : Cond.selects yX8_boxes.cls yX8_boxes yX8_boxes ∈ WA := wa (tt7 (j := 27) rfl) rfl
theorem yc_X8_plain : Cond.code yX8_plain cX8_plain 2 (some .int) ∈ WA := wa (tt7 (j := 32) rfl) rfl
theorem yd_X8_plain : yX8_plain.cls ≠ "java/lang/invoke/MethodHandle" ∧ yX8_plain.cls ≠ "java/lang/invoke/VarHandle" ∧ (parseMethodDescriptor yX8_plain.desc).map (fun d => d.parameters.length) = some 1 := by decide +kernel
theorem ym_X8_plain : Cond.instanceMethod yX8_plain ∈ WA := wa (tt7 (j := 30) rfl) rfl
theorem yv_X8_plain : Cond.selects yX8_plain.cls yX8_plain yX8_plain ∈ WA := wa (tt7 (j := 31) rfl) rfl
theorem yc_X8_leastOf : Cond.code yX8_leastOf cX8_leastOf 11 (some .int) ∈ WA := wa (tt7 (j := 36) rfl) rfl
theorem yd_X8_leastOf : yX8_leastOf.cls ≠ "java/lang/invoke/MethodHandle" ∧ yX8_leastOf.cls ≠ "java/lang/invoke/VarHandle" ∧ (parseMethodDescriptor yX8_leastOf.desc).map (fun d => d.parameters.length) = some 4 := by decide +kernel
theorem ym_X8_leastOf : Cond.instanceMethod yX8_leastOf ∈ WA := wa (tt7 (j := 35) rfl) rfl
theorem yv_X8_leastOf : Cond.selects yX8_leastOf.cls yX8_leastOf yX8_leastOf ∈ WA := sel_in (q := (yX8_leastOf, 46)) (sp5 (j := 7) rfl)
theorem yc_X8_hasRoom : Cond.code yX8_hasRoom cX8_hasRoom 4 (some .boolean) ∈ WA := wa (tt7 (j := 40) rfl) rfl
theorem yd_X8_hasRoom : yX8_hasRoom.cls ≠ "java/lang/invoke/MethodHandle" ∧ yX8_hasRoom.cls ≠ "java/lang/invoke/VarHandle" ∧ (parseMethodDescriptor yX8_hasRoom.desc).map (fun d => d.parameters.length) = some 2 := by decide +kernel
theorem ym_X8_hasRoom : Cond.instanceMethod yX8_hasRoom ∈ WA := wa (tt7 (j := 39) rfl) rfl
theorem yv_X8_hasRoom : Cond.selects yX8_hasRoom.cls yX8_hasRoom yX8_hasRoom ∈ WA := sel_in (q := (yX8_hasRoom, 46)) (sp5 (j := 8) rfl)
theorem yc_X8_every : Cond.code yX8_every cX8_every 2 (some .int) ∈ WA := wa (tt7 (j := 44) rfl) rfl
theorem yd_X8_every : yX8_every.cls ≠ "java/lang/invoke/MethodHandle" ∧ yX8_every.cls ≠ "java/lang/invoke/VarHandle" ∧ (parseMethodDescriptor yX8_every.desc).map (fun d => d.parameters.length) = some 1 := by decide +kernel
theorem ym_X8_every : Cond.instanceMethod yX8_every ∈ WA := wa (tt7 (j := 42) rfl) rfl
theorem yv_X8_every : Cond.selects yX8_every.cls yX8_every yX8_every ∈ WA := wa (tt7 (j := 43) rfl) rfl
theorem yc_X8_promise : Cond.code yX8_promise cX8_promise 5 (some .long) ∈ WA := wa (tt7 (j := 48) rfl) rfl
theorem yd_X8_promise : yX8_promise.cls ≠ "java/lang/invoke/MethodHandle" ∧ yX8_promise.cls ≠ "java/lang/invoke/VarHandle" ∧ (parseMethodDescriptor yX8_promise.desc).map (fun d => d.parameters.length) = some 2 := by decide +kernel
theorem ym_X8_promise : Cond.instanceMethod yX8_promise ∈ WA := wa (tt7 (j := 46) rfl) rfl
theorem yv_X8_promise : Cond.selects yX8_promise.cls yX8_promise yX8_promise ∈ WA := wa (tt7 (j := 47) rfl) rfl
theorem yc_X8_dear : Cond.code yX8_dear cX8_dear 5 (some .long) ∈ WA := wa (tt7 (j := 52) rfl) rfl
theorem yd_X8_dear : yX8_dear.cls ≠ "java/lang/invoke/MethodHandle" ∧ yX8_dear.cls ≠ "java/lang/invoke/VarHandle" ∧ (parseMethodDescriptor yX8_dear.desc).map (fun d => d.parameters.length) = some 4 := by decide +kernel
theorem ym_X8_dear : Cond.instanceMethod yX8_dear ∈ WA := wa (tt7 (j := 50) rfl) rfl
theorem yv_X8_dear : Cond.selects yX8_dear.cls yX8_dear yX8_dear ∈ WA := wa (tt7 (j := 51) rfl) rfl
theorem yc_X8_shape : Cond.code yX8_shape cX8_shape 3 (some .int) ∈ WA := wa (tt7 (j := 56) rfl) rfl
theorem yd_X8_shape : yX8_shape.cls ≠ "java/lang/invoke/MethodHandle" ∧ yX8_shape.cls ≠ "java/lang/invoke/VarHandle" ∧ (parseMethodDescriptor yX8_shape.desc).map (fun d => d.parameters.length) = some 2 := by decide +kernel
theorem ym_X8_shape : Cond.instanceMethod yX8_shape ∈ WA := wa (tt7 (j := 54) rfl) rfl
theorem yv_X8_shape : Cond.selects yX8_shape.cls yX8_shape yX8_shape ∈ WA := wa (tt7 (j := 55) rfl) rfl
theorem yc_X8_findRooms : Cond.code yX8_findRooms cX8_findRooms 5 (some .boolean) ∈ WA := wa (tt7 (j := 60) rfl) rfl
theorem yd_X8_findRooms : yX8_findRooms.cls ≠ "java/lang/invoke/MethodHandle" ∧ yX8_findRooms.cls ≠ "java/lang/invoke/VarHandle" ∧ (parseMethodDescriptor yX8_findRooms.desc).map (fun d => d.parameters.length) = some 2 := by decide +kernel
theorem ym_X8_findRooms : Cond.instanceMethod yX8_findRooms ∈ WA := wa (tt7 (j := 59) rfl) rfl
theorem yv_X8_findRooms : Cond.selects yX8_findRooms.cls yX8_findRooms yX8_findRooms ∈ WA := sel_in (q := (yX8_findRooms, 46)) (sp5 (j := 9) rfl)
theorem yc_X8_odd : Cond.code yX8_odd cX8_odd 4 (some .int) ∈ WA := wa (tt7 (j := 64) rfl) rfl
theorem yd_X8_odd : yX8_odd.cls ≠ "java/lang/invoke/MethodHandle" ∧ yX8_odd.cls ≠ "java/lang/invoke/VarHandle" ∧ (parseMethodDescriptor yX8_odd.desc).map (fun d => d.parameters.length) = some 2 := by decide +kernel
theorem ym_X8_odd : Cond.instanceMethod yX8_odd ∈ WA := wa (tt7 (j := 62) rfl) rfl
theorem yv_X8_odd : Cond.selects yX8_odd.cls yX8_odd yX8_odd ∈ WA := wa (tt7 (j := 63) rfl) rfl
theorem yc_X8_judge : Cond.code yX8_judge cX8_judge 6 (some .int) ∈ WA := wa (tt7 (j := 68) rfl) rfl
theorem yd_X8_judge : yX8_judge.cls ≠ "java/lang/invoke/MethodHandle" ∧ yX8_judge.cls ≠ "java/lang/invoke/VarHandle" ∧ (parseMethodDescriptor yX8_judge.desc).map (fun d => d.parameters.length) = some 3 := by decide +kernel
theorem ym_X8_judge : Cond.instanceMethod yX8_judge ∈ WA := wa (tt7 (j := 66) rfl) rfl
theorem yv_X8_judge : Cond.selects yX8_judge.cls yX8_judge yX8_judge ∈ WA := wa (tt7 (j := 67) rfl) rfl
theorem yc_X8_join : Cond.code yX8_join cX8_join 3 (some .int) ∈ WA := wa (tt7 (j := 72) rfl) rfl
theorem yd_X8_join : yX8_join.cls ≠ "java/lang/invoke/MethodHandle" ∧ yX8_join.cls ≠ "java/lang/invoke/VarHandle" ∧ (parseMethodDescriptor yX8_join.desc).map (fun d => d.parameters.length) = some 2 := by decide +kernel
theorem ym_X8_join : Cond.instanceMethod yX8_join ∈ WA := wa (tt7 (j := 70) rfl) rfl
theorem yv_X8_join : Cond.selects yX8_join.cls yX8_join yX8_join ∈ WA := wa (tt7 (j := 71) rfl) rfl
theorem yc_X8_mayJoin : Cond.code yX8_mayJoin cX8_mayJoin 3 (some .boolean) ∈ WA := wa (tt7 (j := 76) rfl) rfl
theorem yd_X8_mayJoin : yX8_mayJoin.cls ≠ "java/lang/invoke/MethodHandle" ∧ yX8_mayJoin.cls ≠ "java/lang/invoke/VarHandle" ∧ (parseMethodDescriptor yX8_mayJoin.desc).map (fun d => d.parameters.length) = some 2 := by decide +kernel
theorem ym_X8_mayJoin : Cond.instanceMethod yX8_mayJoin ∈ WA := wa (tt7 (j := 75) rfl) rfl
theorem yv_X8_mayJoin : Cond.selects yX8_mayJoin.cls yX8_mayJoin yX8_mayJoin ∈ WA := sel_in (q := (yX8_mayJoin, 46)) (sp5 (j := 10) rfl)
theorem yc_X8_joinTo : Cond.code yX8_joinTo cX8_joinTo 5 none ∈ WA := wa (tt7 (j := 80) rfl) rfl
theorem yd_X8_joinTo : yX8_joinTo.cls ≠ "java/lang/invoke/MethodHandle" ∧ yX8_joinTo.cls ≠ "java/lang/invoke/VarHandle" ∧ (parseMethodDescriptor yX8_joinTo.desc).map (fun d => d.parameters.length) = some 3 := by decide +kernel
theorem ym_X8_joinTo : Cond.instanceMethod yX8_joinTo ∈ WA := wa (tt7 (j := 79) rfl) rfl
theorem yv_X8_joinTo : Cond.selects yX8_joinTo.cls yX8_joinTo yX8_joinTo ∈ WA := sel_in (q := (yX8_joinTo, 46)) (sp5 (j := 11) rfl)
theorem yc_X8_saved : Cond.code yX8_saved cX8_saved 12 (some .long) ∈ WA := wa (tt7 (j := 84) rfl) rfl
theorem yd_X8_saved : yX8_saved.cls ≠ "java/lang/invoke/MethodHandle" ∧ yX8_saved.cls ≠ "java/lang/invoke/VarHandle" ∧ (parseMethodDescriptor yX8_saved.desc).map (fun d => d.parameters.length) = some 2 := by decide +kernel
theorem ym_X8_saved : Cond.instanceMethod yX8_saved ∈ WA := wa (tt7 (j := 82) rfl) rfl
theorem yv_X8_saved : Cond.selects yX8_saved.cls yX8_saved yX8_saved ∈ WA := wa (tt7 (j := 83) rfl) rfl
theorem yc_X8_wholeCost : Cond.code yX8_wholeCost cX8_wholeCost 2 (some .long) ∈ WA := wa (tt7 (j := 88) rfl) rfl
theorem yd_X8_wholeCost : yX8_wholeCost.cls ≠ "java/lang/invoke/MethodHandle" ∧ yX8_wholeCost.cls ≠ "java/lang/invoke/VarHandle" ∧ (parseMethodDescriptor yX8_wholeCost.desc).map (fun d => d.parameters.length) = some 1 := by decide +kernel
theorem ym_X8_wholeCost : Cond.instanceMethod yX8_wholeCost ∈ WA := wa (tt7 (j := 87) rfl) rfl
theorem yv_X8_wholeCost : Cond.selects yX8_wholeCost.cls yX8_wholeCost yX8_wholeCost ∈ WA := sel_in (q := (yX8_wholeCost, 46)) (sp5 (j := 12) rfl)
theorem yc_X8_seed : Cond.code yX8_seed cX8_seed 3 (some .int) ∈ WA := wa (tt7 (j := 92) rfl) rfl
theorem yd_X8_seed : yX8_seed.cls ≠ "java/lang/invoke/MethodHandle" ∧ yX8_seed.cls ≠ "java/lang/invoke/VarHandle" ∧ (parseMethodDescriptor yX8_seed.desc).map (fun d => d.parameters.length) = some 1 := by decide +kernel
theorem ym_X8_seed : Cond.instanceMethod yX8_seed ∈ WA := wa (tt7 (j := 90) rfl) rfl
theorem yv_X8_seed : Cond.selects yX8_seed.cls yX8_seed yX8_seed ∈ WA := wa (tt7 (j := 91) rfl) rfl
theorem yc_X8_begin : Cond.code yX8_begin cX8_begin 5 (some .int) ∈ WA := wa (tt7 (j := 96) rfl) rfl
theorem yd_X8_begin : yX8_begin.cls ≠ "java/lang/invoke/MethodHandle" ∧ yX8_begin.cls ≠ "java/lang/invoke/VarHandle" ∧ (parseMethodDescriptor yX8_begin.desc).map (fun d => d.parameters.length) = some 2 := by decide +kernel
theorem ym_X8_begin : Cond.instanceMethod yX8_begin ∈ WA := wa (tt7 (j := 94) rfl) rfl
theorem yv_X8_begin : Cond.selects yX8_begin.cls yX8_begin yX8_begin ∈ WA := wa (tt7 (j := 95) rfl) rfl
theorem yc_X8_step : Cond.code yX8_step cX8_step 4 (some .int) ∈ WA := wa (tt7 (j := 100) rfl) rfl
theorem yd_X8_step : yX8_step.cls ≠ "java/lang/invoke/MethodHandle" ∧ yX8_step.cls ≠ "java/lang/invoke/VarHandle" ∧ (parseMethodDescriptor yX8_step.desc).map (fun d => d.parameters.length) = some 1 := by decide +kernel
theorem ym_X8_step : Cond.instanceMethod yX8_step ∈ WA := wa (tt7 (j := 98) rfl) rfl
theorem yv_X8_step : Cond.selects yX8_step.cls yX8_step yX8_step ∈ WA := wa (tt7 (j := 99) rfl) rfl
theorem yc_X8_day : Cond.code yX8_day cX8_day 9 (some .int) ∈ WA := wa (tt7 (j := 104) rfl) rfl
theorem yd_X8_day : yX8_day.cls ≠ "java/lang/invoke/MethodHandle" ∧ yX8_day.cls ≠ "java/lang/invoke/VarHandle" ∧ (parseMethodDescriptor yX8_day.desc).map (fun d => d.parameters.length) = some 4 := by decide +kernel
theorem ym_X8_day : Cond.instanceMethod yX8_day ∈ WA := wa (tt7 (j := 103) rfl) rfl
theorem yv_X8_day : Cond.selects yX8_day.cls yX8_day yX8_day ∈ WA := sel_in (q := (yX8_day, 46)) (sp5 (j := 13) rfl)
theorem yc_X8_draw : Cond.code yX8_draw cX8_draw 1 (some .int) ∈ WA := wa (tt7 (j := 108) rfl) rfl
theorem yd_X8_draw : yX8_draw.cls ≠ "java/lang/invoke/MethodHandle" ∧ yX8_draw.cls ≠ "java/lang/invoke/VarHandle" ∧ (parseMethodDescriptor yX8_draw.desc).map (fun d => d.parameters.length) = some 0 := by decide +kernel
theorem ym_X8_draw : Cond.instanceMethod yX8_draw ∈ WA := wa (tt7 (j := 107) rfl) rfl
theorem yv_X8_draw : Cond.selects yX8_draw.cls yX8_draw yX8_draw ∈ WA := sel_in (q := (yX8_draw, 46)) (sp5 (j := 14) rfl)
theorem yc_X8_week : Cond.code yX8_week cX8_week 2 (some .int) ∈ WA := wa (tt7 (j := 113) rfl) rfl
theorem yd_X8_week : yX8_week.cls ≠ "java/lang/invoke/MethodHandle" ∧ yX8_week.cls ≠ "java/lang/invoke/VarHandle" ∧ (parseMethodDescriptor yX8_week.desc).map (fun d => d.parameters.length) = some 1 := by decide +kernel
theorem ym_X8_week : Cond.instanceMethod yX8_week ∈ WA := wa (tt7 (j := 111) rfl) rfl
theorem yv_X8_week : Cond.selects yX8_week.cls yX8_week yX8_week ∈ WA := wa (tt7 (j := 112) rfl) rfl
theorem yc_X8_weeks : Cond.code yX8_weeks cX8_weeks 9 (some .int) ∈ WA := wa (tt7 (j := 117) rfl) rfl
theorem yd_X8_weeks : yX8_weeks.cls ≠ "java/lang/invoke/MethodHandle" ∧ yX8_weeks.cls ≠ "java/lang/invoke/VarHandle" ∧ (parseMethodDescriptor yX8_weeks.desc).map (fun d => d.parameters.length) = some 3 := by decide +kernel
theorem ym_X8_weeks : Cond.instanceMethod yX8_weeks ∈ WA := wa (tt7 (j := 115) rfl) rfl
theorem yv_X8_weeks : Cond.selects yX8_weeks.cls yX8_weeks yX8_weeks ∈ WA := wa (tt7 (j := 116) rfl) rfl
theorem yc_X8_image : Cond.code yX8_image cX8_image 1 (some .int) ∈ WA := wa (tt7 (j := 122) rfl) rfl
theorem yd_X8_image : yX8_image.cls ≠ "java/lang/invoke/MethodHandle" ∧ yX8_image.cls ≠ "java/lang/invoke/VarHandle" ∧ (parseMethodDescriptor yX8_image.desc).map (fun d => d.parameters.length) = some 0 := by decide +kernel
theorem ym_X8_image : Cond.instanceMethod yX8_image ∈ WA := wa (tt7 (j := 120) rfl) rfl
theorem yv_X8_image : Cond.selects yX8_image.cls yX8_image yX8_image ∈ WA := wa (tt7 (j := 121) rfl) rfl
theorem yc_X8_takeFrom : Cond.code yX8_takeFrom cX8_takeFrom 4 none ∈ WA := wa (tt7 (j := 128) rfl) rfl
theorem yd_X8_takeFrom : yX8_takeFrom.cls ≠ "java/lang/invoke/MethodHandle" ∧ yX8_takeFrom.cls ≠ "java/lang/invoke/VarHandle" ∧ (parseMethodDescriptor yX8_takeFrom.desc).map (fun d => d.parameters.length) = some 1 := by decide +kernel
theorem ym_X8_takeFrom : Cond.instanceMethod yX8_takeFrom ∈ WA := wa (tt7 (j := 127) rfl) rfl
theorem yv_X8_takeFrom : Cond.selects yX8_takeFrom.cls yX8_takeFrom yX8_takeFrom ∈ WA := sel_in (q := (yX8_takeFrom, 46)) (sp5 (j := 15) rfl)
theorem yc_X8_back : Cond.code yX8_back cX8_back 1 (some .int) ∈ WA := wa (tt7 (j := 132) rfl) rfl
theorem yd_X8_back : yX8_back.cls ≠ "java/lang/invoke/MethodHandle" ∧ yX8_back.cls ≠ "java/lang/invoke/VarHandle" ∧ (parseMethodDescriptor yX8_back.desc).map (fun d => d.parameters.length) = some 0 := by decide +kernel
theorem ym_X8_back : Cond.instanceMethod yX8_back ∈ WA := wa (tt7 (j := 130) rfl) rfl
theorem yv_X8_back : Cond.selects yX8_back.cls yX8_back yX8_back ∈ WA := wa (tt7 (j := 131) rfl) rfl
theorem yc_X8_status : Cond.code yX8_status cX8_status 4 (some .int) ∈ WA := wa (tt7 (j := 136) rfl) rfl
theorem yd_X8_status : yX8_status.cls ≠ "java/lang/invoke/MethodHandle" ∧ yX8_status.cls ≠ "java/lang/invoke/VarHandle" ∧ (parseMethodDescriptor yX8_status.desc).map (fun d => d.parameters.length) = some 1 := by decide +kernel
theorem ym_X8_status : Cond.instanceMethod yX8_status ∈ WA := wa (tt7 (j := 134) rfl) rfl
theorem yv_X8_status : Cond.selects yX8_status.cls yX8_status yX8_status ∈ WA := wa (tt7 (j := 135) rfl) rfl
theorem mL_9 : MI RL 9 yX7_init cX7_init 2 0 := ⟨⟨wa (tt1 (j := 18) rfl) rfl, yc_X7_init, yi_RX7, yd_X7_init, by decide⟩, ym_X7_init, rfl⟩
theorem mX7_9 : MI RX7 9 yX6_init cX6_init 2 0 := ⟨⟨wa (tt1 (j := 26) rfl) rfl, yc_X6_init, yi_RX6, yd_X6_init, by decide⟩, ym_X6_init, rfl⟩
theorem mL_13 : MV RL 13 yX7_row cX7_row 4 (some .int) 3 7 := ⟨⟨wa (tt1 (j := 221) rfl) rfl, yc_X7_row, yi_RX7, yd_X7_row, by decide⟩, ym_X7_row, yv_X7_row, ⟨_, _, rfl⟩, by decide⟩
theorem mX7_70 : MS RX7 70 yX7_isShelf cX7_isShelf 1 (some .boolean) 1 := ⟨⟨wa (tt1 (j := 225) rfl) rfl, yc_X7_isShelf, yi_RX7, yd_X7_isShelf, by decide⟩, ys_X7_isShelf⟩
theorem mX7_74 : MV RX7 74 yX7_refuse cX7_refuse 3 (some .int) 1 7 := ⟨⟨wa (tt1 (j := 228) rfl) rfl, yc_X7_refuse, yi_RX7, yd_X7_refuse, by decide⟩, ym_X7_refuse, yv_X7_refuse, ⟨_, _, rfl⟩, by decide⟩
theorem mX7_78 : MI RX7 78 yX2_init cX2_init 3 2 := ⟨⟨wa (tt1 (j := 233) rfl) rfl, yc_X2_init, yi_RX2, yd_X2_init, by decide⟩, ym_X2_init, rfl⟩
theorem mX7_81 : MV RX7 81 yX7_putOnShelf cX7_putOnShelf 4 none 3 7 := ⟨⟨wa (tt2 (j := 5) rfl) rfl, yc_X7_putOnShelf, yi_RX7, yd_X7_putOnShelf, by decide⟩, ym_X7_putOnShelf, yv_X7_putOnShelf, ⟨_, _, rfl⟩, by decide⟩
theorem mL_20 : MV RL 20 yX7_set cX7_set 6 (some .int) 3 7 := ⟨⟨wa (tt2 (j := 9) rfl) rfl, yc_X7_set, yi_RX7, yd_X7_set, by decide⟩, ym_X7_set, yv_X7_set, ⟨_, _, rfl⟩, by decide⟩
theorem mX7_85 : MV RX7 85 yX7_rowAt cX7_rowAt 2 (some (.object "SendTheBox$Row")) 1 7 := ⟨⟨wa (tt2 (j := 13) rfl) rfl, yc_X7_rowAt, yi_RX7, yd_X7_rowAt, by decide⟩, ym_X7_rowAt, yv_X7_rowAt, ⟨_, _, rfl⟩, by decide⟩
theorem mX7_89 : MV RX7 89 yX7_lackOnShelf cX7_lackOnShelf 2 (some .int) 1 7 := ⟨⟨wa (tt2 (j := 17) rfl) rfl, yc_X7_lackOnShelf, yi_RX7, yd_X7_lackOnShelf, by decide⟩, ym_X7_lackOnShelf, yv_X7_lackOnShelf, ⟨_, _, rfl⟩, by decide⟩
theorem mX7_99 : MV RX7 99 yX7_ruleAt cX7_ruleAt 2 (some (.object "SendTheBox$Rule")) 1 7 := ⟨⟨wa (tt2 (j := 21) rfl) rfl, yc_X7_ruleAt, yi_RX7, yd_X7_ruleAt, by decide⟩, ym_X7_ruleAt, yv_X7_ruleAt, ⟨_, _, rfl⟩, by decide⟩
theorem mX7_92 : MV RX7 92 yX2_hasPlace cX2_hasPlace 2 (some .boolean) 1 2 := ⟨⟨wa (tt2 (j := 25) rfl) rfl, yc_X2_hasPlace, yi_RX2, yd_X2_hasPlace, by decide⟩, ym_X2_hasPlace, yv_X2_hasPlace, ⟨_, _, rfl⟩, by decide⟩
theorem mX7_95 : MV RX7 95 yX2_put cX2_put 4 none 2 2 := ⟨⟨wa (tt2 (j := 29) rfl) rfl, yc_X2_put, yi_RX2, yd_X2_put, by decide⟩, ym_X2_put, yv_X2_put, ⟨_, _, rfl⟩, by decide⟩
theorem mX2_23 : MV RX2 23 yX2_hasPlace cX2_hasPlace 2 (some .boolean) 1 2 := ⟨⟨wa (tt2 (j := 33) rfl) rfl, yc_X2_hasPlace, yi_RX2, yd_X2_hasPlace, by decide⟩, ym_X2_hasPlace, yv_X2_hasPlace, ⟨_, _, rfl⟩, by decide⟩
theorem mX2_27 : MV RX2 27 yX2_lowestBits cX2_lowestBits 3 (some .long) 1 2 := ⟨⟨wa (tt2 (j := 34) rfl) rfl, yc_X2_lowestBits, yi_RX2, yd_X2_lowestBits, by decide⟩, ym_X2_lowestBits, yv_X2_lowestBits, ⟨_, _, rfl⟩, by decide⟩
theorem mL_25 : MV RL 25 yX7_copy cX7_copy 8 (some .int) 5 7 := ⟨⟨wa (tt2 (j := 38) rfl) rfl, yc_X7_copy, yi_RX7, yd_X7_copy, by decide⟩, ym_X7_copy, yv_X7_copy, ⟨_, _, rfl⟩, by decide⟩
theorem mX7_107 : MV RX7 107 yX2_hasRange cX2_hasRange 3 (some .boolean) 2 2 := ⟨⟨wa (tt2 (j := 42) rfl) rfl, yc_X2_hasRange, yi_RX2, yd_X2_hasRange, by decide⟩, ym_X2_hasRange, yv_X2_hasRange, ⟨_, _, rfl⟩, by decide⟩
theorem mX7_111 : MV RX7 111 yX2_take cX2_take 5 none 4 2 := ⟨⟨wa (tt2 (j := 46) rfl) rfl, yc_X2_take, yi_RX2, yd_X2_take, by decide⟩, ym_X2_take, yv_X2_take, ⟨_, _, rfl⟩, by decide⟩
theorem mX2_31 : MV RX2 31 yX2_hasRange cX2_hasRange 3 (some .boolean) 2 2 := ⟨⟨wa (tt2 (j := 50) rfl) rfl, yc_X2_hasRange, yi_RX2, yd_X2_hasRange, by decide⟩, ym_X2_hasRange, yv_X2_hasRange, ⟨_, _, rfl⟩, by decide⟩
theorem mL_30 : MV RL 30 yX7_element cX7_element 4 (some .long) 2 7 := ⟨⟨wa (tt2 (j := 54) rfl) rfl, yc_X7_element, yi_RX7, yd_X7_element, by decide⟩, ym_X7_element, yv_X7_element, ⟨_, _, rfl⟩, by decide⟩
theorem mX7_115 : MV RX7 115 yX2_valueAt cX2_valueAt 2 (some .long) 1 2 := ⟨⟨wa (tt2 (j := 58) rfl) rfl, yc_X2_valueAt, yi_RX2, yd_X2_valueAt, by decide⟩, ym_X2_valueAt, yv_X2_valueAt, ⟨_, _, rfl⟩, by decide⟩
theorem mL_35 : MV RL 35 yX7_holds cX7_holds 4 (some .int) 1 7 := ⟨⟨wa (tt2 (j := 65) rfl) rfl, yc_X7_holds, yi_RX7, yd_X7_holds, by decide⟩, ym_X7_holds, yv_X7_holds, ⟨_, _, rfl⟩, by decide⟩
theorem mL_40 : MV RL 40 yX7_rule cX7_rule 5 (some .int) 3 7 := ⟨⟨wa (tt2 (j := 69) rfl) rfl, yc_X7_rule, yi_RX7, yd_X7_rule, by decide⟩, ym_X7_rule, yv_X7_rule, ⟨_, _, rfl⟩, by decide⟩
theorem mX7_122 : MS RX7 122 yX3_mayBe cX3_mayBe 2 (some .boolean) 2 := ⟨⟨wa (tt2 (j := 73) rfl) rfl, yc_X3_mayBe, yi_RX3, yd_X3_mayBe, by decide⟩, ys_X3_mayBe⟩
theorem mX7_125 : MI RX7 125 yX3_init cX3_init 4 3 := ⟨⟨wa (tt2 (j := 78) rfl) rfl, yc_X3_init, yi_RX3, yd_X3_init, by decide⟩, ym_X3_init, rfl⟩
theorem mX3_21 : MV RX3 21 yX2_twin cX2_twin 2 (some (.object "SendTheBox$Row")) 0 2 := ⟨⟨wa (tt2 (j := 82) rfl) rfl, yc_X2_twin, yi_RX2, yd_X2_twin, by decide⟩, ym_X2_twin, yv_X2_twin, ⟨_, _, rfl⟩, by decide⟩
theorem mX2_41 : MI RX2 41 yX2_init cX2_init 3 2 := ⟨⟨wa (tt2 (j := 87) rfl) rfl, yc_X2_init, yi_RX2, yd_X2_init, by decide⟩, ym_X2_init, rfl⟩
theorem mX2_44 : MV RX2 44 yX2_take cX2_take 5 none 4 2 := ⟨⟨wa (tt2 (j := 88) rfl) rfl, yc_X2_take, yi_RX2, yd_X2_take, by decide⟩, ym_X2_take, yv_X2_take, ⟨_, _, rfl⟩, by decide⟩
theorem mL_44 : MV RL 44 yX7_says cX7_says 4 (some .int) 2 7 := ⟨⟨wa (tt2 (j := 104) rfl) rfl, yc_X7_says, yi_RX7, yd_X7_says, by decide⟩, ym_X7_says, yv_X7_says, ⟨_, _, rfl⟩, by decide⟩
theorem mX7_128 : MV RX7 128 yX3_isOfKind cX3_isOfKind 2 (some .boolean) 1 3 := ⟨⟨wa (tt2 (j := 108) rfl) rfl, yc_X3_isOfKind, yi_RX3, yd_X3_isOfKind, by decide⟩, ym_X3_isOfKind, yv_X3_isOfKind, ⟨_, _, rfl⟩, by decide⟩
theorem mX7_131 : MV RX7 131 yX3_numberAs cX3_numberAs 2 (some .int) 1 3 := ⟨⟨wa (tt2 (j := 112) rfl) rfl, yc_X3_numberAs, yi_RX3, yd_X3_numberAs, by decide⟩, ym_X3_numberAs, yv_X3_numberAs, ⟨_, _, rfl⟩, by decide⟩
theorem mX3_35 : MV RX3 35 yX2_size cX2_size 1 (some .int) 0 2 := ⟨⟨wa (tt2 (j := 116) rfl) rfl, yc_X2_size, yi_RX2, yd_X2_size, by decide⟩, ym_X2_size, yv_X2_size, ⟨_, _, rfl⟩, by decide⟩
theorem mL_49 : MV RL 49 yX7_feed cX7_feed 3 (some .int) 2 7 := ⟨⟨wa (tt2 (j := 120) rfl) rfl, yc_X7_feed, yi_RX7, yd_X7_feed, by decide⟩, ym_X7_feed, yv_X7_feed, ⟨_, _, rfl⟩, by decide⟩
theorem mX7_134 : MV RX7 134 yX4_hasPlaceFor cX4_hasPlaceFor 2 (some .boolean) 1 4 := ⟨⟨wa (tt2 (j := 124) rfl) rfl, yc_X4_hasPlaceFor, yi_RX4, yd_X4_hasPlaceFor, by decide⟩, ym_X4_hasPlaceFor, yv_X4_hasPlaceFor, ⟨_, _, rfl⟩, by decide⟩
theorem mX7_137 : MV RX7 137 yX4_append cX4_append 4 (some .int) 2 4 := ⟨⟨wa (tt2 (j := 128) rfl) rfl, yc_X4_append, yi_RX4, yd_X4_append, by decide⟩, ym_X4_append, yv_X4_append, ⟨_, _, rfl⟩, by decide⟩
theorem mL_53 : MV RL 53 yX7_wipe cX7_wipe 1 (some .int) 0 7 := ⟨⟨wa (tt2 (j := 132) rfl) rfl, yc_X7_wipe, yi_RX7, yd_X7_wipe, by decide⟩, ym_X7_wipe, yv_X7_wipe, ⟨_, _, rfl⟩, by decide⟩
theorem mX7_141 : MV RX7 141 yX4_clear cX4_clear 2 (some .int) 0 4 := ⟨⟨wa (tt2 (j := 136) rfl) rfl, yc_X4_clear, yi_RX4, yd_X4_clear, by decide⟩, ym_X4_clear, yv_X4_clear, ⟨_, _, rfl⟩, by decide⟩
theorem mL_58 : MV RL 58 yX7_house cX7_house 2 (some .int) 0 7 := ⟨⟨wa (tt2 (j := 140) rfl) rfl, yc_X7_house, yi_RX7, yd_X7_house, by decide⟩, ym_X7_house, yv_X7_house, ⟨_, _, rfl⟩, by decide⟩
theorem mX7_145 : MV RX7 145 yX6_isFull cX6_isFull 1 (some .boolean) 0 6 := ⟨⟨wa (tt2 (j := 144) rfl) rfl, yc_X6_isFull, yi_RX6, yd_X6_isFull, by decide⟩, ym_X6_isFull, yv_X6_isFull, ⟨_, _, rfl⟩, by decide⟩
theorem mX7_149 : MV RX7 149 yX4_readInto cX4_readInto 3 (some .int) 1 4 := ⟨⟨wa (tt2 (j := 148) rfl) rfl, yc_X4_readInto, yi_RX4, yd_X4_readInto, by decide⟩, ym_X4_readInto, yv_X4_readInto, ⟨_, _, rfl⟩, by decide⟩
theorem mX4_19 : MV RX4 19 yX0_clear cX0_clear 2 none 0 0 := ⟨⟨wa (tt2 (j := 152) rfl) rfl, yc_X0_clear, yi_RX0, yd_X0_clear, by decide⟩, ym_X0_clear, yv_X0_clear, ⟨_, _, rfl⟩, by decide⟩
theorem mX0_15 : MV RX0 15 yX0_putNumber cX0_putNumber 3 none 2 0 := ⟨⟨wa (tt2 (j := 156) rfl) rfl, yc_X0_putNumber, yi_RX0, yd_X0_putNumber, by decide⟩, ym_X0_putNumber, yv_X0_putNumber, ⟨_, _, rfl⟩, by decide⟩
theorem mX4_27 : MV RX4 27 yX4_advance cX4_advance 1 none 0 4 := ⟨⟨wa (tt2 (j := 163) rfl) rfl, yc_X4_advance, yi_RX4, yd_X4_advance, by decide⟩, ym_X4_advance, yv_X4_advance, ⟨_, _, rfl⟩, by decide⟩
theorem mX4_99 : MV RX4 99 yX4_byteAt cX4_byteAt 2 (some .int) 1 4 := ⟨⟨wa (tt2 (j := 167) rfl) rfl, yc_X4_byteAt, yi_RX4, yd_X4_byteAt, by decide⟩, ym_X4_byteAt, yv_X4_byteAt, ⟨_, _, rfl⟩, by decide⟩
theorem mX4_103 : MS RX4 103 yX4_kindOf cX4_kindOf 1 (some .int) 1 := ⟨⟨wa (tt2 (j := 171) rfl) rfl, yc_X4_kindOf, yi_RX4, yd_X4_kindOf, by decide⟩, ys_X4_kindOf⟩
theorem mX4_30 : MV RX4 30 yX4_readStatement cX4_readStatement 2 (some .boolean) 1 4 := ⟨⟨wa (tt2 (j := 174) rfl) rfl, yc_X4_readStatement, yi_RX4, yd_X4_readStatement, by decide⟩, ym_X4_readStatement, yv_X4_readStatement, ⟨_, _, rfl⟩, by decide⟩
theorem mX4_46 : MV RX4 46 yX4_isWord cX4_isWord 3 (some .boolean) 1 4 := ⟨⟨wa (tt2 (j := 179) rfl) rfl, yc_X4_isWord, yi_RX4, yd_X4_isWord, by decide⟩, ym_X4_isWord, yv_X4_isWord, ⟨_, _, rfl⟩, by decide⟩
theorem mX4_106 : cW RX4 106 yJ0_length_8abf5 cJ0_length_8abf5 1 (some .int) 0 := ⟨wa (tt2 (j := 183) rfl) rfl, yc_J0_length_8abf5, yi_RJ0, yd_J0_length_8abf5, by decide⟩
theorem mJ0_335 : cW RJ0 335 yJ0_coder_7d493 cJ0_coder_7d493 1 (some .byte) 0 := ⟨wa (tt2 (j := 187) rfl) rfl, yc_J0_coder_7d493, yi_RJ0, yd_J0_coder_7d493, by decide⟩
theorem mX4_111 : cW RX4 111 yJ0_charAt_5068e cJ0_charAt_5068e 2 (some .char) 1 := ⟨wa (tt2 (j := 193) rfl) rfl, yc_J0_charAt_5068e, yi_RJ0, yd_J0_charAt_5068e, by decide⟩
theorem mJ0_492 : cW RJ0 492 yJ0_isLatin1_aae02 cJ0_isLatin1_aae02 1 (some .boolean) 0 := ⟨wa (tt2 (j := 197) rfl) rfl, yc_J0_isLatin1_aae02, yi_RJ0, yd_J0_isLatin1_aae02, by decide⟩
theorem mJ0_495 : MS RJ0 495 yJ1_charAt_3b067 cJ1_charAt_3b067 2 (some .char) 2 := ⟨⟨wa (tt2 (j := 201) rfl) rfl, yc_J1_charAt_3b067, yi_RJ1, yd_J1_charAt_3b067, by decide⟩, ys_J1_charAt_3b067⟩
theorem mJ1_9 : MS RJ1 9 yJ0_checkIndex_df160 cJ0_checkIndex_df160 2 none 2 := ⟨⟨wa (tt2 (j := 204) rfl) rfl, yc_J0_checkIndex_df160, yi_RJ0, yd_J0_checkIndex_df160, by decide⟩, ys_J0_checkIndex_df160⟩
theorem mJ0_1059 : MS RJ0 1059 yJ3_checkIndex_8e157 cJ3_checkIndex_8e157 3 (some .int) 3 := ⟨⟨wa (tt2 (j := 209) rfl) rfl, yc_J3_checkIndex_8e157, yi_RJ3, yd_J3_checkIndex_8e157, by decide⟩, ys_J3_checkIndex_8e157⟩
theorem mJ0_498 : MS RJ0 498 yJ2_charAt_3b067 cJ2_charAt_3b067 2 (some .char) 2 := ⟨⟨wa (tt2 (j := 212) rfl) rfl, yc_J2_charAt_3b067, yi_RJ2, yd_J2_charAt_3b067, by decide⟩, ys_J2_charAt_3b067⟩
theorem mJ2_67 : MS RJ2 67 yJ2_checkIndex_2214a cJ2_checkIndex_2214a 2 none 2 := ⟨⟨wa (tt2 (j := 215) rfl) rfl, yc_J2_checkIndex_2214a, yi_RJ2, yd_J2_checkIndex_2214a, by decide⟩, ys_J2_checkIndex_2214a⟩
theorem mJ2_48 : MS RJ2 48 yJ2_length_9d52b cJ2_length_9d52b 1 (some .int) 1 := ⟨⟨wa (tt2 (j := 218) rfl) rfl, yc_J2_length_9d52b, yi_RJ2, yd_J2_length_9d52b, by decide⟩, ys_J2_length_9d52b⟩
theorem mJ2_414 : MS RJ2 414 yJ0_checkIndex_df160 cJ0_checkIndex_df160 2 none 2 := ⟨⟨wa (tt2 (j := 221) rfl) rfl, yc_J0_checkIndex_df160, yi_RJ0, yd_J0_checkIndex_df160, by decide⟩, ys_J0_checkIndex_df160⟩
theorem mJ2_71 : MS RJ2 71 yJ2_getChar_3b067 cJ2_getChar_3b067 2 (some .char) 2 := ⟨⟨wa (tt2 (j := 222) rfl) rfl, yc_J2_getChar_3b067, yi_RJ2, yd_J2_getChar_3b067, by decide⟩, ys_J2_getChar_3b067⟩
theorem mX4_50 : MV RX4 50 yX4_readHouseNumber cX4_readHouseNumber 4 (some .boolean) 2 4 := ⟨⟨wa (tt2 (j := 231) rfl) rfl, yc_X4_readHouseNumber, yi_RX4, yd_X4_readHouseNumber, by decide⟩, ym_X4_readHouseNumber, yv_X4_readHouseNumber, ⟨_, _, rfl⟩, by decide⟩
theorem mX4_65 : MV RX4 65 yX4_numberHere cX4_numberHere 3 (some .int) 0 4 := ⟨⟨wa (tt2 (j := 235) rfl) rfl, yc_X4_numberHere, yi_RX4, yd_X4_numberHere, by decide⟩, ym_X4_numberHere, yv_X4_numberHere, ⟨_, _, rfl⟩, by decide⟩
theorem mX4_68 : MS RX4 68 yX0_mayBe cX0_mayBe 2 (some .boolean) 2 := ⟨⟨wa (tt2 (j := 239) rfl) rfl, yc_X0_mayBe, yi_RX0, yd_X0_mayBe, by decide⟩, ys_X0_mayBe⟩
theorem mX4_72 : MV RX4 72 yX0_putNumber cX0_putNumber 3 none 2 0 := ⟨⟨wa (tt3 (j := 2) rfl) rfl, yc_X0_putNumber, yi_RX0, yd_X0_putNumber, by decide⟩, ym_X0_putNumber, yv_X0_putNumber, ⟨_, _, rfl⟩, by decide⟩
theorem mX4_40 : MV RX4 40 yX0_sorts cX0_sorts 1 (some .int) 0 0 := ⟨⟨wa (tt3 (j := 7) rfl) rfl, yc_X0_sorts, yi_RX0, yd_X0_sorts, by decide⟩, ym_X0_sorts, yv_X0_sorts, ⟨_, _, rfl⟩, by decide⟩
theorem mX0_31 : MV RX0 31 yX0_number cX0_number 2 (some .int) 1 0 := ⟨⟨wa (tt3 (j := 11) rfl) rfl, yc_X0_number, yi_RX0, yd_X0_number, by decide⟩, ym_X0_number, yv_X0_number, ⟨_, _, rfl⟩, by decide⟩
theorem mX4_62 : MV RX4 62 yX4_readSort cX4_readSort 5 (some .boolean) 1 4 := ⟨⟨wa (tt3 (j := 15) rfl) rfl, yc_X4_readSort, yi_RX4, yd_X4_readSort, by decide⟩, ym_X4_readSort, yv_X4_readSort, ⟨_, _, rfl⟩, by decide⟩
theorem mX4_76 : MS RX4 76 yX4_sortWord cX4_sortWord 1 (some (.object "java/lang/String")) 1 := ⟨⟨wa (tt3 (j := 19) rfl) rfl, yc_X4_sortWord, yi_RX4, yd_X4_sortWord, by decide⟩, ys_X4_sortWord⟩
theorem mX4_80 : MV RX4 80 yX4_readSortNumber cX4_readSortNumber 5 (some .boolean) 3 4 := ⟨⟨wa (tt3 (j := 26) rfl) rfl, yc_X4_readSortNumber, yi_RX4, yd_X4_readSortNumber, by decide⟩, ym_X4_readSortNumber, yv_X4_readSortNumber, ⟨_, _, rfl⟩, by decide⟩
theorem mX4_84 : MS RX4 84 yX0_mayBeOfSort cX0_mayBeOfSort 2 (some .boolean) 2 := ⟨⟨wa (tt3 (j := 30) rfl) rfl, yc_X0_mayBeOfSort, yi_RX0, yd_X0_mayBeOfSort, by decide⟩, ys_X0_mayBeOfSort⟩
theorem mX4_87 : MV RX4 87 yX0_putSortNumber cX0_putSortNumber 4 none 3 0 := ⟨⟨wa (tt3 (j := 33) rfl) rfl, yc_X0_putSortNumber, yi_RX0, yd_X0_putSortNumber, by decide⟩, ym_X0_putSortNumber, yv_X0_putSortNumber, ⟨_, _, rfl⟩, by decide⟩
theorem mX0_27 : MS RX0 27 yX0_placeOf cX0_placeOf 2 (some .int) 2 := ⟨⟨wa (tt3 (j := 37) rfl) rfl, yc_X0_placeOf, yi_RX0, yd_X0_placeOf, by decide⟩, ys_X0_placeOf⟩
theorem mX7_153 : MV RX7 153 yX6_add cX6_add 3 (some .int) 1 6 := ⟨⟨wa (tt3 (j := 40) rfl) rfl, yc_X6_add, yi_RX6, yd_X6_add, by decide⟩, ym_X6_add, yv_X6_add, ⟨_, _, rfl⟩, by decide⟩
theorem mX6_36 : MV RX6 36 yX0_become cX0_become 3 none 1 0 := ⟨⟨wa (tt3 (j := 44) rfl) rfl, yc_X0_become, yi_RX0, yd_X0_become, by decide⟩, ym_X0_become, yv_X0_become, ⟨_, _, rfl⟩, by decide⟩
theorem mL_62 : MV RL 62 yX7_houseOf cX7_houseOf 4 (some .int) 2 7 := ⟨⟨wa (tt3 (j := 51) rfl) rfl, yc_X7_houseOf, yi_RX7, yd_X7_houseOf, by decide⟩, ym_X7_houseOf, yv_X7_houseOf, ⟨_, _, rfl⟩, by decide⟩
theorem mX7_156 : MV RX7 156 yX6_houseAt cX6_houseAt 2 (some (.object "SendTheBox$House")) 1 6 := ⟨⟨wa (tt3 (j := 55) rfl) rfl, yc_X6_houseAt, yi_RX6, yd_X6_houseAt, by decide⟩, ym_X6_houseAt, yv_X6_houseAt, ⟨_, _, rfl⟩, by decide⟩
theorem mX7_160 : MV RX7 160 yX0_number cX0_number 2 (some .int) 1 0 := ⟨⟨wa (tt3 (j := 59) rfl) rfl, yc_X0_number, yi_RX0, yd_X0_number, by decide⟩, ym_X0_number, yv_X0_number, ⟨_, _, rfl⟩, by decide⟩
theorem mL_66 : MV RL 66 yX7_sortOf cX7_sortOf 5 (some .int) 3 7 := ⟨⟨wa (tt3 (j := 60) rfl) rfl, yc_X7_sortOf, yi_RX7, yd_X7_sortOf, by decide⟩, ym_X7_sortOf, yv_X7_sortOf, ⟨_, _, rfl⟩, by decide⟩
theorem mX7_163 : MV RX7 163 yX0_hasSort cX0_hasSort 2 (some .boolean) 1 0 := ⟨⟨wa (tt3 (j := 64) rfl) rfl, yc_X0_hasSort, yi_RX0, yd_X0_hasSort, by decide⟩, ym_X0_hasSort, yv_X0_hasSort, ⟨_, _, rfl⟩, by decide⟩
theorem mX0_35 : MV RX0 35 yX0_sorts cX0_sorts 1 (some .int) 0 0 := ⟨⟨wa (tt3 (j := 68) rfl) rfl, yc_X0_sorts, yi_RX0, yd_X0_sorts, by decide⟩, ym_X0_sorts, yv_X0_sorts, ⟨_, _, rfl⟩, by decide⟩
theorem mX7_166 : MV RX7 166 yX0_sortNumber cX0_sortNumber 3 (some .int) 2 0 := ⟨⟨wa (tt3 (j := 69) rfl) rfl, yc_X0_sortNumber, yi_RX0, yd_X0_sortNumber, by decide⟩, ym_X0_sortNumber, yv_X0_sortNumber, ⟨_, _, rfl⟩, by decide⟩
theorem mL_70 : MV RL 70 yX7_alter cX7_alter 7 (some .int) 3 7 := ⟨⟨wa (tt3 (j := 73) rfl) rfl, yc_X7_alter, yi_RX7, yd_X7_alter, by decide⟩, ym_X7_alter, yv_X7_alter, ⟨_, _, rfl⟩, by decide⟩
theorem mX7_169 : MS RX7 169 yX0_mayBe cX0_mayBe 2 (some .boolean) 2 := ⟨⟨wa (tt3 (j := 77) rfl) rfl, yc_X0_mayBe, yi_RX0, yd_X0_mayBe, by decide⟩, ys_X0_mayBe⟩
theorem mX7_170 : MV RX7 170 yX0_putNumber cX0_putNumber 3 none 2 0 := ⟨⟨wa (tt3 (j := 78) rfl) rfl, yc_X0_putNumber, yi_RX0, yd_X0_putNumber, by decide⟩, ym_X0_putNumber, yv_X0_putNumber, ⟨_, _, rfl⟩, by decide⟩
theorem mL_74 : MV RL 74 yX7_change cX7_change 8 (some .int) 4 7 := ⟨⟨wa (tt3 (j := 79) rfl) rfl, yc_X7_change, yi_RX7, yd_X7_change, by decide⟩, ym_X7_change, yv_X7_change, ⟨_, _, rfl⟩, by decide⟩
theorem mX7_173 : MS RX7 173 yX0_mayBeOfSort cX0_mayBeOfSort 2 (some .boolean) 2 := ⟨⟨wa (tt3 (j := 83) rfl) rfl, yc_X0_mayBeOfSort, yi_RX0, yd_X0_mayBeOfSort, by decide⟩, ys_X0_mayBeOfSort⟩
theorem mX7_176 : MV RX7 176 yX0_putSortNumber cX0_putSortNumber 4 none 3 0 := ⟨⟨wa (tt3 (j := 84) rfl) rfl, yc_X0_putSortNumber, yi_RX0, yd_X0_putSortNumber, by decide⟩, ym_X0_putSortNumber, yv_X0_putSortNumber, ⟨_, _, rfl⟩, by decide⟩
theorem mL_79 : MV RL 79 yX7_of cX7_of 3 (some .int) 2 7 := ⟨⟨wa (tt3 (j := 85) rfl) rfl, yc_X7_of, yi_RX7, yd_X7_of, by decide⟩, ym_X7_of, yv_X7_of, ⟨_, _, rfl⟩, by decide⟩
theorem mX7_180 : MS RX7 180 yX7_standing cX7_standing 2 (some .int) 2 := ⟨⟨wa (tt3 (j := 89) rfl) rfl, yc_X7_standing, yi_RX7, yd_X7_standing, by decide⟩, ys_X7_standing⟩
theorem mL_83 : MV RL 83 yX7_space cX7_space 4 (some .int) 2 7 := ⟨⟨wa (tt3 (j := 92) rfl) rfl, yc_X7_space, yi_RX7, yd_X7_space, by decide⟩, ym_X7_space, yv_X7_space, ⟨_, _, rfl⟩, by decide⟩
theorem mX7_183 : MV RX7 183 yX7_planOf cX7_planOf 4 (some (.object "SendTheBox$Plan")) 1 7 := ⟨⟨wa (tt3 (j := 96) rfl) rfl, yc_X7_planOf, yi_RX7, yd_X7_planOf, by decide⟩, ym_X7_planOf, yv_X7_planOf, ⟨_, _, rfl⟩, by decide⟩
theorem mX7_292 : MV RX7 292 yX1_turnTo cX1_turnTo 3 none 1 1 := ⟨⟨wa (tt3 (j := 100) rfl) rfl, yc_X1_turnTo, yi_RX1, yd_X1_turnTo, by decide⟩, ym_X1_turnTo, yv_X1_turnTo, ⟨_, _, rfl⟩, by decide⟩
theorem mX1_54 : MV RX1 54 yX0_isLike cX0_isLike 3 (some .boolean) 1 0 := ⟨⟨wa (tt3 (j := 104) rfl) rfl, yc_X0_isLike, yi_RX0, yd_X0_isLike, by decide⟩, ym_X0_isLike, yv_X0_isLike, ⟨_, _, rfl⟩, by decide⟩
theorem mX1_58 : MV RX1 58 yX0_become cX0_become 3 none 1 0 := ⟨⟨wa (tt3 (j := 108) rfl) rfl, yc_X0_become, yi_RX0, yd_X0_become, by decide⟩, ym_X0_become, yv_X0_become, ⟨_, _, rfl⟩, by decide⟩
theorem mX1_62 : MV RX1 62 yX0_days cX0_days 1 (some .int) 0 0 := ⟨⟨wa (tt3 (j := 109) rfl) rfl, yc_X0_days, yi_RX0, yd_X0_days, by decide⟩, ym_X0_days, yv_X0_days, ⟨_, _, rfl⟩, by decide⟩
theorem mX1_68 : MV RX1 68 yX0_sorts cX0_sorts 1 (some .int) 0 0 := ⟨⟨wa (tt3 (j := 113) rfl) rfl, yc_X0_sorts, yi_RX0, yd_X0_sorts, by decide⟩, ym_X0_sorts, yv_X0_sorts, ⟨_, _, rfl⟩, by decide⟩
theorem mX1_73 : MV RX1 73 yX0_states cX0_states 1 (some .int) 0 0 := ⟨⟨wa (tt3 (j := 114) rfl) rfl, yc_X0_states, yi_RX0, yd_X0_states, by decide⟩, ym_X0_states, yv_X0_states, ⟨_, _, rfl⟩, by decide⟩
theorem mX1_78 : MV RX1 78 yX0_sumOf cX0_sumOf 5 (some .int) 2 0 := ⟨⟨wa (tt3 (j := 121) rfl) rfl, yc_X0_sumOf, yi_RX0, yd_X0_sumOf, by decide⟩, ym_X0_sumOf, yv_X0_sumOf, ⟨_, _, rfl⟩, by decide⟩
theorem mX0_45 : MV RX0 45 yX0_sortNumber cX0_sortNumber 3 (some .int) 2 0 := ⟨⟨wa (tt3 (j := 126) rfl) rfl, yc_X0_sortNumber, yi_RX0, yd_X0_sortNumber, by decide⟩, ym_X0_sortNumber, yv_X0_sortNumber, ⟨_, _, rfl⟩, by decide⟩
theorem mX1_86 : MV RX1 86 yX0_fillFor cX0_fillFor 8 (some .int) 1 0 := ⟨⟨wa (tt3 (j := 128) rfl) rfl, yc_X0_fillFor, yi_RX0, yd_X0_fillFor, by decide⟩, ym_X0_fillFor, yv_X0_fillFor, ⟨_, _, rfl⟩, by decide⟩
theorem mX0_55 : MS RX0 55 yJ9_min_7cf53 cJ9_min_7cf53 2 (some .int) 2 := ⟨⟨wa (tt3 (j := 132) rfl) rfl, yc_J9_min_7cf53, yi_RJ9, yd_J9_min_7cf53, by decide⟩, ys_J9_min_7cf53⟩
theorem mX7_187 : MV RX7 187 yX1_hasState cX1_hasState 2 (some .boolean) 1 1 := ⟨⟨wa (tt3 (j := 135) rfl) rfl, yc_X1_hasState, yi_RX1, yd_X1_hasState, by decide⟩, ym_X1_hasState, yv_X1_hasState, ⟨_, _, rfl⟩, by decide⟩
theorem mX7_190 : MV RX7 190 yX1_roomOf cX1_roomOf 2 (some .int) 1 1 := ⟨⟨wa (tt3 (j := 139) rfl) rfl, yc_X1_roomOf, yi_RX1, yd_X1_roomOf, by decide⟩, ym_X1_roomOf, yv_X1_roomOf, ⟨_, _, rfl⟩, by decide⟩
theorem mL_87 : MV RL 87 yX7_scale cX7_scale 4 (some .long) 2 7 := ⟨⟨wa (tt3 (j := 144) rfl) rfl, yc_X7_scale, yi_RX7, yd_X7_scale, by decide⟩, ym_X7_scale, yv_X7_scale, ⟨_, _, rfl⟩, by decide⟩
theorem mX7_193 : MV RX7 193 yX0_days cX0_days 1 (some .int) 0 0 := ⟨⟨wa (tt3 (j := 148) rfl) rfl, yc_X0_days, yi_RX0, yd_X0_days, by decide⟩, ym_X0_days, yv_X0_days, ⟨_, _, rfl⟩, by decide⟩
theorem mX7_196 : MV RX7 196 yX0_sorts cX0_sorts 1 (some .int) 0 0 := ⟨⟨wa (tt3 (j := 149) rfl) rfl, yc_X0_sorts, yi_RX0, yd_X0_sorts, by decide⟩, ym_X0_sorts, yv_X0_sorts, ⟨_, _, rfl⟩, by decide⟩
theorem mX7_199 : MS RX7 199 yX7_scaleOf cX7_scaleOf 2 (some .long) 2 := ⟨⟨wa (tt3 (j := 150) rfl) rfl, yc_X7_scaleOf, yi_RX7, yd_X7_scaleOf, by decide⟩, ys_X7_scaleOf⟩
theorem mX7_295 : MS RX7 295 yX7_timesOf cX7_timesOf 1 (some .long) 1 := ⟨⟨wa (tt3 (j := 153) rfl) rfl, yc_X7_timesOf, yi_RX7, yd_X7_timesOf, by decide⟩, ys_X7_timesOf⟩
theorem mL_91 : MV RL 91 yX7_cost cX7_cost 5 (some .long) 3 7 := ⟨⟨wa (tt3 (j := 156) rfl) rfl, yc_X7_cost, yi_RX7, yd_X7_cost, by decide⟩, ym_X7_cost, yv_X7_cost, ⟨_, _, rfl⟩, by decide⟩
theorem mX7_203 : MV RX7 203 yX1_hasPlace cX1_hasPlace 3 (some .boolean) 2 1 := ⟨⟨wa (tt3 (j := 160) rfl) rfl, yc_X1_hasPlace, yi_RX1, yd_X1_hasPlace, by decide⟩, ym_X1_hasPlace, yv_X1_hasPlace, ⟨_, _, rfl⟩, by decide⟩
theorem mX1_90 : MV RX1 90 yX1_hasState cX1_hasState 2 (some .boolean) 1 1 := ⟨⟨wa (tt3 (j := 164) rfl) rfl, yc_X1_hasState, yi_RX1, yd_X1_hasState, by decide⟩, ym_X1_hasState, yv_X1_hasState, ⟨_, _, rfl⟩, by decide⟩
theorem mX7_205 : MV RX7 205 yX1_leastCost cX1_leastCost 3 (some .long) 2 1 := ⟨⟨wa (tt3 (j := 165) rfl) rfl, yc_X1_leastCost, yi_RX1, yd_X1_leastCost, by decide⟩, ym_X1_leastCost, yv_X1_leastCost, ⟨_, _, rfl⟩, by decide⟩
theorem mX1_102 : MV RX1 102 yX1_workOut cX1_workOut 4 none 1 1 := ⟨⟨wa (tt3 (j := 169) rfl) rfl, yc_X1_workOut, yi_RX1, yd_X1_workOut, by decide⟩, ym_X1_workOut, yv_X1_workOut, ⟨_, _, rfl⟩, by decide⟩
theorem mX1_129 : MS RX1 129 yJ9_min_7cf53 cJ9_min_7cf53 2 (some .int) 2 := ⟨⟨wa (tt3 (j := 173) rfl) rfl, yc_J9_min_7cf53, yi_RJ9, yd_J9_min_7cf53, by decide⟩, ys_J9_min_7cf53⟩
theorem mX1_134 : MV RX1 134 yX1_startFromEnd cX1_startFromEnd 2 none 0 1 := ⟨⟨wa (tt3 (j := 174) rfl) rfl, yc_X1_startFromEnd, yi_RX1, yd_X1_startFromEnd, by decide⟩, ym_X1_startFromEnd, yv_X1_startFromEnd, ⟨_, _, rfl⟩, by decide⟩
theorem mX1_137 : MV RX1 137 yX1_takeCosts cX1_takeCosts 3 none 1 1 := ⟨⟨wa (tt3 (j := 181) rfl) rfl, yc_X1_takeCosts, yi_RX1, yd_X1_takeCosts, by decide⟩, ym_X1_takeCosts, yv_X1_takeCosts, ⟨_, _, rfl⟩, by decide⟩
theorem mX1_106 : MS RX1 106 yX1_placeOf cX1_placeOf 2 (some .int) 2 := ⟨⟨wa (tt3 (j := 185) rfl) rfl, yc_X1_placeOf, yi_RX1, yd_X1_placeOf, by decide⟩, ys_X1_placeOf⟩
theorem mX1_140 : MV RX1 140 yX1_goBackToLoad cX1_goBackToLoad 15 none 1 1 := ⟨⟨wa (tt3 (j := 189) rfl) rfl, yc_X1_goBackToLoad, yi_RX1, yd_X1_goBackToLoad, by decide⟩, ym_X1_goBackToLoad, yv_X1_goBackToLoad, ⟨_, _, rfl⟩, by decide⟩
theorem mX1_167 : MV RX1 167 yX0_sortNumber cX0_sortNumber 3 (some .int) 2 0 := ⟨⟨wa (tt3 (j := 195) rfl) rfl, yc_X0_sortNumber, yi_RX0, yd_X0_sortNumber, by decide⟩, ym_X0_sortNumber, yv_X0_sortNumber, ⟨_, _, rfl⟩, by decide⟩
theorem mX1_143 : MV RX1 143 yX1_keepWork cX1_keepWork 4 none 2 1 := ⟨⟨wa (tt3 (j := 198) rfl) rfl, yc_X1_keepWork, yi_RX1, yd_X1_keepWork, by decide⟩, ym_X1_keepWork, yv_X1_keepWork, ⟨_, _, rfl⟩, by decide⟩
theorem mX1_123 : MV RX1 123 yX1_boxCost cX1_boxCost 2 (some .long) 1 1 := ⟨⟨wa (tt3 (j := 202) rfl) rfl, yc_X1_boxCost, yi_RX1, yd_X1_boxCost, by decide⟩, ym_X1_boxCost, yv_X1_boxCost, ⟨_, _, rfl⟩, by decide⟩
theorem mX1_120 : MV RX1 120 yX0_number cX0_number 2 (some .int) 1 0 := ⟨⟨wa (tt3 (j := 206) rfl) rfl, yc_X0_number, yi_RX0, yd_X0_number, by decide⟩, ym_X0_number, yv_X0_number, ⟨_, _, rfl⟩, by decide⟩
theorem mX1_157 : MV RX1 157 yX1_unitOf cX1_unitOf 2 (some .long) 1 1 := ⟨⟨wa (tt3 (j := 207) rfl) rfl, yc_X1_unitOf, yi_RX1, yd_X1_unitOf, by decide⟩, ym_X1_unitOf, yv_X1_unitOf, ⟨_, _, rfl⟩, by decide⟩
theorem mX1_147 : MV RX1 147 yX1_goBackBest cX1_goBackBest 6 none 2 1 := ⟨⟨wa (tt3 (j := 212) rfl) rfl, yc_X1_goBackBest, yi_RX1, yd_X1_goBackBest, by decide⟩, ym_X1_goBackBest, yv_X1_goBackBest, ⟨_, _, rfl⟩, by decide⟩
theorem mX1_173 : MV RX1 173 yX1_pick cX1_pick 15 (some .int) 3 1 := ⟨⟨wa (tt3 (j := 216) rfl) rfl, yc_X1_pick, yi_RX1, yd_X1_pick, by decide⟩, ym_X1_pick, yv_X1_pick, ⟨_, _, rfl⟩, by decide⟩
theorem mX1_177 : MV RX1 177 yX1_mix cX1_mix 11 none 3 1 := ⟨⟨wa (tt3 (j := 220) rfl) rfl, yc_X1_mix, yi_RX1, yd_X1_mix, by decide⟩, ym_X1_mix, yv_X1_mix, ⟨_, _, rfl⟩, by decide⟩
theorem mL_96 : MV RL 96 yX7_best cX7_best 5 (some .int) 3 7 := ⟨⟨wa (tt3 (j := 224) rfl) rfl, yc_X7_best, yi_RX7, yd_X7_best, by decide⟩, ym_X7_best, yv_X7_best, ⟨_, _, rfl⟩, by decide⟩
theorem mX7_208 : MV RX7 208 yX1_hasDay cX1_hasDay 3 (some .boolean) 2 1 := ⟨⟨wa (tt3 (j := 228) rfl) rfl, yc_X1_hasDay, yi_RX1, yd_X1_hasDay, by decide⟩, ym_X1_hasDay, yv_X1_hasDay, ⟨_, _, rfl⟩, by decide⟩
theorem mX1_94 : MV RX1 94 yX1_hasPlace cX1_hasPlace 3 (some .boolean) 2 1 := ⟨⟨wa (tt3 (j := 232) rfl) rfl, yc_X1_hasPlace, yi_RX1, yd_X1_hasPlace, by decide⟩, ym_X1_hasPlace, yv_X1_hasPlace, ⟨_, _, rfl⟩, by decide⟩
theorem mX7_211 : MV RX7 211 yX1_bestLoad cX1_bestLoad 3 (some .int) 2 1 := ⟨⟨wa (tt3 (j := 233) rfl) rfl, yc_X1_bestLoad, yi_RX1, yd_X1_bestLoad, by decide⟩, ym_X1_bestLoad, yv_X1_bestLoad, ⟨_, _, rfl⟩, by decide⟩
theorem mX1_112 : MV RX1 112 yX1_loadWorkedOut cX1_loadWorkedOut 3 (some .int) 2 1 := ⟨⟨wa (tt3 (j := 237) rfl) rfl, yc_X1_loadWorkedOut, yi_RX1, yd_X1_loadWorkedOut, by decide⟩, ym_X1_loadWorkedOut, yv_X1_loadWorkedOut, ⟨_, _, rfl⟩, by decide⟩
theorem mL_100 : MV RL 100 yX7_fill cX7_fill 4 (some .int) 2 7 := ⟨⟨wa (tt4 (j := 1) rfl) rfl, yc_X7_fill, yi_RX7, yd_X7_fill, by decide⟩, ym_X7_fill, yv_X7_fill, ⟨_, _, rfl⟩, by decide⟩
theorem mX7_214 : MV RX7 214 yX1_fillOf cX1_fillOf 2 (some .int) 1 1 := ⟨⟨wa (tt4 (j := 5) rfl) rfl, yc_X1_fillOf, yi_RX1, yd_X1_fillOf, by decide⟩, ym_X1_fillOf, yv_X1_fillOf, ⟨_, _, rfl⟩, by decide⟩
theorem mL_121 : MV RL 121 yX7_waits cX7_waits 5 (some .long) 3 7 := ⟨⟨wa (tt4 (j := 9) rfl) rfl, yc_X7_waits, yi_RX7, yd_X7_waits, by decide⟩, ym_X7_waits, yv_X7_waits, ⟨_, _, rfl⟩, by decide⟩
theorem mX7_217 : MV RX7 217 yX1_costWith cX1_costWith 10 (some .long) 3 1 := ⟨⟨wa (tt4 (j := 13) rfl) rfl, yc_X1_costWith, yi_RX1, yd_X1_costWith, by decide⟩, ym_X1_costWith, yv_X1_costWith, ⟨_, _, rfl⟩, by decide⟩
theorem mL_125 : MV RL 125 yX7_once cX7_once 5 (some .long) 3 7 := ⟨⟨wa (tt4 (j := 17) rfl) rfl, yc_X7_once, yi_RX7, yd_X7_once, by decide⟩, ym_X7_once, yv_X7_once, ⟨_, _, rfl⟩, by decide⟩
theorem mL_129 : MV RL 129 yX7_dear cX7_dear 6 (some .long) 4 7 := ⟨⟨wa (tt4 (j := 21) rfl) rfl, yc_X7_dear, yi_RX7, yd_X7_dear, by decide⟩, ym_X7_dear, yv_X7_dear, ⟨_, _, rfl⟩, by decide⟩
theorem mX7_221 : MV RX7 221 yX1_hasSort cX1_hasSort 2 (some .boolean) 1 1 := ⟨⟨wa (tt4 (j := 25) rfl) rfl, yc_X1_hasSort, yi_RX1, yd_X1_hasSort, by decide⟩, ym_X1_hasSort, yv_X1_hasSort, ⟨_, _, rfl⟩, by decide⟩
theorem mX7_222 : MS RX7 222 yX7_oneOf cX7_oneOf 1 (some .int) 1 := ⟨⟨wa (tt4 (j := 29) rfl) rfl, yc_X7_oneOf, yi_RX7, yd_X7_oneOf, by decide⟩, ys_X7_oneOf⟩
theorem mL_157 : MV RL 157 yX7_promise cX7_promise 4 (some .long) 2 7 := ⟨⟨wa (tt4 (j := 30) rfl) rfl, yc_X7_promise, yi_RX7, yd_X7_promise, by decide⟩, ym_X7_promise, yv_X7_promise, ⟨_, _, rfl⟩, by decide⟩
theorem mX7_225 : MV RX7 225 yX1_costOfPromise cX1_costOfPromise 3 (some .long) 1 1 := ⟨⟨wa (tt4 (j := 34) rfl) rfl, yc_X1_costOfPromise, yi_RX1, yd_X1_costOfPromise, by decide⟩, ym_X1_costOfPromise, yv_X1_costOfPromise, ⟨_, _, rfl⟩, by decide⟩
theorem mX1_194 : MV RX1 194 yX1_goBackPromised cX1_goBackPromised 5 none 2 1 := ⟨⟨wa (tt4 (j := 38) rfl) rfl, yc_X1_goBackPromised, yi_RX1, yd_X1_goBackPromised, by decide⟩, ym_X1_goBackPromised, yv_X1_goBackPromised, ⟨_, _, rfl⟩, by decide⟩
theorem mL_161 : MV RL 161 yX7_shape cX7_shape 4 (some .int) 2 7 := ⟨⟨wa (tt4 (j := 42) rfl) rfl, yc_X7_shape, yi_RX7, yd_X7_shape, by decide⟩, ym_X7_shape, yv_X7_shape, ⟨_, _, rfl⟩, by decide⟩
theorem mX7_230 : MV RX7 230 yX1_bar cX1_bar 5 (some .int) 1 1 := ⟨⟨wa (tt4 (j := 46) rfl) rfl, yc_X1_bar, yi_RX1, yd_X1_bar, by decide⟩, ym_X1_bar, yv_X1_bar, ⟨_, _, rfl⟩, by decide⟩
theorem mX1_208 : MV RX1 208 yX1_leastRoomSent cX1_leastRoomSent 4 (some .int) 1 1 := ⟨⟨wa (tt4 (j := 50) rfl) rfl, yc_X1_leastRoomSent, yi_RX1, yd_X1_leastRoomSent, by decide⟩, ym_X1_leastRoomSent, yv_X1_leastRoomSent, ⟨_, _, rfl⟩, by decide⟩
theorem mX1_181 : MV RX1 181 yX1_roomOf cX1_roomOf 2 (some .int) 1 1 := ⟨⟨wa (tt4 (j := 54) rfl) rfl, yc_X1_roomOf, yi_RX1, yd_X1_roomOf, by decide⟩, ym_X1_roomOf, yv_X1_roomOf, ⟨_, _, rfl⟩, by decide⟩
theorem mX1_211 : MV RX1 211 yX1_oddFrom cX1_oddFrom 4 (some .int) 2 1 := ⟨⟨wa (tt4 (j := 55) rfl) rfl, yc_X1_oddFrom, yi_RX1, yd_X1_oddFrom, by decide⟩, ym_X1_oddFrom, yv_X1_oddFrom, ⟨_, _, rfl⟩, by decide⟩
theorem mX1_214 : MS RX1 214 yJ9_max_7cf53 cJ9_max_7cf53 2 (some .int) 2 := ⟨⟨wa (tt4 (j := 59) rfl) rfl, yc_J9_max_7cf53, yi_RJ9, yd_J9_max_7cf53, by decide⟩, ys_J9_max_7cf53⟩
theorem mL_165 : MV RL 165 yX7_odd cX7_odd 4 (some .int) 2 7 := ⟨⟨wa (tt4 (j := 62) rfl) rfl, yc_X7_odd, yi_RX7, yd_X7_odd, by decide⟩, ym_X7_odd, yv_X7_odd, ⟨_, _, rfl⟩, by decide⟩
theorem mX7_233 : MV RX7 233 yX1_oddState cX1_oddState 3 (some .int) 1 1 := ⟨⟨wa (tt4 (j := 66) rfl) rfl, yc_X1_oddState, yi_RX1, yd_X1_oddState, by decide⟩, ym_X1_oddState, yv_X1_oddState, ⟨_, _, rfl⟩, by decide⟩
theorem mL_169 : MV RL 169 yX7_judge cX7_judge 6 (some .int) 3 7 := ⟨⟨wa (tt4 (j := 70) rfl) rfl, yc_X7_judge, yi_RX7, yd_X7_judge, by decide⟩, ym_X7_judge, yv_X7_judge, ⟨_, _, rfl⟩, by decide⟩
theorem mX7_236 : MV RX7 236 yX2_size cX2_size 1 (some .int) 0 2 := ⟨⟨wa (tt4 (j := 74) rfl) rfl, yc_X2_size, yi_RX2, yd_X2_size, by decide⟩, ym_X2_size, yv_X2_size, ⟨_, _, rfl⟩, by decide⟩
theorem mX7_241 : MV RX7 241 yX1_judgeOf cX1_judgeOf 8 (some .int) 2 1 := ⟨⟨wa (tt4 (j := 75) rfl) rfl, yc_X1_judgeOf, yi_RX1, yd_X1_judgeOf, by decide⟩, ym_X1_judgeOf, yv_X1_judgeOf, ⟨_, _, rfl⟩, by decide⟩
theorem mX1_217 : MV RX1 217 yX2_valueAt cX2_valueAt 2 (some .long) 1 2 := ⟨⟨wa (tt4 (j := 79) rfl) rfl, yc_X2_valueAt, yi_RX2, yd_X2_valueAt, by decide⟩, ym_X2_valueAt, yv_X2_valueAt, ⟨_, _, rfl⟩, by decide⟩
theorem mL_104 : MV RL 104 yX7_load cX7_load 7 (some .int) 4 7 := ⟨⟨wa (tt4 (j := 80) rfl) rfl, yc_X7_load, yi_RX7, yd_X7_load, by decide⟩, ym_X7_load, yv_X7_load, ⟨_, _, rfl⟩, by decide⟩
theorem mX7_245 : MV RX7 245 yX7_ruleFor cX7_ruleFor 4 (some (.object "SendTheBox$Rule")) 2 7 := ⟨⟨wa (tt4 (j := 84) rfl) rfl, yc_X7_ruleFor, yi_RX7, yd_X7_ruleFor, by decide⟩, ym_X7_ruleFor, yv_X7_ruleFor, ⟨_, _, rfl⟩, by decide⟩
theorem mX7_325 : MV RX7 325 yX1_getReadyFor cX1_getReadyFor 2 none 1 1 := ⟨⟨wa (tt4 (j := 88) rfl) rfl, yc_X1_getReadyFor, yi_RX1, yd_X1_getReadyFor, by decide⟩, ym_X1_getReadyFor, yv_X1_getReadyFor, ⟨_, _, rfl⟩, by decide⟩
theorem mX7_249 : MV RX7 249 yX1_loadBy cX1_loadBy 4 (some .int) 3 1 := ⟨⟨wa (tt4 (j := 92) rfl) rfl, yc_X1_loadBy, yi_RX1, yd_X1_loadBy, by decide⟩, ym_X1_loadBy, yv_X1_loadBy, ⟨_, _, rfl⟩, by decide⟩
theorem mX1_184 : MV RX1 184 yX3_fills cX3_fills 4 (some .boolean) 3 3 := ⟨⟨wa (tt4 (j := 96) rfl) rfl, yc_X3_fills, yi_RX3, yd_X3_fills, by decide⟩, ym_X3_fills, yv_X3_fills, ⟨_, _, rfl⟩, by decide⟩
theorem mX3_39 : MV RX3 39 yX3_isItsDay cX3_isItsDay 2 (some .boolean) 1 3 := ⟨⟨wa (tt4 (j := 100) rfl) rfl, yc_X3_isItsDay, yi_RX3, yd_X3_isItsDay, by decide⟩, ym_X3_isItsDay, yv_X3_isItsDay, ⟨_, _, rfl⟩, by decide⟩
theorem mX3_42 : MV RX3 42 yX2_valueAt cX2_valueAt 2 (some .long) 1 2 := ⟨⟨wa (tt4 (j := 104) rfl) rfl, yc_X2_valueAt, yi_RX2, yd_X2_valueAt, by decide⟩, ym_X2_valueAt, yv_X2_valueAt, ⟨_, _, rfl⟩, by decide⟩
theorem mX1_187 : MV RX1 187 yX1_fillOf cX1_fillOf 2 (some .int) 1 1 := ⟨⟨wa (tt4 (j := 105) rfl) rfl, yc_X1_fillOf, yi_RX1, yd_X1_fillOf, by decide⟩, ym_X1_fillOf, yv_X1_fillOf, ⟨_, _, rfl⟩, by decide⟩
theorem mL_108 : MV RL 108 yX7_mean cX7_mean 7 (some .long) 4 7 := ⟨⟨wa (tt4 (j := 106) rfl) rfl, yc_X7_mean, yi_RX7, yd_X7_mean, by decide⟩, ym_X7_mean, yv_X7_mean, ⟨_, _, rfl⟩, by decide⟩
theorem mX7_253 : MV RX7 253 yX1_costBy cX1_costBy 8 (some .long) 3 1 := ⟨⟨wa (tt4 (j := 110) rfl) rfl, yc_X1_costBy, yi_RX1, yd_X1_costBy, by decide⟩, ym_X1_costBy, yv_X1_costBy, ⟨_, _, rfl⟩, by decide⟩
theorem mX1_190 : MV RX1 190 yX1_loadBy cX1_loadBy 4 (some .int) 3 1 := ⟨⟨wa (tt4 (j := 114) rfl) rfl, yc_X1_loadBy, yi_RX1, yd_X1_loadBy, by decide⟩, ym_X1_loadBy, yv_X1_loadBy, ⟨_, _, rfl⟩, by decide⟩
theorem mL_113 : MV RL 113 yX7_lose cX7_lose 7 (some .long) 4 7 := ⟨⟨wa (tt4 (j := 115) rfl) rfl, yc_X7_lose, yi_RX7, yd_X7_lose, by decide⟩, ym_X7_lose, yv_X7_lose, ⟨_, _, rfl⟩, by decide⟩
theorem mL_117 : MV RL 117 yX7_boy cX7_boy 10 (some .int) 1 7 := ⟨⟨wa (tt4 (j := 119) rfl) rfl, yc_X7_boy, yi_RX7, yd_X7_boy, by decide⟩, ym_X7_boy, yv_X7_boy, ⟨_, _, rfl⟩, by decide⟩
theorem mL_133 : MV RL 133 yX7_chance cX7_chance 7 (some .long) 4 7 := ⟨⟨wa (tt4 (j := 123) rfl) rfl, yc_X7_chance, yi_RX7, yd_X7_chance, by decide⟩, ym_X7_chance, yv_X7_chance, ⟨_, _, rfl⟩, by decide⟩
theorem mX7_257 : MV RX7 257 yX1_chanceBy cX1_chanceBy 4 (some .long) 3 1 := ⟨⟨wa (tt4 (j := 127) rfl) rfl, yc_X1_chanceBy, yi_RX1, yd_X1_chanceBy, by decide⟩, ym_X1_chanceBy, yv_X1_chanceBy, ⟨_, _, rfl⟩, by decide⟩
theorem mX1_222 : MV RX1 222 yX1_spread cX1_spread 4 none 2 1 := ⟨⟨wa (tt4 (j := 131) rfl) rfl, yc_X1_spread, yi_RX1, yd_X1_spread, by decide⟩, ym_X1_spread, yv_X1_spread, ⟨_, _, rfl⟩, by decide⟩
theorem mX1_226 : MV RX1 226 yX1_startSpread cX1_startSpread 2 none 0 1 := ⟨⟨wa (tt4 (j := 135) rfl) rfl, yc_X1_startSpread, yi_RX1, yd_X1_startSpread, by decide⟩, ym_X1_startSpread, yv_X1_startSpread, ⟨_, _, rfl⟩, by decide⟩
theorem mX1_229 : MV RX1 229 yX1_spreadLoad cX1_spreadLoad 13 (some .long) 2 1 := ⟨⟨wa (tt4 (j := 139) rfl) rfl, yc_X1_spreadLoad, yi_RX1, yd_X1_spreadLoad, by decide⟩, ym_X1_spreadLoad, yv_X1_spreadLoad, ⟨_, _, rfl⟩, by decide⟩
theorem mX1_233 : MV RX1 233 yX1_spreadWhatComes cX1_spreadWhatComes 8 none 0 1 := ⟨⟨wa (tt4 (j := 143) rfl) rfl, yc_X1_spreadWhatComes, yi_RX1, yd_X1_spreadWhatComes, by decide⟩, ym_X1_spreadWhatComes, yv_X1_spreadWhatComes, ⟨_, _, rfl⟩, by decide⟩
theorem mL_137 : MV RL 137 yX7_reach cX7_reach 6 (some .int) 3 7 := ⟨⟨wa (tt4 (j := 147) rfl) rfl, yc_X7_reach, yi_RX7, yd_X7_reach, by decide⟩, ym_X7_reach, yv_X7_reach, ⟨_, _, rfl⟩, by decide⟩
theorem mX7_260 : MV RX7 260 yX1_statesBy cX1_statesBy 5 (some .int) 2 1 := ⟨⟨wa (tt4 (j := 151) rfl) rfl, yc_X1_statesBy, yi_RX1, yd_X1_statesBy, by decide⟩, ym_X1_statesBy, yv_X1_statesBy, ⟨_, _, rfl⟩, by decide⟩
theorem mL_141 : MV RL 141 yX7_held cX7_held 6 (some .long) 3 7 := ⟨⟨wa (tt4 (j := 155) rfl) rfl, yc_X7_held, yi_RX7, yd_X7_held, by decide⟩, ym_X7_held, yv_X7_held, ⟨_, _, rfl⟩, by decide⟩
theorem mX7_264 : MV RX7 264 yX1_heldBy cX1_heldBy 9 (some .long) 2 1 := ⟨⟨wa (tt4 (j := 159) rfl) rfl, yc_X1_heldBy, yi_RX1, yd_X1_heldBy, by decide⟩, ym_X1_heldBy, yv_X1_heldBy, ⟨_, _, rfl⟩, by decide⟩
theorem mL_145 : MV RL 145 yX7_boxes cX7_boxes 5 (some .long) 2 7 := ⟨⟨wa (tt4 (j := 163) rfl) rfl, yc_X7_boxes, yi_RX7, yd_X7_boxes, by decide⟩, ym_X7_boxes, yv_X7_boxes, ⟨_, _, rfl⟩, by decide⟩
theorem mX7_268 : MV RX7 268 yX1_boxesBy cX1_boxesBy 5 (some .long) 1 1 := ⟨⟨wa (tt4 (j := 167) rfl) rfl, yc_X1_boxesBy, yi_RX1, yd_X1_boxesBy, by decide⟩, ym_X1_boxesBy, yv_X1_boxesBy, ⟨_, _, rfl⟩, by decide⟩
theorem mL_149 : MV RL 149 yX7_plain cX7_plain 3 (some .int) 1 7 := ⟨⟨wa (tt4 (j := 171) rfl) rfl, yc_X7_plain, yi_RX7, yd_X7_plain, by decide⟩, ym_X7_plain, yv_X7_plain, ⟨_, _, rfl⟩, by decide⟩
theorem mX7_272 : MV RX7 272 yX1_bestFullRule cX1_bestFullRule 7 (some .int) 0 1 := ⟨⟨wa (tt4 (j := 175) rfl) rfl, yc_X1_bestFullRule, yi_RX1, yd_X1_bestFullRule, by decide⟩, ym_X1_bestFullRule, yv_X1_bestFullRule, ⟨_, _, rfl⟩, by decide⟩
theorem mX1_198 : MV RX1 198 yX1_isRoomOfSome cX1_isRoomOfSome 3 (some .boolean) 1 1 := ⟨⟨wa (tt4 (j := 179) rfl) rfl, yc_X1_isRoomOfSome, yi_RX1, yd_X1_isRoomOfSome, by decide⟩, ym_X1_isRoomOfSome, yv_X1_isRoomOfSome, ⟨_, _, rfl⟩, by decide⟩
theorem mX1_201 : MI RX1 201 yX3_init cX3_init 4 3 := ⟨⟨wa (tt4 (j := 184) rfl) rfl, yc_X3_init, yi_RX3, yd_X3_init, by decide⟩, ym_X3_init, rfl⟩
theorem mX1_204 : MV RX1 204 yX1_costBy cX1_costBy 8 (some .long) 3 1 := ⟨⟨wa (tt4 (j := 185) rfl) rfl, yc_X1_costBy, yi_RX1, yd_X1_costBy, by decide⟩, ym_X1_costBy, yv_X1_costBy, ⟨_, _, rfl⟩, by decide⟩
theorem mL_153 : MV RL 153 yX7_every cX7_every 3 (some .int) 1 7 := ⟨⟨wa (tt4 (j := 186) rfl) rfl, yc_X7_every, yi_RX7, yd_X7_every, by decide⟩, ym_X7_every, yv_X7_every, ⟨_, _, rfl⟩, by decide⟩
theorem mX7_275 : MV RX7 275 yX1_bestDayRule cX1_bestDayRule 7 (some .int) 0 1 := ⟨⟨wa (tt4 (j := 190) rfl) rfl, yc_X1_bestDayRule, yi_RX1, yd_X1_bestDayRule, by decide⟩, ym_X1_bestDayRule, yv_X1_bestDayRule, ⟨_, _, rfl⟩, by decide⟩
theorem mL_173 : MV RL 173 yX7_join cX7_join 5 (some .int) 2 7 := ⟨⟨wa (tt4 (j := 194) rfl) rfl, yc_X7_join, yi_RX7, yd_X7_join, by decide⟩, ym_X7_join, yv_X7_join, ⟨_, _, rfl⟩, by decide⟩
theorem mX7_278 : MV RX7 278 yX0_goesWith cX0_goesWith 2 (some .boolean) 1 0 := ⟨⟨wa (tt4 (j := 198) rfl) rfl, yc_X0_goesWith, yi_RX0, yd_X0_goesWith, by decide⟩, ym_X0_goesWith, yv_X0_goesWith, ⟨_, _, rfl⟩, by decide⟩
theorem mX0_48 : MV RX0 48 yX0_days cX0_days 1 (some .int) 0 0 := ⟨⟨wa (tt4 (j := 202) rfl) rfl, yc_X0_days, yi_RX0, yd_X0_days, by decide⟩, ym_X0_days, yv_X0_days, ⟨_, _, rfl⟩, by decide⟩
theorem mX7_282 : MV RX7 282 yX0_become cX0_become 3 none 1 0 := ⟨⟨wa (tt4 (j := 203) rfl) rfl, yc_X0_become, yi_RX0, yd_X0_become, by decide⟩, ym_X0_become, yv_X0_become, ⟨_, _, rfl⟩, by decide⟩
theorem mX7_286 : MV RX7 286 yX0_addSortsOf cX0_addSortsOf 4 none 1 0 := ⟨⟨wa (tt4 (j := 204) rfl) rfl, yc_X0_addSortsOf, yi_RX0, yd_X0_addSortsOf, by decide⟩, ym_X0_addSortsOf, yv_X0_addSortsOf, ⟨_, _, rfl⟩, by decide⟩
theorem mX0_51 : MV RX0 51 yX0_putSortNumber cX0_putSortNumber 4 none 3 0 := ⟨⟨wa (tt4 (j := 208) rfl) rfl, yc_X0_putSortNumber, yi_RX0, yd_X0_putSortNumber, by decide⟩, ym_X0_putSortNumber, yv_X0_putSortNumber, ⟨_, _, rfl⟩, by decide⟩
theorem mL_177 : MV RL 177 yX7_saved cX7_saved 8 (some .long) 2 7 := ⟨⟨wa (tt4 (j := 209) rfl) rfl, yc_X7_saved, yi_RX7, yd_X7_saved, by decide⟩, ym_X7_saved, yv_X7_saved, ⟨_, _, rfl⟩, by decide⟩
theorem mX7_298 : MS RX7 298 yJ9_max_f86c9 cJ9_max_f86c9 4 (some .long) 2 := ⟨⟨wa (tt4 (j := 213) rfl) rfl, yc_J9_max_f86c9, yi_RJ9, yd_J9_max_f86c9, by decide⟩, ys_J9_max_f86c9⟩
theorem mL_181 : MV RL 181 yX7_seed cX7_seed 2 (some .int) 1 7 := ⟨⟨wa (tt4 (j := 216) rfl) rfl, yc_X7_seed, yi_RX7, yd_X7_seed, by decide⟩, ym_X7_seed, yv_X7_seed, ⟨_, _, rfl⟩, by decide⟩
theorem mX7_304 : MV RX7 304 yX6_changeSeed cX6_changeSeed 3 (some .int) 1 6 := ⟨⟨wa (tt4 (j := 220) rfl) rfl, yc_X6_changeSeed, yi_RX6, yd_X6_changeSeed, by decide⟩, ym_X6_changeSeed, yv_X6_changeSeed, ⟨_, _, rfl⟩, by decide⟩
theorem mL_185 : MV RL 185 yX7_begin cX7_begin 5 (some .int) 2 7 := ⟨⟨wa (tt4 (j := 224) rfl) rfl, yc_X7_begin, yi_RX7, yd_X7_begin, by decide⟩, ym_X7_begin, yv_X7_begin, ⟨_, _, rfl⟩, by decide⟩
theorem mX7_310 : MV RX7 310 yX5_start cX5_start 3 none 2 5 := ⟨⟨wa (tt4 (j := 228) rfl) rfl, yc_X5_start, yi_RX5, yd_X5_start, by decide⟩, ym_X5_start, yv_X5_start, ⟨_, _, rfl⟩, by decide⟩
theorem mX5_18 : MV RX5 18 yX0_become cX0_become 3 none 1 0 := ⟨⟨wa (tt4 (j := 232) rfl) rfl, yc_X0_become, yi_RX0, yd_X0_become, by decide⟩, ym_X0_become, yv_X0_become, ⟨_, _, rfl⟩, by decide⟩
theorem mX5_26 : MV RX5 26 yX0_days cX0_days 1 (some .int) 0 0 := ⟨⟨wa (tt4 (j := 233) rfl) rfl, yc_X0_days, yi_RX0, yd_X0_days, by decide⟩, ym_X0_days, yv_X0_days, ⟨_, _, rfl⟩, by decide⟩
theorem mL_189 : MV RL 189 yX7_step cX7_step 3 (some .int) 1 7 := ⟨⟨wa (tt4 (j := 234) rfl) rfl, yc_X7_step, yi_RX7, yd_X7_step, by decide⟩, ym_X7_step, yv_X7_step, ⟨_, _, rfl⟩, by decide⟩
theorem mX7_314 : MV RX7 314 yX5_isUnderWay cX5_isUnderWay 1 (some .boolean) 0 5 := ⟨⟨wa (tt4 (j := 238) rfl) rfl, yc_X5_isUnderWay, yi_RX5, yd_X5_isUnderWay, by decide⟩, ym_X5_isUnderWay, yv_X5_isUnderWay, ⟨_, _, rfl⟩, by decide⟩
theorem mX7_317 : MV RX7 317 yX5_daysLeft cX5_daysLeft 1 (some .int) 0 5 := ⟨⟨wa (tt5 (j := 2) rfl) rfl, yc_X5_daysLeft, yi_RX5, yd_X5_daysLeft, by decide⟩, ym_X5_daysLeft, yv_X5_daysLeft, ⟨_, _, rfl⟩, by decide⟩
theorem mX7_329 : MV RX7 329 yX7_passDays cX7_passDays 6 (some .int) 3 7 := ⟨⟨wa (tt5 (j := 6) rfl) rfl, yc_X7_passDays, yi_RX7, yd_X7_passDays, by decide⟩, ym_X7_passDays, yv_X7_passDays, ⟨_, _, rfl⟩, by decide⟩
theorem mX7_334 : MV RX7 334 yX5_passDay cX5_passDay 6 (some .int) 2 5 := ⟨⟨wa (tt5 (j := 10) rfl) rfl, yc_X5_passDay, yi_RX5, yd_X5_passDay, by decide⟩, ym_X5_passDay, yv_X5_passDay, ⟨_, _, rfl⟩, by decide⟩
theorem mX5_49 : MV RX5 49 yX6_draw cX6_draw 2 (some .int) 1 6 := ⟨⟨wa (tt5 (j := 14) rfl) rfl, yc_X6_draw, yi_RX6, yd_X6_draw, by decide⟩, ym_X6_draw, yv_X6_draw, ⟨_, _, rfl⟩, by decide⟩
theorem mX5_55 : MV RX5 55 yX0_number cX0_number 2 (some .int) 1 0 := ⟨⟨wa (tt5 (j := 19) rfl) rfl, yc_X0_number, yi_RX0, yd_X0_number, by decide⟩, ym_X0_number, yv_X0_number, ⟨_, _, rfl⟩, by decide⟩
theorem mX5_58 : MV RX5 58 yX1_loadBy cX1_loadBy 4 (some .int) 3 1 := ⟨⟨wa (tt5 (j := 20) rfl) rfl, yc_X1_loadBy, yi_RX1, yd_X1_loadBy, by decide⟩, ym_X1_loadBy, yv_X1_loadBy, ⟨_, _, rfl⟩, by decide⟩
theorem mX5_64 : MV RX5 64 yX5_send cX5_send 3 (some .int) 1 5 := ⟨⟨wa (tt5 (j := 21) rfl) rfl, yc_X5_send, yi_RX5, yd_X5_send, by decide⟩, ym_X5_send, yv_X5_send, ⟨_, _, rfl⟩, by decide⟩
theorem mX5_71 : MV RX5 71 yX0_sorts cX0_sorts 1 (some .int) 0 0 := ⟨⟨wa (tt5 (j := 25) rfl) rfl, yc_X0_sorts, yi_RX0, yd_X0_sorts, by decide⟩, ym_X0_sorts, yv_X0_sorts, ⟨_, _, rfl⟩, by decide⟩
theorem mX5_67 : MV RX5 67 yX0_sumOf cX0_sumOf 5 (some .int) 2 0 := ⟨⟨wa (tt5 (j := 27) rfl) rfl, yc_X0_sumOf, yi_RX0, yd_X0_sumOf, by decide⟩, ym_X0_sumOf, yv_X0_sumOf, ⟨_, _, rfl⟩, by decide⟩
theorem mX5_74 : MV RX5 74 yX0_sortNumber cX0_sortNumber 3 (some .int) 2 0 := ⟨⟨wa (tt5 (j := 28) rfl) rfl, yc_X0_sortNumber, yi_RX0, yd_X0_sortNumber, by decide⟩, ym_X0_sortNumber, yv_X0_sortNumber, ⟨_, _, rfl⟩, by decide⟩
theorem mX5_77 : MV RX5 77 yX5_receive cX5_receive 2 (some .int) 1 5 := ⟨⟨wa (tt5 (j := 29) rfl) rfl, yc_X5_receive, yi_RX5, yd_X5_receive, by decide⟩, ym_X5_receive, yv_X5_receive, ⟨_, _, rfl⟩, by decide⟩
theorem mL_193 : MV RL 193 yX7_week cX7_week 2 (some .int) 1 7 := ⟨⟨wa (tt5 (j := 34) rfl) rfl, yc_X7_week, yi_RX7, yd_X7_week, by decide⟩, ym_X7_week, yv_X7_week, ⟨_, _, rfl⟩, by decide⟩
theorem mX7_333 : MV RX7 333 yX5_number cX5_number 2 (some .int) 1 5 := ⟨⟨wa (tt5 (j := 38) rfl) rfl, yc_X5_number, yi_RX5, yd_X5_number, by decide⟩, ym_X5_number, yv_X5_number, ⟨_, _, rfl⟩, by decide⟩
theorem mL_197 : MV RL 197 yX7_weeks cX7_weeks 8 (some .int) 3 7 := ⟨⟨wa (tt5 (j := 42) rfl) rfl, yc_X7_weeks, yi_RX7, yd_X7_weeks, by decide⟩, ym_X7_weeks, yv_X7_weeks, ⟨_, _, rfl⟩, by decide⟩
theorem mL_201 : MV RL 201 yX7_image cX7_image 1 (some .int) 0 7 := ⟨⟨wa (tt5 (j := 46) rfl) rfl, yc_X7_image, yi_RX7, yd_X7_image, by decide⟩, ym_X7_image, yv_X7_image, ⟨_, _, rfl⟩, by decide⟩
theorem mX7_338 : MV RX7 338 yX6_become cX6_become 3 none 1 6 := ⟨⟨wa (tt5 (j := 50) rfl) rfl, yc_X6_become, yi_RX6, yd_X6_become, by decide⟩, ym_X6_become, yv_X6_become, ⟨_, _, rfl⟩, by decide⟩
theorem mX6_32 : MV RX6 32 yX5_become cX5_become 2 none 1 5 := ⟨⟨wa (tt5 (j := 54) rfl) rfl, yc_X5_become, yi_RX5, yd_X5_become, by decide⟩, ym_X5_become, yv_X5_become, ⟨_, _, rfl⟩, by decide⟩
theorem mL_205 : MV RL 205 yX7_back cX7_back 1 (some .int) 0 7 := ⟨⟨wa (tt5 (j := 58) rfl) rfl, yc_X7_back, yi_RX7, yd_X7_back, by decide⟩, ym_X7_back, yv_X7_back, ⟨_, _, rfl⟩, by decide⟩
theorem mL_209 : MV RL 209 yX7_status cX7_status 3 (some .int) 1 7 := ⟨⟨wa (tt5 (j := 62) rfl) rfl, yc_X7_status, yi_RX7, yd_X7_status, by decide⟩, ym_X7_status, yv_X7_status, ⟨_, _, rfl⟩, by decide⟩
theorem mX7_353 : MV RX7 353 yX7_shelvesInUse cX7_shelvesInUse 3 (some .int) 0 7 := ⟨⟨wa (tt5 (j := 66) rfl) rfl, yc_X7_shelvesInUse, yi_RX7, yd_X7_shelvesInUse, by decide⟩, ym_X7_shelvesInUse, yv_X7_shelvesInUse, ⟨_, _, rfl⟩, by decide⟩
theorem mL_12 : MI RL 12 yX8_init cX8_init 1 0 := ⟨⟨wa (tt5 (j := 72) rfl) rfl, yc_X8_init, yi_RX8, yd_X8_init, by decide⟩, ym_X8_init, rfl⟩
theorem mL_17 : MV RL 17 yX8_row cX8_row 5 (some .int) 3 8 := ⟨⟨wa (tt5 (j := 219) rfl) rfl, yc_X8_row, yi_RX8, yd_X8_row, by decide⟩, ym_X8_row, yv_X8_row, ⟨_, _, rfl⟩, by decide⟩
theorem mX8_94 : MS RX8 94 yX8_in cX8_in 6 (some .boolean) 3 := ⟨⟨wa (tt5 (j := 224) rfl) rfl, yc_X8_in, yi_RX8, yd_X8_in, by decide⟩, ys_X8_in⟩
theorem mX8_119 : MV RX8 119 yX8_refuse cX8_refuse 2 (some .int) 1 8 := ⟨⟨wa (tt5 (j := 229) rfl) rfl, yc_X8_refuse, yi_RX8, yd_X8_refuse, by decide⟩, ym_X8_refuse, yv_X8_refuse, ⟨_, _, rfl⟩, by decide⟩
theorem mL_24 : MV RL 24 yX8_set cX8_set 5 (some .int) 3 8 := ⟨⟨wa (tt5 (j := 233) rfl) rfl, yc_X8_set, yi_RX8, yd_X8_set, by decide⟩, ym_X8_set, yv_X8_set, ⟨_, _, rfl⟩, by decide⟩
theorem mX8_122 : MS RX8 122 yX8_fit cX8_fit 3 (some .long) 2 := ⟨⟨wa (tt5 (j := 237) rfl) rfl, yc_X8_fit, yi_RX8, yd_X8_fit, by decide⟩, ys_X8_fit⟩
theorem mL_29 : MV RL 29 yX8_copy cX8_copy 7 (some .int) 5 8 := ⟨⟨wa (tt6 (j := 0) rfl) rfl, yc_X8_copy, yi_RX8, yd_X8_copy, by decide⟩, ym_X8_copy, yv_X8_copy, ⟨_, _, rfl⟩, by decide⟩
theorem mL_34 : MV RL 34 yX8_element cX8_element 3 (some .long) 2 8 := ⟨⟨wa (tt6 (j := 4) rfl) rfl, yc_X8_element, yi_RX8, yd_X8_element, by decide⟩, ym_X8_element, yv_X8_element, ⟨_, _, rfl⟩, by decide⟩
theorem mL_39 : MV RL 39 yX8_holds cX8_holds 2 (some .int) 1 8 := ⟨⟨wa (tt6 (j := 8) rfl) rfl, yc_X8_holds, yi_RX8, yd_X8_holds, by decide⟩, ym_X8_holds, yv_X8_holds, ⟨_, _, rfl⟩, by decide⟩
theorem mL_43 : MV RL 43 yX8_rule cX8_rule 5 (some .int) 3 8 := ⟨⟨wa (tt6 (j := 12) rfl) rfl, yc_X8_rule, yi_RX8, yd_X8_rule, by decide⟩, ym_X8_rule, yv_X8_rule, ⟨_, _, rfl⟩, by decide⟩
theorem mX8_132 : MS RX8 132 yX8_mayBy cX8_mayBy 2 (some .boolean) 2 := ⟨⟨wa (tt6 (j := 17) rfl) rfl, yc_X8_mayBy, yi_RX8, yd_X8_mayBy, by decide⟩, ys_X8_mayBy⟩
theorem mL_48 : MV RL 48 yX8_says cX8_says 4 (some .int) 2 8 := ⟨⟨wa (tt6 (j := 22) rfl) rfl, yc_X8_says, yi_RX8, yd_X8_says, by decide⟩, ym_X8_says, yv_X8_says, ⟨_, _, rfl⟩, by decide⟩
theorem mL_52 : MV RL 52 yX8_feed cX8_feed 4 (some .int) 2 8 := ⟨⟨wa (tt6 (j := 26) rfl) rfl, yc_X8_feed, yi_RX8, yd_X8_feed, by decide⟩, ym_X8_feed, yv_X8_feed, ⟨_, _, rfl⟩, by decide⟩
theorem mL_57 : MV RL 57 yX8_wipe cX8_wipe 2 (some .int) 0 8 := ⟨⟨wa (tt6 (j := 30) rfl) rfl, yc_X8_wipe, yi_RX8, yd_X8_wipe, by decide⟩, ym_X8_wipe, yv_X8_wipe, ⟨_, _, rfl⟩, by decide⟩
theorem mL_61 : MV RL 61 yX8_house cX8_house 2 (some .int) 0 8 := ⟨⟨wa (tt6 (j := 34) rfl) rfl, yc_X8_house, yi_RX8, yd_X8_house, by decide⟩, ym_X8_house, yv_X8_house, ⟨_, _, rfl⟩, by decide⟩
theorem mX8_213 : MV RX8 213 yX8_read cX8_read 2 (some .boolean) 1 8 := ⟨⟨wa (tt6 (j := 38) rfl) rfl, yc_X8_read, yi_RX8, yd_X8_read, by decide⟩, ym_X8_read, yv_X8_read, ⟨_, _, rfl⟩, by decide⟩
theorem mX8_185 : MV RX8 185 yX8_look cX8_look 1 none 0 8 := ⟨⟨wa (tt6 (j := 42) rfl) rfl, yc_X8_look, yi_RX8, yd_X8_look, by decide⟩, ym_X8_look, yv_X8_look, ⟨_, _, rfl⟩, by decide⟩
theorem mX8_152 : MS RX8 152 yX8_isLetter cX8_isLetter 1 (some .boolean) 1 := ⟨⟨wa (tt6 (j := 46) rfl) rfl, yc_X8_isLetter, yi_RX8, yd_X8_isLetter, by decide⟩, ys_X8_isLetter⟩
theorem mX8_155 : MS RX8 155 yX8_isDigit cX8_isDigit 1 (some .boolean) 1 := ⟨⟨wa (tt6 (j := 49) rfl) rfl, yc_X8_isDigit, yi_RX8, yd_X8_isDigit, by decide⟩, ys_X8_isDigit⟩
theorem mX8_209 : MV RX8 209 yX8_statement cX8_statement 3 (some .boolean) 1 8 := ⟨⟨wa (tt6 (j := 55) rfl) rfl, yc_X8_statement, yi_RX8, yd_X8_statement, by decide⟩, ym_X8_statement, yv_X8_statement, ⟨_, _, rfl⟩, by decide⟩
theorem mX8_177 : MV RX8 177 yX8_isWord cX8_isWord 3 (some .boolean) 1 8 := ⟨⟨wa (tt6 (j := 60) rfl) rfl, yc_X8_isWord, yi_RX8, yd_X8_isWord, by decide⟩, ym_X8_isWord, yv_X8_isWord, ⟨_, _, rfl⟩, by decide⟩
theorem mX8_167 : cW RX8 167 yJ0_length_8abf5 cJ0_length_8abf5 1 (some .int) 0 := ⟨wa (tt6 (j := 64) rfl) rfl, yc_J0_length_8abf5, yi_RJ0, yd_J0_length_8abf5, by decide⟩
theorem mX8_173 : cW RX8 173 yJ0_charAt_5068e cJ0_charAt_5068e 2 (some .char) 1 := ⟨wa (tt6 (j := 65) rfl) rfl, yc_J0_charAt_5068e, yi_RJ0, yd_J0_charAt_5068e, by decide⟩
theorem mX8_190 : MV RX8 190 yX8_told cX8_told 6 (some .boolean) 5 8 := ⟨⟨wa (tt6 (j := 66) rfl) rfl, yc_X8_told, yi_RX8, yd_X8_told, by decide⟩, ym_X8_told, yv_X8_told, ⟨_, _, rfl⟩, by decide⟩
theorem mX8_181 : MV RX8 181 yX8_wrong cX8_wrong 1 (some .boolean) 0 8 := ⟨⟨wa (tt6 (j := 70) rfl) rfl, yc_X8_wrong, yi_RX8, yd_X8_wrong, by decide⟩, ym_X8_wrong, yv_X8_wrong, ⟨_, _, rfl⟩, by decide⟩
theorem mL_65 : MV RL 65 yX8_houseOf cX8_houseOf 3 (some .int) 2 8 := ⟨⟨wa (tt6 (j := 82) rfl) rfl, yc_X8_houseOf, yi_RX8, yd_X8_houseOf, by decide⟩, ym_X8_houseOf, yv_X8_houseOf, ⟨_, _, rfl⟩, by decide⟩
theorem mX8_106 : MV RX8 106 yX8_isHouse cX8_isHouse 2 (some .boolean) 1 8 := ⟨⟨wa (tt6 (j := 86) rfl) rfl, yc_X8_isHouse, yi_RX8, yd_X8_isHouse, by decide⟩, ym_X8_isHouse, yv_X8_isHouse, ⟨_, _, rfl⟩, by decide⟩
theorem mL_69 : MV RL 69 yX8_sortOf cX8_sortOf 4 (some .int) 3 8 := ⟨⟨wa (tt6 (j := 90) rfl) rfl, yc_X8_sortOf, yi_RX8, yd_X8_sortOf, by decide⟩, ym_X8_sortOf, yv_X8_sortOf, ⟨_, _, rfl⟩, by decide⟩
theorem mX8_98 : MV RX8 98 yX8_sorts cX8_sorts 2 (some .int) 1 8 := ⟨⟨wa (tt6 (j := 94) rfl) rfl, yc_X8_sorts, yi_RX8, yd_X8_sorts, by decide⟩, ym_X8_sorts, yv_X8_sorts, ⟨_, _, rfl⟩, by decide⟩
theorem mL_73 : MV RL 73 yX8_alter cX8_alter 5 (some .int) 3 8 := ⟨⟨wa (tt6 (j := 98) rfl) rfl, yc_X8_alter, yi_RX8, yd_X8_alter, by decide⟩, ym_X8_alter, yv_X8_alter, ⟨_, _, rfl⟩, by decide⟩
theorem mL_78 : MV RL 78 yX8_change cX8_change 7 (some .int) 4 8 := ⟨⟨wa (tt6 (j := 105) rfl) rfl, yc_X8_change, yi_RX8, yd_X8_change, by decide⟩, ym_X8_change, yv_X8_change, ⟨_, _, rfl⟩, by decide⟩
theorem mL_82 : MV RL 82 yX8_of cX8_of 3 (some .int) 2 8 := ⟨⟨wa (tt6 (j := 110) rfl) rfl, yc_X8_of, yi_RX8, yd_X8_of, by decide⟩, ym_X8_of, yv_X8_of, ⟨_, _, rfl⟩, by decide⟩
theorem mX8_226 : MS RX8 226 yX8_ofState cX8_ofState 2 (some .int) 2 := ⟨⟨wa (tt6 (j := 115) rfl) rfl, yc_X8_ofState, yi_RX8, yd_X8_ofState, by decide⟩, ys_X8_ofState⟩
theorem mX8_102 : MS RX8 102 yX8_power cX8_power 4 (some .int) 2 := ⟨⟨wa (tt6 (j := 118) rfl) rfl, yc_X8_power, yi_RX8, yd_X8_power, by decide⟩, ys_X8_power⟩
theorem mL_86 : MV RL 86 yX8_space cX8_space 3 (some .int) 2 8 := ⟨⟨wa (tt6 (j := 121) rfl) rfl, yc_X8_space, yi_RX8, yd_X8_space, by decide⟩, ym_X8_space, yv_X8_space, ⟨_, _, rfl⟩, by decide⟩
theorem mX8_233 : MV RX8 233 yX8_isState cX8_isState 3 (some .boolean) 2 8 := ⟨⟨wa (tt6 (j := 125) rfl) rfl, yc_X8_isState, yi_RX8, yd_X8_isState, by decide⟩, ym_X8_isState, yv_X8_isState, ⟨_, _, rfl⟩, by decide⟩
theorem mX8_110 : MV RX8 110 yX8_states cX8_states 2 (some .int) 1 8 := ⟨⟨wa (tt6 (j := 129) rfl) rfl, yc_X8_states, yi_RX8, yd_X8_states, by decide⟩, ym_X8_states, yv_X8_states, ⟨_, _, rfl⟩, by decide⟩
theorem mX8_236 : MV RX8 236 yX8_sum cX8_sum 6 (some .int) 3 8 := ⟨⟨wa (tt6 (j := 133) rfl) rfl, yc_X8_sum, yi_RX8, yd_X8_sum, by decide⟩, ym_X8_sum, yv_X8_sum, ⟨_, _, rfl⟩, by decide⟩
theorem mX8_229 : MV RX8 229 yX8_numberOf cX8_numberOf 4 (some .int) 3 8 := ⟨⟨wa (tt6 (j := 137) rfl) rfl, yc_X8_numberOf, yi_RX8, yd_X8_numberOf, by decide⟩, ym_X8_numberOf, yv_X8_numberOf, ⟨_, _, rfl⟩, by decide⟩
theorem mL_90 : MV RL 90 yX8_scale cX8_scale 3 (some .long) 2 8 := ⟨⟨wa (tt6 (j := 141) rfl) rfl, yc_X8_scale, yi_RX8, yd_X8_scale, by decide⟩, ym_X8_scale, yv_X8_scale, ⟨_, _, rfl⟩, by decide⟩
theorem mX8_239 : MV RX8 239 yX8_isLeft cX8_isLeft 3 (some .boolean) 2 8 := ⟨⟨wa (tt6 (j := 145) rfl) rfl, yc_X8_isLeft, yi_RX8, yd_X8_isLeft, by decide⟩, ym_X8_isLeft, yv_X8_isLeft, ⟨_, _, rfl⟩, by decide⟩
theorem mX8_242 : MV RX8 242 yX8_scaleOf cX8_scaleOf 6 (some .long) 2 8 := ⟨⟨wa (tt6 (j := 149) rfl) rfl, yc_X8_scaleOf, yi_RX8, yd_X8_scaleOf, by decide⟩, ym_X8_scaleOf, yv_X8_scaleOf, ⟨_, _, rfl⟩, by decide⟩
theorem mL_103 : MV RL 103 yX8_fill cX8_fill 3 (some .int) 2 8 := ⟨⟨wa (tt6 (j := 153) rfl) rfl, yc_X8_fill, yi_RX8, yd_X8_fill, by decide⟩, ym_X8_fill, yv_X8_fill, ⟨_, _, rfl⟩, by decide⟩
theorem mX8_246 : MV RX8 246 yX8_fillOf cX8_fillOf 10 (some .int) 2 8 := ⟨⟨wa (tt6 (j := 157) rfl) rfl, yc_X8_fillOf, yi_RX8, yd_X8_fillOf, by decide⟩, ym_X8_fillOf, yv_X8_fillOf, ⟨_, _, rfl⟩, by decide⟩
theorem mL_95 : MV RL 95 yX8_cost cX8_cost 4 (some .long) 3 8 := ⟨⟨wa (tt6 (j := 161) rfl) rfl, yc_X8_cost, yi_RX8, yd_X8_cost, by decide⟩, ym_X8_cost, yv_X8_cost, ⟨_, _, rfl⟩, by decide⟩
theorem mX8_264 : MV RX8 264 yX8_findBest cX8_findBest 10 none 1 8 := ⟨⟨wa (tt6 (j := 165) rfl) rfl, yc_X8_findBest, yi_RX8, yd_X8_findBest, by decide⟩, ym_X8_findBest, yv_X8_findBest, ⟨_, _, rfl⟩, by decide⟩
theorem mX8_249 : MV RX8 249 yX8_findWays cX8_findWays 8 none 1 8 := ⟨⟨wa (tt6 (j := 169) rfl) rfl, yc_X8_findWays, yi_RX8, yd_X8_findWays, by decide⟩, ym_X8_findWays, yv_X8_findWays, ⟨_, _, rfl⟩, by decide⟩
theorem mX8_253 : MV RX8 253 yX8_behind cX8_behind 11 (some .long) 4 8 := ⟨⟨wa (tt6 (j := 173) rfl) rfl, yc_X8_behind, yi_RX8, yd_X8_behind, by decide⟩, ym_X8_behind, yv_X8_behind, ⟨_, _, rfl⟩, by decide⟩
theorem mX8_257 : MV RX8 257 yX8_isLoad cX8_isLoad 4 (some .boolean) 3 8 := ⟨⟨wa (tt6 (j := 177) rfl) rfl, yc_X8_isLoad, yi_RX8, yd_X8_isLoad, by decide⟩, ym_X8_isLoad, yv_X8_isLoad, ⟨_, _, rfl⟩, by decide⟩
theorem mX8_261 : MV RX8 261 yX8_boxOf cX8_boxOf 3 (some .long) 2 8 := ⟨⟨wa (tt6 (j := 181) rfl) rfl, yc_X8_boxOf, yi_RX8, yd_X8_boxOf, by decide⟩, ym_X8_boxOf, yv_X8_boxOf, ⟨_, _, rfl⟩, by decide⟩
theorem mL_99 : MV RL 99 yX8_best cX8_best 4 (some .int) 3 8 := ⟨⟨wa (tt6 (j := 185) rfl) rfl, yc_X8_best, yi_RX8, yd_X8_best, by decide⟩, ym_X8_best, yv_X8_best, ⟨_, _, rfl⟩, by decide⟩
theorem mL_107 : MV RL 107 yX8_load cX8_load 6 (some .int) 4 8 := ⟨⟨wa (tt6 (j := 189) rfl) rfl, yc_X8_load, yi_RX8, yd_X8_load, by decide⟩, ym_X8_load, yv_X8_load, ⟨_, _, rfl⟩, by decide⟩
theorem mX8_271 : MV RX8 271 yX8_noRule cX8_noRule 2 (some .int) 1 8 := ⟨⟨wa (tt6 (j := 193) rfl) rfl, yc_X8_noRule, yi_RX8, yd_X8_noRule, by decide⟩, ym_X8_noRule, yv_X8_noRule, ⟨_, _, rfl⟩, by decide⟩
theorem mX8_274 : MV RX8 274 yX8_loadBy cX8_loadBy 5 (some .int) 4 8 := ⟨⟨wa (tt6 (j := 197) rfl) rfl, yc_X8_loadBy, yi_RX8, yd_X8_loadBy, by decide⟩, ym_X8_loadBy, yv_X8_loadBy, ⟨_, _, rfl⟩, by decide⟩
theorem mX8_267 : MV RX8 267 yX8_fillsBy cX8_fillsBy 5 (some .boolean) 4 8 := ⟨⟨wa (tt6 (j := 201) rfl) rfl, yc_X8_fillsBy, yi_RX8, yd_X8_fillsBy, by decide⟩, ym_X8_fillsBy, yv_X8_fillsBy, ⟨_, _, rfl⟩, by decide⟩
theorem mL_112 : MV RL 112 yX8_mean cX8_mean 5 (some .long) 4 8 := ⟨⟨wa (tt6 (j := 205) rfl) rfl, yc_X8_mean, yi_RX8, yd_X8_mean, by decide⟩, ym_X8_mean, yv_X8_mean, ⟨_, _, rfl⟩, by decide⟩
theorem mX8_285 : MV RX8 285 yX8_byShelf cX8_byShelf 7 (some .long) 5 8 := ⟨⟨wa (tt6 (j := 209) rfl) rfl, yc_X8_byShelf, yi_RX8, yd_X8_byShelf, by decide⟩, ym_X8_byShelf, yv_X8_byShelf, ⟨_, _, rfl⟩, by decide⟩
theorem mX8_282 : MV RX8 282 yX8_findByRule cX8_findByRule 3 none 2 8 := ⟨⟨wa (tt6 (j := 213) rfl) rfl, yc_X8_findByRule, yi_RX8, yd_X8_findByRule, by decide⟩, ym_X8_findByRule, yv_X8_findByRule, ⟨_, _, rfl⟩, by decide⟩
theorem mX8_278 : MV RX8 278 yX8_goesByRule cX8_goesByRule 10 none 2 8 := ⟨⟨wa (tt6 (j := 217) rfl) rfl, yc_X8_goesByRule, yi_RX8, yd_X8_goesByRule, by decide⟩, ym_X8_goesByRule, yv_X8_goesByRule, ⟨_, _, rfl⟩, by decide⟩
theorem mL_116 : MV RL 116 yX8_lose cX8_lose 5 (some .long) 4 8 := ⟨⟨wa (tt6 (j := 221) rfl) rfl, yc_X8_lose, yi_RX8, yd_X8_lose, by decide⟩, ym_X8_lose, yv_X8_lose, ⟨_, _, rfl⟩, by decide⟩
theorem mL_120 : MV RL 120 yX8_boy cX8_boy 8 (some .int) 1 8 := ⟨⟨wa (tt6 (j := 225) rfl) rfl, yc_X8_boy, yi_RX8, yd_X8_boy, by decide⟩, ym_X8_boy, yv_X8_boy, ⟨_, _, rfl⟩, by decide⟩
theorem mL_124 : MV RL 124 yX8_waits cX8_waits 4 (some .long) 3 8 := ⟨⟨wa (tt6 (j := 229) rfl) rfl, yc_X8_waits, yi_RX8, yd_X8_waits, by decide⟩, ym_X8_waits, yv_X8_waits, ⟨_, _, rfl⟩, by decide⟩
theorem mL_128 : MV RL 128 yX8_once cX8_once 4 (some .long) 3 8 := ⟨⟨wa (tt6 (j := 233) rfl) rfl, yc_X8_once, yi_RX8, yd_X8_once, by decide⟩, ym_X8_once, yv_X8_once, ⟨_, _, rfl⟩, by decide⟩
theorem mX8_289 : MV RX8 289 yX8_withLoad cX8_withLoad 10 (some .long) 5 8 := ⟨⟨wa (tt6 (j := 237) rfl) rfl, yc_X8_withLoad, yi_RX8, yd_X8_withLoad, by decide⟩, ym_X8_withLoad, yv_X8_withLoad, ⟨_, _, rfl⟩, by decide⟩
theorem mL_136 : MV RL 136 yX8_chance cX8_chance 6 (some .long) 4 8 := ⟨⟨wa (tt7 (j := 1) rfl) rfl, yc_X8_chance, yi_RX8, yd_X8_chance, by decide⟩, ym_X8_chance, yv_X8_chance, ⟨_, _, rfl⟩, by decide⟩
theorem mX8_297 : MV RX8 297 yX8_findChances cX8_findChances 8 none 2 8 := ⟨⟨wa (tt7 (j := 5) rfl) rfl, yc_X8_findChances, yi_RX8, yd_X8_findChances, by decide⟩, ym_X8_findChances, yv_X8_findChances, ⟨_, _, rfl⟩, by decide⟩
theorem mX8_293 : MV RX8 293 yX8_goesOn cX8_goesOn 14 none 4 8 := ⟨⟨wa (tt7 (j := 9) rfl) rfl, yc_X8_goesOn, yi_RX8, yd_X8_goesOn, by decide⟩, ym_X8_goesOn, yv_X8_goesOn, ⟨_, _, rfl⟩, by decide⟩
theorem mL_140 : MV RL 140 yX8_reach cX8_reach 7 (some .int) 3 8 := ⟨⟨wa (tt7 (j := 13) rfl) rfl, yc_X8_reach, yi_RX8, yd_X8_reach, by decide⟩, ym_X8_reach, yv_X8_reach, ⟨_, _, rfl⟩, by decide⟩
theorem mL_144 : MV RL 144 yX8_held cX8_held 5 (some .long) 3 8 := ⟨⟨wa (tt7 (j := 17) rfl) rfl, yc_X8_held, yi_RX8, yd_X8_held, by decide⟩, ym_X8_held, yv_X8_held, ⟨_, _, rfl⟩, by decide⟩
theorem mX8_300 : MV RX8 300 yX8_meanOf cX8_meanOf 14 (some .long) 3 8 := ⟨⟨wa (tt7 (j := 21) rfl) rfl, yc_X8_meanOf, yi_RX8, yd_X8_meanOf, by decide⟩, ym_X8_meanOf, yv_X8_meanOf, ⟨_, _, rfl⟩, by decide⟩
theorem mL_148 : MV RL 148 yX8_boxes cX8_boxes 4 (some .long) 2 8 := ⟨⟨wa (tt7 (j := 25) rfl) rfl, yc_X8_boxes, yi_RX8, yd_X8_boxes, by decide⟩, ym_X8_boxes, yv_X8_boxes, ⟨_, _, rfl⟩, by decide⟩
theorem mL_152 : MV RL 152 yX8_plain cX8_plain 2 (some .int) 1 8 := ⟨⟨wa (tt7 (j := 29) rfl) rfl, yc_X8_plain, yi_RX8, yd_X8_plain, by decide⟩, ym_X8_plain, yv_X8_plain, ⟨_, _, rfl⟩, by decide⟩
theorem mX8_307 : MV RX8 307 yX8_leastOf cX8_leastOf 11 (some .int) 4 8 := ⟨⟨wa (tt7 (j := 33) rfl) rfl, yc_X8_leastOf, yi_RX8, yd_X8_leastOf, by decide⟩, ym_X8_leastOf, yv_X8_leastOf, ⟨_, _, rfl⟩, by decide⟩
theorem mX8_304 : MV RX8 304 yX8_hasRoom cX8_hasRoom 4 (some .boolean) 2 8 := ⟨⟨wa (tt7 (j := 37) rfl) rfl, yc_X8_hasRoom, yi_RX8, yd_X8_hasRoom, by decide⟩, ym_X8_hasRoom, yv_X8_hasRoom, ⟨_, _, rfl⟩, by decide⟩
theorem mL_156 : MV RL 156 yX8_every cX8_every 2 (some .int) 1 8 := ⟨⟨wa (tt7 (j := 41) rfl) rfl, yc_X8_every, yi_RX8, yd_X8_every, by decide⟩, ym_X8_every, yv_X8_every, ⟨_, _, rfl⟩, by decide⟩
theorem mL_160 : MV RL 160 yX8_promise cX8_promise 5 (some .long) 2 8 := ⟨⟨wa (tt7 (j := 45) rfl) rfl, yc_X8_promise, yi_RX8, yd_X8_promise, by decide⟩, ym_X8_promise, yv_X8_promise, ⟨_, _, rfl⟩, by decide⟩
theorem mL_132 : MV RL 132 yX8_dear cX8_dear 5 (some .long) 4 8 := ⟨⟨wa (tt7 (j := 49) rfl) rfl, yc_X8_dear, yi_RX8, yd_X8_dear, by decide⟩, ym_X8_dear, yv_X8_dear, ⟨_, _, rfl⟩, by decide⟩
theorem mL_164 : MV RL 164 yX8_shape cX8_shape 3 (some .int) 2 8 := ⟨⟨wa (tt7 (j := 53) rfl) rfl, yc_X8_shape, yi_RX8, yd_X8_shape, by decide⟩, ym_X8_shape, yv_X8_shape, ⟨_, _, rfl⟩, by decide⟩
theorem mX8_316 : MV RX8 316 yX8_findRooms cX8_findRooms 5 (some .boolean) 2 8 := ⟨⟨wa (tt7 (j := 57) rfl) rfl, yc_X8_findRooms, yi_RX8, yd_X8_findRooms, by decide⟩, ym_X8_findRooms, yv_X8_findRooms, ⟨_, _, rfl⟩, by decide⟩
theorem mL_168 : MV RL 168 yX8_odd cX8_odd 4 (some .int) 2 8 := ⟨⟨wa (tt7 (j := 61) rfl) rfl, yc_X8_odd, yi_RX8, yd_X8_odd, by decide⟩, ym_X8_odd, yv_X8_odd, ⟨_, _, rfl⟩, by decide⟩
theorem mL_172 : MV RL 172 yX8_judge cX8_judge 6 (some .int) 3 8 := ⟨⟨wa (tt7 (j := 65) rfl) rfl, yc_X8_judge, yi_RX8, yd_X8_judge, by decide⟩, ym_X8_judge, yv_X8_judge, ⟨_, _, rfl⟩, by decide⟩
theorem mL_176 : MV RL 176 yX8_join cX8_join 3 (some .int) 2 8 := ⟨⟨wa (tt7 (j := 69) rfl) rfl, yc_X8_join, yi_RX8, yd_X8_join, by decide⟩, ym_X8_join, yv_X8_join, ⟨_, _, rfl⟩, by decide⟩
theorem mX8_319 : MV RX8 319 yX8_mayJoin cX8_mayJoin 3 (some .boolean) 2 8 := ⟨⟨wa (tt7 (j := 73) rfl) rfl, yc_X8_mayJoin, yi_RX8, yd_X8_mayJoin, by decide⟩, ym_X8_mayJoin, yv_X8_mayJoin, ⟨_, _, rfl⟩, by decide⟩
theorem mX8_322 : MV RX8 322 yX8_joinTo cX8_joinTo 5 none 3 8 := ⟨⟨wa (tt7 (j := 77) rfl) rfl, yc_X8_joinTo, yi_RX8, yd_X8_joinTo, by decide⟩, ym_X8_joinTo, yv_X8_joinTo, ⟨_, _, rfl⟩, by decide⟩
theorem mL_180 : MV RL 180 yX8_saved cX8_saved 12 (some .long) 2 8 := ⟨⟨wa (tt7 (j := 81) rfl) rfl, yc_X8_saved, yi_RX8, yd_X8_saved, by decide⟩, ym_X8_saved, yv_X8_saved, ⟨_, _, rfl⟩, by decide⟩
theorem mX8_326 : MV RX8 326 yX8_wholeCost cX8_wholeCost 2 (some .long) 1 8 := ⟨⟨wa (tt7 (j := 85) rfl) rfl, yc_X8_wholeCost, yi_RX8, yd_X8_wholeCost, by decide⟩, ym_X8_wholeCost, yv_X8_wholeCost, ⟨_, _, rfl⟩, by decide⟩
theorem mL_184 : MV RL 184 yX8_seed cX8_seed 3 (some .int) 1 8 := ⟨⟨wa (tt7 (j := 89) rfl) rfl, yc_X8_seed, yi_RX8, yd_X8_seed, by decide⟩, ym_X8_seed, yv_X8_seed, ⟨_, _, rfl⟩, by decide⟩
theorem mL_188 : MV RL 188 yX8_begin cX8_begin 5 (some .int) 2 8 := ⟨⟨wa (tt7 (j := 93) rfl) rfl, yc_X8_begin, yi_RX8, yd_X8_begin, by decide⟩, ym_X8_begin, yv_X8_begin, ⟨_, _, rfl⟩, by decide⟩
theorem mL_192 : MV RL 192 yX8_step cX8_step 4 (some .int) 1 8 := ⟨⟨wa (tt7 (j := 97) rfl) rfl, yc_X8_step, yi_RX8, yd_X8_step, by decide⟩, ym_X8_step, yv_X8_step, ⟨_, _, rfl⟩, by decide⟩
theorem mX8_367 : MV RX8 367 yX8_day cX8_day 9 (some .int) 4 8 := ⟨⟨wa (tt7 (j := 101) rfl) rfl, yc_X8_day, yi_RX8, yd_X8_day, by decide⟩, ym_X8_day, yv_X8_day, ⟨_, _, rfl⟩, by decide⟩
theorem mX8_331 : MV RX8 331 yX8_draw cX8_draw 1 (some .int) 0 8 := ⟨⟨wa (tt7 (j := 105) rfl) rfl, yc_X8_draw, yi_RX8, yd_X8_draw, by decide⟩, ym_X8_draw, yv_X8_draw, ⟨_, _, rfl⟩, by decide⟩
theorem mL_196 : MV RL 196 yX8_week cX8_week 2 (some .int) 1 8 := ⟨⟨wa (tt7 (j := 110) rfl) rfl, yc_X8_week, yi_RX8, yd_X8_week, by decide⟩, ym_X8_week, yv_X8_week, ⟨_, _, rfl⟩, by decide⟩
theorem mL_200 : MV RL 200 yX8_weeks cX8_weeks 9 (some .int) 3 8 := ⟨⟨wa (tt7 (j := 114) rfl) rfl, yc_X8_weeks, yi_RX8, yd_X8_weeks, by decide⟩, ym_X8_weeks, yv_X8_weeks, ⟨_, _, rfl⟩, by decide⟩
theorem mL_204 : MV RL 204 yX8_image cX8_image 1 (some .int) 0 8 := ⟨⟨wa (tt7 (j := 119) rfl) rfl, yc_X8_image, yi_RX8, yd_X8_image, by decide⟩, ym_X8_image, yv_X8_image, ⟨_, _, rfl⟩, by decide⟩
theorem mX8_376 : MI RX8 376 yX8_init cX8_init 1 0 := ⟨⟨wa (tt7 (j := 124) rfl) rfl, yc_X8_init, yi_RX8, yd_X8_init, by decide⟩, ym_X8_init, rfl⟩
theorem mX8_377 : MV RX8 377 yX8_takeFrom cX8_takeFrom 4 none 1 8 := ⟨⟨wa (tt7 (j := 125) rfl) rfl, yc_X8_takeFrom, yi_RX8, yd_X8_takeFrom, by decide⟩, ym_X8_takeFrom, yv_X8_takeFrom, ⟨_, _, rfl⟩, by decide⟩
theorem mL_208 : MV RL 208 yX8_back cX8_back 1 (some .int) 0 8 := ⟨⟨wa (tt7 (j := 129) rfl) rfl, yc_X8_back, yi_RX8, yd_X8_back, by decide⟩, ym_X8_back, yv_X8_back, ⟨_, _, rfl⟩, by decide⟩
theorem mL_212 : MV RL 212 yX8_status cX8_status 4 (some .int) 1 8 := ⟨⟨wa (tt7 (j := 133) rfl) rfl, yc_X8_status, yi_RX8, yd_X8_status, by decide⟩, ym_X8_status, yv_X8_status, ⟨_, _, rfl⟩, by decide⟩
theorem mX6_23 : MIN RX6 23 yX5_init cX5_init 1 0 := ⟨⟨"SendTheBox", ⟨wn (tt1 (j := 34) rfl) rfl, yc_X5_init, yi_RX5, yd_X5_init, by decide⟩⟩, ym_X5_init, rfl⟩
theorem mX5_11 : MIN RX5 11 yX0_init cX0_init 1 0 := ⟨⟨"SendTheBox", ⟨wn (tt1 (j := 40) rfl) rfl, yc_X0_init, yi_RX0, yd_X0_init, by decide⟩⟩, ym_X0_init, rfl⟩
theorem mX6_28 : MIN RX6 28 yX0_init cX0_init 1 0 := ⟨⟨"SendTheBox", ⟨wn (tt1 (j := 76) rfl) rfl, yc_X0_init, yi_RX0, yd_X0_init, by decide⟩⟩, ym_X0_init, rfl⟩
theorem mX7_21 : MIN RX7 21 yX4_init cX4_init 1 0 := ⟨⟨"SendTheBox", ⟨wn (tt1 (j := 95) rfl) rfl, yc_X4_init, yi_RX4, yd_X4_init, by decide⟩⟩, ym_X4_init, rfl⟩
theorem mX7_48 : MIN RX7 48 yX1_init cX1_init 1 0 := ⟨⟨"SendTheBox", ⟨wn (tt1 (j := 124) rfl) rfl, yc_X1_init, yi_RX1, yd_X1_init, by decide⟩⟩, ym_X1_init, rfl⟩
theorem mX1_11 : MIN RX1 11 yX0_init cX0_init 1 0 := ⟨⟨"SendTheBox", ⟨wn (tt1 (j := 129) rfl) rfl, yc_X0_init, yi_RX0, yd_X0_init, by decide⟩⟩, ym_X0_init, rfl⟩
theorem mX7_58 : MIN RX7 58 yX0_init cX0_init 1 0 := ⟨⟨"SendTheBox", ⟨wn (tt1 (j := 181) rfl) rfl, yc_X0_init, yi_RX0, yd_X0_init, by decide⟩⟩, ym_X0_init, rfl⟩
theorem mX7_65 : MIN RX7 65 yX5_init cX5_init 1 0 := ⟨⟨"SendTheBox", ⟨wn (tt1 (j := 183) rfl) rfl, yc_X5_init, yi_RX5, yd_X5_init, by decide⟩⟩, ym_X5_init, rfl⟩
theorem mX2_19 : MSN RX2 19 yX7_at_ cX7_at_ 2 (some .long) 2 := ⟨⟨"SendTheBox", ⟨wn (tt2 (j := 62) rfl) rfl, yc_X7_at_, yi_RX7, yd_X7_at_, by decide⟩⟩, ys_X7_at_⟩
theorem mX3_31 : MSN RX3 31 yX7_isShelf cX7_isShelf 1 (some .boolean) 1 := ⟨⟨"SendTheBox", ⟨wn (tt2 (j := 76) rfl) rfl, yc_X7_isShelf, yi_RX7, yd_X7_isShelf, by decide⟩⟩, ys_X7_isShelf⟩
theorem mX0_23 : MSN RX0 23 yX7_put cX7_put 3 none 3 := ⟨⟨"SendTheBox", ⟨wn (tt2 (j := 160) rfl) rfl, yc_X7_put, yi_RX7, yd_X7_put, by decide⟩⟩, ys_X7_put⟩
theorem mX0_19 : MSN RX0 19 yX7_at cX7_at 2 (some .int) 2 := ⟨⟨"SendTheBox", ⟨wn (tt3 (j := 48) rfl) rfl, yc_X7_at, yi_RX7, yd_X7_at, by decide⟩⟩, ys_X7_at⟩
theorem mX0_39 : MSN RX0 39 yX7_oneOf cX7_oneOf 1 (some .int) 1 := ⟨⟨"SendTheBox", ⟨wn (tt3 (j := 118) rfl) rfl, yc_X7_oneOf, yi_RX7, yd_X7_oneOf, by decide⟩⟩, ys_X7_oneOf⟩
theorem mX0_42 : MSN RX0 42 yX7_standing cX7_standing 2 (some .int) 2 := ⟨⟨"SendTheBox", ⟨wn (tt3 (j := 125) rfl) rfl, yc_X7_standing, yi_RX7, yd_X7_standing, by decide⟩⟩, ys_X7_standing⟩
theorem mX1_82 : MSN RX1 82 yX7_put cX7_put 3 none 3 := ⟨⟨"SendTheBox", ⟨wn (tt3 (j := 127) rfl) rfl, yc_X7_put, yi_RX7, yd_X7_put, by decide⟩⟩, ys_X7_put⟩
theorem mX1_98 : MSN RX1 98 yX7_at cX7_at 2 (some .int) 2 := ⟨⟨"SendTheBox", ⟨wn (tt3 (j := 143) rfl) rfl, yc_X7_at, yi_RX7, yd_X7_at, by decide⟩⟩, ys_X7_at⟩
theorem mX1_151 : MSN RX1 151 yX7_put_ cX7_put_ 4 none 3 := ⟨⟨"SendTheBox", ⟨wn (tt3 (j := 178) rfl) rfl, yc_X7_put_, yi_RX7, yd_X7_put_, by decide⟩⟩, ys_X7_put_⟩
theorem mX1_109 : MSN RX1 109 yX7_at_ cX7_at_ 2 (some .long) 2 := ⟨⟨"SendTheBox", ⟨wn (tt3 (j := 188) rfl) rfl, yc_X7_at_, yi_RX7, yd_X7_at_, by decide⟩⟩, ys_X7_at_⟩
theorem mX1_160 : MSN RX1 160 yX7_scaleOf cX7_scaleOf 2 (some .long) 2 := ⟨⟨"SendTheBox", ⟨wn (tt3 (j := 193) rfl) rfl, yc_X7_scaleOf, yi_RX7, yd_X7_scaleOf, by decide⟩⟩, ys_X7_scaleOf⟩
theorem mX1_164 : MSN RX1 164 yX7_oneOf cX7_oneOf 1 (some .int) 1 := ⟨⟨"SendTheBox", ⟨wn (tt3 (j := 194) rfl) rfl, yc_X7_oneOf, yi_RX7, yd_X7_oneOf, by decide⟩⟩, ys_X7_oneOf⟩
theorem mX1_170 : MSN RX1 170 yX7_standing cX7_standing 2 (some .int) 2 := ⟨⟨"SendTheBox", ⟨wn (tt3 (j := 196) rfl) rfl, yc_X7_standing, yi_RX7, yd_X7_standing, by decide⟩⟩, ys_X7_standing⟩
theorem mX1_154 : MSN RX1 154 yX7_timesOf cX7_timesOf 1 (some .long) 1 := ⟨⟨"SendTheBox", ⟨wn (tt3 (j := 211) rfl) rfl, yc_X7_timesOf, yi_RX7, yd_X7_timesOf, by decide⟩⟩, ys_X7_timesOf⟩
theorem mX5_80 : MSN RX5 80 yX7_standing cX7_standing 2 (some .int) 2 := ⟨⟨"SendTheBox", ⟨wn (tt5 (j := 26) rfl) rfl, yc_X7_standing, yi_RX7, yd_X7_standing, by decide⟩⟩, ys_X7_standing⟩
theorem mX5_83 : MSN RX5 83 yX7_oneOf cX7_oneOf 1 (some .int) 1 := ⟨⟨"SendTheBox", ⟨wn (tt5 (j := 33) rfl) rfl, yc_X7_oneOf, yi_RX7, yd_X7_oneOf, by decide⟩⟩, ys_X7_oneOf⟩
theorem kcX6_39 : Cond.constant RX6 39 (nI 1103515245) ∈ WA := wa (tt5 (j := 18) rfl) rfl
theorem kcX8_330 : Cond.constant RX8 330 (nI 1103515245) ∈ WA := wa (tt7 (j := 109) rfl) rfl
theorem klX1_127 : Cond.constantLong RX1 127 (lN 4) ∈ WA := wa (tt3 (j := 197) rfl) rfl
theorem klX8_113 : Cond.constantLong RX8 113 (lN 7) ∈ WA := wa (tt5 (j := 223) rfl) rfl
theorem klX8_115 : Cond.constantLong RX8 115 (lN 4) ∈ WA := wa (tt5 (j := 227) rfl) rfl
theorem klX8_117 : Cond.constantLong RX8 117 (lN 125) ∈ WA := wa (tt5 (j := 228) rfl) rfl
theorem klX8_130 : Cond.constantLong RX8 130 (lN 5) ∈ WA := wa (tt6 (j := 16) rfl) rfl
theorem klX8_126 : Cond.constantLong RX8 126 (lN 99) ∈ WA := wa (tt6 (j := 20) rfl) rfl
theorem klX8_128 : Cond.constantLong RX8 128 (lN 6) ∈ WA := wa (tt6 (j := 21) rfl) rfl
theorem klX8_158 : Cond.constantLong RX8 158 (lN 10) ∈ WA := wa (tt6 (j := 52) rfl) rfl
theorem klX8_160 : Cond.constantLong RX8 160 (lN 48) ∈ WA := wa (tt6 (j := 53) rfl) rfl
theorem klX8_162 : Cond.constantLong RX8 162 (lN 100000) ∈ WA := wa (tt6 (j := 54) rfl) rfl
theorem klX8_216 : Cond.constantLong RX8 216 (lN 2) ∈ WA := wa (tt6 (j := 102) rfl) rfl
theorem klX8_218 : Cond.constantLong RX8 218 (lN 40) ∈ WA := wa (tt6 (j := 103) rfl) rfl
theorem klX8_220 : Cond.constantLong RX8 220 (lN 3) ∈ WA := wa (tt6 (j := 104) rfl) rfl
theorem klX8_222 : Cond.constantLong RX8 222 (lN 9) ∈ WA := wa (tt6 (j := 109) rfl) rfl
theorem klX8_224 : Cond.constantLong RX8 224 (lN 124) ∈ WA := wa (tt6 (j := 114) rfl) rfl
theorem klX8_370 : Cond.constantLong RX8 370 (lN 50) ∈ WA := wa (tt7 (j := 118) rfl) rfl
theorem klX8_381 : Cond.constantLong RX8 381 (lN 12) ∈ WA := wa (tt7 (j := 137) rfl) rfl
theorem klX8_383 : Cond.constantLong RX8 383 (lN 16) ∈ WA := wa (tt7 (j := 138) rfl) rfl
theorem klL_18 : Cond.constantLong RL 18 (lN 4294967295) ∈ WA := wa (tt7 (j := 139) rfl) rfl
theorem kkL_7 : Cond.classLink RL 7 "SendTheBox" ∈ WA := wa (tt1 (j := 16) rfl) rfl
theorem kkX7_7 : Cond.classLink RX7 7 "SendTheBox$World" ∈ WA := wa (tt1 (j := 24) rfl) rfl
theorem kkX6_9 : Cond.classLink RX6 9 "SendTheBox$House" ∈ WA := wa (tt1 (j := 30) rfl) rfl
theorem kkX6_21 : Cond.classLink RX6 21 "SendTheBox$Week" ∈ WA := wa (tt1 (j := 32) rfl) rfl
theorem kkX5_9 : Cond.classLink RX5 9 "SendTheBox$House" ∈ WA := wa (tt1 (j := 38) rfl) rfl
theorem kkX7_19 : Cond.classLink RX7 19 "SendTheBox$Tape" ∈ WA := wa (tt1 (j := 93) rfl) rfl
theorem kkX7_26 : Cond.classLink RX7 26 "SendTheBox$Row" ∈ WA := wa (tt1 (j := 117) rfl) rfl
theorem kkX7_32 : Cond.classLink RX7 32 "SendTheBox$Rule" ∈ WA := wa (tt1 (j := 119) rfl) rfl
theorem kkX7_42 : Cond.classLink RX7 42 "SendTheBox$Plan" ∈ WA := wa (tt1 (j := 121) rfl) rfl
theorem kkX1_9 : Cond.classLink RX1 9 "SendTheBox$House" ∈ WA := wa (tt1 (j := 128) rfl) rfl
theorem kkX7_56 : Cond.classLink RX7 56 "SendTheBox$House" ∈ WA := wa (tt1 (j := 180) rfl) rfl
theorem kkX7_63 : Cond.classLink RX7 63 "SendTheBox$Week" ∈ WA := wa (tt1 (j := 182) rfl) rfl
theorem kkX2_10 : Cond.classLink RX2 10 "SendTheBox$Row" ∈ WA := wa (tt2 (j := 86) rfl) rfl
theorem kkX1_116 : Cond.classLink RX1 116 "SendTheBox$Rule" ∈ WA := wa (tt4 (j := 183) rfl) rfl
theorem kkL_10 : Cond.classLink RL 10 "SendTheBoxModel" ∈ WA := wa (tt5 (j := 70) rfl) rfl
theorem kkX8_19 : Cond.classLink RX8 19 "[[J" ∈ WA := wa (tt5 (j := 76) rfl) rfl
theorem kkX8_34 : Cond.classLink RX8 34 "[[I" ∈ WA := wa (tt5 (j := 78) rfl) rfl
theorem kkX8_8 : Cond.classLink RX8 8 "SendTheBoxModel" ∈ WA := wa (tt7 (j := 123) rfl) rfl
theorem ka_int : Cond.arrayClass .int ∈ WA := wa (tt1 (j := 48) rfl) rfl
theorem ka_byte : Cond.arrayClass .byte ∈ WA := wa (tt1 (j := 116) rfl) rfl
theorem ka_long : Cond.arrayClass .long ∈ WA := wa (tt1 (j := 179) rfl) rfl
theorem koX7_1 : Cond.methodLink RX7 1 objectInit ∈ WA := wa (tt1 (j := 21) rfl) rfl
theorem koX6_3 : Cond.methodLink RX6 3 objectInit ∈ WA := wa (tt1 (j := 29) rfl) rfl
theorem koX5_3 : Cond.methodLink RX5 3 objectInit ∈ WA := wa (tt1 (j := 37) rfl) rfl
theorem koX0_3 : Cond.methodLink RX0 3 objectInit ∈ WA := wa (tt1 (j := 43) rfl) rfl
theorem koX4_3 : Cond.methodLink RX4 3 objectInit ∈ WA := wa (tt1 (j := 98) rfl) rfl
theorem koX1_3 : Cond.methodLink RX1 3 objectInit ∈ WA := wa (tt1 (j := 127) rfl) rfl
theorem koX2_3 : Cond.methodLink RX2 3 objectInit ∈ WA := wa (tt1 (j := 236) rfl) rfl
theorem koX3_3 : Cond.methodLink RX3 3 objectInit ∈ WA := wa (tt2 (j := 81) rfl) rfl
theorem koX8_1 : Cond.methodLink RX8 1 objectInit ∈ WA := wa (tt5 (j := 75) rfl) rfl
theorem ko_i : Cond.instanceMethod objectInit ∈ WA := wa (tt1 (j := 22) rfl) rfl
theorem ko_c : Cond.code objectInit ⟨#[0xb1]⟩ 1 none ∈ WA := wa (tt1 (j := 23) rfl) rfl
end
section
section XF
variable {Z : zP} {X : xP} {nL : Nat} {G : zG} {V : zV} {k n : Nat} {Q : State → Prop} {pc : Nat} {lw : List (Nat × Option Value)} {st : List Value} {nm : String} {cc : ByteArray} {ret : Option FieldType} {D mc ms : Nat} {a : Nat}
theorem gX0_9 {v : Value} (hv : fV G V 0 0 a = v) (cx : Cx Z X RX0 nm cc nL ret D mc ms) (d : decode cc pc = .ok (.getfield 9, 3)) (ha : isK Z G a 0) (kk : Wm Z X nL G V k n Q (pc + 3) lw (v :: st)) : Wm Z X nL G V k n Q pc lw (.ref a :: st) := x_getf (C := RX0) (T := TX0) (N := 1) rfl inX0 rfl (by decide) (by decide) (wa (tt1 (j := 44) rfl) rfl) hv cx d ha kk
theorem pX0_9 {x : Option Nat} (cx : Cx Z X RX0 "<init>" cc nL ret D mc ms) (d : decode cc pc = .ok (.putfield 9, 3)) (ha : isK Z G a 0) (kk : Wm Z X nL (sR G 0 a x) V k n Q (pc + 3) lw st) : Wm Z X nL G V k n Q pc lw (va_rf x :: .ref a :: st) := x_putfF (C := RX0) (T := TX0) (N := 1) (i := 0) (ty := (.array .int)) tyX0 rfl inX0 tyX0_ok nmX0 rfl (by decide) (by decide) (by decide) (wa (tt1 (j := 44) rfl) rfl) rfl rfl (by decide +kernel) (putOK_R rfl (by decide)) cx d ha (narrow_rfA x) (fits_rfA x) kk
theorem gX5_12 {v : Value} (hv : fV G V 5 0 a = v) (cx : Cx Z X RX5 nm cc nL ret D mc ms) (d : decode cc pc = .ok (.getfield 12, 3)) (ha : isK Z G a 5) (kk : Wm Z X nL G V k n Q (pc + 3) lw (v :: st)) : Wm Z X nL G V k n Q pc lw (.ref a :: st) := x_getf (C := RX5) (T := TX5) (N := 8) rfl inX5 rfl (by decide) (by decide) (wa (tt1 (j := 49) rfl) rfl) hv cx d ha kk
theorem pX5_12 {x : Option Nat} (cx : Cx Z X RX5 "<init>" cc nL ret D mc ms) (d : decode cc pc = .ok (.putfield 12, 3)) (ha : isK Z G a 5) (kk : Wm Z X nL (sR G 250 a x) V k n Q (pc + 3) lw st) : Wm Z X nL G V k n Q pc lw (va_rf x :: .ref a :: st) := x_putfF (C := RX5) (T := TX5) (N := 8) (i := 0) (ty := (.object "SendTheBox$House")) tyX5 rfl inX5 tyX5_ok nmX5 rfl (by decide) (by decide) (by decide) (wa (tt1 (j := 49) rfl) rfl) rfl rfl (by decide +kernel) (putOK_R rfl (by decide)) cx d ha (narrow_rf x) (fits_rf x) kk
theorem gX5_22 {v : Value} (hv : fV G V 5 1 a = v) (cx : Cx Z X RX5 nm cc nL ret D mc ms) (d : decode cc pc = .ok (.getfield 22, 3)) (ha : isK Z G a 5) (kk : Wm Z X nL G V k n Q (pc + 3) lw (v :: st)) : Wm Z X nL G V k n Q pc lw (.ref a :: st) := x_getf (C := RX5) (T := TX5) (N := 8) rfl inX5 rfl (by decide) (by decide) (wa (tt1 (j := 51) rfl) rfl) hv cx d ha kk
theorem pX5_22 {x : Option Nat} (cx : Cx Z X RX5 nm cc nL ret D mc ms) (d : decode cc pc = .ok (.putfield 22, 3)) (ha : isK Z G a 5) (kk : Wm Z X nL (sR G 251 a x) V k n Q (pc + 3) lw st) : Wm Z X nL G V k n Q pc lw (va_rf x :: .ref a :: st) := x_putf (C := RX5) (T := TX5) (N := 8) (i := 1) (ty := (.object "SendTheBox$Rule")) tyX5 rfl inX5 tyX5_ok nmX5 rfl (by decide) (by decide) (by decide) (wa (tt1 (j := 51) rfl) rfl) rfl (by decide +kernel) (putOK_R rfl (by decide)) cx d ha (narrow_rf x) (fits_rf x) kk
theorem gX5_30 {v : Value} (hv : fV G V 5 2 a = v) (cx : Cx Z X RX5 nm cc nL ret D mc ms) (d : decode cc pc = .ok (.getfield 30, 3)) (ha : isK Z G a 5) (kk : Wm Z X nL G V k n Q (pc + 3) lw (v :: st)) : Wm Z X nL G V k n Q pc lw (.ref a :: st) := x_getf (C := RX5) (T := TX5) (N := 8) rfl inX5 rfl (by decide) (by decide) (wa (tt1 (j := 53) rfl) rfl) hv cx d ha kk
theorem pX5_30 {x : Int32} (cx : Cx Z X RX5 nm cc nL ret D mc ms) (d : decode cc pc = .ok (.putfield 30, 3)) (ha : isK Z G a 5) (kk : Wm Z X nL G (sI V 252 a x) k n Q (pc + 3) lw st) : Wm Z X nL G V k n Q pc lw (.int x :: .ref a :: st) := x_putf (C := RX5) (T := TX5) (N := 8) (i := 2) (ty := .int) tyX5 rfl inX5 tyX5_ok nmX5 rfl (by decide) (by decide) (by decide) (wa (tt1 (j := 53) rfl) rfl) rfl (by decide +kernel) (putOK_I rfl (by decide)) cx d ha rfl rfl kk
theorem gX5_34 {v : Value} (hv : fV G V 5 3 a = v) (cx : Cx Z X RX5 nm cc nL ret D mc ms) (d : decode cc pc = .ok (.getfield 34, 3)) (ha : isK Z G a 5) (kk : Wm Z X nL G V k n Q (pc + 3) lw (v :: st)) : Wm Z X nL G V k n Q pc lw (.ref a :: st) := x_getf (C := RX5) (T := TX5) (N := 8) rfl inX5 rfl (by decide) (by decide) (wa (tt1 (j := 54) rfl) rfl) hv cx d ha kk
theorem pX5_34 {x : Int32} (cx : Cx Z X RX5 nm cc nL ret D mc ms) (d : decode cc pc = .ok (.putfield 34, 3)) (ha : isK Z G a 5) (kk : Wm Z X nL G (sI V 253 a x) k n Q (pc + 3) lw st) : Wm Z X nL G V k n Q pc lw (.int x :: .ref a :: st) := x_putf (C := RX5) (T := TX5) (N := 8) (i := 3) (ty := .int) tyX5 rfl inX5 tyX5_ok nmX5 rfl (by decide) (by decide) (by decide) (wa (tt1 (j := 54) rfl) rfl) rfl (by decide +kernel) (putOK_I rfl (by decide)) cx d ha rfl rfl kk
theorem gX5_37 {v : Value} (hv : fV G V 5 4 a = v) (cx : Cx Z X RX5 nm cc nL ret D mc ms) (d : decode cc pc = .ok (.getfield 37, 3)) (ha : isK Z G a 5) (kk : Wm Z X nL G V k n Q (pc + 3) lw (v :: st)) : Wm Z X nL G V k n Q pc lw (.ref a :: st) := x_getf (C := RX5) (T := TX5) (N := 8) rfl inX5 rfl (by decide) (by decide) (wa (tt1 (j := 55) rfl) rfl) hv cx d ha kk
theorem pX5_37 {x : Int32} (cx : Cx Z X RX5 nm cc nL ret D mc ms) (d : decode cc pc = .ok (.putfield 37, 3)) (ha : isK Z G a 5) (kk : Wm Z X nL G (sI V 254 a x) k n Q (pc + 3) lw st) : Wm Z X nL G V k n Q pc lw (.int x :: .ref a :: st) := x_putf (C := RX5) (T := TX5) (N := 8) (i := 4) (ty := .int) tyX5 rfl inX5 tyX5_ok nmX5 rfl (by decide) (by decide) (by decide) (wa (tt1 (j := 55) rfl) rfl) rfl (by decide +kernel) (putOK_I rfl (by decide)) cx d ha rfl rfl kk
theorem gX5_40 {v : Value} (hv : fV G V 5 5 a = v) (cx : Cx Z X RX5 nm cc nL ret D mc ms) (d : decode cc pc = .ok (.getfield 40, 3)) (ha : isK Z G a 5) (kk : Wm Z X nL G V k n Q (pc + 3) lw (v :: st)) : Wm Z X nL G V k n Q pc lw (.ref a :: st) := x_getf (C := RX5) (T := TX5) (N := 8) rfl inX5 rfl (by decide) (by decide) (wa (tt1 (j := 56) rfl) rfl) hv cx d ha kk
theorem pX5_40 {x : Int32} (cx : Cx Z X RX5 nm cc nL ret D mc ms) (d : decode cc pc = .ok (.putfield 40, 3)) (ha : isK Z G a 5) (kk : Wm Z X nL G (sI V 255 a x) k n Q (pc + 3) lw st) : Wm Z X nL G V k n Q pc lw (.int x :: .ref a :: st) := x_putf (C := RX5) (T := TX5) (N := 8) (i := 5) (ty := .int) tyX5 rfl inX5 tyX5_ok nmX5 rfl (by decide) (by decide) (by decide) (wa (tt1 (j := 56) rfl) rfl) rfl (by decide +kernel) (putOK_I rfl (by decide)) cx d ha rfl rfl kk
theorem gX5_43 {v : Value} (hv : fV G V 5 6 a = v) (cx : Cx Z X RX5 nm cc nL ret D mc ms) (d : decode cc pc = .ok (.getfield 43, 3)) (ha : isK Z G a 5) (kk : Wm Z X nL G V k n Q (pc + 3) lw (v :: st)) : Wm Z X nL G V k n Q pc lw (.ref a :: st) := x_getf (C := RX5) (T := TX5) (N := 8) rfl inX5 rfl (by decide) (by decide) (wa (tt1 (j := 57) rfl) rfl) hv cx d ha kk
theorem pX5_43 {x : Int32} (cx : Cx Z X RX5 nm cc nL ret D mc ms) (d : decode cc pc = .ok (.putfield 43, 3)) (ha : isK Z G a 5) (kk : Wm Z X nL G (sI V 256 a x) k n Q (pc + 3) lw st) : Wm Z X nL G V k n Q pc lw (.int x :: .ref a :: st) := x_putf (C := RX5) (T := TX5) (N := 8) (i := 6) (ty := .int) tyX5 rfl inX5 tyX5_ok nmX5 rfl (by decide) (by decide) (by decide) (wa (tt1 (j := 57) rfl) rfl) rfl (by decide +kernel) (putOK_I rfl (by decide)) cx d ha rfl rfl kk
theorem gX5_46 {v : Value} (hv : fV G V 5 7 a = v) (cx : Cx Z X RX5 nm cc nL ret D mc ms) (d : decode cc pc = .ok (.getfield 46, 3)) (ha : isK Z G a 5) (kk : Wm Z X nL G V k n Q (pc + 3) lw (v :: st)) : Wm Z X nL G V k n Q pc lw (.ref a :: st) := x_getf (C := RX5) (T := TX5) (N := 8) rfl inX5 rfl (by decide) (by decide) (wa (tt1 (j := 58) rfl) rfl) hv cx d ha kk
theorem pX5_46 {x : Int32} (cx : Cx Z X RX5 nm cc nL ret D mc ms) (d : decode cc pc = .ok (.putfield 46, 3)) (ha : isK Z G a 5) (kk : Wm Z X nL G (sI V 257 a x) k n Q (pc + 3) lw st) : Wm Z X nL G V k n Q pc lw (.int x :: .ref a :: st) := x_putf (C := RX5) (T := TX5) (N := 8) (i := 7) (ty := .int) tyX5 rfl inX5 tyX5_ok nmX5 rfl (by decide) (by decide) (by decide) (wa (tt1 (j := 58) rfl) rfl) rfl (by decide +kernel) (putOK_I rfl (by decide)) cx d ha rfl rfl kk
theorem gX6_11 {v : Value} (hv : fV G V 6 0 a = v) (cx : Cx Z X RX6 nm cc nL ret D mc ms) (d : decode cc pc = .ok (.getfield 11, 3)) (ha : isK Z G a 6) (kk : Wm Z X nL G V k n Q (pc + 3) lw (v :: st)) : Wm Z X nL G V k n Q pc lw (.ref a :: st) := x_getf (C := RX6) (T := TX6) (N := 4) rfl inX6 rfl (by decide) (by decide) (wa (tt1 (j := 77) rfl) rfl) hv cx d ha kk
theorem pX6_11 {x : Option Nat} (cx : Cx Z X RX6 "<init>" cc nL ret D mc ms) (d : decode cc pc = .ok (.putfield 11, 3)) (ha : isK Z G a 6) (kk : Wm Z X nL (sR G 300 a x) V k n Q (pc + 3) lw st) : Wm Z X nL G V k n Q pc lw (va_rf x :: .ref a :: st) := x_putfF (C := RX6) (T := TX6) (N := 4) (i := 0) (ty := (.array (.object "SendTheBox$House"))) tyX6 rfl inX6 tyX6_ok nmX6 rfl (by decide) (by decide) (by decide) (wa (tt1 (j := 77) rfl) rfl) rfl rfl (by decide +kernel) (putOK_R rfl (by decide)) cx d ha (narrow_rfA x) (fits_rfA x) kk
theorem gX6_29 {v : Value} (hv : fV G V 6 1 a = v) (cx : Cx Z X RX6 nm cc nL ret D mc ms) (d : decode cc pc = .ok (.getfield 29, 3)) (ha : isK Z G a 6) (kk : Wm Z X nL G V k n Q (pc + 3) lw (v :: st)) : Wm Z X nL G V k n Q pc lw (.ref a :: st) := x_getf (C := RX6) (T := TX6) (N := 4) rfl inX6 rfl (by decide) (by decide) (wa (tt1 (j := 78) rfl) rfl) hv cx d ha kk
theorem pX6_29 {x : Int32} (cx : Cx Z X RX6 nm cc nL ret D mc ms) (d : decode cc pc = .ok (.putfield 29, 3)) (ha : isK Z G a 6) (kk : Wm Z X nL G (sI V 301 a x) k n Q (pc + 3) lw st) : Wm Z X nL G V k n Q pc lw (.int x :: .ref a :: st) := x_putf (C := RX6) (T := TX6) (N := 4) (i := 1) (ty := .int) tyX6 rfl inX6 tyX6_ok nmX6 rfl (by decide) (by decide) (by decide) (wa (tt1 (j := 78) rfl) rfl) rfl (by decide +kernel) (putOK_I rfl (by decide)) cx d ha rfl rfl kk
theorem gX6_17 {v : Value} (hv : fV G V 6 2 a = v) (cx : Cx Z X RX6 nm cc nL ret D mc ms) (d : decode cc pc = .ok (.getfield 17, 3)) (ha : isK Z G a 6) (kk : Wm Z X nL G V k n Q (pc + 3) lw (v :: st)) : Wm Z X nL G V k n Q pc lw (.ref a :: st) := x_getf (C := RX6) (T := TX6) (N := 4) rfl inX6 rfl (by decide) (by decide) (wa (tt1 (j := 80) rfl) rfl) hv cx d ha kk
theorem pX6_17 {x : Int32} (cx : Cx Z X RX6 nm cc nL ret D mc ms) (d : decode cc pc = .ok (.putfield 17, 3)) (ha : isK Z G a 6) (kk : Wm Z X nL G (sI V 302 a x) k n Q (pc + 3) lw st) : Wm Z X nL G V k n Q pc lw (.int x :: .ref a :: st) := x_putf (C := RX6) (T := TX6) (N := 4) (i := 2) (ty := .int) tyX6 rfl inX6 tyX6_ok nmX6 rfl (by decide) (by decide) (by decide) (wa (tt1 (j := 80) rfl) rfl) rfl (by decide +kernel) (putOK_I rfl (by decide)) cx d ha rfl rfl kk
theorem gX6_24 {v : Value} (hv : fV G V 6 3 a = v) (cx : Cx Z X RX6 nm cc nL ret D mc ms) (d : decode cc pc = .ok (.getfield 24, 3)) (ha : isK Z G a 6) (kk : Wm Z X nL G V k n Q (pc + 3) lw (v :: st)) : Wm Z X nL G V k n Q pc lw (.ref a :: st) := x_getf (C := RX6) (T := TX6) (N := 4) rfl inX6 rfl (by decide) (by decide) (wa (tt1 (j := 82) rfl) rfl) hv cx d ha kk
theorem pX6_24 {x : Option Nat} (cx : Cx Z X RX6 "<init>" cc nL ret D mc ms) (d : decode cc pc = .ok (.putfield 24, 3)) (ha : isK Z G a 6) (kk : Wm Z X nL (sR G 303 a x) V k n Q (pc + 3) lw st) : Wm Z X nL G V k n Q pc lw (va_rf x :: .ref a :: st) := x_putfF (C := RX6) (T := TX6) (N := 4) (i := 3) (ty := (.object "SendTheBox$Week")) tyX6 rfl inX6 tyX6_ok nmX6 rfl (by decide) (by decide) (by decide) (wa (tt1 (j := 82) rfl) rfl) rfl rfl (by decide +kernel) (putOK_R rfl (by decide)) cx d ha (narrow_rf x) (fits_rf x) kk
theorem gX4_9 {v : Value} (hv : fV G V 4 0 a = v) (cx : Cx Z X RX4 nm cc nL ret D mc ms) (d : decode cc pc = .ok (.getfield 9, 3)) (ha : isK Z G a 4) (kk : Wm Z X nL G V k n Q (pc + 3) lw (v :: st)) : Wm Z X nL G V k n Q pc lw (.ref a :: st) := x_getf (C := RX4) (T := TX4) (N := 5) rfl inX4 rfl (by decide) (by decide) (wa (tt1 (j := 99) rfl) rfl) hv cx d ha kk
theorem pX4_9 {x : Option Nat} (cx : Cx Z X RX4 "<init>" cc nL ret D mc ms) (d : decode cc pc = .ok (.putfield 9, 3)) (ha : isK Z G a 4) (kk : Wm Z X nL (sR G 200 a x) V k n Q (pc + 3) lw st) : Wm Z X nL G V k n Q pc lw (va_rf x :: .ref a :: st) := x_putfF (C := RX4) (T := TX4) (N := 5) (i := 0) (ty := (.array .byte)) tyX4 rfl inX4 tyX4_ok nmX4 rfl (by decide) (by decide) (by decide) (wa (tt1 (j := 99) rfl) rfl) rfl rfl (by decide +kernel) (putOK_R rfl (by decide)) cx d ha (narrow_rfA x) (fits_rfA x) kk
theorem gX4_15 {v : Value} (hv : fV G V 4 1 a = v) (cx : Cx Z X RX4 nm cc nL ret D mc ms) (d : decode cc pc = .ok (.getfield 15, 3)) (ha : isK Z G a 4) (kk : Wm Z X nL G V k n Q (pc + 3) lw (v :: st)) : Wm Z X nL G V k n Q pc lw (.ref a :: st) := x_getf (C := RX4) (T := TX4) (N := 5) rfl inX4 rfl (by decide) (by decide) (wa (tt1 (j := 100) rfl) rfl) hv cx d ha kk
theorem pX4_15 {x : Int32} (cx : Cx Z X RX4 nm cc nL ret D mc ms) (d : decode cc pc = .ok (.putfield 15, 3)) (ha : isK Z G a 4) (kk : Wm Z X nL G (sI V 201 a x) k n Q (pc + 3) lw st) : Wm Z X nL G V k n Q pc lw (.int x :: .ref a :: st) := x_putf (C := RX4) (T := TX4) (N := 5) (i := 1) (ty := .int) tyX4 rfl inX4 tyX4_ok nmX4 rfl (by decide) (by decide) (by decide) (wa (tt1 (j := 100) rfl) rfl) rfl (by decide +kernel) (putOK_I rfl (by decide)) cx d ha rfl rfl kk
theorem gX4_37 {v : Value} (hv : fV G V 4 2 a = v) (cx : Cx Z X RX4 nm cc nL ret D mc ms) (d : decode cc pc = .ok (.getfield 37, 3)) (ha : isK Z G a 4) (kk : Wm Z X nL G V k n Q (pc + 3) lw (v :: st)) : Wm Z X nL G V k n Q pc lw (.ref a :: st) := x_getf (C := RX4) (T := TX4) (N := 5) rfl inX4 rfl (by decide) (by decide) (wa (tt1 (j := 102) rfl) rfl) hv cx d ha kk
theorem pX4_37 {x : Int32} (cx : Cx Z X RX4 nm cc nL ret D mc ms) (d : decode cc pc = .ok (.putfield 37, 3)) (ha : isK Z G a 4) (kk : Wm Z X nL G (sI V 202 a x) k n Q (pc + 3) lw st) : Wm Z X nL G V k n Q pc lw (.int x :: .ref a :: st) := x_putf (C := RX4) (T := TX4) (N := 5) (i := 2) (ty := .int) tyX4 rfl inX4 tyX4_ok nmX4 rfl (by decide) (by decide) (by decide) (wa (tt1 (j := 102) rfl) rfl) rfl (by decide +kernel) (putOK_I rfl (by decide)) cx d ha rfl rfl kk
theorem gX4_34 {v : Value} (hv : fV G V 4 3 a = v) (cx : Cx Z X RX4 nm cc nL ret D mc ms) (d : decode cc pc = .ok (.getfield 34, 3)) (ha : isK Z G a 4) (kk : Wm Z X nL G V k n Q (pc + 3) lw (v :: st)) : Wm Z X nL G V k n Q pc lw (.ref a :: st) := x_getf (C := RX4) (T := TX4) (N := 5) rfl inX4 rfl (by decide) (by decide) (wa (tt1 (j := 103) rfl) rfl) hv cx d ha kk
theorem pX4_34 {x : Int32} (cx : Cx Z X RX4 nm cc nL ret D mc ms) (d : decode cc pc = .ok (.putfield 34, 3)) (ha : isK Z G a 4) (kk : Wm Z X nL G (sI V 203 a x) k n Q (pc + 3) lw st) : Wm Z X nL G V k n Q pc lw (.int x :: .ref a :: st) := x_putf (C := RX4) (T := TX4) (N := 5) (i := 3) (ty := .int) tyX4 rfl inX4 tyX4_ok nmX4 rfl (by decide) (by decide) (by decide) (wa (tt1 (j := 103) rfl) rfl) rfl (by decide +kernel) (putOK_I rfl (by decide)) cx d ha rfl rfl kk
theorem gX4_24 {v : Value} (hv : fV G V 4 4 a = v) (cx : Cx Z X RX4 nm cc nL ret D mc ms) (d : decode cc pc = .ok (.getfield 24, 3)) (ha : isK Z G a 4) (kk : Wm Z X nL G V k n Q (pc + 3) lw (v :: st)) : Wm Z X nL G V k n Q pc lw (.ref a :: st) := x_getf (C := RX4) (T := TX4) (N := 5) rfl inX4 rfl (by decide) (by decide) (wa (tt1 (j := 104) rfl) rfl) hv cx d ha kk
theorem pX4_24 {x : Int32} (cx : Cx Z X RX4 nm cc nL ret D mc ms) (d : decode cc pc = .ok (.putfield 24, 3)) (ha : isK Z G a 4) (kk : Wm Z X nL G (sI V 204 a x) k n Q (pc + 3) lw st) : Wm Z X nL G V k n Q pc lw (.int x :: .ref a :: st) := x_putf (C := RX4) (T := TX4) (N := 5) (i := 4) (ty := .int) tyX4 rfl inX4 tyX4_ok nmX4 rfl (by decide) (by decide) (by decide) (wa (tt1 (j := 104) rfl) rfl) rfl (by decide +kernel) (putOK_I rfl (by decide)) cx d ha rfl rfl kk
theorem gX1_12 {v : Value} (hv : fV G V 1 0 a = v) (cx : Cx Z X RX1 nm cc nL ret D mc ms) (d : decode cc pc = .ok (.getfield 12, 3)) (ha : isK Z G a 1) (kk : Wm Z X nL G V k n Q (pc + 3) lw (v :: st)) : Wm Z X nL G V k n Q pc lw (.ref a :: st) := x_getf (C := RX1) (T := TX1) (N := 15) rfl inX1 rfl (by decide) (by decide) (wa (tt1 (j := 130) rfl) rfl) hv cx d ha kk
theorem pX1_12 {x : Option Nat} (cx : Cx Z X RX1 "<init>" cc nL ret D mc ms) (d : decode cc pc = .ok (.putfield 12, 3)) (ha : isK Z G a 1) (kk : Wm Z X nL (sR G 50 a x) V k n Q (pc + 3) lw st) : Wm Z X nL G V k n Q pc lw (va_rf x :: .ref a :: st) := x_putfF (C := RX1) (T := TX1) (N := 15) (i := 0) (ty := (.object "SendTheBox$House")) tyX1 rfl inX1 tyX1_ok nmX1 rfl (by decide) (by decide) (by decide) (wa (tt1 (j := 130) rfl) rfl) rfl rfl (by decide +kernel) (putOK_R rfl (by decide)) cx d ha (narrow_rf x) (fits_rf x) kk
theorem gX1_66 {v : Value} (hv : fV G V 1 1 a = v) (cx : Cx Z X RX1 nm cc nL ret D mc ms) (d : decode cc pc = .ok (.getfield 66, 3)) (ha : isK Z G a 1) (kk : Wm Z X nL G V k n Q (pc + 3) lw (v :: st)) : Wm Z X nL G V k n Q pc lw (.ref a :: st) := x_getf (C := RX1) (T := TX1) (N := 15) rfl inX1 rfl (by decide) (by decide) (wa (tt1 (j := 132) rfl) rfl) hv cx d ha kk
theorem pX1_66 {x : Int32} (cx : Cx Z X RX1 nm cc nL ret D mc ms) (d : decode cc pc = .ok (.putfield 66, 3)) (ha : isK Z G a 1) (kk : Wm Z X nL G (sI V 51 a x) k n Q (pc + 3) lw st) : Wm Z X nL G V k n Q pc lw (.int x :: .ref a :: st) := x_putf (C := RX1) (T := TX1) (N := 15) (i := 1) (ty := .int) tyX1 rfl inX1 tyX1_ok nmX1 rfl (by decide) (by decide) (by decide) (wa (tt1 (j := 132) rfl) rfl) rfl (by decide +kernel) (putOK_I rfl (by decide)) cx d ha rfl rfl kk
theorem gX1_71 {v : Value} (hv : fV G V 1 2 a = v) (cx : Cx Z X RX1 nm cc nL ret D mc ms) (d : decode cc pc = .ok (.getfield 71, 3)) (ha : isK Z G a 1) (kk : Wm Z X nL G V k n Q (pc + 3) lw (v :: st)) : Wm Z X nL G V k n Q pc lw (.ref a :: st) := x_getf (C := RX1) (T := TX1) (N := 15) rfl inX1 rfl (by decide) (by decide) (wa (tt1 (j := 134) rfl) rfl) hv cx d ha kk
theorem pX1_71 {x : Int32} (cx : Cx Z X RX1 nm cc nL ret D mc ms) (d : decode cc pc = .ok (.putfield 71, 3)) (ha : isK Z G a 1) (kk : Wm Z X nL G (sI V 52 a x) k n Q (pc + 3) lw st) : Wm Z X nL G V k n Q pc lw (.int x :: .ref a :: st) := x_putf (C := RX1) (T := TX1) (N := 15) (i := 2) (ty := .int) tyX1 rfl inX1 tyX1_ok nmX1 rfl (by decide) (by decide) (by decide) (wa (tt1 (j := 134) rfl) rfl) rfl (by decide +kernel) (putOK_I rfl (by decide)) cx d ha rfl rfl kk
theorem gX1_76 {v : Value} (hv : fV G V 1 3 a = v) (cx : Cx Z X RX1 nm cc nL ret D mc ms) (d : decode cc pc = .ok (.getfield 76, 3)) (ha : isK Z G a 1) (kk : Wm Z X nL G V k n Q (pc + 3) lw (v :: st)) : Wm Z X nL G V k n Q pc lw (.ref a :: st) := x_getf (C := RX1) (T := TX1) (N := 15) rfl inX1 rfl (by decide) (by decide) (wa (tt1 (j := 136) rfl) rfl) hv cx d ha kk
theorem pX1_76 {x : Int32} (cx : Cx Z X RX1 nm cc nL ret D mc ms) (d : decode cc pc = .ok (.putfield 76, 3)) (ha : isK Z G a 1) (kk : Wm Z X nL G (sI V 53 a x) k n Q (pc + 3) lw st) : Wm Z X nL G V k n Q pc lw (.int x :: .ref a :: st) := x_putf (C := RX1) (T := TX1) (N := 15) (i := 3) (ty := .int) tyX1 rfl inX1 tyX1_ok nmX1 rfl (by decide) (by decide) (by decide) (wa (tt1 (j := 136) rfl) rfl) rfl (by decide +kernel) (putOK_I rfl (by decide)) cx d ha rfl rfl kk
theorem gX1_18 {v : Value} (hv : fV G V 1 4 a = v) (cx : Cx Z X RX1 nm cc nL ret D mc ms) (d : decode cc pc = .ok (.getfield 18, 3)) (ha : isK Z G a 1) (kk : Wm Z X nL G V k n Q (pc + 3) lw (v :: st)) : Wm Z X nL G V k n Q pc lw (.ref a :: st) := x_getf (C := RX1) (T := TX1) (N := 15) rfl inX1 rfl (by decide) (by decide) (wa (tt1 (j := 137) rfl) rfl) hv cx d ha kk
theorem pX1_18 {x : Option Nat} (cx : Cx Z X RX1 "<init>" cc nL ret D mc ms) (d : decode cc pc = .ok (.putfield 18, 3)) (ha : isK Z G a 1) (kk : Wm Z X nL (sR G 54 a x) V k n Q (pc + 3) lw st) : Wm Z X nL G V k n Q pc lw (va_rf x :: .ref a :: st) := x_putfF (C := RX1) (T := TX1) (N := 15) (i := 4) (ty := (.array .int)) tyX1 rfl inX1 tyX1_ok nmX1 rfl (by decide) (by decide) (by decide) (wa (tt1 (j := 137) rfl) rfl) rfl rfl (by decide +kernel) (putOK_R rfl (by decide)) cx d ha (narrow_rfA x) (fits_rfA x) kk
theorem gX1_22 {v : Value} (hv : fV G V 1 5 a = v) (cx : Cx Z X RX1 nm cc nL ret D mc ms) (d : decode cc pc = .ok (.getfield 22, 3)) (ha : isK Z G a 1) (kk : Wm Z X nL G V k n Q (pc + 3) lw (v :: st)) : Wm Z X nL G V k n Q pc lw (.ref a :: st) := x_getf (C := RX1) (T := TX1) (N := 15) rfl inX1 rfl (by decide) (by decide) (wa (tt1 (j := 138) rfl) rfl) hv cx d ha kk
theorem pX1_22 {x : Option Nat} (cx : Cx Z X RX1 "<init>" cc nL ret D mc ms) (d : decode cc pc = .ok (.putfield 22, 3)) (ha : isK Z G a 1) (kk : Wm Z X nL (sR G 55 a x) V k n Q (pc + 3) lw st) : Wm Z X nL G V k n Q pc lw (va_rf x :: .ref a :: st) := x_putfF (C := RX1) (T := TX1) (N := 15) (i := 5) (ty := (.array .int)) tyX1 rfl inX1 tyX1_ok nmX1 rfl (by decide) (by decide) (by decide) (wa (tt1 (j := 138) rfl) rfl) rfl rfl (by decide +kernel) (putOK_R rfl (by decide)) cx d ha (narrow_rfA x) (fits_rfA x) kk
theorem gX1_25 {v : Value} (hv : fV G V 1 6 a = v) (cx : Cx Z X RX1 nm cc nL ret D mc ms) (d : decode cc pc = .ok (.getfield 25, 3)) (ha : isK Z G a 1) (kk : Wm Z X nL G V k n Q (pc + 3) lw (v :: st)) : Wm Z X nL G V k n Q pc lw (.ref a :: st) := x_getf (C := RX1) (T := TX1) (N := 15) rfl inX1 rfl (by decide) (by decide) (wa (tt1 (j := 139) rfl) rfl) hv cx d ha kk
theorem pX1_25 {x : Option Nat} (cx : Cx Z X RX1 "<init>" cc nL ret D mc ms) (d : decode cc pc = .ok (.putfield 25, 3)) (ha : isK Z G a 1) (kk : Wm Z X nL (sR G 56 a x) V k n Q (pc + 3) lw st) : Wm Z X nL G V k n Q pc lw (va_rf x :: .ref a :: st) := x_putfF (C := RX1) (T := TX1) (N := 15) (i := 6) (ty := (.array .int)) tyX1 rfl inX1 tyX1_ok nmX1 rfl (by decide) (by decide) (by decide) (wa (tt1 (j := 139) rfl) rfl) rfl rfl (by decide +kernel) (putOK_R rfl (by decide)) cx d ha (narrow_rfA x) (fits_rfA x) kk
theorem gX1_28 {v : Value} (hv : fV G V 1 7 a = v) (cx : Cx Z X RX1 nm cc nL ret D mc ms) (d : decode cc pc = .ok (.getfield 28, 3)) (ha : isK Z G a 1) (kk : Wm Z X nL G V k n Q (pc + 3) lw (v :: st)) : Wm Z X nL G V k n Q pc lw (.ref a :: st) := x_getf (C := RX1) (T := TX1) (N := 15) rfl inX1 rfl (by decide) (by decide) (wa (tt1 (j := 140) rfl) rfl) hv cx d ha kk
theorem pX1_28 {x : Option Nat} (cx : Cx Z X RX1 "<init>" cc nL ret D mc ms) (d : decode cc pc = .ok (.putfield 28, 3)) (ha : isK Z G a 1) (kk : Wm Z X nL (sR G 57 a x) V k n Q (pc + 3) lw st) : Wm Z X nL G V k n Q pc lw (va_rf x :: .ref a :: st) := x_putfF (C := RX1) (T := TX1) (N := 15) (i := 7) (ty := (.array .int)) tyX1 rfl inX1 tyX1_ok nmX1 rfl (by decide) (by decide) (by decide) (wa (tt1 (j := 140) rfl) rfl) rfl rfl (by decide +kernel) (putOK_R rfl (by decide)) cx d ha (narrow_rfA x) (fits_rfA x) kk
theorem gX1_31 {v : Value} (hv : fV G V 1 8 a = v) (cx : Cx Z X RX1 nm cc nL ret D mc ms) (d : decode cc pc = .ok (.getfield 31, 3)) (ha : isK Z G a 1) (kk : Wm Z X nL G V k n Q (pc + 3) lw (v :: st)) : Wm Z X nL G V k n Q pc lw (.ref a :: st) := x_getf (C := RX1) (T := TX1) (N := 15) rfl inX1 rfl (by decide) (by decide) (wa (tt1 (j := 141) rfl) rfl) hv cx d ha kk
theorem pX1_31 {x : Option Nat} (cx : Cx Z X RX1 "<init>" cc nL ret D mc ms) (d : decode cc pc = .ok (.putfield 31, 3)) (ha : isK Z G a 1) (kk : Wm Z X nL (sR G 58 a x) V k n Q (pc + 3) lw st) : Wm Z X nL G V k n Q pc lw (va_rf x :: .ref a :: st) := x_putfF (C := RX1) (T := TX1) (N := 15) (i := 8) (ty := (.array .int)) tyX1 rfl inX1 tyX1_ok nmX1 rfl (by decide) (by decide) (by decide) (wa (tt1 (j := 141) rfl) rfl) rfl rfl (by decide +kernel) (putOK_R rfl (by decide)) cx d ha (narrow_rfA x) (fits_rfA x) kk
theorem gX1_34 {v : Value} (hv : fV G V 1 9 a = v) (cx : Cx Z X RX1 nm cc nL ret D mc ms) (d : decode cc pc = .ok (.getfield 34, 3)) (ha : isK Z G a 1) (kk : Wm Z X nL G V k n Q (pc + 3) lw (v :: st)) : Wm Z X nL G V k n Q pc lw (.ref a :: st) := x_getf (C := RX1) (T := TX1) (N := 15) rfl inX1 rfl (by decide) (by decide) (wa (tt1 (j := 142) rfl) rfl) hv cx d ha kk
theorem pX1_34 {x : Option Nat} (cx : Cx Z X RX1 "<init>" cc nL ret D mc ms) (d : decode cc pc = .ok (.putfield 34, 3)) (ha : isK Z G a 1) (kk : Wm Z X nL (sR G 59 a x) V k n Q (pc + 3) lw st) : Wm Z X nL G V k n Q pc lw (va_rf x :: .ref a :: st) := x_putfF (C := RX1) (T := TX1) (N := 15) (i := 9) (ty := (.array .long)) tyX1 rfl inX1 tyX1_ok nmX1 rfl (by decide) (by decide) (by decide) (wa (tt1 (j := 142) rfl) rfl) rfl rfl (by decide +kernel) (putOK_R rfl (by decide)) cx d ha (narrow_rfA x) (fits_rfA x) kk
theorem gX1_38 {v : Value} (hv : fV G V 1 10 a = v) (cx : Cx Z X RX1 nm cc nL ret D mc ms) (d : decode cc pc = .ok (.getfield 38, 3)) (ha : isK Z G a 1) (kk : Wm Z X nL G V k n Q (pc + 3) lw (v :: st)) : Wm Z X nL G V k n Q pc lw (.ref a :: st) := x_getf (C := RX1) (T := TX1) (N := 15) rfl inX1 rfl (by decide) (by decide) (wa (tt1 (j := 143) rfl) rfl) hv cx d ha kk
theorem pX1_38 {x : Option Nat} (cx : Cx Z X RX1 "<init>" cc nL ret D mc ms) (d : decode cc pc = .ok (.putfield 38, 3)) (ha : isK Z G a 1) (kk : Wm Z X nL (sR G 60 a x) V k n Q (pc + 3) lw st) : Wm Z X nL G V k n Q pc lw (va_rf x :: .ref a :: st) := x_putfF (C := RX1) (T := TX1) (N := 15) (i := 10) (ty := (.array .long)) tyX1 rfl inX1 tyX1_ok nmX1 rfl (by decide) (by decide) (by decide) (wa (tt1 (j := 143) rfl) rfl) rfl rfl (by decide +kernel) (putOK_R rfl (by decide)) cx d ha (narrow_rfA x) (fits_rfA x) kk
theorem gX1_41 {v : Value} (hv : fV G V 1 11 a = v) (cx : Cx Z X RX1 nm cc nL ret D mc ms) (d : decode cc pc = .ok (.getfield 41, 3)) (ha : isK Z G a 1) (kk : Wm Z X nL G V k n Q (pc + 3) lw (v :: st)) : Wm Z X nL G V k n Q pc lw (.ref a :: st) := x_getf (C := RX1) (T := TX1) (N := 15) rfl inX1 rfl (by decide) (by decide) (wa (tt1 (j := 144) rfl) rfl) hv cx d ha kk
theorem pX1_41 {x : Option Nat} (cx : Cx Z X RX1 "<init>" cc nL ret D mc ms) (d : decode cc pc = .ok (.putfield 41, 3)) (ha : isK Z G a 1) (kk : Wm Z X nL (sR G 61 a x) V k n Q (pc + 3) lw st) : Wm Z X nL G V k n Q pc lw (va_rf x :: .ref a :: st) := x_putfF (C := RX1) (T := TX1) (N := 15) (i := 11) (ty := (.array .long)) tyX1 rfl inX1 tyX1_ok nmX1 rfl (by decide) (by decide) (by decide) (wa (tt1 (j := 144) rfl) rfl) rfl rfl (by decide +kernel) (putOK_R rfl (by decide)) cx d ha (narrow_rfA x) (fits_rfA x) kk
theorem gX1_44 {v : Value} (hv : fV G V 1 12 a = v) (cx : Cx Z X RX1 nm cc nL ret D mc ms) (d : decode cc pc = .ok (.getfield 44, 3)) (ha : isK Z G a 1) (kk : Wm Z X nL G V k n Q (pc + 3) lw (v :: st)) : Wm Z X nL G V k n Q pc lw (.ref a :: st) := x_getf (C := RX1) (T := TX1) (N := 15) rfl inX1 rfl (by decide) (by decide) (wa (tt1 (j := 145) rfl) rfl) hv cx d ha kk
theorem pX1_44 {x : Option Nat} (cx : Cx Z X RX1 "<init>" cc nL ret D mc ms) (d : decode cc pc = .ok (.putfield 44, 3)) (ha : isK Z G a 1) (kk : Wm Z X nL (sR G 62 a x) V k n Q (pc + 3) lw st) : Wm Z X nL G V k n Q pc lw (va_rf x :: .ref a :: st) := x_putfF (C := RX1) (T := TX1) (N := 15) (i := 12) (ty := (.array .long)) tyX1 rfl inX1 tyX1_ok nmX1 rfl (by decide) (by decide) (by decide) (wa (tt1 (j := 145) rfl) rfl) rfl rfl (by decide +kernel) (putOK_R rfl (by decide)) cx d ha (narrow_rfA x) (fits_rfA x) kk
theorem gX1_47 {v : Value} (hv : fV G V 1 13 a = v) (cx : Cx Z X RX1 nm cc nL ret D mc ms) (d : decode cc pc = .ok (.getfield 47, 3)) (ha : isK Z G a 1) (kk : Wm Z X nL G V k n Q (pc + 3) lw (v :: st)) : Wm Z X nL G V k n Q pc lw (.ref a :: st) := x_getf (C := RX1) (T := TX1) (N := 15) rfl inX1 rfl (by decide) (by decide) (wa (tt1 (j := 146) rfl) rfl) hv cx d ha kk
theorem pX1_47 {x : Int32} (cx : Cx Z X RX1 nm cc nL ret D mc ms) (d : decode cc pc = .ok (.putfield 47, 3)) (ha : isK Z G a 1) (kk : Wm Z X nL G (sI V 63 a x) k n Q (pc + 3) lw st) : Wm Z X nL G V k n Q pc lw (.int x :: .ref a :: st) := x_putf (C := RX1) (T := TX1) (N := 15) (i := 13) (ty := .int) tyX1 rfl inX1 tyX1_ok nmX1 rfl (by decide) (by decide) (by decide) (wa (tt1 (j := 146) rfl) rfl) rfl (by decide +kernel) (putOK_I rfl (by decide)) cx d ha rfl rfl kk
theorem gX1_51 {v : Value} (hv : fV G V 1 14 a = v) (cx : Cx Z X RX1 nm cc nL ret D mc ms) (d : decode cc pc = .ok (.getfield 51, 3)) (ha : isK Z G a 1) (kk : Wm Z X nL G V k n Q (pc + 3) lw (v :: st)) : Wm Z X nL G V k n Q pc lw (.ref a :: st) := x_getf (C := RX1) (T := TX1) (N := 15) rfl inX1 rfl (by decide) (by decide) (wa (tt1 (j := 147) rfl) rfl) hv cx d ha kk
theorem pX1_51 {x : Int32} (cx : Cx Z X RX1 nm cc nL ret D mc ms) (d : decode cc pc = .ok (.putfield 51, 3)) (ha : isK Z G a 1) (kk : Wm Z X nL G (sI V 64 a x) k n Q (pc + 3) lw st) : Wm Z X nL G V k n Q pc lw (.int x :: .ref a :: st) := x_putf (C := RX1) (T := TX1) (N := 15) (i := 14) (ty := .int) tyX1 rfl inX1 tyX1_ok nmX1 rfl (by decide) (by decide) (by decide) (wa (tt1 (j := 147) rfl) rfl) rfl (by decide +kernel) (putOK_I rfl (by decide)) cx d ha rfl rfl kk
theorem gX7_10 {v : Value} (hv : fV G V 7 0 a = v) (cx : Cx Z X RX7 nm cc nL ret D mc ms) (d : decode cc pc = .ok (.getfield 10, 3)) (ha : isK Z G a 7) (kk : Wm Z X nL G V k n Q (pc + 3) lw (v :: st)) : Wm Z X nL G V k n Q pc lw (.ref a :: st) := x_getf (C := RX7) (T := TX7) (N := 12) rfl inX7 rfl (by decide) (by decide) (wa (tt1 (j := 184) rfl) rfl) hv cx d ha kk
theorem pX7_10 {x : Option Nat} (cx : Cx Z X RX7 "<init>" cc nL ret D mc ms) (d : decode cc pc = .ok (.putfield 10, 3)) (ha : isK Z G a 7) (kk : Wm Z X nL (sR G 350 a x) V k n Q (pc + 3) lw st) : Wm Z X nL G V k n Q pc lw (va_rf x :: .ref a :: st) := x_putfF (C := RX7) (T := TX7) (N := 12) (i := 0) (ty := (.object "SendTheBox$World")) tyX7 rfl inX7 tyX7_ok nmX7 rfl (by decide) (by decide) (by decide) (wa (tt1 (j := 184) rfl) rfl) rfl rfl (by decide +kernel) (putOK_R rfl (by decide)) cx d ha (narrow_rf x) (fits_rf x) kk
theorem gX7_16 {v : Value} (hv : fV G V 7 1 a = v) (cx : Cx Z X RX7 nm cc nL ret D mc ms) (d : decode cc pc = .ok (.getfield 16, 3)) (ha : isK Z G a 7) (kk : Wm Z X nL G V k n Q (pc + 3) lw (v :: st)) : Wm Z X nL G V k n Q pc lw (.ref a :: st) := x_getf (C := RX7) (T := TX7) (N := 12) rfl inX7 rfl (by decide) (by decide) (wa (tt1 (j := 185) rfl) rfl) hv cx d ha kk
theorem pX7_16 {x : Option Nat} (cx : Cx Z X RX7 "<init>" cc nL ret D mc ms) (d : decode cc pc = .ok (.putfield 16, 3)) (ha : isK Z G a 7) (kk : Wm Z X nL (sR G 351 a x) V k n Q (pc + 3) lw st) : Wm Z X nL G V k n Q pc lw (va_rf x :: .ref a :: st) := x_putfF (C := RX7) (T := TX7) (N := 12) (i := 1) (ty := (.object "SendTheBox$World")) tyX7 rfl inX7 tyX7_ok nmX7 rfl (by decide) (by decide) (by decide) (wa (tt1 (j := 185) rfl) rfl) rfl rfl (by decide +kernel) (putOK_R rfl (by decide)) cx d ha (narrow_rf x) (fits_rf x) kk
theorem gX7_341 {v : Value} (hv : fV G V 7 2 a = v) (cx : Cx Z X RX7 nm cc nL ret D mc ms) (d : decode cc pc = .ok (.getfield 341, 3)) (ha : isK Z G a 7) (kk : Wm Z X nL G V k n Q (pc + 3) lw (v :: st)) : Wm Z X nL G V k n Q pc lw (.ref a :: st) := x_getf (C := RX7) (T := TX7) (N := 12) rfl inX7 rfl (by decide) (by decide) (wa (tt1 (j := 186) rfl) rfl) hv cx d ha kk
theorem pX7_341 {x : Int32} (hx : narrow .boolean (.int x) = .int x) (hf : fits .boolean (.int x) = true) (cx : Cx Z X RX7 nm cc nL ret D mc ms) (d : decode cc pc = .ok (.putfield 341, 3)) (ha : isK Z G a 7) (kk : Wm Z X nL G (sI V 352 a x) k n Q (pc + 3) lw st) : Wm Z X nL G V k n Q pc lw (.int x :: .ref a :: st) := x_putf (C := RX7) (T := TX7) (N := 12) (i := 2) (ty := .boolean) tyX7 rfl inX7 tyX7_ok nmX7 rfl (by decide) (by decide) (by decide) (wa (tt1 (j := 186) rfl) rfl) rfl (by decide +kernel) (putOK_I rfl (by decide)) cx d ha hx hf kk
theorem gX7_22 {v : Value} (hv : fV G V 7 3 a = v) (cx : Cx Z X RX7 nm cc nL ret D mc ms) (d : decode cc pc = .ok (.getfield 22, 3)) (ha : isK Z G a 7) (kk : Wm Z X nL G V k n Q (pc + 3) lw (v :: st)) : Wm Z X nL G V k n Q pc lw (.ref a :: st) := x_getf (C := RX7) (T := TX7) (N := 12) rfl inX7 rfl (by decide) (by decide) (wa (tt1 (j := 187) rfl) rfl) hv cx d ha kk
theorem pX7_22 {x : Option Nat} (cx : Cx Z X RX7 "<init>" cc nL ret D mc ms) (d : decode cc pc = .ok (.putfield 22, 3)) (ha : isK Z G a 7) (kk : Wm Z X nL (sR G 353 a x) V k n Q (pc + 3) lw st) : Wm Z X nL G V k n Q pc lw (va_rf x :: .ref a :: st) := x_putfF (C := RX7) (T := TX7) (N := 12) (i := 3) (ty := (.object "SendTheBox$Tape")) tyX7 rfl inX7 tyX7_ok nmX7 rfl (by decide) (by decide) (by decide) (wa (tt1 (j := 187) rfl) rfl) rfl rfl (by decide +kernel) (putOK_R rfl (by decide)) cx d ha (narrow_rf x) (fits_rf x) kk
theorem gX7_28 {v : Value} (hv : fV G V 7 4 a = v) (cx : Cx Z X RX7 nm cc nL ret D mc ms) (d : decode cc pc = .ok (.getfield 28, 3)) (ha : isK Z G a 7) (kk : Wm Z X nL G V k n Q (pc + 3) lw (v :: st)) : Wm Z X nL G V k n Q pc lw (.ref a :: st) := x_getf (C := RX7) (T := TX7) (N := 12) rfl inX7 rfl (by decide) (by decide) (wa (tt1 (j := 188) rfl) rfl) hv cx d ha kk
theorem pX7_28 {x : Option Nat} (cx : Cx Z X RX7 "<init>" cc nL ret D mc ms) (d : decode cc pc = .ok (.putfield 28, 3)) (ha : isK Z G a 7) (kk : Wm Z X nL (sR G 354 a x) V k n Q (pc + 3) lw st) : Wm Z X nL G V k n Q pc lw (va_rf x :: .ref a :: st) := x_putfF (C := RX7) (T := TX7) (N := 12) (i := 4) (ty := (.array (.object "SendTheBox$Row"))) tyX7 rfl inX7 tyX7_ok nmX7 rfl (by decide) (by decide) (by decide) (wa (tt1 (j := 188) rfl) rfl) rfl rfl (by decide +kernel) (putOK_R rfl (by decide)) cx d ha (narrow_rfA x) (fits_rfA x) kk
theorem gX7_34 {v : Value} (hv : fV G V 7 5 a = v) (cx : Cx Z X RX7 nm cc nL ret D mc ms) (d : decode cc pc = .ok (.getfield 34, 3)) (ha : isK Z G a 7) (kk : Wm Z X nL G V k n Q (pc + 3) lw (v :: st)) : Wm Z X nL G V k n Q pc lw (.ref a :: st) := x_getf (C := RX7) (T := TX7) (N := 12) rfl inX7 rfl (by decide) (by decide) (wa (tt1 (j := 189) rfl) rfl) hv cx d ha kk
theorem pX7_34 {x : Option Nat} (cx : Cx Z X RX7 "<init>" cc nL ret D mc ms) (d : decode cc pc = .ok (.putfield 34, 3)) (ha : isK Z G a 7) (kk : Wm Z X nL (sR G 355 a x) V k n Q (pc + 3) lw st) : Wm Z X nL G V k n Q pc lw (va_rf x :: .ref a :: st) := x_putfF (C := RX7) (T := TX7) (N := 12) (i := 5) (ty := (.array (.object "SendTheBox$Rule"))) tyX7 rfl inX7 tyX7_ok nmX7 rfl (by decide) (by decide) (by decide) (wa (tt1 (j := 189) rfl) rfl) rfl rfl (by decide +kernel) (putOK_R rfl (by decide)) cx d ha (narrow_rfA x) (fits_rfA x) kk
theorem gX7_38 {v : Value} (hv : fV G V 7 6 a = v) (cx : Cx Z X RX7 nm cc nL ret D mc ms) (d : decode cc pc = .ok (.getfield 38, 3)) (ha : isK Z G a 7) (kk : Wm Z X nL G V k n Q (pc + 3) lw (v :: st)) : Wm Z X nL G V k n Q pc lw (.ref a :: st) := x_getf (C := RX7) (T := TX7) (N := 12) rfl inX7 rfl (by decide) (by decide) (wa (tt1 (j := 190) rfl) rfl) hv cx d ha kk
theorem pX7_38 {x : Option Nat} (cx : Cx Z X RX7 "<init>" cc nL ret D mc ms) (d : decode cc pc = .ok (.putfield 38, 3)) (ha : isK Z G a 7) (kk : Wm Z X nL (sR G 356 a x) V k n Q (pc + 3) lw st) : Wm Z X nL G V k n Q pc lw (va_rf x :: .ref a :: st) := x_putfF (C := RX7) (T := TX7) (N := 12) (i := 6) (ty := (.array .int)) tyX7 rfl inX7 tyX7_ok nmX7 rfl (by decide) (by decide) (by decide) (wa (tt1 (j := 190) rfl) rfl) rfl rfl (by decide +kernel) (putOK_R rfl (by decide)) cx d ha (narrow_rfA x) (fits_rfA x) kk
theorem gX7_44 {v : Value} (hv : fV G V 7 7 a = v) (cx : Cx Z X RX7 nm cc nL ret D mc ms) (d : decode cc pc = .ok (.getfield 44, 3)) (ha : isK Z G a 7) (kk : Wm Z X nL G V k n Q (pc + 3) lw (v :: st)) : Wm Z X nL G V k n Q pc lw (.ref a :: st) := x_getf (C := RX7) (T := TX7) (N := 12) rfl inX7 rfl (by decide) (by decide) (wa (tt1 (j := 191) rfl) rfl) hv cx d ha kk
theorem pX7_44 {x : Option Nat} (cx : Cx Z X RX7 "<init>" cc nL ret D mc ms) (d : decode cc pc = .ok (.putfield 44, 3)) (ha : isK Z G a 7) (kk : Wm Z X nL (sR G 357 a x) V k n Q (pc + 3) lw st) : Wm Z X nL G V k n Q pc lw (va_rf x :: .ref a :: st) := x_putfF (C := RX7) (T := TX7) (N := 12) (i := 7) (ty := (.array (.object "SendTheBox$Plan"))) tyX7 rfl inX7 tyX7_ok nmX7 rfl (by decide) (by decide) (by decide) (wa (tt1 (j := 191) rfl) rfl) rfl rfl (by decide +kernel) (putOK_R rfl (by decide)) cx d ha (narrow_rfA x) (fits_rfA x) kk
theorem gX7_49 {v : Value} (hv : fV G V 7 8 a = v) (cx : Cx Z X RX7 nm cc nL ret D mc ms) (d : decode cc pc = .ok (.getfield 49, 3)) (ha : isK Z G a 7) (kk : Wm Z X nL G V k n Q (pc + 3) lw (v :: st)) : Wm Z X nL G V k n Q pc lw (.ref a :: st) := x_getf (C := RX7) (T := TX7) (N := 12) rfl inX7 rfl (by decide) (by decide) (wa (tt1 (j := 192) rfl) rfl) hv cx d ha kk
theorem pX7_49 {x : Option Nat} (cx : Cx Z X RX7 "<init>" cc nL ret D mc ms) (d : decode cc pc = .ok (.putfield 49, 3)) (ha : isK Z G a 7) (kk : Wm Z X nL (sR G 358 a x) V k n Q (pc + 3) lw st) : Wm Z X nL G V k n Q pc lw (va_rf x :: .ref a :: st) := x_putfF (C := RX7) (T := TX7) (N := 12) (i := 8) (ty := (.object "SendTheBox$Plan")) tyX7 rfl inX7 tyX7_ok nmX7 rfl (by decide) (by decide) (by decide) (wa (tt1 (j := 192) rfl) rfl) rfl rfl (by decide +kernel) (putOK_R rfl (by decide)) cx d ha (narrow_rf x) (fits_rf x) kk
theorem gX7_53 {v : Value} (hv : fV G V 7 9 a = v) (cx : Cx Z X RX7 nm cc nL ret D mc ms) (d : decode cc pc = .ok (.getfield 53, 3)) (ha : isK Z G a 7) (kk : Wm Z X nL G V k n Q (pc + 3) lw (v :: st)) : Wm Z X nL G V k n Q pc lw (.ref a :: st) := x_getf (C := RX7) (T := TX7) (N := 12) rfl inX7 rfl (by decide) (by decide) (wa (tt1 (j := 193) rfl) rfl) hv cx d ha kk
theorem pX7_53 {x : Option Nat} (cx : Cx Z X RX7 "<init>" cc nL ret D mc ms) (d : decode cc pc = .ok (.putfield 53, 3)) (ha : isK Z G a 7) (kk : Wm Z X nL (sR G 359 a x) V k n Q (pc + 3) lw st) : Wm Z X nL G V k n Q pc lw (va_rf x :: .ref a :: st) := x_putfF (C := RX7) (T := TX7) (N := 12) (i := 9) (ty := (.object "SendTheBox$Plan")) tyX7 rfl inX7 tyX7_ok nmX7 rfl (by decide) (by decide) (by decide) (wa (tt1 (j := 193) rfl) rfl) rfl rfl (by decide +kernel) (putOK_R rfl (by decide)) cx d ha (narrow_rf x) (fits_rf x) kk
theorem gX7_59 {v : Value} (hv : fV G V 7 10 a = v) (cx : Cx Z X RX7 nm cc nL ret D mc ms) (d : decode cc pc = .ok (.getfield 59, 3)) (ha : isK Z G a 7) (kk : Wm Z X nL G V k n Q (pc + 3) lw (v :: st)) : Wm Z X nL G V k n Q pc lw (.ref a :: st) := x_getf (C := RX7) (T := TX7) (N := 12) rfl inX7 rfl (by decide) (by decide) (wa (tt1 (j := 194) rfl) rfl) hv cx d ha kk
theorem pX7_59 {x : Option Nat} (cx : Cx Z X RX7 "<init>" cc nL ret D mc ms) (d : decode cc pc = .ok (.putfield 59, 3)) (ha : isK Z G a 7) (kk : Wm Z X nL (sR G 360 a x) V k n Q (pc + 3) lw st) : Wm Z X nL G V k n Q pc lw (va_rf x :: .ref a :: st) := x_putfF (C := RX7) (T := TX7) (N := 12) (i := 10) (ty := (.object "SendTheBox$House")) tyX7 rfl inX7 tyX7_ok nmX7 rfl (by decide) (by decide) (by decide) (wa (tt1 (j := 194) rfl) rfl) rfl rfl (by decide +kernel) (putOK_R rfl (by decide)) cx d ha (narrow_rf x) (fits_rf x) kk
theorem gX7_66 {v : Value} (hv : fV G V 7 11 a = v) (cx : Cx Z X RX7 nm cc nL ret D mc ms) (d : decode cc pc = .ok (.getfield 66, 3)) (ha : isK Z G a 7) (kk : Wm Z X nL G V k n Q (pc + 3) lw (v :: st)) : Wm Z X nL G V k n Q pc lw (.ref a :: st) := x_getf (C := RX7) (T := TX7) (N := 12) rfl inX7 rfl (by decide) (by decide) (wa (tt1 (j := 195) rfl) rfl) hv cx d ha kk
theorem pX7_66 {x : Option Nat} (cx : Cx Z X RX7 "<init>" cc nL ret D mc ms) (d : decode cc pc = .ok (.putfield 66, 3)) (ha : isK Z G a 7) (kk : Wm Z X nL (sR G 361 a x) V k n Q (pc + 3) lw st) : Wm Z X nL G V k n Q pc lw (va_rf x :: .ref a :: st) := x_putfF (C := RX7) (T := TX7) (N := 12) (i := 11) (ty := (.object "SendTheBox$Week")) tyX7 rfl inX7 tyX7_ok nmX7 rfl (by decide) (by decide) (by decide) (wa (tt1 (j := 195) rfl) rfl) rfl rfl (by decide +kernel) (putOK_R rfl (by decide)) cx d ha (narrow_rf x) (fits_rf x) kk
theorem gX2_9 {v : Value} (hv : fV G V 2 0 a = v) (cx : Cx Z X RX2 nm cc nL ret D mc ms) (d : decode cc pc = .ok (.getfield 9, 3)) (ha : isK Z G a 2) (kk : Wm Z X nL G V k n Q (pc + 3) lw (v :: st)) : Wm Z X nL G V k n Q pc lw (.ref a :: st) := x_getf (C := RX2) (T := TX2) (N := 2) rfl inX2 rfl (by decide) (by decide) (wa (tt1 (j := 237) rfl) rfl) hv cx d ha kk
theorem pX2_9 {x : Int32} (cx : Cx Z X RX2 "<init>" cc nL ret D mc ms) (d : decode cc pc = .ok (.putfield 9, 3)) (ha : isK Z G a 2) (kk : Wm Z X nL G (sI V 100 a x) k n Q (pc + 3) lw st) : Wm Z X nL G V k n Q pc lw (.int x :: .ref a :: st) := x_putfF (C := RX2) (T := TX2) (N := 2) (i := 0) (ty := .int) tyX2 rfl inX2 tyX2_ok nmX2 rfl (by decide) (by decide) (by decide) (wa (tt1 (j := 237) rfl) rfl) rfl rfl (by decide +kernel) (putOK_I rfl (by decide)) cx d ha rfl rfl kk
theorem gX2_15 {v : Value} (hv : fV G V 2 1 a = v) (cx : Cx Z X RX2 nm cc nL ret D mc ms) (d : decode cc pc = .ok (.getfield 15, 3)) (ha : isK Z G a 2) (kk : Wm Z X nL G V k n Q (pc + 3) lw (v :: st)) : Wm Z X nL G V k n Q pc lw (.ref a :: st) := x_getf (C := RX2) (T := TX2) (N := 2) rfl inX2 rfl (by decide) (by decide) (wa (tt1 (j := 239) rfl) rfl) hv cx d ha kk
theorem pX2_15 {x : Option Nat} (cx : Cx Z X RX2 "<init>" cc nL ret D mc ms) (d : decode cc pc = .ok (.putfield 15, 3)) (ha : isK Z G a 2) (kk : Wm Z X nL (sR G 101 a x) V k n Q (pc + 3) lw st) : Wm Z X nL G V k n Q pc lw (va_rf x :: .ref a :: st) := x_putfF (C := RX2) (T := TX2) (N := 2) (i := 1) (ty := (.array .long)) tyX2 rfl inX2 tyX2_ok nmX2 rfl (by decide) (by decide) (by decide) (wa (tt1 (j := 239) rfl) rfl) rfl rfl (by decide +kernel) (putOK_R rfl (by decide)) cx d ha (narrow_rfA x) (fits_rfA x) kk
theorem gX3_9 {v : Value} (hv : fV G V 3 0 a = v) (cx : Cx Z X RX3 nm cc nL ret D mc ms) (d : decode cc pc = .ok (.getfield 9, 3)) (ha : isK Z G a 3) (kk : Wm Z X nL G V k n Q (pc + 3) lw (v :: st)) : Wm Z X nL G V k n Q pc lw (.ref a :: st) := x_getf (C := RX3) (T := TX3) (N := 4) rfl inX3 rfl (by decide) (by decide) (wa (tt2 (j := 89) rfl) rfl) hv cx d ha kk
theorem pX3_9 {x : Int32} (cx : Cx Z X RX3 "<init>" cc nL ret D mc ms) (d : decode cc pc = .ok (.putfield 9, 3)) (ha : isK Z G a 3) (kk : Wm Z X nL G (sI V 150 a x) k n Q (pc + 3) lw st) : Wm Z X nL G V k n Q pc lw (.int x :: .ref a :: st) := x_putfF (C := RX3) (T := TX3) (N := 4) (i := 0) (ty := .int) tyX3 rfl inX3 tyX3_ok nmX3 rfl (by decide) (by decide) (by decide) (wa (tt2 (j := 89) rfl) rfl) rfl rfl (by decide +kernel) (putOK_I rfl (by decide)) cx d ha rfl rfl kk
theorem gX3_15 {v : Value} (hv : fV G V 3 1 a = v) (cx : Cx Z X RX3 nm cc nL ret D mc ms) (d : decode cc pc = .ok (.getfield 15, 3)) (ha : isK Z G a 3) (kk : Wm Z X nL G V k n Q (pc + 3) lw (v :: st)) : Wm Z X nL G V k n Q pc lw (.ref a :: st) := x_getf (C := RX3) (T := TX3) (N := 4) rfl inX3 rfl (by decide) (by decide) (wa (tt2 (j := 92) rfl) rfl) hv cx d ha kk
theorem pX3_15 {x : Int32} (cx : Cx Z X RX3 "<init>" cc nL ret D mc ms) (d : decode cc pc = .ok (.putfield 15, 3)) (ha : isK Z G a 3) (kk : Wm Z X nL G (sI V 151 a x) k n Q (pc + 3) lw st) : Wm Z X nL G V k n Q pc lw (.int x :: .ref a :: st) := x_putfF (C := RX3) (T := TX3) (N := 4) (i := 1) (ty := .int) tyX3 rfl inX3 tyX3_ok nmX3 rfl (by decide) (by decide) (by decide) (wa (tt2 (j := 92) rfl) rfl) rfl rfl (by decide +kernel) (putOK_I rfl (by decide)) cx d ha rfl rfl kk
theorem gX3_18 {v : Value} (hv : fV G V 3 2 a = v) (cx : Cx Z X RX3 nm cc nL ret D mc ms) (d : decode cc pc = .ok (.getfield 18, 3)) (ha : isK Z G a 3) (kk : Wm Z X nL G V k n Q (pc + 3) lw (v :: st)) : Wm Z X nL G V k n Q pc lw (.ref a :: st) := x_getf (C := RX3) (T := TX3) (N := 4) rfl inX3 rfl (by decide) (by decide) (wa (tt2 (j := 93) rfl) rfl) hv cx d ha kk
theorem pX3_18 {x : Int32} (cx : Cx Z X RX3 "<init>" cc nL ret D mc ms) (d : decode cc pc = .ok (.putfield 18, 3)) (ha : isK Z G a 3) (kk : Wm Z X nL G (sI V 152 a x) k n Q (pc + 3) lw st) : Wm Z X nL G V k n Q pc lw (.int x :: .ref a :: st) := x_putfF (C := RX3) (T := TX3) (N := 4) (i := 2) (ty := .int) tyX3 rfl inX3 tyX3_ok nmX3 rfl (by decide) (by decide) (by decide) (wa (tt2 (j := 93) rfl) rfl) rfl rfl (by decide +kernel) (putOK_I rfl (by decide)) cx d ha rfl rfl kk
theorem gX3_27 {v : Value} (hv : fV G V 3 3 a = v) (cx : Cx Z X RX3 nm cc nL ret D mc ms) (d : decode cc pc = .ok (.getfield 27, 3)) (ha : isK Z G a 3) (kk : Wm Z X nL G V k n Q (pc + 3) lw (v :: st)) : Wm Z X nL G V k n Q pc lw (.ref a :: st) := x_getf (C := RX3) (T := TX3) (N := 4) rfl inX3 rfl (by decide) (by decide) (wa (tt2 (j := 94) rfl) rfl) hv cx d ha kk
theorem pX3_27 {x : Option Nat} (cx : Cx Z X RX3 "<init>" cc nL ret D mc ms) (d : decode cc pc = .ok (.putfield 27, 3)) (ha : isK Z G a 3) (kk : Wm Z X nL (sR G 153 a x) V k n Q (pc + 3) lw st) : Wm Z X nL G V k n Q pc lw (va_rf x :: .ref a :: st) := x_putfF (C := RX3) (T := TX3) (N := 4) (i := 3) (ty := (.object "SendTheBox$Row")) tyX3 rfl inX3 tyX3_ok nmX3 rfl (by decide) (by decide) (by decide) (wa (tt2 (j := 94) rfl) rfl) rfl rfl (by decide +kernel) (putOK_R rfl (by decide)) cx d ha (narrow_rf x) (fits_rf x) kk
theorem gX8_7 {v : Value} (hv : fV G V 8 0 a = v) (cx : Cx Z X RX8 nm cc nL ret D mc ms) (d : decode cc pc = .ok (.getfield 7, 3)) (ha : isK Z G a 8) (kk : Wm Z X nL G V k n Q (pc + 3) lw (v :: st)) : Wm Z X nL G V k n Q pc lw (.ref a :: st) := x_getf (C := RX8) (T := TX8) (N := 46) rfl inX8 rfl (by decide) (by decide) (wa (tt5 (j := 80) rfl) rfl) hv cx d ha kk
theorem pX8_7 {x : Option Nat} (cx : Cx Z X RX8 "<init>" cc nL ret D mc ms) (d : decode cc pc = .ok (.putfield 7, 3)) (ha : isK Z G a 8) (kk : Wm Z X nL (sR G 400 a x) V k n Q (pc + 3) lw st) : Wm Z X nL G V k n Q pc lw (va_rf x :: .ref a :: st) := x_putfF (C := RX8) (T := TX8) (N := 46) (i := 0) (ty := (.array .int)) tyX8 rfl inX8 tyX8_ok nmX8 rfl (by decide) (by decide) (by decide) (wa (tt5 (j := 80) rfl) rfl) rfl rfl (by decide +kernel) (putOK_R rfl (by decide)) cx d ha (narrow_rfA x) (fits_rfA x) kk
theorem gX8_13 {v : Value} (hv : fV G V 8 1 a = v) (cx : Cx Z X RX8 nm cc nL ret D mc ms) (d : decode cc pc = .ok (.getfield 13, 3)) (ha : isK Z G a 8) (kk : Wm Z X nL G V k n Q (pc + 3) lw (v :: st)) : Wm Z X nL G V k n Q pc lw (.ref a :: st) := x_getf (C := RX8) (T := TX8) (N := 46) rfl inX8 rfl (by decide) (by decide) (wa (tt5 (j := 81) rfl) rfl) hv cx d ha kk
theorem pX8_13 {x : Option Nat} (cx : Cx Z X RX8 "<init>" cc nL ret D mc ms) (d : decode cc pc = .ok (.putfield 13, 3)) (ha : isK Z G a 8) (kk : Wm Z X nL (sR G 401 a x) V k n Q (pc + 3) lw st) : Wm Z X nL G V k n Q pc lw (va_rf x :: .ref a :: st) := x_putfF (C := RX8) (T := TX8) (N := 46) (i := 1) (ty := (.array .int)) tyX8 rfl inX8 tyX8_ok nmX8 rfl (by decide) (by decide) (by decide) (wa (tt5 (j := 81) rfl) rfl) rfl rfl (by decide +kernel) (putOK_R rfl (by decide)) cx d ha (narrow_rfA x) (fits_rfA x) kk
theorem gX8_16 {v : Value} (hv : fV G V 8 2 a = v) (cx : Cx Z X RX8 nm cc nL ret D mc ms) (d : decode cc pc = .ok (.getfield 16, 3)) (ha : isK Z G a 8) (kk : Wm Z X nL G V k n Q (pc + 3) lw (v :: st)) : Wm Z X nL G V k n Q pc lw (.ref a :: st) := x_getf (C := RX8) (T := TX8) (N := 46) rfl inX8 rfl (by decide) (by decide) (wa (tt5 (j := 82) rfl) rfl) hv cx d ha kk
theorem pX8_16 {x : Option Nat} (cx : Cx Z X RX8 "<init>" cc nL ret D mc ms) (d : decode cc pc = .ok (.putfield 16, 3)) (ha : isK Z G a 8) (kk : Wm Z X nL (sR G 402 a x) V k n Q (pc + 3) lw st) : Wm Z X nL G V k n Q pc lw (va_rf x :: .ref a :: st) := x_putfF (C := RX8) (T := TX8) (N := 46) (i := 2) (ty := (.array .int)) tyX8 rfl inX8 tyX8_ok nmX8 rfl (by decide) (by decide) (by decide) (wa (tt5 (j := 82) rfl) rfl) rfl rfl (by decide +kernel) (putOK_R rfl (by decide)) cx d ha (narrow_rfA x) (fits_rfA x) kk
theorem gX8_21 {v : Value} (hv : fV G V 8 3 a = v) (cx : Cx Z X RX8 nm cc nL ret D mc ms) (d : decode cc pc = .ok (.getfield 21, 3)) (ha : isK Z G a 8) (kk : Wm Z X nL G V k n Q (pc + 3) lw (v :: st)) : Wm Z X nL G V k n Q pc lw (.ref a :: st) := x_getf (C := RX8) (T := TX8) (N := 46) rfl inX8 rfl (by decide) (by decide) (wa (tt5 (j := 83) rfl) rfl) hv cx d ha kk
theorem pX8_21 {x : Option Nat} (cx : Cx Z X RX8 "<init>" cc nL ret D mc ms) (d : decode cc pc = .ok (.putfield 21, 3)) (ha : isK Z G a 8) (kk : Wm Z X nL (sR G 403 a x) V k n Q (pc + 3) lw st) : Wm Z X nL G V k n Q pc lw (va_rf x :: .ref a :: st) := x_putfF (C := RX8) (T := TX8) (N := 46) (i := 3) (ty := (.array (.array .long))) tyX8 rfl inX8 tyX8_ok nmX8 rfl (by decide) (by decide) (by decide) (wa (tt5 (j := 83) rfl) rfl) rfl rfl (by decide +kernel) (putOK_R rfl (by decide)) cx d ha (narrow_rfA x) (fits_rfA x) kk
theorem gX8_24 {v : Value} (hv : fV G V 8 4 a = v) (cx : Cx Z X RX8 nm cc nL ret D mc ms) (d : decode cc pc = .ok (.getfield 24, 3)) (ha : isK Z G a 8) (kk : Wm Z X nL G V k n Q (pc + 3) lw (v :: st)) : Wm Z X nL G V k n Q pc lw (.ref a :: st) := x_getf (C := RX8) (T := TX8) (N := 46) rfl inX8 rfl (by decide) (by decide) (wa (tt5 (j := 84) rfl) rfl) hv cx d ha kk
theorem pX8_24 {x : Option Nat} (cx : Cx Z X RX8 "<init>" cc nL ret D mc ms) (d : decode cc pc = .ok (.putfield 24, 3)) (ha : isK Z G a 8) (kk : Wm Z X nL (sR G 404 a x) V k n Q (pc + 3) lw st) : Wm Z X nL G V k n Q pc lw (va_rf x :: .ref a :: st) := x_putfF (C := RX8) (T := TX8) (N := 46) (i := 4) (ty := (.array .long)) tyX8 rfl inX8 tyX8_ok nmX8 rfl (by decide) (by decide) (by decide) (wa (tt5 (j := 84) rfl) rfl) rfl rfl (by decide +kernel) (putOK_R rfl (by decide)) cx d ha (narrow_rfA x) (fits_rfA x) kk
theorem gX8_28 {v : Value} (hv : fV G V 8 5 a = v) (cx : Cx Z X RX8 nm cc nL ret D mc ms) (d : decode cc pc = .ok (.getfield 28, 3)) (ha : isK Z G a 8) (kk : Wm Z X nL G V k n Q (pc + 3) lw (v :: st)) : Wm Z X nL G V k n Q pc lw (.ref a :: st) := x_getf (C := RX8) (T := TX8) (N := 46) rfl inX8 rfl (by decide) (by decide) (wa (tt5 (j := 85) rfl) rfl) hv cx d ha kk
theorem pX8_28 {x : Option Nat} (cx : Cx Z X RX8 "<init>" cc nL ret D mc ms) (d : decode cc pc = .ok (.putfield 28, 3)) (ha : isK Z G a 8) (kk : Wm Z X nL (sR G 405 a x) V k n Q (pc + 3) lw st) : Wm Z X nL G V k n Q pc lw (va_rf x :: .ref a :: st) := x_putfF (C := RX8) (T := TX8) (N := 46) (i := 5) (ty := (.array .int)) tyX8 rfl inX8 tyX8_ok nmX8 rfl (by decide) (by decide) (by decide) (wa (tt5 (j := 85) rfl) rfl) rfl rfl (by decide +kernel) (putOK_R rfl (by decide)) cx d ha (narrow_rfA x) (fits_rfA x) kk
theorem gX8_31 {v : Value} (hv : fV G V 8 6 a = v) (cx : Cx Z X RX8 nm cc nL ret D mc ms) (d : decode cc pc = .ok (.getfield 31, 3)) (ha : isK Z G a 8) (kk : Wm Z X nL G V k n Q (pc + 3) lw (v :: st)) : Wm Z X nL G V k n Q pc lw (.ref a :: st) := x_getf (C := RX8) (T := TX8) (N := 46) rfl inX8 rfl (by decide) (by decide) (wa (tt5 (j := 86) rfl) rfl) hv cx d ha kk
theorem pX8_31 {x : Option Nat} (cx : Cx Z X RX8 "<init>" cc nL ret D mc ms) (d : decode cc pc = .ok (.putfield 31, 3)) (ha : isK Z G a 8) (kk : Wm Z X nL (sR G 406 a x) V k n Q (pc + 3) lw st) : Wm Z X nL G V k n Q pc lw (va_rf x :: .ref a :: st) := x_putfF (C := RX8) (T := TX8) (N := 46) (i := 6) (ty := (.array .int)) tyX8 rfl inX8 tyX8_ok nmX8 rfl (by decide) (by decide) (by decide) (wa (tt5 (j := 86) rfl) rfl) rfl rfl (by decide +kernel) (putOK_R rfl (by decide)) cx d ha (narrow_rfA x) (fits_rfA x) kk
theorem gX8_36 {v : Value} (hv : fV G V 8 7 a = v) (cx : Cx Z X RX8 nm cc nL ret D mc ms) (d : decode cc pc = .ok (.getfield 36, 3)) (ha : isK Z G a 8) (kk : Wm Z X nL G V k n Q (pc + 3) lw (v :: st)) : Wm Z X nL G V k n Q pc lw (.ref a :: st) := x_getf (C := RX8) (T := TX8) (N := 46) rfl inX8 rfl (by decide) (by decide) (wa (tt5 (j := 87) rfl) rfl) hv cx d ha kk
theorem pX8_36 {x : Option Nat} (cx : Cx Z X RX8 "<init>" cc nL ret D mc ms) (d : decode cc pc = .ok (.putfield 36, 3)) (ha : isK Z G a 8) (kk : Wm Z X nL (sR G 407 a x) V k n Q (pc + 3) lw st) : Wm Z X nL G V k n Q pc lw (va_rf x :: .ref a :: st) := x_putfF (C := RX8) (T := TX8) (N := 46) (i := 7) (ty := (.array (.array .int))) tyX8 rfl inX8 tyX8_ok nmX8 rfl (by decide) (by decide) (by decide) (wa (tt5 (j := 87) rfl) rfl) rfl rfl (by decide +kernel) (putOK_R rfl (by decide)) cx d ha (narrow_rfA x) (fits_rfA x) kk
theorem gX8_39 {v : Value} (hv : fV G V 8 8 a = v) (cx : Cx Z X RX8 nm cc nL ret D mc ms) (d : decode cc pc = .ok (.getfield 39, 3)) (ha : isK Z G a 8) (kk : Wm Z X nL G V k n Q (pc + 3) lw (v :: st)) : Wm Z X nL G V k n Q pc lw (.ref a :: st) := x_getf (C := RX8) (T := TX8) (N := 46) rfl inX8 rfl (by decide) (by decide) (wa (tt5 (j := 88) rfl) rfl) hv cx d ha kk
theorem pX8_39 {x : Option Nat} (cx : Cx Z X RX8 "<init>" cc nL ret D mc ms) (d : decode cc pc = .ok (.putfield 39, 3)) (ha : isK Z G a 8) (kk : Wm Z X nL (sR G 408 a x) V k n Q (pc + 3) lw st) : Wm Z X nL G V k n Q pc lw (va_rf x :: .ref a :: st) := x_putfF (C := RX8) (T := TX8) (N := 46) (i := 8) (ty := (.array .int)) tyX8 rfl inX8 tyX8_ok nmX8 rfl (by decide) (by decide) (by decide) (wa (tt5 (j := 88) rfl) rfl) rfl rfl (by decide +kernel) (putOK_R rfl (by decide)) cx d ha (narrow_rfA x) (fits_rfA x) kk
theorem gX8_136 {v : Value} (hv : fV G V 8 9 a = v) (cx : Cx Z X RX8 nm cc nL ret D mc ms) (d : decode cc pc = .ok (.getfield 136, 3)) (ha : isK Z G a 8) (kk : Wm Z X nL G V k n Q (pc + 3) lw (v :: st)) : Wm Z X nL G V k n Q pc lw (.ref a :: st) := x_getf (C := RX8) (T := TX8) (N := 46) rfl inX8 rfl (by decide) (by decide) (wa (tt5 (j := 89) rfl) rfl) hv cx d ha kk
theorem pX8_136 {x : Int32} (cx : Cx Z X RX8 nm cc nL ret D mc ms) (d : decode cc pc = .ok (.putfield 136, 3)) (ha : isK Z G a 8) (kk : Wm Z X nL G (sI V 409 a x) k n Q (pc + 3) lw st) : Wm Z X nL G V k n Q pc lw (.int x :: .ref a :: st) := x_putf (C := RX8) (T := TX8) (N := 46) (i := 9) (ty := .int) tyX8 rfl inX8 tyX8_ok nmX8 rfl (by decide) (by decide) (by decide) (wa (tt5 (j := 89) rfl) rfl) rfl (by decide +kernel) (putOK_I rfl (by decide)) cx d ha rfl rfl kk
theorem gX8_42 {v : Value} (hv : fV G V 8 10 a = v) (cx : Cx Z X RX8 nm cc nL ret D mc ms) (d : decode cc pc = .ok (.getfield 42, 3)) (ha : isK Z G a 8) (kk : Wm Z X nL G V k n Q (pc + 3) lw (v :: st)) : Wm Z X nL G V k n Q pc lw (.ref a :: st) := x_getf (C := RX8) (T := TX8) (N := 46) rfl inX8 rfl (by decide) (by decide) (wa (tt5 (j := 90) rfl) rfl) hv cx d ha kk
theorem pX8_42 {x : Option Nat} (cx : Cx Z X RX8 "<init>" cc nL ret D mc ms) (d : decode cc pc = .ok (.putfield 42, 3)) (ha : isK Z G a 8) (kk : Wm Z X nL (sR G 410 a x) V k n Q (pc + 3) lw st) : Wm Z X nL G V k n Q pc lw (va_rf x :: .ref a :: st) := x_putfF (C := RX8) (T := TX8) (N := 46) (i := 10) (ty := (.array .int)) tyX8 rfl inX8 tyX8_ok nmX8 rfl (by decide) (by decide) (by decide) (wa (tt5 (j := 90) rfl) rfl) rfl rfl (by decide +kernel) (putOK_R rfl (by decide)) cx d ha (narrow_rfA x) (fits_rfA x) kk
theorem gX8_91 {v : Value} (hv : fV G V 8 11 a = v) (cx : Cx Z X RX8 nm cc nL ret D mc ms) (d : decode cc pc = .ok (.getfield 91, 3)) (ha : isK Z G a 8) (kk : Wm Z X nL G V k n Q (pc + 3) lw (v :: st)) : Wm Z X nL G V k n Q pc lw (.ref a :: st) := x_getf (C := RX8) (T := TX8) (N := 46) rfl inX8 rfl (by decide) (by decide) (wa (tt5 (j := 91) rfl) rfl) hv cx d ha kk
theorem pX8_91 {x : Int32} (cx : Cx Z X RX8 nm cc nL ret D mc ms) (d : decode cc pc = .ok (.putfield 91, 3)) (ha : isK Z G a 8) (kk : Wm Z X nL G (sI V 411 a x) k n Q (pc + 3) lw st) : Wm Z X nL G V k n Q pc lw (.int x :: .ref a :: st) := x_putf (C := RX8) (T := TX8) (N := 46) (i := 11) (ty := .int) tyX8 rfl inX8 tyX8_ok nmX8 rfl (by decide) (by decide) (by decide) (wa (tt5 (j := 91) rfl) rfl) rfl (by decide +kernel) (putOK_I rfl (by decide)) cx d ha rfl rfl kk
theorem gX8_45 {v : Value} (hv : fV G V 8 12 a = v) (cx : Cx Z X RX8 nm cc nL ret D mc ms) (d : decode cc pc = .ok (.getfield 45, 3)) (ha : isK Z G a 8) (kk : Wm Z X nL G V k n Q (pc + 3) lw (v :: st)) : Wm Z X nL G V k n Q pc lw (.ref a :: st) := x_getf (C := RX8) (T := TX8) (N := 46) rfl inX8 rfl (by decide) (by decide) (wa (tt5 (j := 92) rfl) rfl) hv cx d ha kk
theorem pX8_45 {x : Option Nat} (cx : Cx Z X RX8 "<init>" cc nL ret D mc ms) (d : decode cc pc = .ok (.putfield 45, 3)) (ha : isK Z G a 8) (kk : Wm Z X nL (sR G 412 a x) V k n Q (pc + 3) lw st) : Wm Z X nL G V k n Q pc lw (va_rf x :: .ref a :: st) := x_putfF (C := RX8) (T := TX8) (N := 46) (i := 12) (ty := (.array (.array .int))) tyX8 rfl inX8 tyX8_ok nmX8 rfl (by decide) (by decide) (by decide) (wa (tt5 (j := 92) rfl) rfl) rfl rfl (by decide +kernel) (putOK_R rfl (by decide)) cx d ha (narrow_rfA x) (fits_rfA x) kk
theorem gX8_48 {v : Value} (hv : fV G V 8 13 a = v) (cx : Cx Z X RX8 nm cc nL ret D mc ms) (d : decode cc pc = .ok (.getfield 48, 3)) (ha : isK Z G a 8) (kk : Wm Z X nL G V k n Q (pc + 3) lw (v :: st)) : Wm Z X nL G V k n Q pc lw (.ref a :: st) := x_getf (C := RX8) (T := TX8) (N := 46) rfl inX8 rfl (by decide) (by decide) (wa (tt5 (j := 93) rfl) rfl) hv cx d ha kk
theorem pX8_48 {x : Int32} (cx : Cx Z X RX8 nm cc nL ret D mc ms) (d : decode cc pc = .ok (.putfield 48, 3)) (ha : isK Z G a 8) (kk : Wm Z X nL G (sI V 413 a x) k n Q (pc + 3) lw st) : Wm Z X nL G V k n Q pc lw (.int x :: .ref a :: st) := x_putf (C := RX8) (T := TX8) (N := 46) (i := 13) (ty := .int) tyX8 rfl inX8 tyX8_ok nmX8 rfl (by decide) (by decide) (by decide) (wa (tt5 (j := 93) rfl) rfl) rfl (by decide +kernel) (putOK_I rfl (by decide)) cx d ha rfl rfl kk
theorem gX8_346 {v : Value} (hv : fV G V 8 14 a = v) (cx : Cx Z X RX8 nm cc nL ret D mc ms) (d : decode cc pc = .ok (.getfield 346, 3)) (ha : isK Z G a 8) (kk : Wm Z X nL G V k n Q (pc + 3) lw (v :: st)) : Wm Z X nL G V k n Q pc lw (.ref a :: st) := x_getf (C := RX8) (T := TX8) (N := 46) rfl inX8 rfl (by decide) (by decide) (wa (tt5 (j := 94) rfl) rfl) hv cx d ha kk
theorem pX8_346 {x : Int32} (cx : Cx Z X RX8 nm cc nL ret D mc ms) (d : decode cc pc = .ok (.putfield 346, 3)) (ha : isK Z G a 8) (kk : Wm Z X nL G (sI V 414 a x) k n Q (pc + 3) lw st) : Wm Z X nL G V k n Q pc lw (.int x :: .ref a :: st) := x_putf (C := RX8) (T := TX8) (N := 46) (i := 14) (ty := .int) tyX8 rfl inX8 tyX8_ok nmX8 rfl (by decide) (by decide) (by decide) (wa (tt5 (j := 94) rfl) rfl) rfl (by decide +kernel) (putOK_I rfl (by decide)) cx d ha rfl rfl kk
theorem gX8_349 {v : Value} (hv : fV G V 8 15 a = v) (cx : Cx Z X RX8 nm cc nL ret D mc ms) (d : decode cc pc = .ok (.getfield 349, 3)) (ha : isK Z G a 8) (kk : Wm Z X nL G V k n Q (pc + 3) lw (v :: st)) : Wm Z X nL G V k n Q pc lw (.ref a :: st) := x_getf (C := RX8) (T := TX8) (N := 46) rfl inX8 rfl (by decide) (by decide) (wa (tt5 (j := 95) rfl) rfl) hv cx d ha kk
theorem pX8_349 {x : Int32} (cx : Cx Z X RX8 nm cc nL ret D mc ms) (d : decode cc pc = .ok (.putfield 349, 3)) (ha : isK Z G a 8) (kk : Wm Z X nL G (sI V 415 a x) k n Q (pc + 3) lw st) : Wm Z X nL G V k n Q pc lw (.int x :: .ref a :: st) := x_putf (C := RX8) (T := TX8) (N := 46) (i := 15) (ty := .int) tyX8 rfl inX8 tyX8_ok nmX8 rfl (by decide) (by decide) (by decide) (wa (tt5 (j := 95) rfl) rfl) rfl (by decide +kernel) (putOK_I rfl (by decide)) cx d ha rfl rfl kk
theorem gX8_352 {v : Value} (hv : fV G V 8 16 a = v) (cx : Cx Z X RX8 nm cc nL ret D mc ms) (d : decode cc pc = .ok (.getfield 352, 3)) (ha : isK Z G a 8) (kk : Wm Z X nL G V k n Q (pc + 3) lw (v :: st)) : Wm Z X nL G V k n Q pc lw (.ref a :: st) := x_getf (C := RX8) (T := TX8) (N := 46) rfl inX8 rfl (by decide) (by decide) (wa (tt5 (j := 96) rfl) rfl) hv cx d ha kk
theorem pX8_352 {x : Int32} (cx : Cx Z X RX8 nm cc nL ret D mc ms) (d : decode cc pc = .ok (.putfield 352, 3)) (ha : isK Z G a 8) (kk : Wm Z X nL G (sI V 416 a x) k n Q (pc + 3) lw st) : Wm Z X nL G V k n Q pc lw (.int x :: .ref a :: st) := x_putf (C := RX8) (T := TX8) (N := 46) (i := 16) (ty := .int) tyX8 rfl inX8 tyX8_ok nmX8 rfl (by decide) (by decide) (by decide) (wa (tt5 (j := 96) rfl) rfl) rfl (by decide +kernel) (putOK_I rfl (by decide)) cx d ha rfl rfl kk
theorem gX8_355 {v : Value} (hv : fV G V 8 17 a = v) (cx : Cx Z X RX8 nm cc nL ret D mc ms) (d : decode cc pc = .ok (.getfield 355, 3)) (ha : isK Z G a 8) (kk : Wm Z X nL G V k n Q (pc + 3) lw (v :: st)) : Wm Z X nL G V k n Q pc lw (.ref a :: st) := x_getf (C := RX8) (T := TX8) (N := 46) rfl inX8 rfl (by decide) (by decide) (wa (tt5 (j := 97) rfl) rfl) hv cx d ha kk
theorem pX8_355 {x : Int32} (cx : Cx Z X RX8 nm cc nL ret D mc ms) (d : decode cc pc = .ok (.putfield 355, 3)) (ha : isK Z G a 8) (kk : Wm Z X nL G (sI V 417 a x) k n Q (pc + 3) lw st) : Wm Z X nL G V k n Q pc lw (.int x :: .ref a :: st) := x_putf (C := RX8) (T := TX8) (N := 46) (i := 17) (ty := .int) tyX8 rfl inX8 tyX8_ok nmX8 rfl (by decide) (by decide) (by decide) (wa (tt5 (j := 97) rfl) rfl) rfl (by decide +kernel) (putOK_I rfl (by decide)) cx d ha rfl rfl kk
theorem gX8_358 {v : Value} (hv : fV G V 8 18 a = v) (cx : Cx Z X RX8 nm cc nL ret D mc ms) (d : decode cc pc = .ok (.getfield 358, 3)) (ha : isK Z G a 8) (kk : Wm Z X nL G V k n Q (pc + 3) lw (v :: st)) : Wm Z X nL G V k n Q pc lw (.ref a :: st) := x_getf (C := RX8) (T := TX8) (N := 46) rfl inX8 rfl (by decide) (by decide) (wa (tt5 (j := 98) rfl) rfl) hv cx d ha kk
theorem pX8_358 {x : Int32} (cx : Cx Z X RX8 nm cc nL ret D mc ms) (d : decode cc pc = .ok (.putfield 358, 3)) (ha : isK Z G a 8) (kk : Wm Z X nL G (sI V 418 a x) k n Q (pc + 3) lw st) : Wm Z X nL G V k n Q pc lw (.int x :: .ref a :: st) := x_putf (C := RX8) (T := TX8) (N := 46) (i := 18) (ty := .int) tyX8 rfl inX8 tyX8_ok nmX8 rfl (by decide) (by decide) (by decide) (wa (tt5 (j := 98) rfl) rfl) rfl (by decide +kernel) (putOK_I rfl (by decide)) cx d ha rfl rfl kk
theorem gX8_361 {v : Value} (hv : fV G V 8 19 a = v) (cx : Cx Z X RX8 nm cc nL ret D mc ms) (d : decode cc pc = .ok (.getfield 361, 3)) (ha : isK Z G a 8) (kk : Wm Z X nL G V k n Q (pc + 3) lw (v :: st)) : Wm Z X nL G V k n Q pc lw (.ref a :: st) := x_getf (C := RX8) (T := TX8) (N := 46) rfl inX8 rfl (by decide) (by decide) (wa (tt5 (j := 99) rfl) rfl) hv cx d ha kk
theorem pX8_361 {x : Int32} (cx : Cx Z X RX8 nm cc nL ret D mc ms) (d : decode cc pc = .ok (.putfield 361, 3)) (ha : isK Z G a 8) (kk : Wm Z X nL G (sI V 419 a x) k n Q (pc + 3) lw st) : Wm Z X nL G V k n Q pc lw (.int x :: .ref a :: st) := x_putf (C := RX8) (T := TX8) (N := 46) (i := 19) (ty := .int) tyX8 rfl inX8 tyX8_ok nmX8 rfl (by decide) (by decide) (by decide) (wa (tt5 (j := 99) rfl) rfl) rfl (by decide +kernel) (putOK_I rfl (by decide)) cx d ha rfl rfl kk
theorem gX8_364 {v : Value} (hv : fV G V 8 20 a = v) (cx : Cx Z X RX8 nm cc nL ret D mc ms) (d : decode cc pc = .ok (.getfield 364, 3)) (ha : isK Z G a 8) (kk : Wm Z X nL G V k n Q (pc + 3) lw (v :: st)) : Wm Z X nL G V k n Q pc lw (.ref a :: st) := x_getf (C := RX8) (T := TX8) (N := 46) rfl inX8 rfl (by decide) (by decide) (wa (tt5 (j := 100) rfl) rfl) hv cx d ha kk
theorem pX8_364 {x : Int32} (cx : Cx Z X RX8 nm cc nL ret D mc ms) (d : decode cc pc = .ok (.putfield 364, 3)) (ha : isK Z G a 8) (kk : Wm Z X nL G (sI V 420 a x) k n Q (pc + 3) lw st) : Wm Z X nL G V k n Q pc lw (.int x :: .ref a :: st) := x_putf (C := RX8) (T := TX8) (N := 46) (i := 20) (ty := .int) tyX8 rfl inX8 tyX8_ok nmX8 rfl (by decide) (by decide) (by decide) (wa (tt5 (j := 100) rfl) rfl) rfl (by decide +kernel) (putOK_I rfl (by decide)) cx d ha rfl rfl kk
theorem gX8_372 {v : Value} (hv : fV G V 8 21 a = v) (cx : Cx Z X RX8 nm cc nL ret D mc ms) (d : decode cc pc = .ok (.getfield 372, 3)) (ha : isK Z G a 8) (kk : Wm Z X nL G V k n Q (pc + 3) lw (v :: st)) : Wm Z X nL G V k n Q pc lw (.ref a :: st) := x_getf (C := RX8) (T := TX8) (N := 46) rfl inX8 rfl (by decide) (by decide) (wa (tt5 (j := 101) rfl) rfl) hv cx d ha kk
theorem pX8_372 {x : Option Nat} (cx : Cx Z X RX8 nm cc nL ret D mc ms) (d : decode cc pc = .ok (.putfield 372, 3)) (ha : isK Z G a 8) (kk : Wm Z X nL (sR G 421 a x) V k n Q (pc + 3) lw st) : Wm Z X nL G V k n Q pc lw (va_rf x :: .ref a :: st) := x_putf (C := RX8) (T := TX8) (N := 46) (i := 21) (ty := (.object "SendTheBoxModel")) tyX8 rfl inX8 tyX8_ok nmX8 rfl (by decide) (by decide) (by decide) (wa (tt5 (j := 101) rfl) rfl) rfl (by decide +kernel) (putOK_R rfl (by decide)) cx d ha (narrow_rf x) (fits_rf x) kk
theorem gX8_52 {v : Value} (hv : fV G V 8 22 a = v) (cx : Cx Z X RX8 nm cc nL ret D mc ms) (d : decode cc pc = .ok (.getfield 52, 3)) (ha : isK Z G a 8) (kk : Wm Z X nL G V k n Q (pc + 3) lw (v :: st)) : Wm Z X nL G V k n Q pc lw (.ref a :: st) := x_getf (C := RX8) (T := TX8) (N := 46) rfl inX8 rfl (by decide) (by decide) (wa (tt5 (j := 102) rfl) rfl) hv cx d ha kk
theorem pX8_52 {x : Option Nat} (cx : Cx Z X RX8 "<init>" cc nL ret D mc ms) (d : decode cc pc = .ok (.putfield 52, 3)) (ha : isK Z G a 8) (kk : Wm Z X nL (sR G 422 a x) V k n Q (pc + 3) lw st) : Wm Z X nL G V k n Q pc lw (va_rf x :: .ref a :: st) := x_putfF (C := RX8) (T := TX8) (N := 46) (i := 22) (ty := (.array .int)) tyX8 rfl inX8 tyX8_ok nmX8 rfl (by decide) (by decide) (by decide) (wa (tt5 (j := 102) rfl) rfl) rfl rfl (by decide +kernel) (putOK_R rfl (by decide)) cx d ha (narrow_rfA x) (fits_rfA x) kk
theorem gX8_139 {v : Value} (hv : fV G V 8 23 a = v) (cx : Cx Z X RX8 nm cc nL ret D mc ms) (d : decode cc pc = .ok (.getfield 139, 3)) (ha : isK Z G a 8) (kk : Wm Z X nL G V k n Q (pc + 3) lw (v :: st)) : Wm Z X nL G V k n Q pc lw (.ref a :: st) := x_getf (C := RX8) (T := TX8) (N := 46) rfl inX8 rfl (by decide) (by decide) (wa (tt5 (j := 103) rfl) rfl) hv cx d ha kk
theorem pX8_139 {x : Int32} (cx : Cx Z X RX8 nm cc nL ret D mc ms) (d : decode cc pc = .ok (.putfield 139, 3)) (ha : isK Z G a 8) (kk : Wm Z X nL G (sI V 423 a x) k n Q (pc + 3) lw st) : Wm Z X nL G V k n Q pc lw (.int x :: .ref a :: st) := x_putf (C := RX8) (T := TX8) (N := 46) (i := 23) (ty := .int) tyX8 rfl inX8 tyX8_ok nmX8 rfl (by decide) (by decide) (by decide) (wa (tt5 (j := 103) rfl) rfl) rfl (by decide +kernel) (putOK_I rfl (by decide)) cx d ha rfl rfl kk
theorem gX8_149 {v : Value} (hv : fV G V 8 24 a = v) (cx : Cx Z X RX8 nm cc nL ret D mc ms) (d : decode cc pc = .ok (.getfield 149, 3)) (ha : isK Z G a 8) (kk : Wm Z X nL G V k n Q (pc + 3) lw (v :: st)) : Wm Z X nL G V k n Q pc lw (.ref a :: st) := x_getf (C := RX8) (T := TX8) (N := 46) rfl inX8 rfl (by decide) (by decide) (wa (tt5 (j := 104) rfl) rfl) hv cx d ha kk
theorem pX8_149 {x : Int32} (cx : Cx Z X RX8 nm cc nL ret D mc ms) (d : decode cc pc = .ok (.putfield 149, 3)) (ha : isK Z G a 8) (kk : Wm Z X nL G (sI V 424 a x) k n Q (pc + 3) lw st) : Wm Z X nL G V k n Q pc lw (.int x :: .ref a :: st) := x_putf (C := RX8) (T := TX8) (N := 46) (i := 24) (ty := .int) tyX8 rfl inX8 tyX8_ok nmX8 rfl (by decide) (by decide) (by decide) (wa (tt5 (j := 104) rfl) rfl) rfl (by decide +kernel) (putOK_I rfl (by decide)) cx d ha rfl rfl kk
theorem gX8_142 {v : Value} (hv : fV G V 8 25 a = v) (cx : Cx Z X RX8 nm cc nL ret D mc ms) (d : decode cc pc = .ok (.getfield 142, 3)) (ha : isK Z G a 8) (kk : Wm Z X nL G V k n Q (pc + 3) lw (v :: st)) : Wm Z X nL G V k n Q pc lw (.ref a :: st) := x_getf (C := RX8) (T := TX8) (N := 46) rfl inX8 rfl (by decide) (by decide) (wa (tt5 (j := 105) rfl) rfl) hv cx d ha kk
theorem pX8_142 {x : Int32} (cx : Cx Z X RX8 nm cc nL ret D mc ms) (d : decode cc pc = .ok (.putfield 142, 3)) (ha : isK Z G a 8) (kk : Wm Z X nL G (sI V 425 a x) k n Q (pc + 3) lw st) : Wm Z X nL G V k n Q pc lw (.int x :: .ref a :: st) := x_putf (C := RX8) (T := TX8) (N := 46) (i := 25) (ty := .int) tyX8 rfl inX8 tyX8_ok nmX8 rfl (by decide) (by decide) (by decide) (wa (tt5 (j := 105) rfl) rfl) rfl (by decide +kernel) (putOK_I rfl (by decide)) cx d ha rfl rfl kk
theorem gX8_145 {v : Value} (hv : fV G V 8 26 a = v) (cx : Cx Z X RX8 nm cc nL ret D mc ms) (d : decode cc pc = .ok (.getfield 145, 3)) (ha : isK Z G a 8) (kk : Wm Z X nL G V k n Q (pc + 3) lw (v :: st)) : Wm Z X nL G V k n Q pc lw (.ref a :: st) := x_getf (C := RX8) (T := TX8) (N := 46) rfl inX8 rfl (by decide) (by decide) (wa (tt5 (j := 106) rfl) rfl) hv cx d ha kk
theorem pX8_145 {x : Int64} (cx : Cx Z X RX8 nm cc nL ret D mc ms) (d : decode cc pc = .ok (.putfield 145, 3)) (ha : isK Z G a 8) (kk : Wm Z X nL G (sL V 426 a x) k n Q (pc + 3) lw st) : Wm Z X nL G V k n Q pc lw (.long x :: .ref a :: st) := x_putf (C := RX8) (T := TX8) (N := 46) (i := 26) (ty := .long) tyX8 rfl inX8 tyX8_ok nmX8 rfl (by decide) (by decide) (by decide) (wa (tt5 (j := 106) rfl) rfl) rfl (by decide +kernel) (putOK_L rfl (by decide)) cx d ha rfl rfl kk
theorem gX8_164 {v : Value} (hv : fV G V 8 27 a = v) (cx : Cx Z X RX8 nm cc nL ret D mc ms) (d : decode cc pc = .ok (.getfield 164, 3)) (ha : isK Z G a 8) (kk : Wm Z X nL G V k n Q (pc + 3) lw (v :: st)) : Wm Z X nL G V k n Q pc lw (.ref a :: st) := x_getf (C := RX8) (T := TX8) (N := 46) rfl inX8 rfl (by decide) (by decide) (wa (tt5 (j := 107) rfl) rfl) hv cx d ha kk
theorem pX8_164 {x : Int32} (cx : Cx Z X RX8 nm cc nL ret D mc ms) (d : decode cc pc = .ok (.putfield 164, 3)) (ha : isK Z G a 8) (kk : Wm Z X nL G (sI V 427 a x) k n Q (pc + 3) lw st) : Wm Z X nL G V k n Q pc lw (.int x :: .ref a :: st) := x_putf (C := RX8) (T := TX8) (N := 46) (i := 27) (ty := .int) tyX8 rfl inX8 tyX8_ok nmX8 rfl (by decide) (by decide) (by decide) (wa (tt5 (j := 107) rfl) rfl) rfl (by decide +kernel) (putOK_I rfl (by decide)) cx d ha rfl rfl kk
theorem gX8_55 {v : Value} (hv : fV G V 8 28 a = v) (cx : Cx Z X RX8 nm cc nL ret D mc ms) (d : decode cc pc = .ok (.getfield 55, 3)) (ha : isK Z G a 8) (kk : Wm Z X nL G V k n Q (pc + 3) lw (v :: st)) : Wm Z X nL G V k n Q pc lw (.ref a :: st) := x_getf (C := RX8) (T := TX8) (N := 46) rfl inX8 rfl (by decide) (by decide) (wa (tt5 (j := 108) rfl) rfl) hv cx d ha kk
theorem pX8_55 {x : Option Nat} (cx : Cx Z X RX8 "<init>" cc nL ret D mc ms) (d : decode cc pc = .ok (.putfield 55, 3)) (ha : isK Z G a 8) (kk : Wm Z X nL (sR G 428 a x) V k n Q (pc + 3) lw st) : Wm Z X nL G V k n Q pc lw (va_rf x :: .ref a :: st) := x_putfF (C := RX8) (T := TX8) (N := 46) (i := 28) (ty := (.array (.array .long))) tyX8 rfl inX8 tyX8_ok nmX8 rfl (by decide) (by decide) (by decide) (wa (tt5 (j := 108) rfl) rfl) rfl rfl (by decide +kernel) (putOK_R rfl (by decide)) cx d ha (narrow_rfA x) (fits_rfA x) kk
theorem gX8_58 {v : Value} (hv : fV G V 8 29 a = v) (cx : Cx Z X RX8 nm cc nL ret D mc ms) (d : decode cc pc = .ok (.getfield 58, 3)) (ha : isK Z G a 8) (kk : Wm Z X nL G V k n Q (pc + 3) lw (v :: st)) : Wm Z X nL G V k n Q pc lw (.ref a :: st) := x_getf (C := RX8) (T := TX8) (N := 46) rfl inX8 rfl (by decide) (by decide) (wa (tt5 (j := 109) rfl) rfl) hv cx d ha kk
theorem pX8_58 {x : Option Nat} (cx : Cx Z X RX8 "<init>" cc nL ret D mc ms) (d : decode cc pc = .ok (.putfield 58, 3)) (ha : isK Z G a 8) (kk : Wm Z X nL (sR G 429 a x) V k n Q (pc + 3) lw st) : Wm Z X nL G V k n Q pc lw (va_rf x :: .ref a :: st) := x_putfF (C := RX8) (T := TX8) (N := 46) (i := 29) (ty := (.array (.array .int))) tyX8 rfl inX8 tyX8_ok nmX8 rfl (by decide) (by decide) (by decide) (wa (tt5 (j := 109) rfl) rfl) rfl rfl (by decide +kernel) (putOK_R rfl (by decide)) cx d ha (narrow_rfA x) (fits_rfA x) kk
theorem gX8_61 {v : Value} (hv : fV G V 8 30 a = v) (cx : Cx Z X RX8 nm cc nL ret D mc ms) (d : decode cc pc = .ok (.getfield 61, 3)) (ha : isK Z G a 8) (kk : Wm Z X nL G V k n Q (pc + 3) lw (v :: st)) : Wm Z X nL G V k n Q pc lw (.ref a :: st) := x_getf (C := RX8) (T := TX8) (N := 46) rfl inX8 rfl (by decide) (by decide) (wa (tt5 (j := 110) rfl) rfl) hv cx d ha kk
theorem pX8_61 {x : Option Nat} (cx : Cx Z X RX8 "<init>" cc nL ret D mc ms) (d : decode cc pc = .ok (.putfield 61, 3)) (ha : isK Z G a 8) (kk : Wm Z X nL (sR G 430 a x) V k n Q (pc + 3) lw st) : Wm Z X nL G V k n Q pc lw (va_rf x :: .ref a :: st) := x_putfF (C := RX8) (T := TX8) (N := 46) (i := 30) (ty := (.array (.array .long))) tyX8 rfl inX8 tyX8_ok nmX8 rfl (by decide) (by decide) (by decide) (wa (tt5 (j := 110) rfl) rfl) rfl rfl (by decide +kernel) (putOK_R rfl (by decide)) cx d ha (narrow_rfA x) (fits_rfA x) kk
theorem gX8_64 {v : Value} (hv : fV G V 8 31 a = v) (cx : Cx Z X RX8 nm cc nL ret D mc ms) (d : decode cc pc = .ok (.getfield 64, 3)) (ha : isK Z G a 8) (kk : Wm Z X nL G V k n Q (pc + 3) lw (v :: st)) : Wm Z X nL G V k n Q pc lw (.ref a :: st) := x_getf (C := RX8) (T := TX8) (N := 46) rfl inX8 rfl (by decide) (by decide) (wa (tt5 (j := 111) rfl) rfl) hv cx d ha kk
theorem pX8_64 {x : Option Nat} (cx : Cx Z X RX8 "<init>" cc nL ret D mc ms) (d : decode cc pc = .ok (.putfield 64, 3)) (ha : isK Z G a 8) (kk : Wm Z X nL (sR G 431 a x) V k n Q (pc + 3) lw st) : Wm Z X nL G V k n Q pc lw (va_rf x :: .ref a :: st) := x_putfF (C := RX8) (T := TX8) (N := 46) (i := 31) (ty := (.array .long)) tyX8 rfl inX8 tyX8_ok nmX8 rfl (by decide) (by decide) (by decide) (wa (tt5 (j := 111) rfl) rfl) rfl rfl (by decide +kernel) (putOK_R rfl (by decide)) cx d ha (narrow_rfA x) (fits_rfA x) kk
theorem gX8_67 {v : Value} (hv : fV G V 8 32 a = v) (cx : Cx Z X RX8 nm cc nL ret D mc ms) (d : decode cc pc = .ok (.getfield 67, 3)) (ha : isK Z G a 8) (kk : Wm Z X nL G V k n Q (pc + 3) lw (v :: st)) : Wm Z X nL G V k n Q pc lw (.ref a :: st) := x_getf (C := RX8) (T := TX8) (N := 46) rfl inX8 rfl (by decide) (by decide) (wa (tt5 (j := 112) rfl) rfl) hv cx d ha kk
theorem pX8_67 {x : Option Nat} (cx : Cx Z X RX8 "<init>" cc nL ret D mc ms) (d : decode cc pc = .ok (.putfield 67, 3)) (ha : isK Z G a 8) (kk : Wm Z X nL (sR G 432 a x) V k n Q (pc + 3) lw st) : Wm Z X nL G V k n Q pc lw (va_rf x :: .ref a :: st) := x_putfF (C := RX8) (T := TX8) (N := 46) (i := 32) (ty := (.array (.array .int))) tyX8 rfl inX8 tyX8_ok nmX8 rfl (by decide) (by decide) (by decide) (wa (tt5 (j := 112) rfl) rfl) rfl rfl (by decide +kernel) (putOK_R rfl (by decide)) cx d ha (narrow_rfA x) (fits_rfA x) kk
theorem gX8_70 {v : Value} (hv : fV G V 8 33 a = v) (cx : Cx Z X RX8 nm cc nL ret D mc ms) (d : decode cc pc = .ok (.getfield 70, 3)) (ha : isK Z G a 8) (kk : Wm Z X nL G V k n Q (pc + 3) lw (v :: st)) : Wm Z X nL G V k n Q pc lw (.ref a :: st) := x_getf (C := RX8) (T := TX8) (N := 46) rfl inX8 rfl (by decide) (by decide) (wa (tt5 (j := 113) rfl) rfl) hv cx d ha kk
theorem pX8_70 {x : Option Nat} (cx : Cx Z X RX8 "<init>" cc nL ret D mc ms) (d : decode cc pc = .ok (.putfield 70, 3)) (ha : isK Z G a 8) (kk : Wm Z X nL (sR G 433 a x) V k n Q (pc + 3) lw st) : Wm Z X nL G V k n Q pc lw (va_rf x :: .ref a :: st) := x_putfF (C := RX8) (T := TX8) (N := 46) (i := 33) (ty := (.array (.array .int))) tyX8 rfl inX8 tyX8_ok nmX8 rfl (by decide) (by decide) (by decide) (wa (tt5 (j := 113) rfl) rfl) rfl rfl (by decide +kernel) (putOK_R rfl (by decide)) cx d ha (narrow_rfA x) (fits_rfA x) kk
theorem gX8_73 {v : Value} (hv : fV G V 8 34 a = v) (cx : Cx Z X RX8 nm cc nL ret D mc ms) (d : decode cc pc = .ok (.getfield 73, 3)) (ha : isK Z G a 8) (kk : Wm Z X nL G V k n Q (pc + 3) lw (v :: st)) : Wm Z X nL G V k n Q pc lw (.ref a :: st) := x_getf (C := RX8) (T := TX8) (N := 46) rfl inX8 rfl (by decide) (by decide) (wa (tt5 (j := 114) rfl) rfl) hv cx d ha kk
theorem pX8_73 {x : Option Nat} (cx : Cx Z X RX8 "<init>" cc nL ret D mc ms) (d : decode cc pc = .ok (.putfield 73, 3)) (ha : isK Z G a 8) (kk : Wm Z X nL (sR G 434 a x) V k n Q (pc + 3) lw st) : Wm Z X nL G V k n Q pc lw (va_rf x :: .ref a :: st) := x_putfF (C := RX8) (T := TX8) (N := 46) (i := 34) (ty := (.array .int)) tyX8 rfl inX8 tyX8_ok nmX8 rfl (by decide) (by decide) (by decide) (wa (tt5 (j := 114) rfl) rfl) rfl rfl (by decide +kernel) (putOK_R rfl (by decide)) cx d ha (narrow_rfA x) (fits_rfA x) kk
theorem gX8_76 {v : Value} (hv : fV G V 8 35 a = v) (cx : Cx Z X RX8 nm cc nL ret D mc ms) (d : decode cc pc = .ok (.getfield 76, 3)) (ha : isK Z G a 8) (kk : Wm Z X nL G V k n Q (pc + 3) lw (v :: st)) : Wm Z X nL G V k n Q pc lw (.ref a :: st) := x_getf (C := RX8) (T := TX8) (N := 46) rfl inX8 rfl (by decide) (by decide) (wa (tt5 (j := 115) rfl) rfl) hv cx d ha kk
theorem pX8_76 {x : Option Nat} (cx : Cx Z X RX8 "<init>" cc nL ret D mc ms) (d : decode cc pc = .ok (.putfield 76, 3)) (ha : isK Z G a 8) (kk : Wm Z X nL (sR G 435 a x) V k n Q (pc + 3) lw st) : Wm Z X nL G V k n Q pc lw (va_rf x :: .ref a :: st) := x_putfF (C := RX8) (T := TX8) (N := 46) (i := 35) (ty := (.array .int)) tyX8 rfl inX8 tyX8_ok nmX8 rfl (by decide) (by decide) (by decide) (wa (tt5 (j := 115) rfl) rfl) rfl rfl (by decide +kernel) (putOK_R rfl (by decide)) cx d ha (narrow_rfA x) (fits_rfA x) kk
theorem gX8_79 {v : Value} (hv : fV G V 8 36 a = v) (cx : Cx Z X RX8 nm cc nL ret D mc ms) (d : decode cc pc = .ok (.getfield 79, 3)) (ha : isK Z G a 8) (kk : Wm Z X nL G V k n Q (pc + 3) lw (v :: st)) : Wm Z X nL G V k n Q pc lw (.ref a :: st) := x_getf (C := RX8) (T := TX8) (N := 46) rfl inX8 rfl (by decide) (by decide) (wa (tt5 (j := 116) rfl) rfl) hv cx d ha kk
theorem pX8_79 {x : Option Nat} (cx : Cx Z X RX8 "<init>" cc nL ret D mc ms) (d : decode cc pc = .ok (.putfield 79, 3)) (ha : isK Z G a 8) (kk : Wm Z X nL (sR G 436 a x) V k n Q (pc + 3) lw st) : Wm Z X nL G V k n Q pc lw (va_rf x :: .ref a :: st) := x_putfF (C := RX8) (T := TX8) (N := 46) (i := 36) (ty := (.array .int)) tyX8 rfl inX8 tyX8_ok nmX8 rfl (by decide) (by decide) (by decide) (wa (tt5 (j := 116) rfl) rfl) rfl rfl (by decide +kernel) (putOK_R rfl (by decide)) cx d ha (narrow_rfA x) (fits_rfA x) kk
theorem gX8_82 {v : Value} (hv : fV G V 8 37 a = v) (cx : Cx Z X RX8 nm cc nL ret D mc ms) (d : decode cc pc = .ok (.getfield 82, 3)) (ha : isK Z G a 8) (kk : Wm Z X nL G V k n Q (pc + 3) lw (v :: st)) : Wm Z X nL G V k n Q pc lw (.ref a :: st) := x_getf (C := RX8) (T := TX8) (N := 46) rfl inX8 rfl (by decide) (by decide) (wa (tt5 (j := 117) rfl) rfl) hv cx d ha kk
theorem pX8_82 {x : Option Nat} (cx : Cx Z X RX8 "<init>" cc nL ret D mc ms) (d : decode cc pc = .ok (.putfield 82, 3)) (ha : isK Z G a 8) (kk : Wm Z X nL (sR G 437 a x) V k n Q (pc + 3) lw st) : Wm Z X nL G V k n Q pc lw (va_rf x :: .ref a :: st) := x_putfF (C := RX8) (T := TX8) (N := 46) (i := 37) (ty := (.array .long)) tyX8 rfl inX8 tyX8_ok nmX8 rfl (by decide) (by decide) (by decide) (wa (tt5 (j := 117) rfl) rfl) rfl rfl (by decide +kernel) (putOK_R rfl (by decide)) cx d ha (narrow_rfA x) (fits_rfA x) kk
theorem gX8_85 {v : Value} (hv : fV G V 8 38 a = v) (cx : Cx Z X RX8 nm cc nL ret D mc ms) (d : decode cc pc = .ok (.getfield 85, 3)) (ha : isK Z G a 8) (kk : Wm Z X nL G V k n Q (pc + 3) lw (v :: st)) : Wm Z X nL G V k n Q pc lw (.ref a :: st) := x_getf (C := RX8) (T := TX8) (N := 46) rfl inX8 rfl (by decide) (by decide) (wa (tt5 (j := 118) rfl) rfl) hv cx d ha kk
theorem pX8_85 {x : Option Nat} (cx : Cx Z X RX8 "<init>" cc nL ret D mc ms) (d : decode cc pc = .ok (.putfield 85, 3)) (ha : isK Z G a 8) (kk : Wm Z X nL (sR G 438 a x) V k n Q (pc + 3) lw st) : Wm Z X nL G V k n Q pc lw (va_rf x :: .ref a :: st) := x_putfF (C := RX8) (T := TX8) (N := 46) (i := 38) (ty := (.array (.array .long))) tyX8 rfl inX8 tyX8_ok nmX8 rfl (by decide) (by decide) (by decide) (wa (tt5 (j := 118) rfl) rfl) rfl rfl (by decide +kernel) (putOK_R rfl (by decide)) cx d ha (narrow_rfA x) (fits_rfA x) kk
theorem gX8_88 {v : Value} (hv : fV G V 8 39 a = v) (cx : Cx Z X RX8 nm cc nL ret D mc ms) (d : decode cc pc = .ok (.getfield 88, 3)) (ha : isK Z G a 8) (kk : Wm Z X nL G V k n Q (pc + 3) lw (v :: st)) : Wm Z X nL G V k n Q pc lw (.ref a :: st) := x_getf (C := RX8) (T := TX8) (N := 46) rfl inX8 rfl (by decide) (by decide) (wa (tt5 (j := 119) rfl) rfl) hv cx d ha kk
theorem pX8_88 {x : Int32} (cx : Cx Z X RX8 nm cc nL ret D mc ms) (d : decode cc pc = .ok (.putfield 88, 3)) (ha : isK Z G a 8) (kk : Wm Z X nL G (sI V 439 a x) k n Q (pc + 3) lw st) : Wm Z X nL G V k n Q pc lw (.int x :: .ref a :: st) := x_putf (C := RX8) (T := TX8) (N := 46) (i := 39) (ty := .int) tyX8 rfl inX8 tyX8_ok nmX8 rfl (by decide) (by decide) (by decide) (wa (tt5 (j := 119) rfl) rfl) rfl (by decide +kernel) (putOK_I rfl (by decide)) cx d ha rfl rfl kk
theorem gX8_310 {v : Value} (hv : fV G V 8 40 a = v) (cx : Cx Z X RX8 nm cc nL ret D mc ms) (d : decode cc pc = .ok (.getfield 310, 3)) (ha : isK Z G a 8) (kk : Wm Z X nL G V k n Q (pc + 3) lw (v :: st)) : Wm Z X nL G V k n Q pc lw (.ref a :: st) := x_getf (C := RX8) (T := TX8) (N := 46) rfl inX8 rfl (by decide) (by decide) (wa (tt5 (j := 120) rfl) rfl) hv cx d ha kk
theorem pX8_310 {x : Int32} (cx : Cx Z X RX8 nm cc nL ret D mc ms) (d : decode cc pc = .ok (.putfield 310, 3)) (ha : isK Z G a 8) (kk : Wm Z X nL G (sI V 440 a x) k n Q (pc + 3) lw st) : Wm Z X nL G V k n Q pc lw (.int x :: .ref a :: st) := x_putf (C := RX8) (T := TX8) (N := 46) (i := 40) (ty := .int) tyX8 rfl inX8 tyX8_ok nmX8 rfl (by decide) (by decide) (by decide) (wa (tt5 (j := 120) rfl) rfl) rfl (by decide +kernel) (putOK_I rfl (by decide)) cx d ha rfl rfl kk
theorem gX8_313 {v : Value} (hv : fV G V 8 41 a = v) (cx : Cx Z X RX8 nm cc nL ret D mc ms) (d : decode cc pc = .ok (.getfield 313, 3)) (ha : isK Z G a 8) (kk : Wm Z X nL G V k n Q (pc + 3) lw (v :: st)) : Wm Z X nL G V k n Q pc lw (.ref a :: st) := x_getf (C := RX8) (T := TX8) (N := 46) rfl inX8 rfl (by decide) (by decide) (wa (tt5 (j := 121) rfl) rfl) hv cx d ha kk
theorem pX8_313 {x : Int32} (cx : Cx Z X RX8 nm cc nL ret D mc ms) (d : decode cc pc = .ok (.putfield 313, 3)) (ha : isK Z G a 8) (kk : Wm Z X nL G (sI V 441 a x) k n Q (pc + 3) lw st) : Wm Z X nL G V k n Q pc lw (.int x :: .ref a :: st) := x_putf (C := RX8) (T := TX8) (N := 46) (i := 41) (ty := .int) tyX8 rfl inX8 tyX8_ok nmX8 rfl (by decide) (by decide) (by decide) (wa (tt5 (j := 121) rfl) rfl) rfl (by decide +kernel) (putOK_I rfl (by decide)) cx d ha rfl rfl kk
theorem gX8_334 {v : Value} (hv : fV G V 8 42 a = v) (cx : Cx Z X RX8 nm cc nL ret D mc ms) (d : decode cc pc = .ok (.getfield 334, 3)) (ha : isK Z G a 8) (kk : Wm Z X nL G V k n Q (pc + 3) lw (v :: st)) : Wm Z X nL G V k n Q pc lw (.ref a :: st) := x_getf (C := RX8) (T := TX8) (N := 46) rfl inX8 rfl (by decide) (by decide) (wa (tt5 (j := 122) rfl) rfl) hv cx d ha kk
theorem pX8_334 {x : Int32} (cx : Cx Z X RX8 nm cc nL ret D mc ms) (d : decode cc pc = .ok (.putfield 334, 3)) (ha : isK Z G a 8) (kk : Wm Z X nL G (sI V 442 a x) k n Q (pc + 3) lw st) : Wm Z X nL G V k n Q pc lw (.int x :: .ref a :: st) := x_putf (C := RX8) (T := TX8) (N := 46) (i := 42) (ty := .int) tyX8 rfl inX8 tyX8_ok nmX8 rfl (by decide) (by decide) (by decide) (wa (tt5 (j := 122) rfl) rfl) rfl (by decide +kernel) (putOK_I rfl (by decide)) cx d ha rfl rfl kk
theorem gX8_337 {v : Value} (hv : fV G V 8 43 a = v) (cx : Cx Z X RX8 nm cc nL ret D mc ms) (d : decode cc pc = .ok (.getfield 337, 3)) (ha : isK Z G a 8) (kk : Wm Z X nL G V k n Q (pc + 3) lw (v :: st)) : Wm Z X nL G V k n Q pc lw (.ref a :: st) := x_getf (C := RX8) (T := TX8) (N := 46) rfl inX8 rfl (by decide) (by decide) (wa (tt5 (j := 123) rfl) rfl) hv cx d ha kk
theorem pX8_337 {x : Int32} (cx : Cx Z X RX8 nm cc nL ret D mc ms) (d : decode cc pc = .ok (.putfield 337, 3)) (ha : isK Z G a 8) (kk : Wm Z X nL G (sI V 443 a x) k n Q (pc + 3) lw st) : Wm Z X nL G V k n Q pc lw (.int x :: .ref a :: st) := x_putf (C := RX8) (T := TX8) (N := 46) (i := 43) (ty := .int) tyX8 rfl inX8 tyX8_ok nmX8 rfl (by decide) (by decide) (by decide) (wa (tt5 (j := 123) rfl) rfl) rfl (by decide +kernel) (putOK_I rfl (by decide)) cx d ha rfl rfl kk
theorem gX8_340 {v : Value} (hv : fV G V 8 44 a = v) (cx : Cx Z X RX8 nm cc nL ret D mc ms) (d : decode cc pc = .ok (.getfield 340, 3)) (ha : isK Z G a 8) (kk : Wm Z X nL G V k n Q (pc + 3) lw (v :: st)) : Wm Z X nL G V k n Q pc lw (.ref a :: st) := x_getf (C := RX8) (T := TX8) (N := 46) rfl inX8 rfl (by decide) (by decide) (wa (tt5 (j := 124) rfl) rfl) hv cx d ha kk
theorem pX8_340 {x : Int32} (cx : Cx Z X RX8 nm cc nL ret D mc ms) (d : decode cc pc = .ok (.putfield 340, 3)) (ha : isK Z G a 8) (kk : Wm Z X nL G (sI V 444 a x) k n Q (pc + 3) lw st) : Wm Z X nL G V k n Q pc lw (.int x :: .ref a :: st) := x_putf (C := RX8) (T := TX8) (N := 46) (i := 44) (ty := .int) tyX8 rfl inX8 tyX8_ok nmX8 rfl (by decide) (by decide) (by decide) (wa (tt5 (j := 124) rfl) rfl) rfl (by decide +kernel) (putOK_I rfl (by decide)) cx d ha rfl rfl kk
theorem gX8_343 {v : Value} (hv : fV G V 8 45 a = v) (cx : Cx Z X RX8 nm cc nL ret D mc ms) (d : decode cc pc = .ok (.getfield 343, 3)) (ha : isK Z G a 8) (kk : Wm Z X nL G V k n Q (pc + 3) lw (v :: st)) : Wm Z X nL G V k n Q pc lw (.ref a :: st) := x_getf (C := RX8) (T := TX8) (N := 46) rfl inX8 rfl (by decide) (by decide) (wa (tt5 (j := 125) rfl) rfl) hv cx d ha kk
theorem pX8_343 {x : Int32} (cx : Cx Z X RX8 nm cc nL ret D mc ms) (d : decode cc pc = .ok (.putfield 343, 3)) (ha : isK Z G a 8) (kk : Wm Z X nL G (sI V 445 a x) k n Q (pc + 3) lw st) : Wm Z X nL G V k n Q pc lw (.int x :: .ref a :: st) := x_putf (C := RX8) (T := TX8) (N := 46) (i := 45) (ty := .int) tyX8 rfl inX8 tyX8_ok nmX8 rfl (by decide) (by decide) (by decide) (wa (tt5 (j := 125) rfl) rfl) rfl (by decide +kernel) (putOK_I rfl (by decide)) cx d ha rfl rfl kk
theorem gX7_320 {v : Value} (hv : fV G V 5 0 a = v) (cx : Cx Z X RX7 nm cc nL ret D mc ms) (d : decode cc pc = .ok (.getfield 320, 3)) (ha : isK Z G a 5) (kk : Wm Z X nL G V k n Q (pc + 3) lw (v :: st)) : Wm Z X nL G V k n Q pc lw (.ref a :: st) := x_getfN (host := "SendTheBox") (C := RX5) (T := TX5) (N := 8) rfl inX5 rfl (by decide) (by decide) (wn (tt1 (j := 50) rfl) rfl) hv cx d ha kk
theorem gX7_321 {v : Value} (hv : fV G V 5 1 a = v) (cx : Cx Z X RX7 nm cc nL ret D mc ms) (d : decode cc pc = .ok (.getfield 321, 3)) (ha : isK Z G a 5) (kk : Wm Z X nL G V k n Q (pc + 3) lw (v :: st)) : Wm Z X nL G V k n Q pc lw (.ref a :: st) := x_getfN (host := "SendTheBox") (C := RX5) (T := TX5) (N := 8) rfl inX5 rfl (by decide) (by decide) (wn (tt1 (j := 52) rfl) rfl) hv cx d ha kk
theorem gX7_345 {v : Value} (hv : fV G V 6 1 a = v) (cx : Cx Z X RX7 nm cc nL ret D mc ms) (d : decode cc pc = .ok (.getfield 345, 3)) (ha : isK Z G a 6) (kk : Wm Z X nL G V k n Q (pc + 3) lw (v :: st)) : Wm Z X nL G V k n Q pc lw (.ref a :: st) := x_getfN (host := "SendTheBox") (C := RX6) (T := TX6) (N := 4) rfl inX6 rfl (by decide) (by decide) (wn (tt1 (j := 79) rfl) rfl) hv cx d ha kk
theorem gX7_350 {v : Value} (hv : fV G V 6 2 a = v) (cx : Cx Z X RX7 nm cc nL ret D mc ms) (d : decode cc pc = .ok (.getfield 350, 3)) (ha : isK Z G a 6) (kk : Wm Z X nL G V k n Q (pc + 3) lw (v :: st)) : Wm Z X nL G V k n Q pc lw (.ref a :: st) := x_getfN (host := "SendTheBox") (C := RX6) (T := TX6) (N := 4) rfl inX6 rfl (by decide) (by decide) (wn (tt1 (j := 81) rfl) rfl) hv cx d ha kk
theorem gX7_307 {v : Value} (hv : fV G V 6 3 a = v) (cx : Cx Z X RX7 nm cc nL ret D mc ms) (d : decode cc pc = .ok (.getfield 307, 3)) (ha : isK Z G a 6) (kk : Wm Z X nL G V k n Q (pc + 3) lw (v :: st)) : Wm Z X nL G V k n Q pc lw (.ref a :: st) := x_getfN (host := "SendTheBox") (C := RX6) (T := TX6) (N := 4) rfl inX6 rfl (by decide) (by decide) (wn (tt1 (j := 83) rfl) rfl) hv cx d ha kk
theorem gX7_348 {v : Value} (hv : fV G V 4 1 a = v) (cx : Cx Z X RX7 nm cc nL ret D mc ms) (d : decode cc pc = .ok (.getfield 348, 3)) (ha : isK Z G a 4) (kk : Wm Z X nL G V k n Q (pc + 3) lw (v :: st)) : Wm Z X nL G V k n Q pc lw (.ref a :: st) := x_getfN (host := "SendTheBox") (C := RX4) (T := TX4) (N := 5) rfl inX4 rfl (by decide) (by decide) (wn (tt1 (j := 101) rfl) rfl) hv cx d ha kk
theorem gX7_289 {v : Value} (hv : fV G V 1 0 a = v) (cx : Cx Z X RX7 nm cc nL ret D mc ms) (d : decode cc pc = .ok (.getfield 289, 3)) (ha : isK Z G a 1) (kk : Wm Z X nL G V k n Q (pc + 3) lw (v :: st)) : Wm Z X nL G V k n Q pc lw (.ref a :: st) := x_getfN (host := "SendTheBox") (C := RX1) (T := TX1) (N := 15) rfl inX1 rfl (by decide) (by decide) (wn (tt1 (j := 131) rfl) rfl) hv cx d ha kk
theorem gX7_228 {v : Value} (hv : fV G V 1 1 a = v) (cx : Cx Z X RX7 nm cc nL ret D mc ms) (d : decode cc pc = .ok (.getfield 228, 3)) (ha : isK Z G a 1) (kk : Wm Z X nL G V k n Q (pc + 3) lw (v :: st)) : Wm Z X nL G V k n Q pc lw (.ref a :: st) := x_getfN (host := "SendTheBox") (C := RX1) (T := TX1) (N := 15) rfl inX1 rfl (by decide) (by decide) (wn (tt1 (j := 133) rfl) rfl) hv cx d ha kk
theorem gX7_239 {v : Value} (hv : fV G V 1 2 a = v) (cx : Cx Z X RX7 nm cc nL ret D mc ms) (d : decode cc pc = .ok (.getfield 239, 3)) (ha : isK Z G a 1) (kk : Wm Z X nL G V k n Q (pc + 3) lw (v :: st)) : Wm Z X nL G V k n Q pc lw (.ref a :: st) := x_getfN (host := "SendTheBox") (C := RX1) (T := TX1) (N := 15) rfl inX1 rfl (by decide) (by decide) (wn (tt1 (j := 135) rfl) rfl) hv cx d ha kk
theorem gX7_103 {v : Value} (hv : fV G V 2 0 a = v) (cx : Cx Z X RX7 nm cc nL ret D mc ms) (d : decode cc pc = .ok (.getfield 103, 3)) (ha : isK Z G a 2) (kk : Wm Z X nL G V k n Q (pc + 3) lw (v :: st)) : Wm Z X nL G V k n Q pc lw (.ref a :: st) := x_getfN (host := "SendTheBox") (C := RX2) (T := TX2) (N := 2) rfl inX2 rfl (by decide) (by decide) (wn (tt1 (j := 238) rfl) rfl) hv cx d ha kk
theorem gX7_119 {v : Value} (hv : fV G V 3 0 a = v) (cx : Cx Z X RX7 nm cc nL ret D mc ms) (d : decode cc pc = .ok (.getfield 119, 3)) (ha : isK Z G a 3) (kk : Wm Z X nL G V k n Q (pc + 3) lw (v :: st)) : Wm Z X nL G V k n Q pc lw (.ref a :: st) := x_getfN (host := "SendTheBox") (C := RX3) (T := TX3) (N := 4) rfl inX3 rfl (by decide) (by decide) (wn (tt2 (j := 90) rfl) rfl) hv cx d ha kk
theorem gX1_115 {v : Value} (hv : fV G V 3 0 a = v) (cx : Cx Z X RX1 nm cc nL ret D mc ms) (d : decode cc pc = .ok (.getfield 115, 3)) (ha : isK Z G a 3) (kk : Wm Z X nL G V k n Q (pc + 3) lw (v :: st)) : Wm Z X nL G V k n Q pc lw (.ref a :: st) := x_getfN (host := "SendTheBox") (C := RX3) (T := TX3) (N := 4) rfl inX3 rfl (by decide) (by decide) (wn (tt2 (j := 91) rfl) rfl) hv cx d ha kk
end XF
end
section
def qX0_init : List (Nat × Instr × Nat) := [(0, .aload_n 0, 1), (1, .invokespecial 3, 3), (4, .aload_n 0, 1), (5, .bipush 20, 2), (7, .newarray .int, 2), (9, .putfield 9, 3), (12, .return_, 1)]
theorem ddX0_init : dAll cX0_init qX0_init = true := by decide +kernel
def qX0_clear : List (Nat × Instr × Nat) := [(0, .iconst 0, 1), (1, .istore_n 1, 1), (2, .iload_n 1, 1), (3, .aload_n 0, 1), (4, .getfield 9, 3), (7, .arraylength, 1), (8, .if_icmp .ge 16, 3), (11, .aload_n 0, 1), (12, .getfield 9, 3), (15, .iload_n 1, 1), (16, .iconst 0, 1), (17, .iastore, 1), (18, .iinc 1 1, 3), (21, .goto (-19), 3), (24, .aload_n 0, 1), (25, .iconst 0, 1), (26, .iconst 3, 1), (27, .invokevirtual 15, 3), (30, .aload_n 0, 1), (31, .iconst 1, 1), (32, .bipush 10, 2), (34, .invokevirtual 15, 3), (37, .aload_n 0, 1), (38, .iconst 2, 1), (39, .bipush 10, 2), (41, .invokevirtual 15, 3), (44, .return_, 1)]
theorem ddX0_clear : dAll cX0_clear qX0_clear = true := by decide +kernel
def qX0_become : List (Nat × Instr × Nat) := [(0, .iconst 0, 1), (1, .istore_n 2, 1), (2, .iload_n 2, 1), (3, .aload_n 0, 1), (4, .getfield 9, 3), (7, .arraylength, 1), (8, .if_icmp .ge 23, 3), (11, .aload_n 0, 1), (12, .getfield 9, 3), (15, .iload_n 2, 1), (16, .aload_n 1, 1), (17, .getfield 9, 3), (20, .iload_n 2, 1), (21, .invokestatic 19, 3), (24, .iastore, 1), (25, .iinc 2 1, 3), (28, .goto (-26), 3), (31, .return_, 1)]
theorem ddX0_become : dAll cX0_become qX0_become = true := by decide +kernel
def qX0_isLike : List (Nat × Instr × Nat) := [(0, .iconst 0, 1), (1, .istore_n 2, 1), (2, .iload_n 2, 1), (3, .aload_n 0, 1), (4, .getfield 9, 3), (7, .arraylength, 1), (8, .if_icmp .ge 28, 3), (11, .aload_n 0, 1), (12, .getfield 9, 3), (15, .iload_n 2, 1), (16, .iaload, 1), (17, .aload_n 1, 1), (18, .getfield 9, 3), (21, .iload_n 2, 1), (22, .invokestatic 19, 3), (25, .if_icmp .eq 5, 3), (28, .iconst 0, 1), (29, .ireturn, 1), (30, .iinc 2 1, 3), (33, .goto (-31), 3), (36, .iconst 1, 1), (37, .ireturn, 1)]
theorem ddX0_isLike : dAll cX0_isLike qX0_isLike = true := by decide +kernel
def qX0_mayBe : List (Nat × Instr × Nat) := [(0, .iload_n 0, 1), (1, .tableswitch 96 0 3 #[31, 48, 64, 81], 31), (32, .iload_n 1, 1), (33, .iconst 1, 1), (34, .if_icmp .lt 13, 3), (37, .iload_n 1, 1), (38, .bipush 6, 2), (40, .if_icmp .gt 7, 3), (43, .iconst 1, 1), (44, .goto 4, 3), (47, .iconst 0, 1), (48, .ireturn, 1), (49, .iload_n 1, 1), (50, .ifCond .lt 13, 3), (53, .iload_n 1, 1), (54, .bipush 99, 2), (56, .if_icmp .gt 7, 3), (59, .iconst 1, 1), (60, .goto 4, 3), (63, .iconst 0, 1), (64, .ireturn, 1), (65, .iload_n 1, 1), (66, .iconst 1, 1), (67, .if_icmp .lt 13, 3), (70, .iload_n 1, 1), (71, .bipush 40, 2), (73, .if_icmp .gt 7, 3), (76, .iconst 1, 1), (77, .goto 4, 3), (80, .iconst 0, 1), (81, .ireturn, 1), (82, .iload_n 1, 1), (83, .ifCond .lt 12, 3), (86, .iload_n 1, 1), (87, .iconst 3, 1), (88, .if_icmp .gt 7, 3), (91, .iconst 1, 1), (92, .goto 4, 3), (95, .iconst 0, 1), (96, .ireturn, 1), (97, .iconst 0, 1), (98, .ireturn, 1)]
theorem ddX0_mayBe : dAll cX0_mayBe qX0_mayBe = true := by decide +kernel
def qX0_mayBeOfSort : List (Nat × Instr × Nat) := [(0, .iload_n 0, 1), (1, .tableswitch 99 0 4 #[35, 52, 67, 83, 83], 35), (36, .iload_n 1, 1), (37, .iconst 1, 1), (38, .if_icmp .lt 13, 3), (41, .iload_n 1, 1), (42, .bipush 9, 2), (44, .if_icmp .gt 7, 3), (47, .iconst 1, 1), (48, .goto 4, 3), (51, .iconst 0, 1), (52, .ireturn, 1), (53, .iload_n 1, 1), (54, .ifCond .lt 12, 3), (57, .iload_n 1, 1), (58, .iconst 4, 1), (59, .if_icmp .gt 7, 3), (62, .iconst 1, 1), (63, .goto 4, 3), (66, .iconst 0, 1), (67, .ireturn, 1), (68, .iload_n 1, 1), (69, .ifCond .lt 13, 3), (72, .iload_n 1, 1), (73, .bipush 9, 2), (75, .if_icmp .gt 7, 3), (78, .iconst 1, 1), (79, .goto 4, 3), (82, .iconst 0, 1), (83, .ireturn, 1), (84, .iload_n 1, 1), (85, .ifCond .lt 13, 3), (88, .iload_n 1, 1), (89, .bipush 99, 2), (91, .if_icmp .gt 7, 3), (94, .iconst 1, 1), (95, .goto 4, 3), (98, .iconst 0, 1), (99, .ireturn, 1), (100, .iconst 0, 1), (101, .ireturn, 1)]
theorem ddX0_mayBeOfSort : dAll cX0_mayBeOfSort qX0_mayBeOfSort = true := by decide +kernel
def qX0_number : List (Nat × Instr × Nat) := [(0, .iload_n 1, 1), (1, .ifCond .lt 26, 3), (4, .iload_n 1, 1), (5, .iconst 5, 1), (6, .if_icmp .ge 21, 3), (9, .iload_n 1, 1), (10, .aload_n 0, 1), (11, .getfield 9, 3), (14, .arraylength, 1), (15, .if_icmp .ge 12, 3), (18, .aload_n 0, 1), (19, .getfield 9, 3), (22, .iload_n 1, 1), (23, .iaload, 1), (24, .goto 4, 3), (27, .iconst 0, 1), (28, .ireturn, 1)]
theorem ddX0_number : dAll cX0_number qX0_number = true := by decide +kernel
def qX0_putNumber : List (Nat × Instr × Nat) := [(0, .iload_n 1, 1), (1, .iconst 5, 1), (2, .if_icmp .ge 12, 3), (5, .aload_n 0, 1), (6, .getfield 9, 3), (9, .iload_n 1, 1), (10, .iload_n 2, 1), (11, .invokestatic 23, 3), (14, .return_, 1)]
theorem ddX0_putNumber : dAll cX0_putNumber qX0_putNumber = true := by decide +kernel
def qX0_placeOf : List (Nat × Instr × Nat) := [(0, .iconst 5, 1), (1, .iload_n 0, 1), (2, .iconst 5, 1), (3, .imul, 1), (4, .iadd, 1), (5, .iload_n 1, 1), (6, .iadd, 1), (7, .ireturn, 1)]
theorem ddX0_placeOf : dAll cX0_placeOf qX0_placeOf = true := by decide +kernel
def qX0_sortNumber : List (Nat × Instr × Nat) := [(0, .aload_n 0, 1), (1, .getfield 9, 3), (4, .iload_n 1, 1), (5, .iload_n 2, 1), (6, .invokestatic 27, 3), (9, .invokestatic 19, 3), (12, .ireturn, 1)]
theorem ddX0_sortNumber : dAll cX0_sortNumber qX0_sortNumber = true := by decide +kernel
def qX0_putSortNumber : List (Nat × Instr × Nat) := [(0, .aload_n 0, 1), (1, .getfield 9, 3), (4, .iload_n 1, 1), (5, .iload_n 2, 1), (6, .invokestatic 27, 3), (9, .iload_n 3, 1), (10, .invokestatic 23, 3), (13, .return_, 1)]
theorem ddX0_putSortNumber : dAll cX0_putSortNumber qX0_putSortNumber = true := by decide +kernel
def qX0_days : List (Nat × Instr × Nat) := [(0, .aload_n 0, 1), (1, .iconst 0, 1), (2, .invokevirtual 31, 3), (5, .ireturn, 1)]
theorem ddX0_days : dAll cX0_days qX0_days = true := by decide +kernel
def qX0_sorts : List (Nat × Instr × Nat) := [(0, .aload_n 0, 1), (1, .iconst 4, 1), (2, .invokevirtual 31, 3), (5, .ireturn, 1)]
theorem ddX0_sorts : dAll cX0_sorts qX0_sorts = true := by decide +kernel
def qX0_hasSort : List (Nat × Instr × Nat) := [(0, .iload_n 1, 1), (1, .ifCond .lt 15, 3), (4, .iload_n 1, 1), (5, .aload_n 0, 1), (6, .invokevirtual 35, 3), (9, .if_icmp .ge 7, 3), (12, .iconst 1, 1), (13, .goto 4, 3), (16, .iconst 0, 1), (17, .ireturn, 1)]
theorem ddX0_hasSort : dAll cX0_hasSort qX0_hasSort = true := by decide +kernel
def qX0_states : List (Nat × Instr × Nat) := [(0, .aload_n 0, 1), (1, .invokevirtual 35, 3), (4, .iconst 3, 1), (5, .if_icmp .ge 13, 3), (8, .aload_n 0, 1), (9, .invokevirtual 35, 3), (12, .invokestatic 39, 3), (15, .goto 5, 3), (18, .bipush 125, 2), (20, .ireturn, 1)]
theorem ddX0_states : dAll cX0_states qX0_states = true := by decide +kernel
def qX0_sumOf : List (Nat × Instr × Nat) := [(0, .iconst 0, 1), (1, .istore_n 3, 1), (2, .iconst 0, 1), (3, .istore 4, 2), (5, .iload 4, 2), (7, .aload_n 0, 1), (8, .invokevirtual 35, 3), (11, .if_icmp .ge 26, 3), (14, .iload_n 3, 1), (15, .iload_n 1, 1), (16, .iload 4, 2), (18, .invokestatic 42, 3), (21, .aload_n 0, 1), (22, .iload 4, 2), (24, .iload_n 2, 1), (25, .invokevirtual 45, 3), (28, .imul, 1), (29, .iadd, 1), (30, .istore_n 3, 1), (31, .iinc 4 1, 3), (34, .goto (-29), 3), (37, .iload_n 3, 1), (38, .ireturn, 1)]
theorem ddX0_sumOf : dAll cX0_sumOf qX0_sumOf = true := by decide +kernel
def qX0_goesWith : List (Nat × Instr × Nat) := [(0, .aload_n 0, 1), (1, .invokevirtual 48, 3), (4, .aload_n 1, 1), (5, .invokevirtual 48, 3), (8, .if_icmp .ne 20, 3), (11, .aload_n 0, 1), (12, .invokevirtual 35, 3), (15, .aload_n 1, 1), (16, .invokevirtual 35, 3), (19, .iadd, 1), (20, .iconst 3, 1), (21, .if_icmp .gt 7, 3), (24, .iconst 1, 1), (25, .goto 4, 3), (28, .iconst 0, 1), (29, .ireturn, 1)]
theorem ddX0_goesWith : dAll cX0_goesWith qX0_goesWith = true := by decide +kernel
def qX0_addSortsOf : List (Nat × Instr × Nat) := [(0, .iconst 0, 1), (1, .istore_n 2, 1), (2, .iload_n 2, 1), (3, .aload_n 1, 1), (4, .invokevirtual 35, 3), (7, .if_icmp .ge 56, 3), (10, .aload_n 0, 1), (11, .invokevirtual 35, 3), (14, .iconst 3, 1), (15, .if_icmp .ge 48, 3), (18, .iconst 0, 1), (19, .istore_n 3, 1), (20, .iload_n 3, 1), (21, .iconst 5, 1), (22, .if_icmp .ge 24, 3), (25, .aload_n 0, 1), (26, .aload_n 0, 1), (27, .invokevirtual 35, 3), (30, .iload_n 3, 1), (31, .aload_n 1, 1), (32, .iload_n 2, 1), (33, .iload_n 3, 1), (34, .invokevirtual 45, 3), (37, .invokevirtual 51, 3), (40, .iinc 3 1, 3), (43, .goto (-23), 3), (46, .aload_n 0, 1), (47, .iconst 4, 1), (48, .aload_n 0, 1), (49, .invokevirtual 35, 3), (52, .iconst 1, 1), (53, .iadd, 1), (54, .invokevirtual 15, 3), (57, .iinc 2 1, 3), (60, .goto (-58), 3), (63, .return_, 1)]
theorem ddX0_addSortsOf : dAll cX0_addSortsOf qX0_addSortsOf = true := by decide +kernel
def qX0_fillFor : List (Nat × Instr × Nat) := [(0, .aload_n 0, 1), (1, .iconst 2, 1), (2, .invokevirtual 31, 3), (5, .istore_n 2, 1), (6, .iconst 0, 1), (7, .istore_n 3, 1), (8, .bipush 9, 2), (10, .istore 4, 2), (12, .iload 4, 2), (14, .ifCond .lt 87, 3), (17, .iconst 0, 1), (18, .istore 5, 2), (20, .iload 5, 2), (22, .aload_n 0, 1), (23, .invokevirtual 35, 3), (26, .if_icmp .ge 69, 3), (29, .aload_n 0, 1), (30, .iload 5, 2), (32, .iconst 0, 1), (33, .invokevirtual 45, 3), (36, .istore 6, 2), (38, .aload_n 0, 1), (39, .iload 5, 2), (41, .iconst 2, 1), (42, .invokevirtual 45, 3), (45, .iload 4, 2), (47, .if_icmp .ne 42, 3), (50, .iload 6, 2), (52, .ifCond .le 37, 3), (55, .iload_n 1, 1), (56, .iload 5, 2), (58, .invokestatic 42, 3), (61, .iload_n 2, 1), (62, .iload 6, 2), (64, .idiv, 1), (65, .invokestatic 55, 3), (68, .istore 7, 2), (70, .iload_n 2, 1), (71, .iload 7, 2), (73, .iload 6, 2), (75, .imul, 1), (76, .isub, 1), (77, .istore_n 2, 1), (78, .iload_n 3, 1), (79, .iload 7, 2), (81, .iload 5, 2), (83, .invokestatic 39, 3), (86, .imul, 1), (87, .iadd, 1), (88, .istore_n 3, 1), (89, .iinc 5 1, 3), (92, .goto (-72), 3), (95, .iinc 4 (-1), 3), (98, .goto (-86), 3), (101, .iload_n 3, 1), (102, .ireturn, 1)]
theorem ddX0_fillFor : dAll cX0_fillFor qX0_fillFor = true := by decide +kernel
def qX1_init : List (Nat × Instr × Nat) := [(0, .aload_n 0, 1), (1, .invokespecial 3, 3), (4, .aload_n 0, 1), (5, .new 9, 3), (8, .dup, 1), (9, .invokespecial 11, 3), (12, .putfield 12, 3), (15, .aload_n 0, 1), (16, .bipush 125, 2), (18, .newarray .int, 2), (20, .putfield 18, 3), (23, .aload_n 0, 1), (24, .bipush 125, 2), (26, .newarray .int, 2), (28, .putfield 22, 3), (31, .aload_n 0, 1), (32, .bipush 125, 2), (34, .newarray .int, 2), (36, .putfield 25, 3), (39, .aload_n 0, 1), (40, .bipush 125, 2), (42, .newarray .int, 2), (44, .putfield 28, 3), (47, .aload_n 0, 1), (48, .sipush 875, 3), (51, .newarray .int, 2), (53, .putfield 31, 3), (56, .aload_n 0, 1), (57, .sipush 875, 3), (60, .newarray .long, 2), (62, .putfield 34, 3), (65, .aload_n 0, 1), (66, .sipush 875, 3), (69, .newarray .long, 2), (71, .putfield 38, 3), (74, .aload_n 0, 1), (75, .bipush 125, 2), (77, .newarray .long, 2), (79, .putfield 41, 3), (82, .aload_n 0, 1), (83, .bipush 125, 2), (85, .newarray .long, 2), (87, .putfield 44, 3), (90, .aload_n 0, 1), (91, .iconst (-1), 1), (92, .putfield 47, 3), (95, .aload_n 0, 1), (96, .iconst (-1), 1), (97, .putfield 51, 3), (100, .return_, 1)]
theorem ddX1_init : dAll cX1_init qX1_init = true := by decide +kernel
def qX1_turnTo : List (Nat × Instr × Nat) := [(0, .aload_n 0, 1), (1, .getfield 12, 3), (4, .aload_n 1, 1), (5, .invokevirtual 54, 3), (8, .ifCond .eq 4, 3), (11, .return_, 1), (12, .aload_n 0, 1), (13, .getfield 12, 3), (16, .aload_n 1, 1), (17, .invokevirtual 58, 3), (20, .aload_n 0, 1), (21, .aload_n 1, 1), (22, .invokevirtual 62, 3), (25, .putfield 66, 3), (28, .aload_n 0, 1), (29, .aload_n 1, 1), (30, .invokevirtual 68, 3), (33, .putfield 71, 3), (36, .aload_n 0, 1), (37, .aload_n 1, 1), (38, .invokevirtual 73, 3), (41, .putfield 76, 3), (44, .aload_n 0, 1), (45, .iconst (-1), 1), (46, .putfield 47, 3), (49, .aload_n 0, 1), (50, .iconst (-1), 1), (51, .putfield 51, 3), (54, .iconst 0, 1), (55, .istore_n 2, 1), (56, .iload_n 2, 1), (57, .aload_n 0, 1), (58, .getfield 76, 3), (61, .if_icmp .ge 76, 3), (64, .aload_n 0, 1), (65, .getfield 18, 3), (68, .iload_n 2, 1), (69, .aload_n 0, 1), (70, .getfield 12, 3), (73, .iload_n 2, 1), (74, .iconst 0, 1), (75, .invokevirtual 78, 3), (78, .invokestatic 82, 3), (81, .aload_n 0, 1), (82, .getfield 22, 3), (85, .iload_n 2, 1), (86, .aload_n 0, 1), (87, .getfield 12, 3), (90, .iload_n 2, 1), (91, .iconst 2, 1), (92, .invokevirtual 78, 3), (95, .invokestatic 82, 3), (98, .aload_n 0, 1), (99, .getfield 25, 3), (102, .iload_n 2, 1), (103, .aload_n 0, 1), (104, .getfield 12, 3), (107, .iload_n 2, 1), (108, .iconst 4, 1), (109, .invokevirtual 78, 3), (112, .invokestatic 82, 3), (115, .aload_n 0, 1), (116, .getfield 28, 3), (119, .iload_n 2, 1), (120, .aload_n 0, 1), (121, .getfield 12, 3), (124, .iload_n 2, 1), (125, .invokevirtual 86, 3), (128, .invokestatic 82, 3), (131, .iinc 2 1, 3), (134, .goto (-78), 3), (137, .return_, 1)]
theorem ddX1_turnTo : dAll cX1_turnTo qX1_turnTo = true := by decide +kernel
def qX1_hasSort : List (Nat × Instr × Nat) := [(0, .iload_n 1, 1), (1, .ifCond .lt 15, 3), (4, .iload_n 1, 1), (5, .aload_n 0, 1), (6, .getfield 71, 3), (9, .if_icmp .ge 7, 3), (12, .iconst 1, 1), (13, .goto 4, 3), (16, .iconst 0, 1), (17, .ireturn, 1)]
theorem ddX1_hasSort : dAll cX1_hasSort qX1_hasSort = true := by decide +kernel
def qX1_hasState : List (Nat × Instr × Nat) := [(0, .iload_n 1, 1), (1, .ifCond .lt 15, 3), (4, .iload_n 1, 1), (5, .aload_n 0, 1), (6, .getfield 76, 3), (9, .if_icmp .ge 7, 3), (12, .iconst 1, 1), (13, .goto 4, 3), (16, .iconst 0, 1), (17, .ireturn, 1)]
theorem ddX1_hasState : dAll cX1_hasState qX1_hasState = true := by decide +kernel
def qX1_hasPlace : List (Nat × Instr × Nat) := [(0, .iload_n 1, 1), (1, .ifCond .lt 23, 3), (4, .iload_n 1, 1), (5, .aload_n 0, 1), (6, .getfield 66, 3), (9, .if_icmp .gt 15, 3), (12, .aload_n 0, 1), (13, .iload_n 2, 1), (14, .invokevirtual 90, 3), (17, .ifCond .eq 7, 3), (20, .iconst 1, 1), (21, .goto 4, 3), (24, .iconst 0, 1), (25, .ireturn, 1)]
theorem ddX1_hasPlace : dAll cX1_hasPlace qX1_hasPlace = true := by decide +kernel
def qX1_hasDay : List (Nat × Instr × Nat) := [(0, .iload_n 1, 1), (1, .iconst 1, 1), (2, .if_icmp .lt 16, 3), (5, .aload_n 0, 1), (6, .iload_n 1, 1), (7, .iload_n 2, 1), (8, .invokevirtual 94, 3), (11, .ifCond .eq 7, 3), (14, .iconst 1, 1), (15, .goto 4, 3), (18, .iconst 0, 1), (19, .ireturn, 1)]
theorem ddX1_hasDay : dAll cX1_hasDay qX1_hasDay = true := by decide +kernel
def qX1_roomOf : List (Nat × Instr × Nat) := [(0, .aload_n 0, 1), (1, .getfield 18, 3), (4, .iload_n 1, 1), (5, .invokestatic 98, 3), (8, .ireturn, 1)]
theorem ddX1_roomOf : dAll cX1_roomOf qX1_roomOf = true := by decide +kernel
def qX1_fillOf : List (Nat × Instr × Nat) := [(0, .aload_n 0, 1), (1, .getfield 28, 3), (4, .iload_n 1, 1), (5, .invokestatic 98, 3), (8, .ireturn, 1)]
theorem ddX1_fillOf : dAll cX1_fillOf qX1_fillOf = true := by decide +kernel
def qX1_placeOf : List (Nat × Instr × Nat) := [(0, .iload_n 0, 1), (1, .bipush 125, 2), (3, .imul, 1), (4, .iload_n 1, 1), (5, .iadd, 1), (6, .ireturn, 1)]
theorem ddX1_placeOf : dAll cX1_placeOf qX1_placeOf = true := by decide +kernel
def qX1_leastCost : List (Nat × Instr × Nat) := [(0, .aload_n 0, 1), (1, .iload_n 1, 1), (2, .invokevirtual 102, 3), (5, .aload_n 0, 1), (6, .getfield 34, 3), (9, .iload_n 1, 1), (10, .iload_n 2, 1), (11, .invokestatic 106, 3), (14, .invokestatic 109, 3), (17, .lreturn, 1)]
theorem ddX1_leastCost : dAll cX1_leastCost qX1_leastCost = true := by decide +kernel
def qX1_bestLoad : List (Nat × Instr × Nat) := [(0, .aload_n 0, 1), (1, .iload_n 1, 1), (2, .invokevirtual 102, 3), (5, .aload_n 0, 1), (6, .iload_n 1, 1), (7, .iload_n 2, 1), (8, .invokevirtual 112, 3), (11, .ireturn, 1)]
theorem ddX1_bestLoad : dAll cX1_bestLoad qX1_bestLoad = true := by decide +kernel
def qX1_loadWorkedOut : List (Nat × Instr × Nat) := [(0, .aload_n 0, 1), (1, .getfield 31, 3), (4, .iload_n 1, 1), (5, .iload_n 2, 1), (6, .invokestatic 106, 3), (9, .invokestatic 98, 3), (12, .ireturn, 1)]
theorem ddX1_loadWorkedOut : dAll cX1_loadWorkedOut qX1_loadWorkedOut = true := by decide +kernel
def qX1_getReadyFor : List (Nat × Instr × Nat) := [(0, .aload_n 1, 1), (1, .ifnull 19, 3), (4, .aload_n 1, 1), (5, .getfield 115, 3), (8, .iconst 4, 1), (9, .if_icmp .ne 11, 3), (12, .aload_n 0, 1), (13, .aload_n 0, 1), (14, .getfield 66, 3), (17, .invokevirtual 102, 3), (20, .return_, 1)]
theorem ddX1_getReadyFor : dAll cX1_getReadyFor qX1_getReadyFor = true := by decide +kernel
def qX1_costWith : List (Nat × Instr × Nat) := [(0, .aload_n 0, 1), (1, .iload_n 1, 1), (2, .invokevirtual 102, 3), (5, .aload_n 0, 1), (6, .getfield 12, 3), (9, .iconst 3, 1), (10, .invokevirtual 120, 3), (13, .i2l, 1), (14, .lstore 4, 2), (16, .aload_n 0, 1), (17, .getfield 38, 3), (20, .iload_n 1, 1), (21, .iload_n 2, 1), (22, .invokestatic 106, 3), (25, .invokestatic 109, 3), (28, .lstore 6, 2), (30, .aload_n 0, 1), (31, .getfield 38, 3), (34, .iload_n 1, 1), (35, .iload_n 2, 1), (36, .iload_n 3, 1), (37, .isub, 1), (38, .invokestatic 106, 3), (41, .invokestatic 109, 3), (44, .iload_n 3, 1), (45, .ifCond .ne 7, 3), (48, .lconst 0, 1), (49, .goto 8, 3), (52, .aload_n 0, 1), (53, .iload_n 1, 1), (54, .invokevirtual 123, 3), (57, .ladd, 1), (58, .lstore 8, 2), (60, .lload 4, 2), (62, .lload 6, 2), (64, .lmul, 1), (65, .ldc2_w 127, 3), (68, .lload 4, 2), (70, .lsub, 1), (71, .lload 8, 2), (73, .lmul, 1), (74, .ladd, 1), (75, .lreturn, 1)]
theorem ddX1_costWith : dAll cX1_costWith qX1_costWith = true := by decide +kernel
def qX1_workOut : List (Nat × Instr × Nat) := [(0, .iload_n 1, 1), (1, .bipush 6, 2), (3, .invokestatic 129, 3), (6, .istore_n 2, 1), (7, .aload_n 0, 1), (8, .getfield 47, 3), (11, .iconst 1, 1), (12, .iadd, 1), (13, .istore_n 3, 1), (14, .iload_n 3, 1), (15, .iload_n 2, 1), (16, .if_icmp .gt 65, 3), (19, .iload_n 3, 1), (20, .ifCond .ne 10, 3), (23, .aload_n 0, 1), (24, .invokevirtual 134, 3), (27, .goto 34, 3), (30, .aload_n 0, 1), (31, .iload_n 3, 1), (32, .iconst 1, 1), (33, .isub, 1), (34, .invokevirtual 137, 3), (37, .aload_n 0, 1), (38, .iload_n 3, 1), (39, .invokevirtual 140, 3), (42, .aload_n 0, 1), (43, .aload_n 0, 1), (44, .getfield 38, 3), (47, .iload_n 3, 1), (48, .invokevirtual 143, 3), (51, .aload_n 0, 1), (52, .iload_n 3, 1), (53, .aload_n 0, 1), (54, .iload_n 3, 1), (55, .invokevirtual 123, 3), (58, .invokevirtual 147, 3), (61, .aload_n 0, 1), (62, .aload_n 0, 1), (63, .getfield 34, 3), (66, .iload_n 3, 1), (67, .invokevirtual 143, 3), (70, .aload_n 0, 1), (71, .iload_n 3, 1), (72, .putfield 47, 3), (75, .iinc 3 1, 3), (78, .goto (-64), 3), (81, .return_, 1)]
theorem ddX1_workOut : dAll cX1_workOut qX1_workOut = true := by decide +kernel
def qX1_keepWork : List (Nat × Instr × Nat) := [(0, .iconst 0, 1), (1, .istore_n 3, 1), (2, .iload_n 3, 1), (3, .aload_n 0, 1), (4, .getfield 76, 3), (7, .if_icmp .ge 26, 3), (10, .aload_n 1, 1), (11, .iload_n 2, 1), (12, .iload_n 3, 1), (13, .invokestatic 106, 3), (16, .aload_n 0, 1), (17, .getfield 41, 3), (20, .iload_n 3, 1), (21, .invokestatic 109, 3), (24, .invokestatic 151, 3), (27, .iinc 3 1, 3), (30, .goto (-28), 3), (33, .return_, 1)]
theorem ddX1_keepWork : dAll cX1_keepWork qX1_keepWork = true := by decide +kernel
def qX1_startFromEnd : List (Nat × Instr × Nat) := [(0, .iconst 0, 1), (1, .istore_n 1, 1), (2, .iload_n 1, 1), (3, .aload_n 0, 1), (4, .getfield 76, 3), (7, .if_icmp .ge 26, 3), (10, .aload_n 0, 1), (11, .getfield 41, 3), (14, .iload_n 1, 1), (15, .aload_n 0, 1), (16, .getfield 25, 3), (19, .iload_n 1, 1), (20, .invokestatic 98, 3), (23, .i2l, 1), (24, .invokestatic 151, 3), (27, .iinc 1 1, 3), (30, .goto (-28), 3), (33, .return_, 1)]
theorem ddX1_startFromEnd : dAll cX1_startFromEnd qX1_startFromEnd = true := by decide +kernel
def qX1_takeCosts : List (Nat × Instr × Nat) := [(0, .iconst 0, 1), (1, .istore_n 2, 1), (2, .iload_n 2, 1), (3, .aload_n 0, 1), (4, .getfield 76, 3), (7, .if_icmp .ge 29, 3), (10, .aload_n 0, 1), (11, .getfield 41, 3), (14, .iload_n 2, 1), (15, .aload_n 0, 1), (16, .getfield 34, 3), (19, .iload_n 1, 1), (20, .iload_n 2, 1), (21, .invokestatic 106, 3), (24, .invokestatic 109, 3), (27, .invokestatic 151, 3), (30, .iinc 2 1, 3), (33, .goto (-31), 3), (36, .return_, 1)]
theorem ddX1_takeCosts : dAll cX1_takeCosts qX1_takeCosts = true := by decide +kernel
def qX1_unitOf : List (Nat × Instr × Nat) := [(0, .iload_n 1, 1), (1, .iconst 1, 1), (2, .aload_n 0, 1), (3, .getfield 71, 3), (6, .iadd, 1), (7, .imul, 1), (8, .iconst 1, 1), (9, .isub, 1), (10, .invokestatic 154, 3), (13, .lreturn, 1)]
theorem ddX1_unitOf : dAll cX1_unitOf qX1_unitOf = true := by decide +kernel
def qX1_boxCost : List (Nat × Instr × Nat) := [(0, .aload_n 0, 1), (1, .getfield 12, 3), (4, .iconst 1, 1), (5, .invokevirtual 120, 3), (8, .i2l, 1), (9, .aload_n 0, 1), (10, .iload_n 1, 1), (11, .invokevirtual 157, 3), (14, .lmul, 1), (15, .lreturn, 1)]
theorem ddX1_boxCost : dAll cX1_boxCost qX1_boxCost = true := by decide +kernel
def qX1_goBackToLoad : List (Nat × Instr × Nat) := [(0, .iload_n 1, 1), (1, .iconst 1, 1), (2, .isub, 1), (3, .aload_n 0, 1), (4, .getfield 71, 3), (7, .invokestatic 160, 3), (10, .lstore_n 2, 1), (11, .iconst 0, 1), (12, .istore 4, 2), (14, .iload 4, 2), (16, .aload_n 0, 1), (17, .getfield 71, 3), (20, .if_icmp .ge 136, 3), (23, .iload 4, 2), (25, .invokestatic 164, 3), (28, .istore 5, 2), (30, .aload_n 0, 1), (31, .getfield 12, 3), (34, .iload 4, 2), (36, .iconst 1, 1), (37, .invokevirtual 167, 3), (40, .i2l, 1), (41, .lstore 6, 2), (43, .aload_n 0, 1), (44, .getfield 12, 3), (47, .iload 4, 2), (49, .iconst 3, 1), (50, .invokevirtual 167, 3), (53, .i2l, 1), (54, .lload_n 2, 1), (55, .lmul, 1), (56, .lstore 8, 2), (58, .iconst 0, 1), (59, .istore 10, 2), (61, .iload 10, 2), (63, .aload_n 0, 1), (64, .getfield 76, 3), (67, .if_icmp .ge 77, 3), (70, .aload_n 0, 1), (71, .getfield 41, 3), (74, .iload 10, 2), (76, .invokestatic 109, 3), (79, .lstore 11, 2), (81, .iload 10, 2), (83, .iload 4, 2), (85, .invokestatic 170, 3), (88, .iconst 4, 1), (89, .if_icmp .ge 18, 3), (92, .aload_n 0, 1), (93, .getfield 41, 3), (96, .iload 10, 2), (98, .iload 5, 2), (100, .iadd, 1), (101, .invokestatic 109, 3), (104, .goto 8, 3), (107, .lload 11, 2), (109, .lload 8, 2), (111, .ladd, 1), (112, .lstore 13, 2), (114, .aload_n 0, 1), (115, .getfield 41, 3), (118, .iload 10, 2), (120, .lload 6, 2), (122, .lload 13, 2), (124, .lmul, 1), (125, .ldc2_w 127, 3), (128, .lload 6, 2), (130, .lsub, 1), (131, .lload 11, 2), (133, .lmul, 1), (134, .ladd, 1), (135, .invokestatic 151, 3), (138, .iinc 10 1, 3), (141, .goto (-80), 3), (144, .lload_n 2, 1), (145, .ldc2_w 127, 3), (148, .lmul, 1), (149, .lstore_n 2, 1), (150, .iinc 4 1, 3), (153, .goto (-139), 3), (156, .iconst 0, 1), (157, .istore 4, 2), (159, .iload 4, 2), (161, .aload_n 0, 1), (162, .getfield 76, 3), (165, .if_icmp .ge 40, 3), (168, .aload_n 0, 1), (169, .getfield 41, 3), (172, .iload 4, 2), (174, .aload_n 0, 1), (175, .getfield 41, 3), (178, .iload 4, 2), (180, .invokestatic 109, 3), (183, .aload_n 0, 1), (184, .getfield 22, 3), (187, .iload 4, 2), (189, .invokestatic 98, 3), (192, .i2l, 1), (193, .lload_n 2, 1), (194, .lmul, 1), (195, .ladd, 1), (196, .invokestatic 151, 3), (199, .iinc 4 1, 3), (202, .goto (-43), 3), (205, .return_, 1)]
theorem ddX1_goBackToLoad : dAll cX1_goBackToLoad qX1_goBackToLoad = true := by decide +kernel
def qX1_goBackBest : List (Nat × Instr × Nat) := [(0, .aload_n 0, 1), (1, .getfield 76, 3), (4, .iconst 1, 1), (5, .isub, 1), (6, .istore 4, 2), (8, .iload 4, 2), (10, .ifCond .lt 43, 3), (13, .aload_n 0, 1), (14, .iload 4, 2), (16, .lload_n 2, 1), (17, .iconst 0, 1), (18, .invokevirtual 173, 3), (21, .istore 5, 2), (23, .aload_n 0, 1), (24, .getfield 31, 3), (27, .iload_n 1, 1), (28, .iload 4, 2), (30, .invokestatic 106, 3), (33, .iload 5, 2), (35, .invokestatic 82, 3), (38, .aload_n 0, 1), (39, .iload 4, 2), (41, .iload 5, 2), (43, .lload_n 2, 1), (44, .invokevirtual 177, 3), (47, .iinc 4 (-1), 3), (50, .goto (-42), 3), (53, .return_, 1)]
theorem ddX1_goBackBest : dAll cX1_goBackBest qX1_goBackBest = true := by decide +kernel
def qX1_goBackPromised : List (Nat × Instr × Nat) := [(0, .aload_n 0, 1), (1, .getfield 76, 3), (4, .iconst 1, 1), (5, .isub, 1), (6, .istore 4, 2), (8, .iload 4, 2), (10, .ifCond .lt 24, 3), (13, .aload_n 0, 1), (14, .iload 4, 2), (16, .aload_n 0, 1), (17, .iload 4, 2), (19, .lload_n 1, 1), (20, .iload_n 3, 1), (21, .invokevirtual 173, 3), (24, .lload_n 1, 1), (25, .invokevirtual 177, 3), (28, .iinc 4 (-1), 3), (31, .goto (-23), 3), (34, .return_, 1)]
theorem ddX1_goBackPromised : dAll cX1_goBackPromised qX1_goBackPromised = true := by decide +kernel
def qX1_mix : List (Nat × Instr × Nat) := [(0, .aload_n 0, 1), (1, .getfield 12, 3), (4, .iconst 3, 1), (5, .invokevirtual 120, 3), (8, .i2l, 1), (9, .lstore 5, 2), (11, .aload_n 0, 1), (12, .getfield 41, 3), (15, .iload_n 1, 1), (16, .invokestatic 109, 3), (19, .lstore 7, 2), (21, .aload_n 0, 1), (22, .getfield 41, 3), (25, .iload_n 1, 1), (26, .iload_n 2, 1), (27, .isub, 1), (28, .invokestatic 109, 3), (31, .iload_n 2, 1), (32, .ifCond .ne 7, 3), (35, .lconst 0, 1), (36, .goto 4, 3), (39, .lload_n 3, 1), (40, .ladd, 1), (41, .lstore 9, 2), (43, .aload_n 0, 1), (44, .getfield 41, 3), (47, .iload_n 1, 1), (48, .lload 5, 2), (50, .lload 7, 2), (52, .lmul, 1), (53, .ldc2_w 127, 3), (56, .lload 5, 2), (58, .lsub, 1), (59, .lload 9, 2), (61, .lmul, 1), (62, .ladd, 1), (63, .invokestatic 151, 3), (66, .return_, 1)]
theorem ddX1_mix : dAll cX1_mix qX1_mix = true := by decide +kernel
def qX1_pick : List (Nat × Instr × Nat) := [(0, .aload_n 0, 1), (1, .getfield 12, 3), (4, .iconst 2, 1), (5, .invokevirtual 120, 3), (8, .istore 5, 2), (10, .iconst 0, 1), (11, .istore 6, 2), (13, .aload_n 0, 1), (14, .getfield 41, 3), (17, .iload_n 1, 1), (18, .invokestatic 109, 3), (21, .lstore 7, 2), (23, .iconst 0, 1), (24, .istore 9, 2), (26, .iload 9, 2), (28, .iload_n 1, 1), (29, .iconst 2, 1), (30, .invokestatic 170, 3), (33, .if_icmp .gt 122, 3), (36, .iconst 0, 1), (37, .istore 10, 2), (39, .iload 10, 2), (41, .iload_n 1, 1), (42, .iconst 1, 1), (43, .invokestatic 170, 3), (46, .if_icmp .gt 103, 3), (49, .iconst 0, 1), (50, .istore 11, 2), (52, .iload 11, 2), (54, .iload_n 1, 1), (55, .iconst 0, 1), (56, .invokestatic 170, 3), (59, .if_icmp .gt 84, 3), (62, .iload 11, 2), (64, .iconst 5, 1), (65, .iload 10, 2), (67, .imul, 1), (68, .iadd, 1), (69, .bipush 25, 2), (71, .iload 9, 2), (73, .imul, 1), (74, .iadd, 1), (75, .istore 12, 2), (77, .iload 12, 2), (79, .ifCond .le 58, 3), (82, .aload_n 0, 1), (83, .getfield 18, 3), (86, .iload 12, 2), (88, .invokestatic 98, 3), (91, .iload 5, 2), (93, .if_icmp .gt 44, 3), (96, .aload_n 0, 1), (97, .getfield 41, 3), (100, .iload_n 1, 1), (101, .iload 12, 2), (103, .isub, 1), (104, .invokestatic 109, 3), (107, .lload_n 2, 1), (108, .ladd, 1), (109, .lstore 13, 2), (111, .lload 13, 2), (113, .lload 7, 2), (115, .lcmp, 1), (116, .ifCond .lt 13, 3), (119, .iload 4, 2), (121, .ifCond .eq 16, 3), (124, .iload 6, 2), (126, .ifCond .ne 11, 3), (129, .iload 12, 2), (131, .istore 6, 2), (133, .lload 13, 2), (135, .lstore 7, 2), (137, .iinc 11 1, 3), (140, .goto (-88), 3), (143, .iinc 10 1, 3), (146, .goto (-107), 3), (149, .iinc 9 1, 3), (152, .goto (-126), 3), (155, .iload 6, 2), (157, .ireturn, 1)]
theorem ddX1_pick : dAll cX1_pick qX1_pick = true := by decide +kernel
def qX1_loadBy : List (Nat × Instr × Nat) := [(0, .aload_n 1, 1), (1, .getfield 115, 3), (4, .iconst 4, 1), (5, .if_icmp .ne 10, 3), (8, .aload_n 0, 1), (9, .iload_n 2, 1), (10, .iload_n 3, 1), (11, .invokevirtual 112, 3), (14, .ireturn, 1), (15, .aload_n 1, 1), (16, .iload_n 2, 1), (17, .iload_n 3, 1), (18, .aload_n 0, 1), (19, .iload_n 3, 1), (20, .invokevirtual 181, 3), (23, .invokevirtual 184, 3), (26, .ifCond .eq 11, 3), (29, .aload_n 0, 1), (30, .iload_n 3, 1), (31, .invokevirtual 187, 3), (34, .goto 4, 3), (37, .iconst 0, 1), (38, .ireturn, 1)]
theorem ddX1_loadBy : dAll cX1_loadBy qX1_loadBy = true := by decide +kernel
def qX1_costBy : List (Nat × Instr × Nat) := [(0, .aload_n 1, 1), (1, .getfield 115, 3), (4, .iconst 4, 1), (5, .if_icmp .ne 16, 3), (8, .aload_n 0, 1), (9, .getfield 34, 3), (12, .iload_n 2, 1), (13, .iload_n 3, 1), (14, .invokestatic 106, 3), (17, .invokestatic 109, 3), (20, .lreturn, 1), (21, .aload_n 0, 1), (22, .invokevirtual 134, 3), (25, .iconst 1, 1), (26, .istore 4, 2), (28, .iload 4, 2), (30, .iload_n 2, 1), (31, .if_icmp .gt 59, 3), (34, .aload_n 0, 1), (35, .iload 4, 2), (37, .invokevirtual 140, 3), (40, .aload_n 0, 1), (41, .iload 4, 2), (43, .invokevirtual 123, 3), (46, .lstore 5, 2), (48, .aload_n 0, 1), (49, .getfield 76, 3), (52, .iconst 1, 1), (53, .isub, 1), (54, .istore 7, 2), (56, .iload 7, 2), (58, .ifCond .lt 26, 3), (61, .aload_n 0, 1), (62, .iload 7, 2), (64, .aload_n 0, 1), (65, .aload_n 1, 1), (66, .iload 4, 2), (68, .iload 7, 2), (70, .invokevirtual 190, 3), (73, .lload 5, 2), (75, .invokevirtual 177, 3), (78, .iinc 7 (-1), 3), (81, .goto (-25), 3), (84, .iinc 4 1, 3), (87, .goto (-59), 3), (90, .aload_n 0, 1), (91, .getfield 41, 3), (94, .iload_n 3, 1), (95, .invokestatic 109, 3), (98, .lreturn, 1)]
theorem ddX1_costBy : dAll cX1_costBy qX1_costBy = true := by decide +kernel
def qX1_costOfPromise : List (Nat × Instr × Nat) := [(0, .aload_n 0, 1), (1, .iload_n 1, 1), (2, .iconst 1, 1), (3, .isub, 1), (4, .invokevirtual 102, 3), (7, .aload_n 0, 1), (8, .iload_n 1, 1), (9, .iconst 1, 1), (10, .isub, 1), (11, .invokevirtual 137, 3), (14, .iload_n 1, 1), (15, .istore_n 2, 1), (16, .iload_n 2, 1), (17, .aload_n 0, 1), (18, .getfield 66, 3), (21, .if_icmp .gt 33, 3), (24, .aload_n 0, 1), (25, .iload_n 2, 1), (26, .invokevirtual 140, 3), (29, .aload_n 0, 1), (30, .aload_n 0, 1), (31, .iload_n 2, 1), (32, .invokevirtual 123, 3), (35, .iload_n 2, 1), (36, .iload_n 1, 1), (37, .if_icmp .ne 7, 3), (40, .iconst 1, 1), (41, .goto 4, 3), (44, .iconst 0, 1), (45, .invokevirtual 194, 3), (48, .iinc 2 1, 3), (51, .goto (-35), 3), (54, .aload_n 0, 1), (55, .getfield 41, 3), (58, .iconst 0, 1), (59, .invokestatic 109, 3), (62, .lreturn, 1)]
theorem ddX1_costOfPromise : dAll cX1_costOfPromise qX1_costOfPromise = true := by decide +kernel
def qX1_bestFullRule : List (Nat × Instr × Nat) := [(0, .aload_n 0, 1), (1, .getfield 51, 3), (4, .iconst (-1), 1), (5, .if_icmp .eq 8, 3), (8, .aload_n 0, 1), (9, .getfield 51, 3), (12, .ireturn, 1), (13, .lconst 0, 1), (14, .lstore_n 1, 1), (15, .iconst (-1), 1), (16, .istore_n 3, 1), (17, .iconst 0, 1), (18, .istore 4, 2), (20, .iload 4, 2), (22, .bipush 99, 2), (24, .if_icmp .gt 65, 3), (27, .iload_n 3, 1), (28, .iconst (-1), 1), (29, .if_icmp .eq 14, 3), (32, .aload_n 0, 1), (33, .iload 4, 2), (35, .iconst 1, 1), (36, .isub, 1), (37, .invokevirtual 198, 3), (40, .ifCond .eq 43, 3), (43, .aload_n 0, 1), (44, .new 116, 3), (47, .dup, 1), (48, .iconst 1, 1), (49, .iload 4, 2), (51, .aconst_null, 1), (52, .invokespecial 201, 3), (55, .aload_n 0, 1), (56, .getfield 66, 3), (59, .iconst 0, 1), (60, .invokevirtual 204, 3), (63, .lstore 5, 2), (65, .iload_n 3, 1), (66, .iconst (-1), 1), (67, .if_icmp .eq 10, 3), (70, .lload 5, 2), (72, .lload_n 1, 1), (73, .lcmp, 1), (74, .ifCond .ge 9, 3), (77, .iload 4, 2), (79, .istore_n 3, 1), (80, .lload 5, 2), (82, .lstore_n 1, 1), (83, .iinc 4 1, 3), (86, .goto (-66), 3), (89, .aload_n 0, 1), (90, .iload_n 3, 1), (91, .putfield 51, 3), (94, .iload_n 3, 1), (95, .ireturn, 1)]
theorem ddX1_bestFullRule : dAll cX1_bestFullRule qX1_bestFullRule = true := by decide +kernel
def qX1_isRoomOfSome : List (Nat × Instr × Nat) := [(0, .iconst 0, 1), (1, .istore_n 2, 1), (2, .iload_n 2, 1), (3, .aload_n 0, 1), (4, .getfield 76, 3), (7, .if_icmp .ge 20, 3), (10, .aload_n 0, 1), (11, .iload_n 2, 1), (12, .invokevirtual 181, 3), (15, .iload_n 1, 1), (16, .if_icmp .ne 5, 3), (19, .iconst 1, 1), (20, .ireturn, 1), (21, .iinc 2 1, 3), (24, .goto (-22), 3), (27, .iconst 0, 1), (28, .ireturn, 1)]
theorem ddX1_isRoomOfSome : dAll cX1_isRoomOfSome qX1_isRoomOfSome = true := by decide +kernel
def qX1_bestDayRule : List (Nat × Instr × Nat) := [(0, .lconst 0, 1), (1, .lstore_n 1, 1), (2, .iconst (-1), 1), (3, .istore_n 3, 1), (4, .iconst 1, 1), (5, .istore 4, 2), (7, .iload 4, 2), (9, .bipush 6, 2), (11, .if_icmp .gt 49, 3), (14, .aload_n 0, 1), (15, .new 116, 3), (18, .dup, 1), (19, .iconst 2, 1), (20, .iload 4, 2), (22, .aconst_null, 1), (23, .invokespecial 201, 3), (26, .aload_n 0, 1), (27, .getfield 66, 3), (30, .iconst 0, 1), (31, .invokevirtual 204, 3), (34, .lstore 5, 2), (36, .iload_n 3, 1), (37, .iconst (-1), 1), (38, .if_icmp .eq 10, 3), (41, .lload 5, 2), (43, .lload_n 1, 1), (44, .lcmp, 1), (45, .ifCond .ge 9, 3), (48, .iload 4, 2), (50, .istore_n 3, 1), (51, .lload 5, 2), (53, .lstore_n 1, 1), (54, .iinc 4 1, 3), (57, .goto (-50), 3), (60, .iload_n 3, 1), (61, .ireturn, 1)]
theorem ddX1_bestDayRule : dAll cX1_bestDayRule qX1_bestDayRule = true := by decide +kernel
def qX1_bar : List (Nat × Instr × Nat) := [(0, .aload_n 0, 1), (1, .iload_n 1, 1), (2, .invokevirtual 102, 3), (5, .aload_n 0, 1), (6, .iload_n 1, 1), (7, .invokevirtual 208, 3), (10, .istore_n 2, 1), (11, .iload_n 2, 1), (12, .iconst (-1), 1), (13, .if_icmp .eq 13, 3), (16, .aload_n 0, 1), (17, .iload_n 1, 1), (18, .iload_n 2, 1), (19, .invokevirtual 211, 3), (22, .iconst (-1), 1), (23, .if_icmp .eq 5, 3), (26, .iconst (-1), 1), (27, .ireturn, 1), (28, .iconst 0, 1), (29, .istore_n 3, 1), (30, .iconst 0, 1), (31, .istore 4, 2), (33, .iload 4, 2), (35, .aload_n 0, 1), (36, .getfield 76, 3), (39, .if_icmp .ge 32, 3), (42, .aload_n 0, 1), (43, .iload_n 1, 1), (44, .iload 4, 2), (46, .invokevirtual 112, 3), (49, .ifCond .ne 16, 3), (52, .iload_n 3, 1), (53, .aload_n 0, 1), (54, .iload 4, 2), (56, .invokevirtual 181, 3), (59, .iconst 1, 1), (60, .iadd, 1), (61, .invokestatic 214, 3), (64, .istore_n 3, 1), (65, .iinc 4 1, 3), (68, .goto (-35), 3), (71, .iload_n 3, 1), (72, .ireturn, 1)]
theorem ddX1_bar : dAll cX1_bar qX1_bar = true := by decide +kernel
def qX1_oddState : List (Nat × Instr × Nat) := [(0, .aload_n 0, 1), (1, .iload_n 1, 1), (2, .invokevirtual 102, 3), (5, .aload_n 0, 1), (6, .iload_n 1, 1), (7, .invokevirtual 208, 3), (10, .istore_n 2, 1), (11, .iload_n 2, 1), (12, .iconst (-1), 1), (13, .if_icmp .ne 7, 3), (16, .iconst (-1), 1), (17, .goto 9, 3), (20, .aload_n 0, 1), (21, .iload_n 1, 1), (22, .iload_n 2, 1), (23, .invokevirtual 211, 3), (26, .ireturn, 1)]
theorem ddX1_oddState : dAll cX1_oddState qX1_oddState = true := by decide +kernel
def qX1_leastRoomSent : List (Nat × Instr × Nat) := [(0, .iconst (-1), 1), (1, .istore_n 2, 1), (2, .iconst 0, 1), (3, .istore_n 3, 1), (4, .iload_n 3, 1), (5, .aload_n 0, 1), (6, .getfield 76, 3), (9, .if_icmp .ge 38, 3), (12, .aload_n 0, 1), (13, .iload_n 1, 1), (14, .iload_n 3, 1), (15, .invokevirtual 112, 3), (18, .ifCond .eq 23, 3), (21, .iload_n 2, 1), (22, .iconst (-1), 1), (23, .if_icmp .eq 12, 3), (26, .aload_n 0, 1), (27, .iload_n 3, 1), (28, .invokevirtual 181, 3), (31, .iload_n 2, 1), (32, .if_icmp .ge 9, 3), (35, .aload_n 0, 1), (36, .iload_n 3, 1), (37, .invokevirtual 181, 3), (40, .istore_n 2, 1), (41, .iinc 3 1, 3), (44, .goto (-40), 3), (47, .iload_n 2, 1), (48, .ireturn, 1)]
theorem ddX1_leastRoomSent : dAll cX1_leastRoomSent qX1_leastRoomSent = true := by decide +kernel
def qX1_oddFrom : List (Nat × Instr × Nat) := [(0, .iconst 0, 1), (1, .istore_n 3, 1), (2, .iload_n 3, 1), (3, .aload_n 0, 1), (4, .getfield 76, 3), (7, .if_icmp .ge 29, 3), (10, .aload_n 0, 1), (11, .iload_n 3, 1), (12, .invokevirtual 181, 3), (15, .iload_n 2, 1), (16, .if_icmp .lt 14, 3), (19, .aload_n 0, 1), (20, .iload_n 1, 1), (21, .iload_n 3, 1), (22, .invokevirtual 112, 3), (25, .ifCond .ne 5, 3), (28, .iload_n 3, 1), (29, .ireturn, 1), (30, .iinc 3 1, 3), (33, .goto (-31), 3), (36, .iconst (-1), 1), (37, .ireturn, 1)]
theorem ddX1_oddFrom : dAll cX1_oddFrom qX1_oddFrom = true := by decide +kernel
def qX1_judgeOf : List (Nat × Instr × Nat) := [(0, .lconst 0, 1), (1, .lstore_n 3, 1), (2, .iconst 0, 1), (3, .istore 5, 2), (5, .iload 5, 2), (7, .aload_n 0, 1), (8, .getfield 71, 3), (11, .if_icmp .ge 56, 3), (14, .aload_n 1, 1), (15, .iload 5, 2), (17, .invokevirtual 217, 3), (20, .lstore 6, 2), (22, .lload 6, 2), (24, .lconst 0, 1), (25, .lcmp, 1), (26, .ifCond .lt 16, 3), (29, .lload 6, 2), (31, .iload_n 2, 1), (32, .iload 5, 2), (34, .invokestatic 170, 3), (37, .i2l, 1), (38, .lcmp, 1), (39, .ifCond .le 5, 3), (42, .iconst 1, 1), (43, .ireturn, 1), (44, .lload_n 3, 1), (45, .lload 6, 2), (47, .aload_n 0, 1), (48, .getfield 12, 3), (51, .iload 5, 2), (53, .iconst 0, 1), (54, .invokevirtual 167, 3), (57, .i2l, 1), (58, .lmul, 1), (59, .ladd, 1), (60, .lstore_n 3, 1), (61, .iinc 5 1, 3), (64, .goto (-59), 3), (67, .lload_n 3, 1), (68, .aload_n 0, 1), (69, .getfield 12, 3), (72, .iconst 2, 1), (73, .invokevirtual 120, 3), (76, .i2l, 1), (77, .lcmp, 1), (78, .ifCond .le 7, 3), (81, .iconst 2, 1), (82, .goto 4, 3), (85, .iconst 0, 1), (86, .ireturn, 1)]
theorem ddX1_judgeOf : dAll cX1_judgeOf qX1_judgeOf = true := by decide +kernel
def qX1_chanceBy : List (Nat × Instr × Nat) := [(0, .aload_n 0, 1), (1, .aload_n 1, 1), (2, .iload_n 2, 1), (3, .invokevirtual 222, 3), (6, .aload_n 0, 1), (7, .getfield 44, 3), (10, .iload_n 3, 1), (11, .invokestatic 109, 3), (14, .lreturn, 1)]
theorem ddX1_chanceBy : dAll cX1_chanceBy qX1_chanceBy = true := by decide +kernel
def qX1_statesBy : List (Nat × Instr × Nat) := [(0, .aload_n 0, 1), (1, .aload_n 1, 1), (2, .iload_n 2, 1), (3, .invokevirtual 222, 3), (6, .iconst 0, 1), (7, .istore_n 3, 1), (8, .iconst 0, 1), (9, .istore 4, 2), (11, .iload 4, 2), (13, .aload_n 0, 1), (14, .getfield 76, 3), (17, .if_icmp .ge 26, 3), (20, .aload_n 0, 1), (21, .getfield 44, 3), (24, .iload 4, 2), (26, .invokestatic 109, 3), (29, .lconst 0, 1), (30, .lcmp, 1), (31, .ifCond .eq 6, 3), (34, .iinc 3 1, 3), (37, .iinc 4 1, 3), (40, .goto (-29), 3), (43, .iload_n 3, 1), (44, .ireturn, 1)]
theorem ddX1_statesBy : dAll cX1_statesBy qX1_statesBy = true := by decide +kernel
def qX1_spread : List (Nat × Instr × Nat) := [(0, .aload_n 0, 1), (1, .invokevirtual 226, 3), (4, .aload_n 0, 1), (5, .getfield 66, 3), (8, .istore_n 3, 1), (9, .iload_n 3, 1), (10, .iload_n 2, 1), (11, .if_icmp .le 20, 3), (14, .aload_n 0, 1), (15, .aload_n 1, 1), (16, .iload_n 3, 1), (17, .invokevirtual 229, 3), (20, .pop2, 1), (21, .aload_n 0, 1), (22, .invokevirtual 233, 3), (25, .iinc 3 (-1), 3), (28, .goto (-19), 3), (31, .return_, 1)]
theorem ddX1_spread : dAll cX1_spread qX1_spread = true := by decide +kernel
def qX1_heldBy : List (Nat × Instr × Nat) := [(0, .lconst 0, 1), (1, .lstore_n 3, 1), (2, .aload_n 0, 1), (3, .invokevirtual 226, 3), (6, .aload_n 0, 1), (7, .getfield 66, 3), (10, .istore 5, 2), (12, .iload 5, 2), (14, .ifCond .le 76, 3), (17, .aload_n 0, 1), (18, .aload_n 1, 1), (19, .iload 5, 2), (21, .invokevirtual 229, 3), (24, .pop2, 1), (25, .lconst 0, 1), (26, .lstore 6, 2), (28, .iconst 0, 1), (29, .istore 8, 2), (31, .iload 8, 2), (33, .aload_n 0, 1), (34, .getfield 76, 3), (37, .if_icmp .ge 31, 3), (40, .lload 6, 2), (42, .aload_n 0, 1), (43, .getfield 44, 3), (46, .iload 8, 2), (48, .invokestatic 109, 3), (51, .iload 8, 2), (53, .iload_n 2, 1), (54, .invokestatic 170, 3), (57, .i2l, 1), (58, .lmul, 1), (59, .ladd, 1), (60, .lstore 6, 2), (62, .iinc 8 1, 3), (65, .goto (-34), 3), (68, .lload_n 3, 1), (69, .lload 6, 2), (71, .aload_n 0, 1), (72, .iload 5, 2), (74, .invokevirtual 157, 3), (77, .lmul, 1), (78, .ladd, 1), (79, .lstore_n 3, 1), (80, .aload_n 0, 1), (81, .invokevirtual 233, 3), (84, .iinc 5 (-1), 3), (87, .goto (-75), 3), (90, .lload_n 3, 1), (91, .lreturn, 1)]
theorem ddX1_heldBy : dAll cX1_heldBy qX1_heldBy = true := by decide +kernel
def qX1_boxesBy : List (Nat × Instr × Nat) := [(0, .lconst 0, 1), (1, .lstore_n 2, 1), (2, .aload_n 0, 1), (3, .invokevirtual 226, 3), (6, .aload_n 0, 1), (7, .getfield 66, 3), (10, .istore 4, 2), (12, .iload 4, 2), (14, .ifCond .le 30, 3), (17, .lload_n 2, 1), (18, .aload_n 0, 1), (19, .aload_n 1, 1), (20, .iload 4, 2), (22, .invokevirtual 229, 3), (25, .aload_n 0, 1), (26, .iload 4, 2), (28, .invokevirtual 157, 3), (31, .lmul, 1), (32, .ladd, 1), (33, .lstore_n 2, 1), (34, .aload_n 0, 1), (35, .invokevirtual 233, 3), (38, .iinc 4 (-1), 3), (41, .goto (-29), 3), (44, .lload_n 2, 1), (45, .lreturn, 1)]
theorem ddX1_boxesBy : dAll cX1_boxesBy qX1_boxesBy = true := by decide +kernel
def qX1_startSpread : List (Nat × Instr × Nat) := [(0, .iconst 0, 1), (1, .istore_n 1, 1), (2, .iload_n 1, 1), (3, .aload_n 0, 1), (4, .getfield 76, 3), (7, .if_icmp .ge 26, 3), (10, .aload_n 0, 1), (11, .getfield 44, 3), (14, .iload_n 1, 1), (15, .iload_n 1, 1), (16, .ifCond .ne 7, 3), (19, .lconst 1, 1), (20, .goto 4, 3), (23, .lconst 0, 1), (24, .invokestatic 151, 3), (27, .iinc 1 1, 3), (30, .goto (-28), 3), (33, .return_, 1)]
theorem ddX1_startSpread : dAll cX1_startSpread qX1_startSpread = true := by decide +kernel
def qX1_spreadLoad : List (Nat × Instr × Nat) := [(0, .aload_n 0, 1), (1, .getfield 12, 3), (4, .iconst 3, 1), (5, .invokevirtual 120, 3), (8, .i2l, 1), (9, .lstore_n 3, 1), (10, .lconst 0, 1), (11, .lstore 5, 2), (13, .iconst 0, 1), (14, .istore 7, 2), (16, .iload 7, 2), (18, .aload_n 0, 1), (19, .getfield 76, 3), (22, .if_icmp .ge 121, 3), (25, .aload_n 0, 1), (26, .getfield 44, 3), (29, .iload 7, 2), (31, .invokestatic 109, 3), (34, .lstore 8, 2), (36, .lload 8, 2), (38, .lconst 0, 1), (39, .lcmp, 1), (40, .ifCond .ne 7, 3), (43, .iconst 0, 1), (44, .goto 11, 3), (47, .aload_n 0, 1), (48, .aload_n 1, 1), (49, .iload_n 2, 1), (50, .iload 7, 2), (52, .invokevirtual 190, 3), (55, .istore 10, 2), (57, .iload 10, 2), (59, .ifCond .ne 21, 3), (62, .aload_n 0, 1), (63, .getfield 44, 3), (66, .iload 7, 2), (68, .lload 8, 2), (70, .ldc2_w 127, 3), (73, .lmul, 1), (74, .invokestatic 151, 3), (77, .goto 60, 3), (80, .lload 8, 2), (82, .ldc2_w 127, 3), (85, .lload_n 3, 1), (86, .lsub, 1), (87, .lmul, 1), (88, .lstore 11, 2), (90, .aload_n 0, 1), (91, .getfield 44, 3), (94, .iload 7, 2), (96, .lload 8, 2), (98, .lload_n 3, 1), (99, .lmul, 1), (100, .invokestatic 151, 3), (103, .aload_n 0, 1), (104, .getfield 44, 3), (107, .iload 7, 2), (109, .iload 10, 2), (111, .isub, 1), (112, .aload_n 0, 1), (113, .getfield 44, 3), (116, .iload 7, 2), (118, .iload 10, 2), (120, .isub, 1), (121, .invokestatic 109, 3), (124, .lload 11, 2), (126, .ladd, 1), (127, .invokestatic 151, 3), (130, .lload 5, 2), (132, .lload 11, 2), (134, .ladd, 1), (135, .lstore 5, 2), (137, .iinc 7 1, 3), (140, .goto (-124), 3), (143, .lload 5, 2), (145, .lreturn, 1)]
theorem ddX1_spreadLoad : dAll cX1_spreadLoad qX1_spreadLoad = true := by decide +kernel
def qX1_spreadWhatComes : List (Nat × Instr × Nat) := [(0, .iconst 0, 1), (1, .istore_n 1, 1), (2, .iload_n 1, 1), (3, .aload_n 0, 1), (4, .getfield 71, 3), (7, .if_icmp .ge 127, 3), (10, .iload_n 1, 1), (11, .invokestatic 164, 3), (14, .istore_n 2, 1), (15, .aload_n 0, 1), (16, .getfield 12, 3), (19, .iload_n 1, 1), (20, .iconst 1, 1), (21, .invokevirtual 167, 3), (24, .i2l, 1), (25, .lstore_n 3, 1), (26, .aload_n 0, 1), (27, .getfield 76, 3), (30, .iconst 1, 1), (31, .isub, 1), (32, .istore 5, 2), (34, .iload 5, 2), (36, .ifCond .lt 92, 3), (39, .aload_n 0, 1), (40, .getfield 44, 3), (43, .iload 5, 2), (45, .invokestatic 109, 3), (48, .lstore 6, 2), (50, .iload 5, 2), (52, .iload_n 1, 1), (53, .invokestatic 170, 3), (56, .iconst 4, 1), (57, .if_icmp .ge 50, 3), (60, .aload_n 0, 1), (61, .getfield 44, 3), (64, .iload 5, 2), (66, .iload_n 2, 1), (67, .iadd, 1), (68, .aload_n 0, 1), (69, .getfield 44, 3), (72, .iload 5, 2), (74, .iload_n 2, 1), (75, .iadd, 1), (76, .invokestatic 109, 3), (79, .lload 6, 2), (81, .lload_n 3, 1), (82, .lmul, 1), (83, .ladd, 1), (84, .invokestatic 151, 3), (87, .aload_n 0, 1), (88, .getfield 44, 3), (91, .iload 5, 2), (93, .lload 6, 2), (95, .ldc2_w 127, 3), (98, .lload_n 3, 1), (99, .lsub, 1), (100, .lmul, 1), (101, .invokestatic 151, 3), (104, .goto 18, 3), (107, .aload_n 0, 1), (108, .getfield 44, 3), (111, .iload 5, 2), (113, .lload 6, 2), (115, .ldc2_w 127, 3), (118, .lmul, 1), (119, .invokestatic 151, 3), (122, .iinc 5 (-1), 3), (125, .goto (-91), 3), (128, .iinc 1 1, 3), (131, .goto (-129), 3), (134, .return_, 1)]
theorem ddX1_spreadWhatComes : dAll cX1_spreadWhatComes qX1_spreadWhatComes = true := by decide +kernel
def qX2_init : List (Nat × Instr × Nat) := [(0, .aload_n 0, 1), (1, .invokespecial 3, 3), (4, .aload_n 0, 1), (5, .iload_n 1, 1), (6, .putfield 9, 3), (9, .aload_n 0, 1), (10, .iload_n 2, 1), (11, .ifCond .le 7, 3), (14, .iload_n 2, 1), (15, .goto 4, 3), (18, .iconst 0, 1), (19, .newarray .long, 2), (21, .putfield 15, 3), (24, .return_, 1)]
theorem ddX2_init : dAll cX2_init qX2_init = true := by decide +kernel
def qX2_size : List (Nat × Instr × Nat) := [(0, .aload_n 0, 1), (1, .getfield 15, 3), (4, .arraylength, 1), (5, .ireturn, 1)]
theorem ddX2_size : dAll cX2_size qX2_size = true := by decide +kernel
def qX2_hasPlace : List (Nat × Instr × Nat) := [(0, .iload_n 1, 1), (1, .ifCond .lt 16, 3), (4, .iload_n 1, 1), (5, .aload_n 0, 1), (6, .getfield 15, 3), (9, .arraylength, 1), (10, .if_icmp .ge 7, 3), (13, .iconst 1, 1), (14, .goto 4, 3), (17, .iconst 0, 1), (18, .ireturn, 1)]
theorem ddX2_hasPlace : dAll cX2_hasPlace qX2_hasPlace = true := by decide +kernel
def qX2_hasRange : List (Nat × Instr × Nat) := [(0, .iload_n 1, 1), (1, .ifCond .lt 31, 3), (4, .iload_n 2, 1), (5, .ifCond .lt 27, 3), (8, .iload_n 1, 1), (9, .aload_n 0, 1), (10, .getfield 15, 3), (13, .arraylength, 1), (14, .if_icmp .gt 18, 3), (17, .iload_n 2, 1), (18, .aload_n 0, 1), (19, .getfield 15, 3), (22, .arraylength, 1), (23, .iload_n 1, 1), (24, .isub, 1), (25, .if_icmp .gt 7, 3), (28, .iconst 1, 1), (29, .goto 4, 3), (32, .iconst 0, 1), (33, .ireturn, 1)]
theorem ddX2_hasRange : dAll cX2_hasRange qX2_hasRange = true := by decide +kernel
def qX2_valueAt : List (Nat × Instr × Nat) := [(0, .aload_n 0, 1), (1, .getfield 15, 3), (4, .iload_n 1, 1), (5, .invokestatic 19, 3), (8, .lreturn, 1)]
theorem ddX2_valueAt : dAll cX2_valueAt qX2_valueAt = true := by decide +kernel
def qX2_put : List (Nat × Instr × Nat) := [(0, .aload_n 0, 1), (1, .iload_n 1, 1), (2, .invokevirtual 23, 3), (5, .ifCond .eq 14, 3), (8, .aload_n 0, 1), (9, .getfield 15, 3), (12, .iload_n 1, 1), (13, .aload_n 0, 1), (14, .lload_n 2, 1), (15, .invokevirtual 27, 3), (18, .lastore, 1), (19, .return_, 1)]
theorem ddX2_put : dAll cX2_put qX2_put = true := by decide +kernel
def qX2_lowestBits : List (Nat × Instr × Nat) := [(0, .aload_n 0, 1), (1, .getfield 9, 3), (4, .tableswitch 62 0 4 #[36, 41, 46, 62, 50], 36), (40, .lload_n 1, 1), (41, .l2i, 1), (42, .i2b, 1), (43, .i2l, 1), (44, .lreturn, 1), (45, .lload_n 1, 1), (46, .l2i, 1), (47, .i2s, 1), (48, .i2l, 1), (49, .lreturn, 1), (50, .lload_n 1, 1), (51, .l2i, 1), (52, .i2l, 1), (53, .lreturn, 1), (54, .lload_n 1, 1), (55, .lconst 0, 1), (56, .lcmp, 1), (57, .ifCond .eq 7, 3), (60, .lconst 1, 1), (61, .goto 4, 3), (64, .lconst 0, 1), (65, .lreturn, 1), (66, .lload_n 1, 1), (67, .lreturn, 1)]
theorem ddX2_lowestBits : dAll cX2_lowestBits qX2_lowestBits = true := by decide +kernel
def qX2_take : List (Nat × Instr × Nat) := [(0, .aload_n 1, 1), (1, .ifnull 38, 3), (4, .aload_n 1, 1), (5, .iload_n 2, 1), (6, .iload 4, 2), (8, .invokevirtual 31, 3), (11, .ifCond .eq 28, 3), (14, .aload_n 0, 1), (15, .iload_n 3, 1), (16, .iload 4, 2), (18, .invokevirtual 31, 3), (21, .ifCond .eq 18, 3), (24, .aload_n 1, 1), (25, .getfield 15, 3), (28, .iload_n 2, 1), (29, .aload_n 0, 1), (30, .getfield 15, 3), (33, .iload_n 3, 1), (34, .iload 4, 2), (36, .invokestatic 35, 3), (39, .return_, 1)]
theorem ddX2_take : dAll cX2_take qX2_take = true := by decide +kernel
def qX2_twin : List (Nat × Instr × Nat) := [(0, .new 10, 3), (3, .dup, 1), (4, .aload_n 0, 1), (5, .getfield 9, 3), (8, .aload_n 0, 1), (9, .getfield 15, 3), (12, .arraylength, 1), (13, .invokespecial 41, 3), (16, .astore_n 1, 1), (17, .aload_n 1, 1), (18, .aload_n 0, 1), (19, .iconst 0, 1), (20, .iconst 0, 1), (21, .aload_n 0, 1), (22, .getfield 15, 3), (25, .arraylength, 1), (26, .invokevirtual 44, 3), (29, .aload_n 1, 1), (30, .areturn, 1)]
theorem ddX2_twin : dAll cX2_twin qX2_twin = true := by decide +kernel
def qX3_init : List (Nat × Instr × Nat) := [(0, .aload_n 0, 1), (1, .invokespecial 3, 3), (4, .aload_n 0, 1), (5, .iload_n 1, 1), (6, .putfield 9, 3), (9, .aload_n 0, 1), (10, .iload_n 1, 1), (11, .iconst 3, 1), (12, .if_icmp .ne 10, 3), (15, .iload_n 2, 1), (16, .bipush 10, 2), (18, .idiv, 1), (19, .goto 4, 3), (22, .iload_n 2, 1), (23, .putfield 15, 3), (26, .aload_n 0, 1), (27, .iload_n 1, 1), (28, .iconst 3, 1), (29, .if_icmp .ne 10, 3), (32, .iload_n 2, 1), (33, .bipush 10, 2), (35, .irem, 1), (36, .goto 4, 3), (39, .iload_n 2, 1), (40, .putfield 18, 3), (43, .aload_n 0, 1), (44, .aload_n 3, 1), (45, .ifnonnull 7, 3), (48, .aconst_null, 1), (49, .goto 7, 3), (52, .aload_n 3, 1), (53, .invokevirtual 21, 3), (56, .putfield 27, 3), (59, .return_, 1)]
theorem ddX3_init : dAll cX3_init qX3_init = true := by decide +kernel
def qX3_mayBe : List (Nat × Instr × Nat) := [(0, .iload_n 0, 1), (1, .tableswitch 111 1 5 #[35, 51, 68, 104, 106], 35), (36, .iload_n 1, 1), (37, .ifCond .lt 13, 3), (40, .iload_n 1, 1), (41, .bipush 99, 2), (43, .if_icmp .gt 7, 3), (46, .iconst 1, 1), (47, .goto 4, 3), (50, .iconst 0, 1), (51, .ireturn, 1), (52, .iload_n 1, 1), (53, .iconst 1, 1), (54, .if_icmp .lt 13, 3), (57, .iload_n 1, 1), (58, .bipush 6, 2), (60, .if_icmp .gt 7, 3), (63, .iconst 1, 1), (64, .goto 4, 3), (67, .iconst 0, 1), (68, .ireturn, 1), (69, .iload_n 1, 1), (70, .ifCond .lt 33, 3), (73, .iload_n 1, 1), (74, .bipush 10, 2), (76, .idiv, 1), (77, .bipush 99, 2), (79, .if_icmp .gt 24, 3), (82, .iload_n 1, 1), (83, .bipush 10, 2), (85, .irem, 1), (86, .iconst 1, 1), (87, .if_icmp .lt 16, 3), (90, .iload_n 1, 1), (91, .bipush 10, 2), (93, .irem, 1), (94, .bipush 6, 2), (96, .if_icmp .gt 7, 3), (99, .iconst 1, 1), (100, .goto 4, 3), (103, .iconst 0, 1), (104, .ireturn, 1), (105, .iconst 1, 1), (106, .ireturn, 1), (107, .iload_n 1, 1), (108, .invokestatic 31, 3), (111, .ireturn, 1), (112, .iconst 0, 1), (113, .ireturn, 1)]
theorem ddX3_mayBe : dAll cX3_mayBe qX3_mayBe = true := by decide +kernel
def qX3_isOfKind : List (Nat × Instr × Nat) := [(0, .iload_n 1, 1), (1, .ifCond .eq 24, 3), (4, .iload_n 1, 1), (5, .aload_n 0, 1), (6, .getfield 9, 3), (9, .if_icmp .eq 16, 3), (12, .iload_n 1, 1), (13, .iconst 1, 1), (14, .if_icmp .ne 15, 3), (17, .aload_n 0, 1), (18, .getfield 9, 3), (21, .iconst 3, 1), (22, .if_icmp .ne 7, 3), (25, .iconst 1, 1), (26, .goto 4, 3), (29, .iconst 0, 1), (30, .ireturn, 1)]
theorem ddX3_isOfKind : dAll cX3_isOfKind qX3_isOfKind = true := by decide +kernel
def qX3_numberAs : List (Nat × Instr × Nat) := [(0, .iload_n 1, 1), (1, .tableswitch 66 1 5 #[35, 40, 40, 45, 47], 35), (36, .aload_n 0, 1), (37, .getfield 15, 3), (40, .ireturn, 1), (41, .aload_n 0, 1), (42, .getfield 18, 3), (45, .ireturn, 1), (46, .iconst 1, 1), (47, .ireturn, 1), (48, .aload_n 0, 1), (49, .getfield 27, 3), (52, .ifnonnull 7, 3), (55, .iconst 0, 1), (56, .goto 10, 3), (59, .aload_n 0, 1), (60, .getfield 27, 3), (63, .invokevirtual 35, 3), (66, .ireturn, 1), (67, .iconst 0, 1), (68, .ireturn, 1)]
theorem ddX3_numberAs : dAll cX3_numberAs qX3_numberAs = true := by decide +kernel
def qX3_fills : List (Nat × Instr × Nat) := [(0, .aload_n 0, 1), (1, .getfield 9, 3), (4, .tableswitch 104 1 5 #[36, 50, 56, 104, 78], 36), (40, .iload_n 3, 1), (41, .aload_n 0, 1), (42, .getfield 15, 3), (45, .if_icmp .lt 7, 3), (48, .iconst 1, 1), (49, .goto 4, 3), (52, .iconst 0, 1), (53, .ireturn, 1), (54, .aload_n 0, 1), (55, .iload_n 1, 1), (56, .invokevirtual 39, 3), (59, .ireturn, 1), (60, .iload_n 3, 1), (61, .aload_n 0, 1), (62, .getfield 15, 3), (65, .if_icmp .ge 11, 3), (68, .aload_n 0, 1), (69, .iload_n 1, 1), (70, .invokevirtual 39, 3), (73, .ifCond .eq 7, 3), (76, .iconst 1, 1), (77, .goto 4, 3), (80, .iconst 0, 1), (81, .ireturn, 1), (82, .aload_n 0, 1), (83, .getfield 27, 3), (86, .ifnull 20, 3), (89, .aload_n 0, 1), (90, .getfield 27, 3), (93, .iload_n 2, 1), (94, .invokevirtual 42, 3), (97, .lconst 0, 1), (98, .lcmp, 1), (99, .ifCond .eq 7, 3), (102, .iconst 1, 1), (103, .goto 4, 3), (106, .iconst 0, 1), (107, .ireturn, 1), (108, .iconst 0, 1), (109, .ireturn, 1)]
theorem ddX3_fills : dAll cX3_fills qX3_fills = true := by decide +kernel
def qX3_isItsDay : List (Nat × Instr × Nat) := [(0, .aload_n 0, 1), (1, .getfield 18, 3), (4, .ifCond .le 16, 3), (7, .iload_n 1, 1), (8, .aload_n 0, 1), (9, .getfield 18, 3), (12, .irem, 1), (13, .ifCond .ne 7, 3), (16, .iconst 1, 1), (17, .goto 4, 3), (20, .iconst 0, 1), (21, .ireturn, 1)]
theorem ddX3_isItsDay : dAll cX3_isItsDay qX3_isItsDay = true := by decide +kernel
def qX4_init : List (Nat × Instr × Nat) := [(0, .aload_n 0, 1), (1, .invokespecial 3, 3), (4, .aload_n 0, 1), (5, .sipush 160, 3), (8, .newarray .byte, 2), (10, .putfield 9, 3), (13, .return_, 1)]
theorem ddX4_init : dAll cX4_init qX4_init = true := by decide +kernel
def qX4_hasPlaceFor : List (Nat × Instr × Nat) := [(0, .iload_n 1, 1), (1, .aload_n 0, 1), (2, .getfield 9, 3), (5, .arraylength, 1), (6, .aload_n 0, 1), (7, .getfield 15, 3), (10, .isub, 1), (11, .if_icmp .gt 7, 3), (14, .iconst 1, 1), (15, .goto 4, 3), (18, .iconst 0, 1), (19, .ireturn, 1)]
theorem ddX4_hasPlaceFor : dAll cX4_hasPlaceFor qX4_hasPlaceFor = true := by decide +kernel
def qX4_append : List (Nat × Instr × Nat) := [(0, .iload_n 2, 1), (1, .iconst 1, 1), (2, .isub, 1), (3, .istore_n 3, 1), (4, .iload_n 3, 1), (5, .ifCond .lt 54, 3), (8, .aload_n 0, 1), (9, .getfield 15, 3), (12, .ifCond .lt 41, 3), (15, .aload_n 0, 1), (16, .getfield 15, 3), (19, .aload_n 0, 1), (20, .getfield 9, 3), (23, .arraylength, 1), (24, .if_icmp .ge 29, 3), (27, .aload_n 0, 1), (28, .getfield 9, 3), (31, .aload_n 0, 1), (32, .getfield 15, 3), (35, .iload_n 1, 1), (36, .bipush 8, 2), (38, .iload_n 3, 1), (39, .imul, 1), (40, .ishr, 1), (41, .i2b, 1), (42, .bastore, 1), (43, .aload_n 0, 1), (44, .dup, 1), (45, .getfield 15, 3), (48, .iconst 1, 1), (49, .iadd, 1), (50, .putfield 15, 3), (53, .iinc 3 (-1), 3), (56, .goto (-52), 3), (59, .aload_n 0, 1), (60, .getfield 15, 3), (63, .ireturn, 1)]
theorem ddX4_append : dAll cX4_append qX4_append = true := by decide +kernel
def qX4_clear : List (Nat × Instr × Nat) := [(0, .aload_n 0, 1), (1, .getfield 15, 3), (4, .istore_n 1, 1), (5, .aload_n 0, 1), (6, .iconst 0, 1), (7, .putfield 15, 3), (10, .iload_n 1, 1), (11, .ireturn, 1)]
theorem ddX4_clear : dAll cX4_clear qX4_clear = true := by decide +kernel
def qX4_readInto : List (Nat × Instr × Nat) := [(0, .aload_n 1, 1), (1, .invokevirtual 19, 3), (4, .aload_n 0, 1), (5, .iconst 0, 1), (6, .putfield 24, 3), (9, .aload_n 0, 1), (10, .invokevirtual 27, 3), (13, .iconst 0, 1), (14, .istore_n 2, 1), (15, .iload_n 2, 1), (16, .sipush 160, 3), (19, .if_icmp .gt 62, 3), (22, .aload_n 0, 1), (23, .aload_n 1, 1), (24, .invokevirtual 30, 3), (27, .ifCond .ne 8, 3), (30, .aload_n 0, 1), (31, .getfield 34, 3), (34, .ireturn, 1), (35, .aload_n 0, 1), (36, .getfield 37, 3), (39, .ifCond .ne 19, 3), (42, .aload_n 1, 1), (43, .invokevirtual 40, 3), (46, .ifCond .le 7, 3), (49, .iconst (-1), 1), (50, .goto 7, 3), (53, .aload_n 0, 1), (54, .getfield 15, 3), (57, .ireturn, 1), (58, .aload_n 0, 1), (59, .getfield 37, 3), (62, .iconst 3, 1), (63, .if_icmp .eq 8, 3), (66, .aload_n 0, 1), (67, .getfield 34, 3), (70, .ireturn, 1), (71, .aload_n 0, 1), (72, .invokevirtual 27, 3), (75, .iinc 2 1, 3), (78, .goto (-63), 3), (81, .aload_n 0, 1), (82, .getfield 34, 3), (85, .ireturn, 1)]
theorem ddX4_readInto : dAll cX4_readInto qX4_readInto = true := by decide +kernel
def qX4_readStatement : List (Nat × Instr × Nat) := [(0, .aload_n 0, 1), (1, .ldc 44, 2), (3, .invokevirtual 46, 3), (6, .ifCond .eq 10, 3), (9, .aload_n 0, 1), (10, .aload_n 1, 1), (11, .iconst 0, 1), (12, .invokevirtual 50, 3), (15, .ireturn, 1), (16, .aload_n 0, 1), (17, .ldc 54, 2), (19, .invokevirtual 46, 3), (22, .ifCond .eq 36, 3), (25, .aload_n 0, 1), (26, .aload_n 1, 1), (27, .iconst 1, 1), (28, .invokevirtual 50, 3), (31, .ifCond .eq 25, 3), (34, .aload_n 0, 1), (35, .ldc 56, 2), (37, .invokevirtual 46, 3), (40, .ifCond .eq 16, 3), (43, .aload_n 0, 1), (44, .aload_n 1, 1), (45, .iconst 2, 1), (46, .invokevirtual 50, 3), (49, .ifCond .eq 7, 3), (52, .iconst 1, 1), (53, .goto 4, 3), (56, .iconst 0, 1), (57, .ireturn, 1), (58, .aload_n 0, 1), (59, .ldc 58, 2), (61, .invokevirtual 46, 3), (64, .ifCond .eq 10, 3), (67, .aload_n 0, 1), (68, .aload_n 1, 1), (69, .iconst 3, 1), (70, .invokevirtual 50, 3), (73, .ireturn, 1), (74, .aload_n 0, 1), (75, .ldc 60, 2), (77, .invokevirtual 46, 3), (80, .ifCond .eq 23, 3), (83, .aload_n 1, 1), (84, .invokevirtual 40, 3), (87, .iconst 3, 1), (88, .if_icmp .ge 15, 3), (91, .aload_n 0, 1), (92, .aload_n 1, 1), (93, .invokevirtual 62, 3), (96, .ifCond .eq 7, 3), (99, .iconst 1, 1), (100, .goto 4, 3), (103, .iconst 0, 1), (104, .ireturn, 1)]
theorem ddX4_readStatement : dAll cX4_readStatement qX4_readStatement = true := by decide +kernel
def qX4_readHouseNumber : List (Nat × Instr × Nat) := [(0, .aload_n 0, 1), (1, .invokevirtual 27, 3), (4, .aload_n 0, 1), (5, .invokevirtual 65, 3), (8, .istore_n 3, 1), (9, .iload_n 3, 1), (10, .ifCond .lt 11, 3), (13, .iload_n 2, 1), (14, .iload_n 3, 1), (15, .invokestatic 68, 3), (18, .ifCond .ne 5, 3), (21, .iconst 0, 1), (22, .ireturn, 1), (23, .aload_n 1, 1), (24, .iload_n 2, 1), (25, .iload_n 3, 1), (26, .invokevirtual 72, 3), (29, .aload_n 0, 1), (30, .invokevirtual 27, 3), (33, .iconst 1, 1), (34, .ireturn, 1)]
theorem ddX4_readHouseNumber : dAll cX4_readHouseNumber qX4_readHouseNumber = true := by decide +kernel
def qX4_readSort : List (Nat × Instr × Nat) := [(0, .aload_n 0, 1), (1, .invokevirtual 27, 3), (4, .aload_n 1, 1), (5, .invokevirtual 40, 3), (8, .istore_n 2, 1), (9, .iconst 0, 1), (10, .istore_n 3, 1), (11, .iload_n 3, 1), (12, .iconst 5, 1), (13, .if_icmp .ge 48, 3), (16, .aload_n 0, 1), (17, .iload_n 3, 1), (18, .invokestatic 76, 3), (21, .invokevirtual 46, 3), (24, .istore 4, 2), (26, .iload 4, 2), (28, .ifCond .ne 10, 3), (31, .iload_n 3, 1), (32, .iconst 3, 1), (33, .if_icmp .ge 5, 3), (36, .iconst 0, 1), (37, .ireturn, 1), (38, .iload 4, 2), (40, .ifCond .eq 15, 3), (43, .aload_n 0, 1), (44, .aload_n 1, 1), (45, .iload_n 2, 1), (46, .iload_n 3, 1), (47, .invokevirtual 80, 3), (50, .ifCond .ne 5, 3), (53, .iconst 0, 1), (54, .ireturn, 1), (55, .iinc 3 1, 3), (58, .goto (-47), 3), (61, .aload_n 1, 1), (62, .iconst 4, 1), (63, .iload_n 2, 1), (64, .iconst 1, 1), (65, .iadd, 1), (66, .invokevirtual 72, 3), (69, .iconst 1, 1), (70, .ireturn, 1)]
theorem ddX4_readSort : dAll cX4_readSort qX4_readSort = true := by decide +kernel
def qX4_readSortNumber : List (Nat × Instr × Nat) := [(0, .aload_n 0, 1), (1, .invokevirtual 27, 3), (4, .aload_n 0, 1), (5, .invokevirtual 65, 3), (8, .istore 4, 2), (10, .iload 4, 2), (12, .ifCond .lt 12, 3), (15, .iload_n 3, 1), (16, .iload 4, 2), (18, .invokestatic 84, 3), (21, .ifCond .ne 5, 3), (24, .iconst 0, 1), (25, .ireturn, 1), (26, .aload_n 1, 1), (27, .iload_n 2, 1), (28, .iload_n 3, 1), (29, .iload 4, 2), (31, .invokevirtual 87, 3), (34, .aload_n 0, 1), (35, .invokevirtual 27, 3), (38, .iconst 1, 1), (39, .ireturn, 1)]
theorem ddX4_readSortNumber : dAll cX4_readSortNumber qX4_readSortNumber = true := by decide +kernel
def qX4_sortWord : List (Nat × Instr × Nat) := [(0, .iload_n 0, 1), (1, .tableswitch 43 0 3 #[31, 34, 37, 40], 31), (32, .ldc 56, 2), (34, .areturn, 1), (35, .ldc 91, 2), (37, .areturn, 1), (38, .ldc 93, 2), (40, .areturn, 1), (41, .ldc 95, 2), (43, .areturn, 1), (44, .ldc 97, 2), (46, .areturn, 1)]
theorem ddX4_sortWord : dAll cX4_sortWord qX4_sortWord = true := by decide +kernel
def qX4_byteAt : List (Nat × Instr × Nat) := [(0, .iload_n 1, 1), (1, .ifCond .lt 29, 3), (4, .iload_n 1, 1), (5, .aload_n 0, 1), (6, .getfield 15, 3), (9, .if_icmp .ge 21, 3), (12, .iload_n 1, 1), (13, .aload_n 0, 1), (14, .getfield 9, 3), (17, .arraylength, 1), (18, .if_icmp .ge 12, 3), (21, .aload_n 0, 1), (22, .getfield 9, 3), (25, .iload_n 1, 1), (26, .baload, 1), (27, .goto 4, 3), (30, .iconst (-1), 1), (31, .ireturn, 1)]
theorem ddX4_byteAt : dAll cX4_byteAt qX4_byteAt = true := by decide +kernel
def qX4_kindOf : List (Nat × Instr × Nat) := [(0, .iload_n 0, 1), (1, .bipush 97, 2), (3, .if_icmp .lt 11, 3), (6, .iload_n 0, 1), (7, .bipush 122, 2), (9, .if_icmp .gt 5, 3), (12, .iconst 1, 1), (13, .ireturn, 1), (14, .iload_n 0, 1), (15, .bipush 48, 2), (17, .if_icmp .lt 11, 3), (20, .iload_n 0, 1), (21, .bipush 57, 2), (23, .if_icmp .gt 5, 3), (26, .iconst 2, 1), (27, .ireturn, 1), (28, .iload_n 0, 1), (29, .bipush 59, 2), (31, .if_icmp .ne 7, 3), (34, .iconst 3, 1), (35, .goto 4, 3), (38, .iconst 4, 1), (39, .ireturn, 1)]
theorem ddX4_kindOf : dAll cX4_kindOf qX4_kindOf = true := by decide +kernel
def qX4_advance : List (Nat × Instr × Nat) := [(0, .aload_n 0, 1), (1, .aload_n 0, 1), (2, .getfield 24, 3), (5, .putfield 34, 3), (8, .aload_n 0, 1), (9, .getfield 34, 3), (12, .aload_n 0, 1), (13, .getfield 15, 3), (16, .if_icmp .ge 29, 3), (19, .aload_n 0, 1), (20, .aload_n 0, 1), (21, .getfield 34, 3), (24, .invokevirtual 99, 3), (27, .bipush 32, 2), (29, .if_icmp .ne 16, 3), (32, .aload_n 0, 1), (33, .dup, 1), (34, .getfield 34, 3), (37, .iconst 1, 1), (38, .iadd, 1), (39, .putfield 34, 3), (42, .goto (-34), 3), (45, .aload_n 0, 1), (46, .aload_n 0, 1), (47, .getfield 34, 3), (50, .putfield 24, 3), (53, .aload_n 0, 1), (54, .getfield 34, 3), (57, .aload_n 0, 1), (58, .getfield 15, 3), (61, .if_icmp .lt 9, 3), (64, .aload_n 0, 1), (65, .iconst 0, 1), (66, .putfield 37, 3), (69, .return_, 1), (70, .aload_n 0, 1), (71, .aload_n 0, 1), (72, .aload_n 0, 1), (73, .getfield 34, 3), (76, .invokevirtual 99, 3), (79, .invokestatic 103, 3), (82, .putfield 37, 3), (85, .aload_n 0, 1), (86, .dup, 1), (87, .getfield 24, 3), (90, .iconst 1, 1), (91, .iadd, 1), (92, .putfield 24, 3), (95, .aload_n 0, 1), (96, .getfield 37, 3), (99, .iconst 1, 1), (100, .if_icmp .eq 11, 3), (103, .aload_n 0, 1), (104, .getfield 37, 3), (107, .iconst 2, 1), (108, .if_icmp .ne 45, 3), (111, .aload_n 0, 1), (112, .getfield 24, 3), (115, .aload_n 0, 1), (116, .getfield 15, 3), (119, .if_icmp .ge 34, 3), (122, .aload_n 0, 1), (123, .aload_n 0, 1), (124, .getfield 24, 3), (127, .invokevirtual 99, 3), (130, .invokestatic 103, 3), (133, .aload_n 0, 1), (134, .getfield 37, 3), (137, .if_icmp .ne 16, 3), (140, .aload_n 0, 1), (141, .dup, 1), (142, .getfield 24, 3), (145, .iconst 1, 1), (146, .iadd, 1), (147, .putfield 24, 3), (150, .goto (-39), 3), (153, .return_, 1)]
theorem ddX4_advance : dAll cX4_advance qX4_advance = true := by decide +kernel
def qX4_isWord : List (Nat × Instr × Nat) := [(0, .aload_n 0, 1), (1, .getfield 37, 3), (4, .iconst 1, 1), (5, .if_icmp .ne 19, 3), (8, .aload_n 0, 1), (9, .getfield 24, 3), (12, .aload_n 0, 1), (13, .getfield 34, 3), (16, .isub, 1), (17, .aload_n 1, 1), (18, .invokevirtual 106, 3), (21, .if_icmp .eq 5, 3), (24, .iconst 0, 1), (25, .ireturn, 1), (26, .iconst 0, 1), (27, .istore_n 2, 1), (28, .iload_n 2, 1), (29, .aload_n 1, 1), (30, .invokevirtual 106, 3), (33, .if_icmp .ge 29, 3), (36, .aload_n 0, 1), (37, .aload_n 0, 1), (38, .getfield 34, 3), (41, .iload_n 2, 1), (42, .iadd, 1), (43, .invokevirtual 99, 3), (46, .aload_n 1, 1), (47, .iload_n 2, 1), (48, .invokevirtual 111, 3), (51, .if_icmp .eq 5, 3), (54, .iconst 0, 1), (55, .ireturn, 1), (56, .iinc 2 1, 3), (59, .goto (-31), 3), (62, .iconst 1, 1), (63, .ireturn, 1)]
theorem ddX4_isWord : dAll cX4_isWord qX4_isWord = true := by decide +kernel
def qX4_numberHere : List (Nat × Instr × Nat) := [(0, .aload_n 0, 1), (1, .getfield 37, 3), (4, .iconst 2, 1), (5, .if_icmp .ne 16, 3), (8, .aload_n 0, 1), (9, .getfield 24, 3), (12, .aload_n 0, 1), (13, .getfield 34, 3), (16, .isub, 1), (17, .iconst 2, 1), (18, .if_icmp .le 5, 3), (21, .iconst (-1), 1), (22, .ireturn, 1), (23, .iconst 0, 1), (24, .istore_n 1, 1), (25, .aload_n 0, 1), (26, .getfield 34, 3), (29, .istore_n 2, 1), (30, .iload_n 2, 1), (31, .aload_n 0, 1), (32, .getfield 24, 3), (35, .if_icmp .ge 23, 3), (38, .bipush 10, 2), (40, .iload_n 1, 1), (41, .imul, 1), (42, .aload_n 0, 1), (43, .iload_n 2, 1), (44, .invokevirtual 99, 3), (47, .iadd, 1), (48, .bipush 48, 2), (50, .isub, 1), (51, .istore_n 1, 1), (52, .iinc 2 1, 3), (55, .goto (-25), 3), (58, .iload_n 1, 1), (59, .ireturn, 1)]
theorem ddX4_numberHere : dAll cX4_numberHere qX4_numberHere = true := by decide +kernel
def qX5_init : List (Nat × Instr × Nat) := [(0, .aload_n 0, 1), (1, .invokespecial 3, 3), (4, .aload_n 0, 1), (5, .new 9, 3), (8, .dup, 1), (9, .invokespecial 11, 3), (12, .putfield 12, 3), (15, .return_, 1)]
theorem ddX5_init : dAll cX5_init qX5_init = true := by decide +kernel
def qX5_start : List (Nat × Instr × Nat) := [(0, .aload_n 0, 1), (1, .getfield 12, 3), (4, .aload_n 1, 1), (5, .invokevirtual 18, 3), (8, .aload_n 0, 1), (9, .aload_n 2, 1), (10, .putfield 22, 3), (13, .aload_n 0, 1), (14, .aload_n 1, 1), (15, .invokevirtual 26, 3), (18, .putfield 30, 3), (21, .aload_n 0, 1), (22, .iconst 0, 1), (23, .putfield 34, 3), (26, .aload_n 0, 1), (27, .iconst 0, 1), (28, .putfield 37, 3), (31, .aload_n 0, 1), (32, .iconst 0, 1), (33, .putfield 40, 3), (36, .aload_n 0, 1), (37, .iconst 0, 1), (38, .putfield 43, 3), (41, .aload_n 0, 1), (42, .iconst 0, 1), (43, .putfield 46, 3), (46, .return_, 1)]
theorem ddX5_start : dAll cX5_start qX5_start = true := by decide +kernel
def qX5_become : List (Nat × Instr × Nat) := [(0, .aload_n 0, 1), (1, .getfield 12, 3), (4, .aload_n 1, 1), (5, .getfield 12, 3), (8, .invokevirtual 18, 3), (11, .aload_n 0, 1), (12, .aload_n 1, 1), (13, .getfield 22, 3), (16, .putfield 22, 3), (19, .aload_n 0, 1), (20, .aload_n 1, 1), (21, .getfield 30, 3), (24, .putfield 30, 3), (27, .aload_n 0, 1), (28, .aload_n 1, 1), (29, .getfield 34, 3), (32, .putfield 34, 3), (35, .aload_n 0, 1), (36, .aload_n 1, 1), (37, .getfield 37, 3), (40, .putfield 37, 3), (43, .aload_n 0, 1), (44, .aload_n 1, 1), (45, .getfield 40, 3), (48, .putfield 40, 3), (51, .aload_n 0, 1), (52, .aload_n 1, 1), (53, .getfield 43, 3), (56, .putfield 43, 3), (59, .aload_n 0, 1), (60, .aload_n 1, 1), (61, .getfield 46, 3), (64, .putfield 46, 3), (67, .return_, 1)]
theorem ddX5_become : dAll cX5_become qX5_become = true := by decide +kernel
def qX5_isUnderWay : List (Nat × Instr × Nat) := [(0, .aload_n 0, 1), (1, .getfield 22, 3), (4, .ifnull 7, 3), (7, .iconst 1, 1), (8, .goto 4, 3), (11, .iconst 0, 1), (12, .ireturn, 1)]
theorem ddX5_isUnderWay : dAll cX5_isUnderWay qX5_isUnderWay = true := by decide +kernel
def qX5_daysLeft : List (Nat × Instr × Nat) := [(0, .aload_n 0, 1), (1, .getfield 30, 3), (4, .ireturn, 1)]
theorem ddX5_daysLeft : dAll cX5_daysLeft qX5_daysLeft = true := by decide +kernel
def qX5_number : List (Nat × Instr × Nat) := [(0, .iload_n 1, 1), (1, .tableswitch 60 0 4 #[35, 40, 45, 50, 55], 35), (36, .aload_n 0, 1), (37, .getfield 30, 3), (40, .ireturn, 1), (41, .aload_n 0, 1), (42, .getfield 34, 3), (45, .ireturn, 1), (46, .aload_n 0, 1), (47, .getfield 37, 3), (50, .ireturn, 1), (51, .aload_n 0, 1), (52, .getfield 40, 3), (55, .ireturn, 1), (56, .aload_n 0, 1), (57, .getfield 43, 3), (60, .ireturn, 1), (61, .aload_n 0, 1), (62, .getfield 46, 3), (65, .ireturn, 1)]
theorem ddX5_number : dAll cX5_number qX5_number = true := by decide +kernel
def qX5_passDay : List (Nat × Instr × Nat) := [(0, .iconst 0, 1), (1, .istore_n 3, 1), (2, .aload_n 1, 1), (3, .iconst 4, 1), (4, .invokevirtual 49, 3), (7, .aload_n 0, 1), (8, .getfield 12, 3), (11, .iconst 3, 1), (12, .invokevirtual 55, 3), (15, .if_icmp .ge 7, 3), (18, .iconst 1, 1), (19, .goto 4, 3), (22, .iconst 0, 1), (23, .istore 4, 2), (25, .iload 4, 2), (27, .ifCond .ne 33, 3), (30, .aload_n 0, 1), (31, .getfield 22, 3), (34, .ifnull 26, 3), (37, .iload_n 3, 1), (38, .aload_n 0, 1), (39, .aload_n 2, 1), (40, .aload_n 0, 1), (41, .getfield 22, 3), (44, .aload_n 0, 1), (45, .getfield 30, 3), (48, .aload_n 0, 1), (49, .getfield 34, 3), (52, .invokevirtual 58, 3), (55, .invokevirtual 64, 3), (58, .iadd, 1), (59, .istore_n 3, 1), (60, .iload_n 3, 1), (61, .aload_n 0, 1), (62, .getfield 12, 3), (65, .aload_n 0, 1), (66, .getfield 34, 3), (69, .iconst 2, 1), (70, .invokevirtual 67, 3), (73, .iadd, 1), (74, .istore_n 3, 1), (75, .iconst 0, 1), (76, .istore 5, 2), (78, .iload 5, 2), (80, .aload_n 0, 1), (81, .getfield 12, 3), (84, .invokevirtual 71, 3), (87, .if_icmp .ge 36, 3), (90, .aload_n 1, 1), (91, .iconst 4, 1), (92, .invokevirtual 49, 3), (95, .aload_n 0, 1), (96, .getfield 12, 3), (99, .iload 5, 2), (101, .iconst 1, 1), (102, .invokevirtual 74, 3), (105, .if_icmp .ge 12, 3), (108, .iload_n 3, 1), (109, .aload_n 0, 1), (110, .iload 5, 2), (112, .invokevirtual 77, 3), (115, .iadd, 1), (116, .istore_n 3, 1), (117, .iinc 5 1, 3), (120, .goto (-42), 3), (123, .aload_n 0, 1), (124, .dup, 1), (125, .getfield 30, 3), (128, .iconst 1, 1), (129, .isub, 1), (130, .putfield 30, 3), (133, .aload_n 0, 1), (134, .getfield 30, 3), (137, .ifCond .ne 18, 3), (140, .iload_n 3, 1), (141, .aload_n 0, 1), (142, .getfield 12, 3), (145, .aload_n 0, 1), (146, .getfield 34, 3), (149, .iconst 4, 1), (150, .invokevirtual 67, 3), (153, .iadd, 1), (154, .istore_n 3, 1), (155, .aload_n 0, 1), (156, .dup, 1), (157, .getfield 37, 3), (160, .iload_n 3, 1), (161, .iadd, 1), (162, .putfield 37, 3), (165, .iload_n 3, 1), (166, .ireturn, 1)]
theorem ddX5_passDay : dAll cX5_passDay qX5_passDay = true := by decide +kernel
def qX5_send : List (Nat × Instr × Nat) := [(0, .iload_n 1, 1), (1, .ifCond .ne 5, 3), (4, .iconst 0, 1), (5, .ireturn, 1), (6, .aload_n 0, 1), (7, .dup, 1), (8, .getfield 34, 3), (11, .iload_n 1, 1), (12, .isub, 1), (13, .putfield 34, 3), (16, .aload_n 0, 1), (17, .dup, 1), (18, .getfield 40, 3), (21, .iconst 1, 1), (22, .iadd, 1), (23, .putfield 40, 3), (26, .iconst 0, 1), (27, .istore_n 2, 1), (28, .iload_n 2, 1), (29, .aload_n 0, 1), (30, .getfield 12, 3), (33, .invokevirtual 71, 3), (36, .if_icmp .ge 23, 3), (39, .aload_n 0, 1), (40, .dup, 1), (41, .getfield 43, 3), (44, .iload_n 1, 1), (45, .iload_n 2, 1), (46, .invokestatic 80, 3), (49, .iadd, 1), (50, .putfield 43, 3), (53, .iinc 2 1, 3), (56, .goto (-28), 3), (59, .aload_n 0, 1), (60, .getfield 12, 3), (63, .iconst 1, 1), (64, .invokevirtual 55, 3), (67, .ireturn, 1)]
theorem ddX5_send : dAll cX5_send qX5_send = true := by decide +kernel
def qX5_receive : List (Nat × Instr × Nat) := [(0, .aload_n 0, 1), (1, .getfield 34, 3), (4, .iload_n 1, 1), (5, .invokestatic 80, 3), (8, .iconst 4, 1), (9, .if_icmp .ge 18, 3), (12, .aload_n 0, 1), (13, .dup, 1), (14, .getfield 34, 3), (17, .iload_n 1, 1), (18, .invokestatic 83, 3), (21, .iadd, 1), (22, .putfield 34, 3), (25, .iconst 0, 1), (26, .ireturn, 1), (27, .aload_n 0, 1), (28, .dup, 1), (29, .getfield 46, 3), (32, .iconst 1, 1), (33, .iadd, 1), (34, .putfield 46, 3), (37, .aload_n 0, 1), (38, .getfield 12, 3), (41, .iload_n 1, 1), (42, .iconst 3, 1), (43, .invokevirtual 74, 3), (46, .ireturn, 1)]
theorem ddX5_receive : dAll cX5_receive qX5_receive = true := by decide +kernel
def qX6_init : List (Nat × Instr × Nat) := [(0, .aload_n 0, 1), (1, .invokespecial 3, 3), (4, .aload_n 0, 1), (5, .bipush 6, 2), (7, .anewarray 9, 3), (10, .putfield 11, 3), (13, .aload_n 0, 1), (14, .iconst 1, 1), (15, .putfield 17, 3), (18, .aload_n 0, 1), (19, .new 21, 3), (22, .dup, 1), (23, .invokespecial 23, 3), (26, .putfield 24, 3), (29, .iconst 0, 1), (30, .istore_n 1, 1), (31, .iload_n 1, 1), (32, .aload_n 0, 1), (33, .getfield 11, 3), (36, .arraylength, 1), (37, .if_icmp .ge 22, 3), (40, .aload_n 0, 1), (41, .getfield 11, 3), (44, .iload_n 1, 1), (45, .new 9, 3), (48, .dup, 1), (49, .invokespecial 28, 3), (52, .aastore, 1), (53, .iinc 1 1, 3), (56, .goto (-25), 3), (59, .return_, 1)]
theorem ddX6_init : dAll cX6_init qX6_init = true := by decide +kernel
def qX6_become : List (Nat × Instr × Nat) := [(0, .aload_n 0, 1), (1, .aload_n 1, 1), (2, .getfield 29, 3), (5, .putfield 29, 3), (8, .aload_n 0, 1), (9, .aload_n 1, 1), (10, .getfield 17, 3), (13, .putfield 17, 3), (16, .aload_n 0, 1), (17, .getfield 24, 3), (20, .aload_n 1, 1), (21, .getfield 24, 3), (24, .invokevirtual 32, 3), (27, .iconst 0, 1), (28, .istore_n 2, 1), (29, .iload_n 2, 1), (30, .aload_n 0, 1), (31, .getfield 11, 3), (34, .arraylength, 1), (35, .if_icmp .ge 51, 3), (38, .iload_n 2, 1), (39, .aload_n 1, 1), (40, .getfield 11, 3), (43, .arraylength, 1), (44, .if_icmp .ge 42, 3), (47, .aload_n 0, 1), (48, .getfield 11, 3), (51, .iload_n 2, 1), (52, .aaload, 1), (53, .ifnull 27, 3), (56, .aload_n 1, 1), (57, .getfield 11, 3), (60, .iload_n 2, 1), (61, .aaload, 1), (62, .ifnull 18, 3), (65, .aload_n 0, 1), (66, .getfield 11, 3), (69, .iload_n 2, 1), (70, .aaload, 1), (71, .aload_n 1, 1), (72, .getfield 11, 3), (75, .iload_n 2, 1), (76, .aaload, 1), (77, .invokevirtual 36, 3), (80, .iinc 2 1, 3), (83, .goto (-54), 3), (86, .return_, 1)]
theorem ddX6_become : dAll cX6_become qX6_become = true := by decide +kernel
def qX6_houseAt : List (Nat × Instr × Nat) := [(0, .iload_n 1, 1), (1, .ifCond .lt 29, 3), (4, .iload_n 1, 1), (5, .aload_n 0, 1), (6, .getfield 29, 3), (9, .if_icmp .ge 21, 3), (12, .iload_n 1, 1), (13, .aload_n 0, 1), (14, .getfield 11, 3), (17, .arraylength, 1), (18, .if_icmp .ge 12, 3), (21, .aload_n 0, 1), (22, .getfield 11, 3), (25, .iload_n 1, 1), (26, .aaload, 1), (27, .goto 4, 3), (30, .aconst_null, 1), (31, .areturn, 1)]
theorem ddX6_houseAt : dAll cX6_houseAt qX6_houseAt = true := by decide +kernel
def qX6_isFull : List (Nat × Instr × Nat) := [(0, .aload_n 0, 1), (1, .getfield 29, 3), (4, .aload_n 0, 1), (5, .getfield 11, 3), (8, .arraylength, 1), (9, .if_icmp .lt 7, 3), (12, .iconst 1, 1), (13, .goto 4, 3), (16, .iconst 0, 1), (17, .ireturn, 1)]
theorem ddX6_isFull : dAll cX6_isFull qX6_isFull = true := by decide +kernel
def qX6_add : List (Nat × Instr × Nat) := [(0, .aload_n 0, 1), (1, .getfield 29, 3), (4, .istore_n 2, 1), (5, .iload_n 2, 1), (6, .ifCond .lt 41, 3), (9, .iload_n 2, 1), (10, .aload_n 0, 1), (11, .getfield 11, 3), (14, .arraylength, 1), (15, .if_icmp .ge 32, 3), (18, .aload_n 0, 1), (19, .getfield 11, 3), (22, .iload_n 2, 1), (23, .aaload, 1), (24, .ifnull 23, 3), (27, .aload_n 0, 1), (28, .getfield 11, 3), (31, .iload_n 2, 1), (32, .aaload, 1), (33, .aload_n 1, 1), (34, .invokevirtual 36, 3), (37, .aload_n 0, 1), (38, .dup, 1), (39, .getfield 29, 3), (42, .iconst 1, 1), (43, .iadd, 1), (44, .putfield 29, 3), (47, .iload_n 2, 1), (48, .ireturn, 1)]
theorem ddX6_add : dAll cX6_add qX6_add = true := by decide +kernel
def qX6_changeSeed : List (Nat × Instr × Nat) := [(0, .aload_n 0, 1), (1, .getfield 17, 3), (4, .istore_n 2, 1), (5, .aload_n 0, 1), (6, .iload_n 1, 1), (7, .putfield 17, 3), (10, .iload_n 2, 1), (11, .ireturn, 1)]
theorem ddX6_changeSeed : dAll cX6_changeSeed qX6_changeSeed = true := by decide +kernel
def qX6_draw : List (Nat × Instr × Nat) := [(0, .aload_n 0, 1), (1, .aload_n 0, 1), (2, .getfield 17, 3), (5, .ldc 39, 2), (7, .imul, 1), (8, .sipush 12345, 3), (11, .iadd, 1), (12, .putfield 17, 3), (15, .iload_n 1, 1), (16, .ifCond .le 15, 3), (19, .aload_n 0, 1), (20, .getfield 17, 3), (23, .bipush 16, 2), (25, .iushr, 1), (26, .iload_n 1, 1), (27, .irem, 1), (28, .goto 4, 3), (31, .iconst 0, 1), (32, .ireturn, 1)]
theorem ddX6_draw : dAll cX6_draw qX6_draw = true := by decide +kernel
def qX7_init : List (Nat × Instr × Nat) := [(0, .aload_n 0, 1), (1, .invokespecial 1, 3), (4, .aload_n 0, 1), (5, .new 7, 3), (8, .dup, 1), (9, .invokespecial 9, 3), (12, .putfield 10, 3), (15, .aload_n 0, 1), (16, .new 7, 3), (19, .dup, 1), (20, .invokespecial 9, 3), (23, .putfield 16, 3), (26, .aload_n 0, 1), (27, .new 19, 3), (30, .dup, 1), (31, .invokespecial 21, 3), (34, .putfield 22, 3), (37, .aload_n 0, 1), (38, .bipush 8, 2), (40, .anewarray 26, 3), (43, .putfield 28, 3), (46, .aload_n 0, 1), (47, .bipush 8, 2), (49, .anewarray 32, 3), (52, .putfield 34, 3), (55, .aload_n 0, 1), (56, .iconst 5, 1), (57, .newarray .int, 2), (59, .putfield 38, 3), (62, .aload_n 0, 1), (63, .bipush 6, 2), (65, .anewarray 42, 3), (68, .putfield 44, 3), (71, .aload_n 0, 1), (72, .new 42, 3), (75, .dup, 1), (76, .invokespecial 48, 3), (79, .putfield 49, 3), (82, .aload_n 0, 1), (83, .new 42, 3), (86, .dup, 1), (87, .invokespecial 48, 3), (90, .putfield 53, 3), (93, .aload_n 0, 1), (94, .new 56, 3), (97, .dup, 1), (98, .invokespecial 58, 3), (101, .putfield 59, 3), (104, .aload_n 0, 1), (105, .new 63, 3), (108, .dup, 1), (109, .invokespecial 65, 3), (112, .putfield 66, 3), (115, .iconst 0, 1), (116, .istore_n 1, 1), (117, .iload_n 1, 1), (118, .aload_n 0, 1), (119, .getfield 44, 3), (122, .arraylength, 1), (123, .if_icmp .ge 22, 3), (126, .aload_n 0, 1), (127, .getfield 44, 3), (130, .iload_n 1, 1), (131, .new 42, 3), (134, .dup, 1), (135, .invokespecial 48, 3), (138, .aastore, 1), (139, .iinc 1 1, 3), (142, .goto (-25), 3), (145, .return_, 1)]
theorem ddX7_init : dAll cX7_init qX7_init = true := by decide +kernel
def qX7_row : List (Nat × Instr × Nat) := [(0, .iload_n 1, 1), (1, .invokestatic 70, 3), (4, .ifCond .eq 22, 3), (7, .iload_n 2, 1), (8, .ifCond .lt 18, 3), (11, .iload_n 2, 1), (12, .iconst 4, 1), (13, .if_icmp .gt 13, 3), (16, .iload_n 3, 1), (17, .ifCond .lt 9, 3), (20, .iload_n 3, 1), (21, .bipush 125, 2), (23, .if_icmp .le 10, 3), (26, .aload_n 0, 1), (27, .bipush (-2), 2), (29, .invokevirtual 74, 3), (32, .ireturn, 1), (33, .aload_n 0, 1), (34, .iload_n 1, 1), (35, .new 26, 3), (38, .dup, 1), (39, .iload_n 2, 1), (40, .iload_n 3, 1), (41, .invokespecial 78, 3), (44, .aconst_null, 1), (45, .invokevirtual 81, 3), (48, .iconst 1, 1), (49, .ireturn, 1)]
theorem ddX7_row : dAll cX7_row qX7_row = true := by decide +kernel
def qX7_set : List (Nat × Instr × Nat) := [(0, .iload_n 1, 1), (1, .invokestatic 70, 3), (4, .ifCond .ne 10, 3), (7, .aload_n 0, 1), (8, .bipush (-2), 2), (10, .invokevirtual 74, 3), (13, .ireturn, 1), (14, .aload_n 0, 1), (15, .iload_n 1, 1), (16, .invokevirtual 85, 3), (19, .astore 5, 2), (21, .aload 5, 2), (23, .ifnonnull 13, 3), (26, .aload_n 0, 1), (27, .aload_n 0, 1), (28, .iload_n 1, 1), (29, .invokevirtual 89, 3), (32, .invokevirtual 74, 3), (35, .ireturn, 1), (36, .aload 5, 2), (38, .iload_n 2, 1), (39, .invokevirtual 92, 3), (42, .ifCond .ne 10, 3), (45, .aload_n 0, 1), (46, .bipush (-2), 2), (48, .invokevirtual 74, 3), (51, .ireturn, 1), (52, .aload 5, 2), (54, .iload_n 2, 1), (55, .lload_n 3, 1), (56, .invokevirtual 95, 3), (59, .iconst 1, 1), (60, .ireturn, 1)]
theorem ddX7_set : dAll cX7_set qX7_set = true := by decide +kernel
def qX7_copy : List (Nat × Instr × Nat) := [(0, .iload_n 1, 1), (1, .invokestatic 70, 3), (4, .ifCond .eq 10, 3), (7, .iload_n 2, 1), (8, .invokestatic 70, 3), (11, .ifCond .ne 10, 3), (14, .aload_n 0, 1), (15, .bipush (-2), 2), (17, .invokevirtual 74, 3), (20, .ireturn, 1), (21, .aload_n 0, 1), (22, .iload_n 1, 1), (23, .invokevirtual 99, 3), (26, .ifnonnull 11, 3), (29, .aload_n 0, 1), (30, .iload_n 2, 1), (31, .invokevirtual 99, 3), (34, .ifnull 10, 3), (37, .aload_n 0, 1), (38, .bipush (-3), 2), (40, .invokevirtual 74, 3), (43, .ireturn, 1), (44, .aload_n 0, 1), (45, .iload_n 1, 1), (46, .invokevirtual 85, 3), (49, .astore 6, 2), (51, .aload_n 0, 1), (52, .iload_n 2, 1), (53, .invokevirtual 85, 3), (56, .astore 7, 2), (58, .aload 6, 2), (60, .ifnull 8, 3), (63, .aload 7, 2), (65, .ifnonnull 10, 3), (68, .aload_n 0, 1), (69, .bipush (-4), 2), (71, .invokevirtual 74, 3), (74, .ireturn, 1), (75, .aload 6, 2), (77, .getfield 103, 3), (80, .aload 7, 2), (82, .getfield 103, 3), (85, .if_icmp .eq 10, 3), (88, .aload_n 0, 1), (89, .bipush (-3), 2), (91, .invokevirtual 74, 3), (94, .ireturn, 1), (95, .aload 6, 2), (97, .iload_n 3, 1), (98, .iload 5, 2), (100, .invokevirtual 107, 3), (103, .ifCond .eq 15, 3), (106, .aload 7, 2), (108, .iload 4, 2), (110, .iload 5, 2), (112, .invokevirtual 107, 3), (115, .ifCond .ne 10, 3), (118, .aload_n 0, 1), (119, .bipush (-2), 2), (121, .invokevirtual 74, 3), (124, .ireturn, 1), (125, .aload 7, 2), (127, .aload 6, 2), (129, .iload_n 3, 1), (130, .iload 4, 2), (132, .iload 5, 2), (134, .invokevirtual 111, 3), (137, .iload 5, 2), (139, .ireturn, 1)]
theorem ddX7_copy : dAll cX7_copy qX7_copy = true := by decide +kernel
def qX7_element : List (Nat × Instr × Nat) := [(0, .aload_n 0, 1), (1, .iload_n 1, 1), (2, .invokevirtual 85, 3), (5, .astore_n 3, 1), (6, .aload_n 3, 1), (7, .ifnonnull 7, 3), (10, .lconst 0, 1), (11, .goto 8, 3), (14, .aload_n 3, 1), (15, .iload_n 2, 1), (16, .invokevirtual 115, 3), (19, .lreturn, 1)]
theorem ddX7_element : dAll cX7_element qX7_element = true := by decide +kernel
def qX7_holds : List (Nat × Instr × Nat) := [(0, .aload_n 0, 1), (1, .iload_n 1, 1), (2, .invokevirtual 85, 3), (5, .astore_n 2, 1), (6, .aload_n 2, 1), (7, .ifnull 8, 3), (10, .aload_n 2, 1), (11, .getfield 103, 3), (14, .ireturn, 1), (15, .aload_n 0, 1), (16, .iload_n 1, 1), (17, .invokevirtual 99, 3), (20, .astore_n 3, 1), (21, .aload_n 3, 1), (22, .ifnonnull 7, 3), (25, .iconst (-1), 1), (26, .goto 10, 3), (29, .bipush 10, 2), (31, .aload_n 3, 1), (32, .getfield 119, 3), (35, .iadd, 1), (36, .ireturn, 1)]
theorem ddX7_holds : dAll cX7_holds qX7_holds = true := by decide +kernel
def qX7_rule : List (Nat × Instr × Nat) := [(0, .iload_n 1, 1), (1, .invokestatic 70, 3), (4, .ifCond .eq 11, 3), (7, .iload_n 2, 1), (8, .iload_n 3, 1), (9, .invokestatic 122, 3), (12, .ifCond .ne 10, 3), (15, .aload_n 0, 1), (16, .bipush (-2), 2), (18, .invokevirtual 74, 3), (21, .ireturn, 1), (22, .aconst_null, 1), (23, .astore 4, 2), (25, .iload_n 2, 1), (26, .iconst 5, 1), (27, .if_icmp .ne 25, 3), (30, .aload_n 0, 1), (31, .iload_n 3, 1), (32, .invokevirtual 85, 3), (35, .astore 4, 2), (37, .aload 4, 2), (39, .ifnonnull 13, 3), (42, .aload_n 0, 1), (43, .aload_n 0, 1), (44, .iload_n 3, 1), (45, .invokevirtual 89, 3), (48, .invokevirtual 74, 3), (51, .ireturn, 1), (52, .aload_n 0, 1), (53, .iload_n 1, 1), (54, .aconst_null, 1), (55, .new 32, 3), (58, .dup, 1), (59, .iload_n 2, 1), (60, .iload_n 3, 1), (61, .aload 4, 2), (63, .invokespecial 125, 3), (66, .invokevirtual 81, 3), (69, .iconst 1, 1), (70, .ireturn, 1)]
theorem ddX7_rule : dAll cX7_rule qX7_rule = true := by decide +kernel
def qX7_says : List (Nat × Instr × Nat) := [(0, .iload_n 1, 1), (1, .invokestatic 70, 3), (4, .ifCond .eq 12, 3), (7, .iload_n 2, 1), (8, .ifCond .lt 8, 3), (11, .iload_n 2, 1), (12, .iconst 5, 1), (13, .if_icmp .le 10, 3), (16, .aload_n 0, 1), (17, .bipush (-2), 2), (19, .invokevirtual 74, 3), (22, .ireturn, 1), (23, .aload_n 0, 1), (24, .iload_n 1, 1), (25, .invokevirtual 99, 3), (28, .astore_n 3, 1), (29, .aload_n 3, 1), (30, .ifnonnull 13, 3), (33, .aload_n 0, 1), (34, .aload_n 0, 1), (35, .iload_n 1, 1), (36, .invokevirtual 89, 3), (39, .invokevirtual 74, 3), (42, .ireturn, 1), (43, .aload_n 3, 1), (44, .iload_n 2, 1), (45, .invokevirtual 128, 3), (48, .ifCond .eq 11, 3), (51, .aload_n 3, 1), (52, .iload_n 2, 1), (53, .invokevirtual 131, 3), (56, .goto 9, 3), (59, .aload_n 0, 1), (60, .bipush (-3), 2), (62, .invokevirtual 74, 3), (65, .ireturn, 1)]
theorem ddX7_says : dAll cX7_says qX7_says = true := by decide +kernel
def qX7_feed : List (Nat × Instr × Nat) := [(0, .iload_n 2, 1), (1, .iconst 1, 1), (2, .if_icmp .lt 8, 3), (5, .iload_n 2, 1), (6, .iconst 4, 1), (7, .if_icmp .le 10, 3), (10, .aload_n 0, 1), (11, .bipush (-2), 2), (13, .invokevirtual 74, 3), (16, .ireturn, 1), (17, .aload_n 0, 1), (18, .getfield 22, 3), (21, .iload_n 2, 1), (22, .invokevirtual 134, 3), (25, .ifCond .eq 15, 3), (28, .aload_n 0, 1), (29, .getfield 22, 3), (32, .iload_n 1, 1), (33, .iload_n 2, 1), (34, .invokevirtual 137, 3), (37, .goto 9, 3), (40, .aload_n 0, 1), (41, .bipush (-6), 2), (43, .invokevirtual 74, 3), (46, .ireturn, 1)]
theorem ddX7_feed : dAll cX7_feed qX7_feed = true := by decide +kernel
def qX7_wipe : List (Nat × Instr × Nat) := [(0, .aload_n 0, 1), (1, .getfield 22, 3), (4, .invokevirtual 141, 3), (7, .ireturn, 1)]
theorem ddX7_wipe : dAll cX7_wipe qX7_wipe = true := by decide +kernel
def qX7_house : List (Nat × Instr × Nat) := [(0, .aload_n 0, 1), (1, .getfield 10, 3), (4, .invokevirtual 145, 3), (7, .ifCond .eq 10, 3), (10, .aload_n 0, 1), (11, .bipush (-6), 2), (13, .invokevirtual 74, 3), (16, .ireturn, 1), (17, .aload_n 0, 1), (18, .getfield 22, 3), (21, .aload_n 0, 1), (22, .getfield 59, 3), (25, .invokevirtual 149, 3), (28, .istore_n 1, 1), (29, .aload_n 0, 1), (30, .getfield 22, 3), (33, .invokevirtual 141, 3), (36, .pop, 1), (37, .iload_n 1, 1), (38, .iconst (-1), 1), (39, .if_icmp .ne 15, 3), (42, .aload_n 0, 1), (43, .getfield 10, 3), (46, .aload_n 0, 1), (47, .getfield 59, 3), (50, .invokevirtual 153, 3), (53, .ireturn, 1), (54, .aload_n 0, 1), (55, .bipush (-2), 2), (57, .invokevirtual 74, 3), (60, .pop, 1), (61, .bipush (-20), 2), (63, .iload_n 1, 1), (64, .isub, 1), (65, .ireturn, 1)]
theorem ddX7_house : dAll cX7_house qX7_house = true := by decide +kernel
def qX7_houseOf : List (Nat × Instr × Nat) := [(0, .aload_n 0, 1), (1, .getfield 10, 3), (4, .iload_n 1, 1), (5, .invokevirtual 156, 3), (8, .astore_n 3, 1), (9, .aload_n 3, 1), (10, .ifnull 12, 3), (13, .iload_n 2, 1), (14, .ifCond .lt 8, 3), (17, .iload_n 2, 1), (18, .iconst 5, 1), (19, .if_icmp .lt 10, 3), (22, .aload_n 0, 1), (23, .bipush (-2), 2), (25, .invokevirtual 74, 3), (28, .ireturn, 1), (29, .aload_n 3, 1), (30, .iload_n 2, 1), (31, .invokevirtual 160, 3), (34, .ireturn, 1)]
theorem ddX7_houseOf : dAll cX7_houseOf qX7_houseOf = true := by decide +kernel
def qX7_sortOf : List (Nat × Instr × Nat) := [(0, .aload_n 0, 1), (1, .getfield 10, 3), (4, .iload_n 1, 1), (5, .invokevirtual 156, 3), (8, .astore 4, 2), (10, .aload 4, 2), (12, .ifnull 21, 3), (15, .aload 4, 2), (17, .iload_n 2, 1), (18, .invokevirtual 163, 3), (21, .ifCond .eq 12, 3), (24, .iload_n 3, 1), (25, .ifCond .lt 8, 3), (28, .iload_n 3, 1), (29, .iconst 5, 1), (30, .if_icmp .lt 10, 3), (33, .aload_n 0, 1), (34, .bipush (-2), 2), (36, .invokevirtual 74, 3), (39, .ireturn, 1), (40, .aload 4, 2), (42, .iload_n 2, 1), (43, .iload_n 3, 1), (44, .invokevirtual 166, 3), (47, .ireturn, 1)]
theorem ddX7_sortOf : dAll cX7_sortOf qX7_sortOf = true := by decide +kernel
def qX7_alter : List (Nat × Instr × Nat) := [(0, .aload_n 0, 1), (1, .getfield 10, 3), (4, .iload_n 1, 1), (5, .invokevirtual 156, 3), (8, .astore 4, 2), (10, .iconst 1, 1), (11, .iload_n 2, 1), (12, .iadd, 1), (13, .istore 5, 2), (15, .aload 4, 2), (17, .ifnull 21, 3), (20, .iload_n 2, 1), (21, .ifCond .lt 17, 3), (24, .iload_n 2, 1), (25, .iconst 2, 1), (26, .if_icmp .gt 12, 3), (29, .iload 5, 2), (31, .iload_n 3, 1), (32, .invokestatic 169, 3), (35, .ifCond .ne 10, 3), (38, .aload_n 0, 1), (39, .bipush (-2), 2), (41, .invokevirtual 74, 3), (44, .ireturn, 1), (45, .aload 4, 2), (47, .iload 5, 2), (49, .invokevirtual 160, 3), (52, .istore 6, 2), (54, .aload 4, 2), (56, .iload 5, 2), (58, .iload_n 3, 1), (59, .invokevirtual 170, 3), (62, .iload 6, 2), (64, .ireturn, 1)]
theorem ddX7_alter : dAll cX7_alter qX7_alter = true := by decide +kernel
def qX7_change : List (Nat × Instr × Nat) := [(0, .aload_n 0, 1), (1, .getfield 10, 3), (4, .iload_n 1, 1), (5, .invokevirtual 156, 3), (8, .astore 5, 2), (10, .iconst 1, 1), (11, .iload_n 3, 1), (12, .iadd, 1), (13, .istore 6, 2), (15, .aload 5, 2), (17, .ifnull 31, 3), (20, .aload 5, 2), (22, .iload_n 2, 1), (23, .invokevirtual 163, 3), (26, .ifCond .eq 22, 3), (29, .iload_n 3, 1), (30, .ifCond .lt 18, 3), (33, .iload_n 3, 1), (34, .iconst 3, 1), (35, .if_icmp .gt 13, 3), (38, .iload 6, 2), (40, .iload 4, 2), (42, .invokestatic 173, 3), (45, .ifCond .ne 10, 3), (48, .aload_n 0, 1), (49, .bipush (-2), 2), (51, .invokevirtual 74, 3), (54, .ireturn, 1), (55, .aload 5, 2), (57, .iload_n 2, 1), (58, .iload 6, 2), (60, .invokevirtual 166, 3), (63, .istore 7, 2), (65, .aload 5, 2), (67, .iload_n 2, 1), (68, .iload 6, 2), (70, .iload 4, 2), (72, .invokevirtual 176, 3), (75, .iload 7, 2), (77, .ireturn, 1)]
theorem ddX7_change : dAll cX7_change qX7_change = true := by decide +kernel
def qX7_of : List (Nat × Instr × Nat) := [(0, .iload_n 1, 1), (1, .ifCond .lt 18, 3), (4, .iload_n 1, 1), (5, .bipush 125, 2), (7, .if_icmp .ge 12, 3), (10, .iload_n 2, 1), (11, .ifCond .lt 8, 3), (14, .iload_n 2, 1), (15, .iconst 3, 1), (16, .if_icmp .lt 10, 3), (19, .aload_n 0, 1), (20, .bipush (-2), 2), (22, .invokevirtual 74, 3), (25, .ireturn, 1), (26, .iload_n 1, 1), (27, .iload_n 2, 1), (28, .invokestatic 180, 3), (31, .ireturn, 1)]
theorem ddX7_of : dAll cX7_of qX7_of = true := by decide +kernel
def qX7_space : List (Nat × Instr × Nat) := [(0, .aload_n 0, 1), (1, .iload_n 1, 1), (2, .invokevirtual 183, 3), (5, .astore_n 3, 1), (6, .aload_n 3, 1), (7, .ifnull 11, 3), (10, .aload_n 3, 1), (11, .iload_n 2, 1), (12, .invokevirtual 187, 3), (15, .ifCond .ne 10, 3), (18, .aload_n 0, 1), (19, .bipush (-2), 2), (21, .invokevirtual 74, 3), (24, .ireturn, 1), (25, .aload_n 3, 1), (26, .iload_n 2, 1), (27, .invokevirtual 190, 3), (30, .ireturn, 1)]
theorem ddX7_space : dAll cX7_space qX7_space = true := by decide +kernel
def qX7_scale : List (Nat × Instr × Nat) := [(0, .aload_n 0, 1), (1, .getfield 10, 3), (4, .iload_n 1, 1), (5, .invokevirtual 156, 3), (8, .astore_n 3, 1), (9, .aload_n 3, 1), (10, .ifnull 15, 3), (13, .iload_n 2, 1), (14, .ifCond .lt 11, 3), (17, .iload_n 2, 1), (18, .aload_n 3, 1), (19, .invokevirtual 193, 3), (22, .if_icmp .le 11, 3), (25, .aload_n 0, 1), (26, .bipush (-2), 2), (28, .invokevirtual 74, 3), (31, .i2l, 1), (32, .lreturn, 1), (33, .iload_n 2, 1), (34, .aload_n 3, 1), (35, .invokevirtual 196, 3), (38, .invokestatic 199, 3), (41, .lreturn, 1)]
theorem ddX7_scale : dAll cX7_scale qX7_scale = true := by decide +kernel
def qX7_cost : List (Nat × Instr × Nat) := [(0, .aload_n 0, 1), (1, .iload_n 1, 1), (2, .invokevirtual 183, 3), (5, .astore 4, 2), (7, .aload 4, 2), (9, .ifnull 13, 3), (12, .aload 4, 2), (14, .iload_n 2, 1), (15, .iload_n 3, 1), (16, .invokevirtual 203, 3), (19, .ifCond .ne 11, 3), (22, .aload_n 0, 1), (23, .bipush (-2), 2), (25, .invokevirtual 74, 3), (28, .i2l, 1), (29, .lreturn, 1), (30, .aload 4, 2), (32, .iload_n 2, 1), (33, .iload_n 3, 1), (34, .invokevirtual 205, 3), (37, .lreturn, 1)]
theorem ddX7_cost : dAll cX7_cost qX7_cost = true := by decide +kernel
def qX7_best : List (Nat × Instr × Nat) := [(0, .aload_n 0, 1), (1, .iload_n 1, 1), (2, .invokevirtual 183, 3), (5, .astore 4, 2), (7, .aload 4, 2), (9, .ifnull 13, 3), (12, .aload 4, 2), (14, .iload_n 2, 1), (15, .iload_n 3, 1), (16, .invokevirtual 208, 3), (19, .ifCond .ne 10, 3), (22, .aload_n 0, 1), (23, .bipush (-2), 2), (25, .invokevirtual 74, 3), (28, .ireturn, 1), (29, .aload 4, 2), (31, .iload_n 2, 1), (32, .iload_n 3, 1), (33, .invokevirtual 211, 3), (36, .ireturn, 1)]
theorem ddX7_best : dAll cX7_best qX7_best = true := by decide +kernel
def qX7_fill : List (Nat × Instr × Nat) := [(0, .aload_n 0, 1), (1, .iload_n 1, 1), (2, .invokevirtual 183, 3), (5, .astore_n 3, 1), (6, .aload_n 3, 1), (7, .ifnull 11, 3), (10, .aload_n 3, 1), (11, .iload_n 2, 1), (12, .invokevirtual 187, 3), (15, .ifCond .ne 10, 3), (18, .aload_n 0, 1), (19, .bipush (-2), 2), (21, .invokevirtual 74, 3), (24, .ireturn, 1), (25, .aload_n 3, 1), (26, .iload_n 2, 1), (27, .invokevirtual 214, 3), (30, .ireturn, 1)]
theorem ddX7_fill : dAll cX7_fill qX7_fill = true := by decide +kernel
def qX7_waits : List (Nat × Instr × Nat) := [(0, .aload_n 0, 1), (1, .iload_n 1, 1), (2, .invokevirtual 183, 3), (5, .astore 4, 2), (7, .aload 4, 2), (9, .ifnull 13, 3), (12, .aload 4, 2), (14, .iload_n 2, 1), (15, .iload_n 3, 1), (16, .invokevirtual 208, 3), (19, .ifCond .ne 11, 3), (22, .aload_n 0, 1), (23, .bipush (-2), 2), (25, .invokevirtual 74, 3), (28, .i2l, 1), (29, .lreturn, 1), (30, .aload 4, 2), (32, .iload_n 2, 1), (33, .iload_n 3, 1), (34, .iconst 0, 1), (35, .invokevirtual 217, 3), (38, .aload 4, 2), (40, .iload_n 2, 1), (41, .iload_n 3, 1), (42, .invokevirtual 205, 3), (45, .lsub, 1), (46, .lreturn, 1)]
theorem ddX7_waits : dAll cX7_waits qX7_waits = true := by decide +kernel
def qX7_once : List (Nat × Instr × Nat) := [(0, .aload_n 0, 1), (1, .iload_n 1, 1), (2, .invokevirtual 183, 3), (5, .astore 4, 2), (7, .aload 4, 2), (9, .ifnull 13, 3), (12, .aload 4, 2), (14, .iload_n 2, 1), (15, .iload_n 3, 1), (16, .invokevirtual 208, 3), (19, .ifCond .ne 11, 3), (22, .aload_n 0, 1), (23, .bipush (-2), 2), (25, .invokevirtual 74, 3), (28, .i2l, 1), (29, .lreturn, 1), (30, .aload 4, 2), (32, .iload_n 2, 1), (33, .iload_n 3, 1), (34, .aload 4, 2), (36, .iload_n 3, 1), (37, .invokevirtual 214, 3), (40, .invokevirtual 217, 3), (43, .aload 4, 2), (45, .iload_n 2, 1), (46, .iload_n 3, 1), (47, .invokevirtual 205, 3), (50, .lsub, 1), (51, .lreturn, 1)]
theorem ddX7_once : dAll cX7_once qX7_once = true := by decide +kernel
def qX7_dear : List (Nat × Instr × Nat) := [(0, .aload_n 0, 1), (1, .iload_n 1, 1), (2, .invokevirtual 183, 3), (5, .astore 5, 2), (7, .aload 5, 2), (9, .ifnull 33, 3), (12, .aload 5, 2), (14, .iload_n 2, 1), (15, .iload_n 3, 1), (16, .invokevirtual 203, 3), (19, .ifCond .eq 23, 3), (22, .aload 5, 2), (24, .iload 4, 2), (26, .invokevirtual 221, 3), (29, .ifCond .eq 13, 3), (32, .iload_n 3, 1), (33, .iload 4, 2), (35, .invokestatic 180, 3), (38, .iconst 4, 1), (39, .if_icmp .lt 11, 3), (42, .aload_n 0, 1), (43, .bipush (-2), 2), (45, .invokevirtual 74, 3), (48, .i2l, 1), (49, .lreturn, 1), (50, .aload 5, 2), (52, .iload_n 2, 1), (53, .iload_n 3, 1), (54, .iload 4, 2), (56, .invokestatic 222, 3), (59, .iadd, 1), (60, .invokevirtual 205, 3), (63, .aload 5, 2), (65, .iload_n 2, 1), (66, .iload_n 3, 1), (67, .invokevirtual 205, 3), (70, .lsub, 1), (71, .lreturn, 1)]
theorem ddX7_dear : dAll cX7_dear qX7_dear = true := by decide +kernel
def qX7_promise : List (Nat × Instr × Nat) := [(0, .aload_n 0, 1), (1, .iload_n 1, 1), (2, .invokevirtual 183, 3), (5, .astore_n 3, 1), (6, .aload_n 3, 1), (7, .ifnull 12, 3), (10, .aload_n 3, 1), (11, .iload_n 2, 1), (12, .iconst 0, 1), (13, .invokevirtual 208, 3), (16, .ifCond .ne 11, 3), (19, .aload_n 0, 1), (20, .bipush (-2), 2), (22, .invokevirtual 74, 3), (25, .i2l, 1), (26, .lreturn, 1), (27, .aload_n 3, 1), (28, .iload_n 2, 1), (29, .invokevirtual 225, 3), (32, .aload_n 3, 1), (33, .aload_n 3, 1), (34, .getfield 228, 3), (37, .iconst 0, 1), (38, .invokevirtual 205, 3), (41, .lsub, 1), (42, .lreturn, 1)]
theorem ddX7_promise : dAll cX7_promise qX7_promise = true := by decide +kernel
def qX7_shape : List (Nat × Instr × Nat) := [(0, .aload_n 0, 1), (1, .iload_n 1, 1), (2, .invokevirtual 183, 3), (5, .astore_n 3, 1), (6, .aload_n 3, 1), (7, .ifnull 12, 3), (10, .aload_n 3, 1), (11, .iload_n 2, 1), (12, .iconst 0, 1), (13, .invokevirtual 208, 3), (16, .ifCond .ne 10, 3), (19, .aload_n 0, 1), (20, .bipush (-2), 2), (22, .invokevirtual 74, 3), (25, .ireturn, 1), (26, .aload_n 3, 1), (27, .iload_n 2, 1), (28, .invokevirtual 230, 3), (31, .ireturn, 1)]
theorem ddX7_shape : dAll cX7_shape qX7_shape = true := by decide +kernel
def qX7_odd : List (Nat × Instr × Nat) := [(0, .aload_n 0, 1), (1, .iload_n 1, 1), (2, .invokevirtual 183, 3), (5, .astore_n 3, 1), (6, .aload_n 3, 1), (7, .ifnull 12, 3), (10, .aload_n 3, 1), (11, .iload_n 2, 1), (12, .iconst 0, 1), (13, .invokevirtual 208, 3), (16, .ifCond .ne 10, 3), (19, .aload_n 0, 1), (20, .bipush (-2), 2), (22, .invokevirtual 74, 3), (25, .ireturn, 1), (26, .aload_n 3, 1), (27, .iload_n 2, 1), (28, .invokevirtual 233, 3), (31, .ireturn, 1)]
theorem ddX7_odd : dAll cX7_odd qX7_odd = true := by decide +kernel
def qX7_judge : List (Nat × Instr × Nat) := [(0, .aload_n 0, 1), (1, .iload_n 1, 1), (2, .invokevirtual 183, 3), (5, .astore 4, 2), (7, .aload 4, 2), (9, .ifnull 19, 3), (12, .aload 4, 2), (14, .iload_n 2, 1), (15, .invokevirtual 187, 3), (18, .ifCond .eq 10, 3), (21, .iload_n 3, 1), (22, .invokestatic 70, 3), (25, .ifCond .ne 10, 3), (28, .aload_n 0, 1), (29, .bipush (-2), 2), (31, .invokevirtual 74, 3), (34, .ireturn, 1), (35, .aload_n 0, 1), (36, .iload_n 3, 1), (37, .invokevirtual 85, 3), (40, .astore 5, 2), (42, .aload 5, 2), (44, .ifnonnull 13, 3), (47, .aload_n 0, 1), (48, .aload_n 0, 1), (49, .iload_n 3, 1), (50, .invokevirtual 89, 3), (53, .invokevirtual 74, 3), (56, .ireturn, 1), (57, .aload 5, 2), (59, .invokevirtual 236, 3), (62, .aload 4, 2), (64, .getfield 239, 3), (67, .if_icmp .ge 12, 3), (70, .aload_n 0, 1), (71, .bipush (-2), 2), (73, .invokevirtual 74, 3), (76, .goto 11, 3), (79, .aload 4, 2), (81, .aload 5, 2), (83, .iload_n 2, 1), (84, .invokevirtual 241, 3), (87, .ireturn, 1)]
theorem ddX7_judge : dAll cX7_judge qX7_judge = true := by decide +kernel
def qX7_load : List (Nat × Instr × Nat) := [(0, .aload_n 0, 1), (1, .iload_n 1, 1), (2, .invokevirtual 183, 3), (5, .astore 5, 2), (7, .aload 5, 2), (9, .ifnull 21, 3), (12, .aload 5, 2), (14, .iload_n 2, 1), (15, .iload_n 3, 1), (16, .invokevirtual 208, 3), (19, .ifCond .eq 11, 3), (22, .iload 4, 2), (24, .invokestatic 70, 3), (27, .ifCond .ne 10, 3), (30, .aload_n 0, 1), (31, .bipush (-2), 2), (33, .invokevirtual 74, 3), (36, .ireturn, 1), (37, .aload_n 0, 1), (38, .aload 5, 2), (40, .iload 4, 2), (42, .invokevirtual 245, 3), (45, .astore 6, 2), (47, .aload 6, 2), (49, .ifnonnull 16, 3), (52, .aload_n 0, 1), (53, .aload_n 0, 1), (54, .iload 4, 2), (56, .invokevirtual 89, 3), (59, .invokevirtual 74, 3), (62, .goto 12, 3), (65, .aload 5, 2), (67, .aload 6, 2), (69, .iload_n 2, 1), (70, .iload_n 3, 1), (71, .invokevirtual 249, 3), (74, .ireturn, 1)]
theorem ddX7_load : dAll cX7_load qX7_load = true := by decide +kernel
def qX7_mean : List (Nat × Instr × Nat) := [(0, .aload_n 0, 1), (1, .iload_n 1, 1), (2, .invokevirtual 183, 3), (5, .astore 5, 2), (7, .aload 5, 2), (9, .ifnull 21, 3), (12, .aload 5, 2), (14, .iload_n 2, 1), (15, .iload_n 3, 1), (16, .invokevirtual 203, 3), (19, .ifCond .eq 11, 3), (22, .iload 4, 2), (24, .invokestatic 70, 3), (27, .ifCond .ne 11, 3), (30, .aload_n 0, 1), (31, .bipush (-2), 2), (33, .invokevirtual 74, 3), (36, .i2l, 1), (37, .lreturn, 1), (38, .aload_n 0, 1), (39, .aload 5, 2), (41, .iload 4, 2), (43, .invokevirtual 245, 3), (46, .astore 6, 2), (48, .aload 6, 2), (50, .ifnonnull 17, 3), (53, .aload_n 0, 1), (54, .aload_n 0, 1), (55, .iload 4, 2), (57, .invokevirtual 89, 3), (60, .invokevirtual 74, 3), (63, .i2l, 1), (64, .goto 12, 3), (67, .aload 5, 2), (69, .aload 6, 2), (71, .iload_n 2, 1), (72, .iload_n 3, 1), (73, .invokevirtual 253, 3), (76, .lreturn, 1)]
theorem ddX7_mean : dAll cX7_mean qX7_mean = true := by decide +kernel
def qX7_lose : List (Nat × Instr × Nat) := [(0, .aload_n 0, 1), (1, .iload_n 1, 1), (2, .invokevirtual 183, 3), (5, .astore 5, 2), (7, .aload 5, 2), (9, .ifnull 21, 3), (12, .aload 5, 2), (14, .iload_n 2, 1), (15, .iload_n 3, 1), (16, .invokevirtual 203, 3), (19, .ifCond .eq 11, 3), (22, .iload 4, 2), (24, .invokestatic 70, 3), (27, .ifCond .ne 11, 3), (30, .aload_n 0, 1), (31, .bipush (-2), 2), (33, .invokevirtual 74, 3), (36, .i2l, 1), (37, .lreturn, 1), (38, .aload_n 0, 1), (39, .aload 5, 2), (41, .iload 4, 2), (43, .invokevirtual 245, 3), (46, .astore 6, 2), (48, .aload 6, 2), (50, .ifnonnull 15, 3), (53, .aload_n 0, 1), (54, .aload_n 0, 1), (55, .iload 4, 2), (57, .invokevirtual 89, 3), (60, .invokevirtual 74, 3), (63, .i2l, 1), (64, .lreturn, 1), (65, .aload 5, 2), (67, .aload 6, 2), (69, .iload_n 2, 1), (70, .iload_n 3, 1), (71, .invokevirtual 253, 3), (74, .aload 5, 2), (76, .iload_n 2, 1), (77, .iload_n 3, 1), (78, .invokevirtual 205, 3), (81, .lsub, 1), (82, .lreturn, 1)]
theorem ddX7_lose : dAll cX7_lose qX7_lose = true := by decide +kernel
def qX7_boy : List (Nat × Instr × Nat) := [(0, .aload_n 0, 1), (1, .iload_n 1, 1), (2, .invokevirtual 183, 3), (5, .astore_n 2, 1), (6, .aload_n 2, 1), (7, .ifnonnull 10, 3), (10, .aload_n 0, 1), (11, .bipush (-2), 2), (13, .invokevirtual 74, 3), (16, .ireturn, 1), (17, .iconst (-1), 1), (18, .istore_n 3, 1), (19, .lconst 0, 1), (20, .lstore 4, 2), (22, .iconst 0, 1), (23, .istore 6, 2), (25, .iload 6, 2), (27, .bipush 8, 2), (29, .if_icmp .ge 56, 3), (32, .aload_n 0, 1), (33, .aload_n 2, 1), (34, .iload 6, 2), (36, .invokevirtual 245, 3), (39, .astore 7, 2), (41, .aload 7, 2), (43, .ifnull 36, 3), (46, .aload_n 2, 1), (47, .aload 7, 2), (49, .aload_n 2, 1), (50, .getfield 228, 3), (53, .iconst 0, 1), (54, .invokevirtual 253, 3), (57, .lstore 8, 2), (59, .iload_n 3, 1), (60, .iconst (-1), 1), (61, .if_icmp .eq 11, 3), (64, .lload 8, 2), (66, .lload 4, 2), (68, .lcmp, 1), (69, .ifCond .ge 10, 3), (72, .iload 6, 2), (74, .istore_n 3, 1), (75, .lload 8, 2), (77, .lstore 4, 2), (79, .iinc 6 1, 3), (82, .goto (-57), 3), (85, .iload_n 3, 1), (86, .iconst (-1), 1), (87, .if_icmp .ne 12, 3), (90, .aload_n 0, 1), (91, .bipush (-5), 2), (93, .invokevirtual 74, 3), (96, .goto 4, 3), (99, .iload_n 3, 1), (100, .ireturn, 1)]
theorem ddX7_boy : dAll cX7_boy qX7_boy = true := by decide +kernel
def qX7_chance : List (Nat × Instr × Nat) := [(0, .aload_n 0, 1), (1, .iload_n 1, 1), (2, .invokevirtual 183, 3), (5, .astore 5, 2), (7, .aload 5, 2), (9, .ifnull 21, 3), (12, .aload 5, 2), (14, .iload_n 2, 1), (15, .iload_n 3, 1), (16, .invokevirtual 203, 3), (19, .ifCond .eq 11, 3), (22, .iload 4, 2), (24, .invokestatic 70, 3), (27, .ifCond .ne 11, 3), (30, .aload_n 0, 1), (31, .bipush (-2), 2), (33, .invokevirtual 74, 3), (36, .i2l, 1), (37, .lreturn, 1), (38, .aload_n 0, 1), (39, .aload 5, 2), (41, .iload 4, 2), (43, .invokevirtual 245, 3), (46, .astore 6, 2), (48, .aload 6, 2), (50, .ifnonnull 17, 3), (53, .aload_n 0, 1), (54, .aload_n 0, 1), (55, .iload 4, 2), (57, .invokevirtual 89, 3), (60, .invokevirtual 74, 3), (63, .i2l, 1), (64, .goto 12, 3), (67, .aload 5, 2), (69, .aload 6, 2), (71, .iload_n 2, 1), (72, .iload_n 3, 1), (73, .invokevirtual 257, 3), (76, .lreturn, 1)]
theorem ddX7_chance : dAll cX7_chance qX7_chance = true := by decide +kernel
def qX7_reach : List (Nat × Instr × Nat) := [(0, .aload_n 0, 1), (1, .iload_n 1, 1), (2, .invokevirtual 183, 3), (5, .astore 4, 2), (7, .aload 4, 2), (9, .ifnull 20, 3), (12, .aload 4, 2), (14, .iload_n 2, 1), (15, .iconst 0, 1), (16, .invokevirtual 203, 3), (19, .ifCond .eq 10, 3), (22, .iload_n 3, 1), (23, .invokestatic 70, 3), (26, .ifCond .ne 10, 3), (29, .aload_n 0, 1), (30, .bipush (-2), 2), (32, .invokevirtual 74, 3), (35, .ireturn, 1), (36, .aload_n 0, 1), (37, .aload 4, 2), (39, .iload_n 3, 1), (40, .invokevirtual 245, 3), (43, .astore 5, 2), (45, .aload 5, 2), (47, .ifnonnull 15, 3), (50, .aload_n 0, 1), (51, .aload_n 0, 1), (52, .iload_n 3, 1), (53, .invokevirtual 89, 3), (56, .invokevirtual 74, 3), (59, .goto 11, 3), (62, .aload 4, 2), (64, .aload 5, 2), (66, .iload_n 2, 1), (67, .invokevirtual 260, 3), (70, .ireturn, 1)]
theorem ddX7_reach : dAll cX7_reach qX7_reach = true := by decide +kernel
def qX7_held : List (Nat × Instr × Nat) := [(0, .aload_n 0, 1), (1, .iload_n 1, 1), (2, .invokevirtual 183, 3), (5, .astore 4, 2), (7, .aload 4, 2), (9, .ifnull 19, 3), (12, .aload 4, 2), (14, .iload_n 2, 1), (15, .invokevirtual 221, 3), (18, .ifCond .eq 10, 3), (21, .iload_n 3, 1), (22, .invokestatic 70, 3), (25, .ifCond .ne 11, 3), (28, .aload_n 0, 1), (29, .bipush (-2), 2), (31, .invokevirtual 74, 3), (34, .i2l, 1), (35, .lreturn, 1), (36, .aload_n 0, 1), (37, .aload 4, 2), (39, .iload_n 3, 1), (40, .invokevirtual 245, 3), (43, .astore 5, 2), (45, .aload 5, 2), (47, .ifnonnull 16, 3), (50, .aload_n 0, 1), (51, .aload_n 0, 1), (52, .iload_n 3, 1), (53, .invokevirtual 89, 3), (56, .invokevirtual 74, 3), (59, .i2l, 1), (60, .goto 11, 3), (63, .aload 4, 2), (65, .aload 5, 2), (67, .iload_n 2, 1), (68, .invokevirtual 264, 3), (71, .lreturn, 1)]
theorem ddX7_held : dAll cX7_held qX7_held = true := by decide +kernel
def qX7_boxes : List (Nat × Instr × Nat) := [(0, .aload_n 0, 1), (1, .iload_n 1, 1), (2, .invokevirtual 183, 3), (5, .astore_n 3, 1), (6, .aload_n 3, 1), (7, .ifnull 10, 3), (10, .iload_n 2, 1), (11, .invokestatic 70, 3), (14, .ifCond .ne 11, 3), (17, .aload_n 0, 1), (18, .bipush (-2), 2), (20, .invokevirtual 74, 3), (23, .i2l, 1), (24, .lreturn, 1), (25, .aload_n 0, 1), (26, .aload_n 3, 1), (27, .iload_n 2, 1), (28, .invokevirtual 245, 3), (31, .astore 4, 2), (33, .aload 4, 2), (35, .ifnonnull 16, 3), (38, .aload_n 0, 1), (39, .aload_n 0, 1), (40, .iload_n 2, 1), (41, .invokevirtual 89, 3), (44, .invokevirtual 74, 3), (47, .i2l, 1), (48, .goto 9, 3), (51, .aload_n 3, 1), (52, .aload 4, 2), (54, .invokevirtual 268, 3), (57, .lreturn, 1)]
theorem ddX7_boxes : dAll cX7_boxes qX7_boxes = true := by decide +kernel
def qX7_plain : List (Nat × Instr × Nat) := [(0, .aload_n 0, 1), (1, .iload_n 1, 1), (2, .invokevirtual 183, 3), (5, .astore_n 2, 1), (6, .aload_n 2, 1), (7, .ifnonnull 12, 3), (10, .aload_n 0, 1), (11, .bipush (-2), 2), (13, .invokevirtual 74, 3), (16, .goto 7, 3), (19, .aload_n 2, 1), (20, .invokevirtual 272, 3), (23, .ireturn, 1)]
theorem ddX7_plain : dAll cX7_plain qX7_plain = true := by decide +kernel
def qX7_every : List (Nat × Instr × Nat) := [(0, .aload_n 0, 1), (1, .iload_n 1, 1), (2, .invokevirtual 183, 3), (5, .astore_n 2, 1), (6, .aload_n 2, 1), (7, .ifnonnull 12, 3), (10, .aload_n 0, 1), (11, .bipush (-2), 2), (13, .invokevirtual 74, 3), (16, .goto 7, 3), (19, .aload_n 2, 1), (20, .invokevirtual 275, 3), (23, .ireturn, 1)]
theorem ddX7_every : dAll cX7_every qX7_every = true := by decide +kernel
def qX7_join : List (Nat × Instr × Nat) := [(0, .aload_n 0, 1), (1, .getfield 10, 3), (4, .iload_n 1, 1), (5, .invokevirtual 156, 3), (8, .astore_n 3, 1), (9, .aload_n 0, 1), (10, .getfield 10, 3), (13, .iload_n 2, 1), (14, .invokevirtual 156, 3), (17, .astore 4, 2), (19, .aload_n 3, 1), (20, .ifnull 13, 3), (23, .aload 4, 2), (25, .ifnull 8, 3), (28, .iload_n 1, 1), (29, .iload_n 2, 1), (30, .if_icmp .ne 10, 3), (33, .aload_n 0, 1), (34, .bipush (-2), 2), (36, .invokevirtual 74, 3), (39, .ireturn, 1), (40, .aload_n 3, 1), (41, .aload 4, 2), (43, .invokevirtual 278, 3), (46, .ifCond .ne 10, 3), (49, .aload_n 0, 1), (50, .bipush (-5), 2), (52, .invokevirtual 74, 3), (55, .ireturn, 1), (56, .aload_n 0, 1), (57, .getfield 10, 3), (60, .invokevirtual 145, 3), (63, .ifCond .eq 10, 3), (66, .aload_n 0, 1), (67, .bipush (-6), 2), (69, .invokevirtual 74, 3), (72, .ireturn, 1), (73, .aload_n 0, 1), (74, .getfield 59, 3), (77, .aload_n 3, 1), (78, .invokevirtual 282, 3), (81, .aload_n 0, 1), (82, .getfield 59, 3), (85, .aload 4, 2), (87, .invokevirtual 286, 3), (90, .aload_n 0, 1), (91, .getfield 10, 3), (94, .aload_n 0, 1), (95, .getfield 59, 3), (98, .invokevirtual 153, 3), (101, .ireturn, 1)]
theorem ddX7_join : dAll cX7_join qX7_join = true := by decide +kernel
def qX7_saved : List (Nat × Instr × Nat) := [(0, .aload_n 0, 1), (1, .iload_n 1, 1), (2, .invokevirtual 183, 3), (5, .astore_n 3, 1), (6, .aload_n 0, 1), (7, .iload_n 2, 1), (8, .invokevirtual 183, 3), (11, .astore 4, 2), (13, .aload_n 3, 1), (14, .ifnull 13, 3), (17, .aload 4, 2), (19, .ifnull 8, 3), (22, .iload_n 1, 1), (23, .iload_n 2, 1), (24, .if_icmp .ne 11, 3), (27, .aload_n 0, 1), (28, .bipush (-2), 2), (30, .invokevirtual 74, 3), (33, .i2l, 1), (34, .lreturn, 1), (35, .aload_n 3, 1), (36, .getfield 289, 3), (39, .aload 4, 2), (41, .getfield 289, 3), (44, .invokevirtual 278, 3), (47, .ifCond .ne 11, 3), (50, .aload_n 0, 1), (51, .bipush (-5), 2), (53, .invokevirtual 74, 3), (56, .i2l, 1), (57, .lreturn, 1), (58, .aload_n 0, 1), (59, .getfield 59, 3), (62, .aload_n 3, 1), (63, .getfield 289, 3), (66, .invokevirtual 282, 3), (69, .aload_n 0, 1), (70, .getfield 59, 3), (73, .aload 4, 2), (75, .getfield 289, 3), (78, .invokevirtual 286, 3), (81, .aload_n 0, 1), (82, .getfield 53, 3), (85, .aload_n 0, 1), (86, .getfield 59, 3), (89, .invokevirtual 292, 3), (92, .aload_n 0, 1), (93, .getfield 59, 3), (96, .invokevirtual 193, 3), (99, .istore 5, 2), (101, .aload_n 3, 1), (102, .iload 5, 2), (104, .iconst 0, 1), (105, .invokevirtual 205, 3), (108, .iload 5, 2), (110, .aload 4, 2), (112, .getfield 239, 3), (115, .imul, 1), (116, .invokestatic 295, 3), (119, .lmul, 1), (120, .aload 4, 2), (122, .iload 5, 2), (124, .iconst 0, 1), (125, .invokevirtual 205, 3), (128, .iload 5, 2), (130, .aload_n 3, 1), (131, .getfield 239, 3), (134, .imul, 1), (135, .invokestatic 295, 3), (138, .lmul, 1), (139, .ladd, 1), (140, .lstore 6, 2), (142, .lconst 0, 1), (143, .lload 6, 2), (145, .aload_n 0, 1), (146, .getfield 53, 3), (149, .iload 5, 2), (151, .iconst 0, 1), (152, .invokevirtual 205, 3), (155, .lsub, 1), (156, .invokestatic 298, 3), (159, .lreturn, 1)]
theorem ddX7_saved : dAll cX7_saved qX7_saved = true := by decide +kernel
def qX7_seed : List (Nat × Instr × Nat) := [(0, .aload_n 0, 1), (1, .getfield 10, 3), (4, .iload_n 1, 1), (5, .invokevirtual 304, 3), (8, .ireturn, 1)]
theorem ddX7_seed : dAll cX7_seed qX7_seed = true := by decide +kernel
def qX7_begin : List (Nat × Instr × Nat) := [(0, .aload_n 0, 1), (1, .getfield 10, 3), (4, .iload_n 1, 1), (5, .invokevirtual 156, 3), (8, .astore_n 3, 1), (9, .aload_n 3, 1), (10, .ifnull 10, 3), (13, .iload_n 2, 1), (14, .invokestatic 70, 3), (17, .ifCond .ne 10, 3), (20, .aload_n 0, 1), (21, .bipush (-2), 2), (23, .invokevirtual 74, 3), (26, .ireturn, 1), (27, .aload_n 0, 1), (28, .iload_n 2, 1), (29, .invokevirtual 99, 3), (32, .astore 4, 2), (34, .aload 4, 2), (36, .ifnonnull 13, 3), (39, .aload_n 0, 1), (40, .aload_n 0, 1), (41, .iload_n 2, 1), (42, .invokevirtual 89, 3), (45, .invokevirtual 74, 3), (48, .ireturn, 1), (49, .aload_n 0, 1), (50, .getfield 10, 3), (53, .getfield 307, 3), (56, .aload_n 3, 1), (57, .aload 4, 2), (59, .invokevirtual 310, 3), (62, .aload_n 3, 1), (63, .invokevirtual 193, 3), (66, .ireturn, 1)]
theorem ddX7_begin : dAll cX7_begin qX7_begin = true := by decide +kernel
def qX7_step : List (Nat × Instr × Nat) := [(0, .iload_n 1, 1), (1, .iconst 1, 1), (2, .if_icmp .lt 9, 3), (5, .iload_n 1, 1), (6, .bipush 6, 2), (8, .if_icmp .le 10, 3), (11, .aload_n 0, 1), (12, .bipush (-2), 2), (14, .invokevirtual 74, 3), (17, .ireturn, 1), (18, .aload_n 0, 1), (19, .getfield 10, 3), (22, .getfield 307, 3), (25, .astore_n 2, 1), (26, .aload_n 2, 1), (27, .invokevirtual 314, 3), (30, .ifCond .eq 10, 3), (33, .aload_n 2, 1), (34, .invokevirtual 317, 3), (37, .ifCond .ne 10, 3), (40, .aload_n 0, 1), (41, .bipush (-5), 2), (43, .invokevirtual 74, 3), (46, .ireturn, 1), (47, .aload_n 0, 1), (48, .getfield 49, 3), (51, .aload_n 2, 1), (52, .getfield 320, 3), (55, .invokevirtual 292, 3), (58, .aload_n 0, 1), (59, .getfield 49, 3), (62, .aload_n 2, 1), (63, .getfield 321, 3), (66, .invokevirtual 325, 3), (69, .aload_n 0, 1), (70, .aload_n 2, 1), (71, .aload_n 0, 1), (72, .getfield 49, 3), (75, .iload_n 1, 1), (76, .invokevirtual 329, 3), (79, .ireturn, 1)]
theorem ddX7_step : dAll cX7_step qX7_step = true := by decide +kernel
def qX7_week : List (Nat × Instr × Nat) := [(0, .iload_n 1, 1), (1, .ifCond .lt 8, 3), (4, .iload_n 1, 1), (5, .iconst 5, 1), (6, .if_icmp .le 10, 3), (9, .aload_n 0, 1), (10, .bipush (-2), 2), (12, .invokevirtual 74, 3), (15, .ireturn, 1), (16, .aload_n 0, 1), (17, .getfield 10, 3), (20, .getfield 307, 3), (23, .invokevirtual 314, 3), (26, .ifCond .eq 17, 3), (29, .aload_n 0, 1), (30, .getfield 10, 3), (33, .getfield 307, 3), (36, .iload_n 1, 1), (37, .invokevirtual 333, 3), (40, .goto 9, 3), (43, .aload_n 0, 1), (44, .bipush (-5), 2), (46, .invokevirtual 74, 3), (49, .ireturn, 1)]
theorem ddX7_week : dAll cX7_week qX7_week = true := by decide +kernel
def qX7_weeks : List (Nat × Instr × Nat) := [(0, .aload_n 0, 1), (1, .iload_n 1, 1), (2, .invokevirtual 183, 3), (5, .astore 4, 2), (7, .aload 4, 2), (9, .ifnull 21, 3), (12, .iload_n 2, 1), (13, .invokestatic 70, 3), (16, .ifCond .eq 14, 3), (19, .iload_n 3, 1), (20, .iconst 1, 1), (21, .if_icmp .lt 9, 3), (24, .iload_n 3, 1), (25, .bipush 50, 2), (27, .if_icmp .le 10, 3), (30, .aload_n 0, 1), (31, .bipush (-2), 2), (33, .invokevirtual 74, 3), (36, .ireturn, 1), (37, .aload_n 0, 1), (38, .aload 4, 2), (40, .iload_n 2, 1), (41, .invokevirtual 245, 3), (44, .astore 5, 2), (46, .aload 5, 2), (48, .ifnonnull 13, 3), (51, .aload_n 0, 1), (52, .aload_n 0, 1), (53, .iload_n 2, 1), (54, .invokevirtual 89, 3), (57, .invokevirtual 74, 3), (60, .ireturn, 1), (61, .iconst 0, 1), (62, .istore 6, 2), (64, .iconst 0, 1), (65, .istore 7, 2), (67, .iload 7, 2), (69, .iload_n 3, 1), (70, .if_icmp .ge 40, 3), (73, .aload_n 0, 1), (74, .getfield 66, 3), (77, .aload 4, 2), (79, .getfield 289, 3), (82, .aload 5, 2), (84, .invokevirtual 310, 3), (87, .iload 6, 2), (89, .aload_n 0, 1), (90, .aload_n 0, 1), (91, .getfield 66, 3), (94, .aload 4, 2), (96, .bipush 6, 2), (98, .invokevirtual 329, 3), (101, .iadd, 1), (102, .istore 6, 2), (104, .iinc 7 1, 3), (107, .goto (-40), 3), (110, .iload 6, 2), (112, .ireturn, 1)]
theorem ddX7_weeks : dAll cX7_weeks qX7_weeks = true := by decide +kernel
def qX7_passDays : List (Nat × Instr × Nat) := [(0, .iconst 0, 1), (1, .istore 4, 2), (3, .iconst 0, 1), (4, .istore 5, 2), (6, .iload 5, 2), (8, .iload_n 3, 1), (9, .if_icmp .ge 30, 3), (12, .aload_n 1, 1), (13, .invokevirtual 317, 3), (16, .ifCond .le 23, 3), (19, .iload 4, 2), (21, .aload_n 1, 1), (22, .aload_n 0, 1), (23, .getfield 10, 3), (26, .aload_n 2, 1), (27, .invokevirtual 334, 3), (30, .iadd, 1), (31, .istore 4, 2), (33, .iinc 5 1, 3), (36, .goto (-30), 3), (39, .iload 4, 2), (41, .ireturn, 1)]
theorem ddX7_passDays : dAll cX7_passDays qX7_passDays = true := by decide +kernel
def qX7_image : List (Nat × Instr × Nat) := [(0, .aload_n 0, 1), (1, .getfield 16, 3), (4, .aload_n 0, 1), (5, .getfield 10, 3), (8, .invokevirtual 338, 3), (11, .aload_n 0, 1), (12, .iconst 1, 1), (13, .putfield 341, 3), (16, .iconst 1, 1), (17, .ireturn, 1)]
theorem ddX7_image : dAll cX7_image qX7_image = true := by decide +kernel
def qX7_back : List (Nat × Instr × Nat) := [(0, .aload_n 0, 1), (1, .getfield 341, 3), (4, .ifCond .ne 10, 3), (7, .aload_n 0, 1), (8, .bipush (-5), 2), (10, .invokevirtual 74, 3), (13, .ireturn, 1), (14, .aload_n 0, 1), (15, .getfield 10, 3), (18, .aload_n 0, 1), (19, .getfield 16, 3), (22, .invokevirtual 338, 3), (25, .iconst 1, 1), (26, .ireturn, 1)]
theorem ddX7_back : dAll cX7_back qX7_back = true := by decide +kernel
def qX7_status : List (Nat × Instr × Nat) := [(0, .iload_n 1, 1), (1, .tableswitch 60 0 3 #[31, 39, 47, 55], 31), (32, .aload_n 0, 1), (33, .getfield 10, 3), (36, .getfield 345, 3), (39, .ireturn, 1), (40, .aload_n 0, 1), (41, .getfield 22, 3), (44, .getfield 348, 3), (47, .ireturn, 1), (48, .aload_n 0, 1), (49, .getfield 10, 3), (52, .getfield 350, 3), (55, .ireturn, 1), (56, .aload_n 0, 1), (57, .invokevirtual 353, 3), (60, .ireturn, 1), (61, .iload_n 1, 1), (62, .bipush 12, 2), (64, .isub, 1), (65, .istore_n 2, 1), (66, .iload_n 2, 1), (67, .ifCond .lt 21, 3), (70, .iload_n 2, 1), (71, .aload_n 0, 1), (72, .getfield 38, 3), (75, .arraylength, 1), (76, .if_icmp .ge 12, 3), (79, .aload_n 0, 1), (80, .getfield 38, 3), (83, .iload_n 2, 1), (84, .iaload, 1), (85, .goto 4, 3), (88, .iconst (-1), 1), (89, .ireturn, 1)]
theorem ddX7_status : dAll cX7_status qX7_status = true := by decide +kernel
def qX7_refuse : List (Nat × Instr × Nat) := [(0, .bipush (-2), 2), (2, .iload_n 1, 1), (3, .isub, 1), (4, .istore_n 2, 1), (5, .iload_n 2, 1), (6, .ifCond .lt 22, 3), (9, .iload_n 2, 1), (10, .aload_n 0, 1), (11, .getfield 38, 3), (14, .arraylength, 1), (15, .if_icmp .ge 13, 3), (18, .aload_n 0, 1), (19, .getfield 38, 3), (22, .iload_n 2, 1), (23, .dup2, 1), (24, .iaload, 1), (25, .iconst 1, 1), (26, .iadd, 1), (27, .iastore, 1), (28, .iload_n 1, 1), (29, .ireturn, 1)]
theorem ddX7_refuse : dAll cX7_refuse qX7_refuse = true := by decide +kernel
def qX7_isShelf : List (Nat × Instr × Nat) := [(0, .iload_n 0, 1), (1, .ifCond .lt 13, 3), (4, .iload_n 0, 1), (5, .bipush 8, 2), (7, .if_icmp .ge 7, 3), (10, .iconst 1, 1), (11, .goto 4, 3), (14, .iconst 0, 1), (15, .ireturn, 1)]
theorem ddX7_isShelf : dAll cX7_isShelf qX7_isShelf = true := by decide +kernel
def qX7_rowAt : List (Nat × Instr × Nat) := [(0, .iload_n 1, 1), (1, .ifCond .lt 21, 3), (4, .iload_n 1, 1), (5, .aload_n 0, 1), (6, .getfield 28, 3), (9, .arraylength, 1), (10, .if_icmp .ge 12, 3), (13, .aload_n 0, 1), (14, .getfield 28, 3), (17, .iload_n 1, 1), (18, .aaload, 1), (19, .goto 4, 3), (22, .aconst_null, 1), (23, .areturn, 1)]
theorem ddX7_rowAt : dAll cX7_rowAt qX7_rowAt = true := by decide +kernel
def qX7_ruleAt : List (Nat × Instr × Nat) := [(0, .iload_n 1, 1), (1, .ifCond .lt 21, 3), (4, .iload_n 1, 1), (5, .aload_n 0, 1), (6, .getfield 34, 3), (9, .arraylength, 1), (10, .if_icmp .ge 12, 3), (13, .aload_n 0, 1), (14, .getfield 34, 3), (17, .iload_n 1, 1), (18, .aaload, 1), (19, .goto 4, 3), (22, .aconst_null, 1), (23, .areturn, 1)]
theorem ddX7_ruleAt : dAll cX7_ruleAt qX7_ruleAt = true := by decide +kernel
def qX7_ruleFor : List (Nat × Instr × Nat) := [(0, .aload_n 0, 1), (1, .iload_n 2, 1), (2, .invokevirtual 99, 3), (5, .astore_n 3, 1), (6, .aload_n 1, 1), (7, .aload_n 3, 1), (8, .invokevirtual 325, 3), (11, .aload_n 3, 1), (12, .areturn, 1)]
theorem ddX7_ruleFor : dAll cX7_ruleFor qX7_ruleFor = true := by decide +kernel
def qX7_lackOnShelf : List (Nat × Instr × Nat) := [(0, .aload_n 0, 1), (1, .iload_n 1, 1), (2, .invokevirtual 85, 3), (5, .ifnonnull 16, 3), (8, .aload_n 0, 1), (9, .iload_n 1, 1), (10, .invokevirtual 99, 3), (13, .ifnonnull 8, 3), (16, .bipush (-4), 2), (18, .goto 5, 3), (21, .bipush (-3), 2), (23, .ireturn, 1)]
theorem ddX7_lackOnShelf : dAll cX7_lackOnShelf qX7_lackOnShelf = true := by decide +kernel
def qX7_putOnShelf : List (Nat × Instr × Nat) := [(0, .iload_n 1, 1), (1, .ifCond .lt 35, 3), (4, .iload_n 1, 1), (5, .aload_n 0, 1), (6, .getfield 28, 3), (9, .arraylength, 1), (10, .if_icmp .ge 26, 3), (13, .iload_n 1, 1), (14, .aload_n 0, 1), (15, .getfield 34, 3), (18, .arraylength, 1), (19, .if_icmp .ge 17, 3), (22, .aload_n 0, 1), (23, .getfield 28, 3), (26, .iload_n 1, 1), (27, .aload_n 2, 1), (28, .aastore, 1), (29, .aload_n 0, 1), (30, .getfield 34, 3), (33, .iload_n 1, 1), (34, .aload_n 3, 1), (35, .aastore, 1), (36, .return_, 1)]
theorem ddX7_putOnShelf : dAll cX7_putOnShelf qX7_putOnShelf = true := by decide +kernel
def qX7_shelvesInUse : List (Nat × Instr × Nat) := [(0, .iconst 0, 1), (1, .istore_n 1, 1), (2, .iconst 0, 1), (3, .istore_n 2, 1), (4, .iload_n 2, 1), (5, .bipush 8, 2), (7, .if_icmp .ge 28, 3), (10, .aload_n 0, 1), (11, .iload_n 2, 1), (12, .invokevirtual 85, 3), (15, .ifnonnull 11, 3), (18, .aload_n 0, 1), (19, .iload_n 2, 1), (20, .invokevirtual 99, 3), (23, .ifnull 6, 3), (26, .iinc 1 1, 3), (29, .iinc 2 1, 3), (32, .goto (-28), 3), (35, .iload_n 1, 1), (36, .ireturn, 1)]
theorem ddX7_shelvesInUse : dAll cX7_shelvesInUse qX7_shelvesInUse = true := by decide +kernel
def qX7_planOf : List (Nat × Instr × Nat) := [(0, .aload_n 0, 1), (1, .getfield 10, 3), (4, .iload_n 1, 1), (5, .invokevirtual 156, 3), (8, .astore_n 2, 1), (9, .aload_n 2, 1), (10, .ifnull 16, 3), (13, .iload_n 1, 1), (14, .ifCond .lt 12, 3), (17, .iload_n 1, 1), (18, .aload_n 0, 1), (19, .getfield 44, 3), (22, .arraylength, 1), (23, .if_icmp .lt 5, 3), (26, .aconst_null, 1), (27, .areturn, 1), (28, .aload_n 0, 1), (29, .getfield 44, 3), (32, .iload_n 1, 1), (33, .aaload, 1), (34, .astore_n 3, 1), (35, .aload_n 3, 1), (36, .ifnull 8, 3), (39, .aload_n 3, 1), (40, .aload_n 2, 1), (41, .invokevirtual 292, 3), (44, .aload_n 3, 1), (45, .areturn, 1)]
theorem ddX7_planOf : dAll cX7_planOf qX7_planOf = true := by decide +kernel
def qX7_standing : List (Nat × Instr × Nat) := [(0, .iload_n 1, 1), (1, .tableswitch 44 0 2 #[27, 31, 37], 27), (28, .iload_n 0, 1), (29, .iconst 5, 1), (30, .irem, 1), (31, .ireturn, 1), (32, .iload_n 0, 1), (33, .iconst 5, 1), (34, .idiv, 1), (35, .iconst 5, 1), (36, .irem, 1), (37, .ireturn, 1), (38, .iload_n 0, 1), (39, .bipush 25, 2), (41, .idiv, 1), (42, .iconst 5, 1), (43, .irem, 1), (44, .ireturn, 1), (45, .iconst 0, 1), (46, .ireturn, 1)]
theorem ddX7_standing : dAll cX7_standing qX7_standing = true := by decide +kernel
def qX7_oneOf : List (Nat × Instr × Nat) := [(0, .iload_n 0, 1), (1, .tableswitch 34 0 2 #[27, 29, 31], 27), (28, .iconst 1, 1), (29, .ireturn, 1), (30, .iconst 5, 1), (31, .ireturn, 1), (32, .bipush 25, 2), (34, .ireturn, 1), (35, .iconst 0, 1), (36, .ireturn, 1)]
theorem ddX7_oneOf : dAll cX7_oneOf qX7_oneOf = true := by decide +kernel
def qX7_timesOf : List (Nat × Instr × Nat) := [(0, .lconst 1, 1), (1, .iconst 2, 1), (2, .iload_n 0, 1), (3, .imul, 1), (4, .lshl, 1), (5, .lreturn, 1)]
theorem ddX7_timesOf : dAll cX7_timesOf qX7_timesOf = true := by decide +kernel
def qX7_scaleOf : List (Nat × Instr × Nat) := [(0, .iload_n 0, 1), (1, .iconst 1, 1), (2, .iload_n 1, 1), (3, .iadd, 1), (4, .imul, 1), (5, .invokestatic 295, 3), (8, .lreturn, 1)]
theorem ddX7_scaleOf : dAll cX7_scaleOf qX7_scaleOf = true := by decide +kernel
def qX7_at : List (Nat × Instr × Nat) := [(0, .iload_n 1, 1), (1, .ifCond .lt 15, 3), (4, .iload_n 1, 1), (5, .aload_n 0, 1), (6, .arraylength, 1), (7, .if_icmp .ge 9, 3), (10, .aload_n 0, 1), (11, .iload_n 1, 1), (12, .iaload, 1), (13, .goto 4, 3), (16, .iconst 0, 1), (17, .ireturn, 1)]
theorem ddX7_at : dAll cX7_at qX7_at = true := by decide +kernel
def qX7_at_ : List (Nat × Instr × Nat) := [(0, .iload_n 1, 1), (1, .ifCond .lt 15, 3), (4, .iload_n 1, 1), (5, .aload_n 0, 1), (6, .arraylength, 1), (7, .if_icmp .ge 9, 3), (10, .aload_n 0, 1), (11, .iload_n 1, 1), (12, .laload, 1), (13, .goto 4, 3), (16, .lconst 0, 1), (17, .lreturn, 1)]
theorem ddX7_at_ : dAll cX7_at_ qX7_at_ = true := by decide +kernel
def qX7_put : List (Nat × Instr × Nat) := [(0, .iload_n 1, 1), (1, .ifCond .lt 13, 3), (4, .iload_n 1, 1), (5, .aload_n 0, 1), (6, .arraylength, 1), (7, .if_icmp .ge 7, 3), (10, .aload_n 0, 1), (11, .iload_n 1, 1), (12, .iload_n 2, 1), (13, .iastore, 1), (14, .return_, 1)]
theorem ddX7_put : dAll cX7_put qX7_put = true := by decide +kernel
def qX7_put_ : List (Nat × Instr × Nat) := [(0, .iload_n 1, 1), (1, .ifCond .lt 13, 3), (4, .iload_n 1, 1), (5, .aload_n 0, 1), (6, .arraylength, 1), (7, .if_icmp .ge 7, 3), (10, .aload_n 0, 1), (11, .iload_n 1, 1), (12, .lload_n 2, 1), (13, .lastore, 1), (14, .return_, 1)]
theorem ddX7_put_ : dAll cX7_put_ qX7_put_ = true := by decide +kernel
def qX8_init : List (Nat × Instr × Nat) := [(0, .aload_n 0, 1), (1, .invokespecial 1, 3), (4, .aload_n 0, 1), (5, .bipush 8, 2), (7, .newarray .int, 2), (9, .putfield 7, 3), (12, .aload_n 0, 1), (13, .bipush 8, 2), (15, .newarray .int, 2), (17, .putfield 13, 3), (20, .aload_n 0, 1), (21, .bipush 8, 2), (23, .newarray .int, 2), (25, .putfield 16, 3), (28, .aload_n 0, 1), (29, .bipush 8, 2), (31, .bipush 125, 2), (33, .multianewarray 19 2, 4), (37, .putfield 21, 3), (40, .aload_n 0, 1), (41, .bipush 125, 2), (43, .newarray .long, 2), (45, .putfield 24, 3), (48, .aload_n 0, 1), (49, .bipush 10, 2), (51, .newarray .int, 2), (53, .putfield 28, 3), (56, .aload_n 0, 1), (57, .bipush 10, 2), (59, .newarray .int, 2), (61, .putfield 31, 3), (64, .aload_n 0, 1), (65, .bipush 10, 2), (67, .bipush 125, 2), (69, .multianewarray 34 2, 4), (73, .putfield 36, 3), (76, .aload_n 0, 1), (77, .sipush 160, 3), (80, .newarray .int, 2), (82, .putfield 39, 3), (85, .aload_n 0, 1), (86, .bipush 8, 2), (88, .newarray .int, 2), (90, .putfield 42, 3), (93, .aload_n 0, 1), (94, .bipush 8, 2), (96, .bipush 20, 2), (98, .multianewarray 34 2, 4), (102, .putfield 45, 3), (105, .aload_n 0, 1), (106, .iconst 1, 1), (107, .putfield 48, 3), (110, .aload_n 0, 1), (111, .bipush 10, 2), (113, .newarray .int, 2), (115, .putfield 52, 3), (118, .aload_n 0, 1), (119, .bipush 7, 2), (121, .bipush 125, 2), (123, .multianewarray 19 2, 4), (127, .putfield 55, 3), (130, .aload_n 0, 1), (131, .bipush 7, 2), (133, .bipush 125, 2), (135, .multianewarray 34 2, 4), (139, .putfield 58, 3), (142, .aload_n 0, 1), (143, .bipush 7, 2), (145, .bipush 125, 2), (147, .multianewarray 19 2, 4), (151, .putfield 61, 3), (154, .aload_n 0, 1), (155, .bipush 8, 2), (157, .newarray .long, 2), (159, .putfield 64, 3), (162, .aload_n 0, 1), (163, .bipush 8, 2), (165, .bipush 125, 2), (167, .multianewarray 34 2, 4), (171, .putfield 67, 3), (174, .aload_n 0, 1), (175, .bipush 8, 2), (177, .bipush 125, 2), (179, .multianewarray 34 2, 4), (183, .putfield 70, 3), (186, .aload_n 0, 1), (187, .bipush 125, 2), (189, .newarray .int, 2), (191, .putfield 73, 3), (194, .aload_n 0, 1), (195, .bipush 125, 2), (197, .newarray .int, 2), (199, .putfield 76, 3), (202, .aload_n 0, 1), (203, .bipush 125, 2), (205, .newarray .int, 2), (207, .putfield 79, 3), (210, .aload_n 0, 1), (211, .bipush 125, 2), (213, .newarray .long, 2), (215, .putfield 82, 3), (218, .aload_n 0, 1), (219, .bipush 7, 2), (221, .bipush 125, 2), (223, .multianewarray 19 2, 4), (227, .putfield 85, 3), (230, .aload_n 0, 1), (231, .iconst (-1), 1), (232, .putfield 88, 3), (235, .return_, 1)]
theorem ddX8_init : dAll cX8_init qX8_init = true := by decide +kernel
def qX8_refuse : List (Nat × Instr × Nat) := [(0, .aload_n 0, 1), (1, .getfield 42, 3), (4, .iload_n 1, 1), (5, .ineg, 1), (6, .dup2, 1), (7, .iaload, 1), (8, .iconst 1, 1), (9, .iadd, 1), (10, .iastore, 1), (11, .iload_n 1, 1), (12, .ireturn, 1)]
theorem ddX8_refuse : dAll cX8_refuse qX8_refuse = true := by decide +kernel
def qX8_in : List (Nat × Instr × Nat) := [(0, .lload_n 0, 1), (1, .lload_n 2, 1), (2, .lcmp, 1), (3, .ifCond .lt 14, 3), (6, .lload_n 0, 1), (7, .lload 4, 2), (9, .lcmp, 1), (10, .ifCond .gt 7, 3), (13, .iconst 1, 1), (14, .goto 4, 3), (17, .iconst 0, 1), (18, .ireturn, 1)]
theorem ddX8_in : dAll cX8_in qX8_in = true := by decide +kernel
def qX8_isHouse : List (Nat × Instr × Nat) := [(0, .iload_n 1, 1), (1, .i2l, 1), (2, .lconst 0, 1), (3, .aload_n 0, 1), (4, .getfield 91, 3), (7, .iconst 1, 1), (8, .isub, 1), (9, .i2l, 1), (10, .invokestatic 94, 3), (13, .ireturn, 1)]
theorem ddX8_isHouse : dAll cX8_isHouse qX8_isHouse = true := by decide +kernel
def qX8_power : List (Nat × Instr × Nat) := [(0, .iconst 1, 1), (1, .istore_n 2, 1), (2, .iconst 0, 1), (3, .istore_n 3, 1), (4, .iload_n 3, 1), (5, .iload_n 1, 1), (6, .if_icmp .ge 13, 3), (9, .iload_n 2, 1), (10, .iload_n 0, 1), (11, .imul, 1), (12, .istore_n 2, 1), (13, .iinc 3 1, 3), (16, .goto (-12), 3), (19, .iload_n 2, 1), (20, .ireturn, 1)]
theorem ddX8_power : dAll cX8_power qX8_power = true := by decide +kernel
def qX8_sorts : List (Nat × Instr × Nat) := [(0, .aload_n 0, 1), (1, .getfield 45, 3), (4, .iload_n 1, 1), (5, .aaload, 1), (6, .iconst 4, 1), (7, .iaload, 1), (8, .ireturn, 1)]
theorem ddX8_sorts : dAll cX8_sorts qX8_sorts = true := by decide +kernel
def qX8_states : List (Nat × Instr × Nat) := [(0, .iconst 5, 1), (1, .aload_n 0, 1), (2, .iload_n 1, 1), (3, .invokevirtual 98, 3), (6, .invokestatic 102, 3), (9, .ireturn, 1)]
theorem ddX8_states : dAll cX8_states qX8_states = true := by decide +kernel
def qX8_isState : List (Nat × Instr × Nat) := [(0, .aload_n 0, 1), (1, .iload_n 1, 1), (2, .invokevirtual 106, 3), (5, .ifCond .eq 24, 3), (8, .iload_n 2, 1), (9, .i2l, 1), (10, .lconst 0, 1), (11, .aload_n 0, 1), (12, .iload_n 1, 1), (13, .invokevirtual 110, 3), (16, .iconst 1, 1), (17, .isub, 1), (18, .i2l, 1), (19, .invokestatic 94, 3), (22, .ifCond .eq 7, 3), (25, .iconst 1, 1), (26, .goto 4, 3), (29, .iconst 0, 1), (30, .ireturn, 1)]
theorem ddX8_isState : dAll cX8_isState qX8_isState = true := by decide +kernel
def qX8_isLeft : List (Nat × Instr × Nat) := [(0, .aload_n 0, 1), (1, .iload_n 1, 1), (2, .invokevirtual 106, 3), (5, .ifCond .eq 25, 3), (8, .iload_n 2, 1), (9, .i2l, 1), (10, .lconst 0, 1), (11, .aload_n 0, 1), (12, .getfield 45, 3), (15, .iload_n 1, 1), (16, .aaload, 1), (17, .iconst 0, 1), (18, .iaload, 1), (19, .i2l, 1), (20, .invokestatic 94, 3), (23, .ifCond .eq 7, 3), (26, .iconst 1, 1), (27, .goto 4, 3), (30, .iconst 0, 1), (31, .ireturn, 1)]
theorem ddX8_isLeft : dAll cX8_isLeft qX8_isLeft = true := by decide +kernel
def qX8_row : List (Nat × Instr × Nat) := [(0, .iload_n 1, 1), (1, .i2l, 1), (2, .lconst 0, 1), (3, .ldc2_w 113, 3), (6, .invokestatic 94, 3), (9, .ifCond .eq 27, 3), (12, .iload_n 2, 1), (13, .i2l, 1), (14, .lconst 0, 1), (15, .ldc2_w 115, 3), (18, .invokestatic 94, 3), (21, .ifCond .eq 15, 3), (24, .iload_n 3, 1), (25, .i2l, 1), (26, .lconst 0, 1), (27, .ldc2_w 117, 3), (30, .invokestatic 94, 3), (33, .ifCond .ne 10, 3), (36, .aload_n 0, 1), (37, .bipush (-2), 2), (39, .invokevirtual 119, 3), (42, .ireturn, 1), (43, .aload_n 0, 1), (44, .getfield 7, 3), (47, .iload_n 1, 1), (48, .iconst 1, 1), (49, .iastore, 1), (50, .aload_n 0, 1), (51, .getfield 13, 3), (54, .iload_n 1, 1), (55, .iload_n 2, 1), (56, .iastore, 1), (57, .aload_n 0, 1), (58, .getfield 16, 3), (61, .iload_n 1, 1), (62, .iload_n 3, 1), (63, .iastore, 1), (64, .iconst 0, 1), (65, .istore 4, 2), (67, .iload 4, 2), (69, .bipush 125, 2), (71, .if_icmp .ge 19, 3), (74, .aload_n 0, 1), (75, .getfield 21, 3), (78, .iload_n 1, 1), (79, .aaload, 1), (80, .iload 4, 2), (82, .lconst 0, 1), (83, .lastore, 1), (84, .iinc 4 1, 3), (87, .goto (-20), 3), (90, .iconst 1, 1), (91, .ireturn, 1)]
theorem ddX8_row : dAll cX8_row qX8_row = true := by decide +kernel
def qX8_fit : List (Nat × Instr × Nat) := [(0, .iload_n 0, 1), (1, .tableswitch 47 0 3 #[31, 36, 41, 45], 31), (32, .lload_n 1, 1), (33, .l2i, 1), (34, .i2b, 1), (35, .i2l, 1), (36, .lreturn, 1), (37, .lload_n 1, 1), (38, .l2i, 1), (39, .i2s, 1), (40, .i2l, 1), (41, .lreturn, 1), (42, .lload_n 1, 1), (43, .l2i, 1), (44, .i2l, 1), (45, .lreturn, 1), (46, .lload_n 1, 1), (47, .lreturn, 1), (48, .lload_n 1, 1), (49, .lconst 0, 1), (50, .lcmp, 1), (51, .ifCond .eq 7, 3), (54, .lconst 1, 1), (55, .goto 4, 3), (58, .lconst 0, 1), (59, .lreturn, 1)]
theorem ddX8_fit : dAll cX8_fit qX8_fit = true := by decide +kernel
def qX8_set : List (Nat × Instr × Nat) := [(0, .iload_n 1, 1), (1, .i2l, 1), (2, .lconst 0, 1), (3, .ldc2_w 113, 3), (6, .invokestatic 94, 3), (9, .ifCond .ne 10, 3), (12, .aload_n 0, 1), (13, .bipush (-2), 2), (15, .invokevirtual 119, 3), (18, .ireturn, 1), (19, .aload_n 0, 1), (20, .getfield 7, 3), (23, .iload_n 1, 1), (24, .iaload, 1), (25, .iconst 2, 1), (26, .if_icmp .ne 10, 3), (29, .aload_n 0, 1), (30, .bipush (-3), 2), (32, .invokevirtual 119, 3), (35, .ireturn, 1), (36, .aload_n 0, 1), (37, .getfield 7, 3), (40, .iload_n 1, 1), (41, .iaload, 1), (42, .ifCond .ne 10, 3), (45, .aload_n 0, 1), (46, .bipush (-4), 2), (48, .invokevirtual 119, 3), (51, .ireturn, 1), (52, .iload_n 2, 1), (53, .i2l, 1), (54, .lconst 0, 1), (55, .aload_n 0, 1), (56, .getfield 16, 3), (59, .iload_n 1, 1), (60, .iaload, 1), (61, .iconst 1, 1), (62, .isub, 1), (63, .i2l, 1), (64, .invokestatic 94, 3), (67, .ifCond .ne 10, 3), (70, .aload_n 0, 1), (71, .bipush (-2), 2), (73, .invokevirtual 119, 3), (76, .ireturn, 1), (77, .aload_n 0, 1), (78, .getfield 21, 3), (81, .iload_n 1, 1), (82, .aaload, 1), (83, .iload_n 2, 1), (84, .aload_n 0, 1), (85, .getfield 13, 3), (88, .iload_n 1, 1), (89, .iaload, 1), (90, .lload_n 3, 1), (91, .invokestatic 122, 3), (94, .lastore, 1), (95, .iconst 1, 1), (96, .ireturn, 1)]
theorem ddX8_set : dAll cX8_set qX8_set = true := by decide +kernel
def qX8_copy : List (Nat × Instr × Nat) := [(0, .iload_n 1, 1), (1, .i2l, 1), (2, .lconst 0, 1), (3, .ldc2_w 113, 3), (6, .invokestatic 94, 3), (9, .ifCond .eq 15, 3), (12, .iload_n 2, 1), (13, .i2l, 1), (14, .lconst 0, 1), (15, .ldc2_w 113, 3), (18, .invokestatic 94, 3), (21, .ifCond .ne 10, 3), (24, .aload_n 0, 1), (25, .bipush (-2), 2), (27, .invokevirtual 119, 3), (30, .ireturn, 1), (31, .aload_n 0, 1), (32, .getfield 7, 3), (35, .iload_n 1, 1), (36, .iaload, 1), (37, .iconst 2, 1), (38, .if_icmp .eq 48, 3), (41, .aload_n 0, 1), (42, .getfield 7, 3), (45, .iload_n 2, 1), (46, .iaload, 1), (47, .iconst 2, 1), (48, .if_icmp .eq 38, 3), (51, .aload_n 0, 1), (52, .getfield 7, 3), (55, .iload_n 1, 1), (56, .iaload, 1), (57, .iconst 1, 1), (58, .if_icmp .ne 35, 3), (61, .aload_n 0, 1), (62, .getfield 7, 3), (65, .iload_n 2, 1), (66, .iaload, 1), (67, .iconst 1, 1), (68, .if_icmp .ne 25, 3), (71, .aload_n 0, 1), (72, .getfield 13, 3), (75, .iload_n 1, 1), (76, .iaload, 1), (77, .aload_n 0, 1), (78, .getfield 13, 3), (81, .iload_n 2, 1), (82, .iaload, 1), (83, .if_icmp .eq 10, 3), (86, .aload_n 0, 1), (87, .bipush (-3), 2), (89, .invokevirtual 119, 3), (92, .ireturn, 1), (93, .aload_n 0, 1), (94, .getfield 7, 3), (97, .iload_n 1, 1), (98, .iaload, 1), (99, .ifCond .eq 12, 3), (102, .aload_n 0, 1), (103, .getfield 7, 3), (106, .iload_n 2, 1), (107, .iaload, 1), (108, .ifCond .ne 10, 3), (111, .aload_n 0, 1), (112, .bipush (-4), 2), (114, .invokevirtual 119, 3), (117, .ireturn, 1), (118, .iload 5, 2), (120, .ifCond .lt 61, 3), (123, .iload_n 3, 1), (124, .ifCond .lt 57, 3), (127, .iload 4, 2), (129, .ifCond .lt 52, 3), (132, .iload 5, 2), (134, .aload_n 0, 1), (135, .getfield 16, 3), (138, .iload_n 1, 1), (139, .iaload, 1), (140, .if_icmp .gt 41, 3), (143, .iload 5, 2), (145, .aload_n 0, 1), (146, .getfield 16, 3), (149, .iload_n 2, 1), (150, .iaload, 1), (151, .if_icmp .gt 30, 3), (154, .iload_n 3, 1), (155, .aload_n 0, 1), (156, .getfield 16, 3), (159, .iload_n 1, 1), (160, .iaload, 1), (161, .iload 5, 2), (163, .isub, 1), (164, .if_icmp .gt 17, 3), (167, .iload 4, 2), (169, .aload_n 0, 1), (170, .getfield 16, 3), (173, .iload_n 2, 1), (174, .iaload, 1), (175, .iload 5, 2), (177, .isub, 1), (178, .if_icmp .le 10, 3), (181, .aload_n 0, 1), (182, .bipush (-2), 2), (184, .invokevirtual 119, 3), (187, .ireturn, 1), (188, .iconst 0, 1), (189, .istore 6, 2), (191, .iload 6, 2), (193, .iload 5, 2), (195, .if_icmp .ge 27, 3), (198, .aload_n 0, 1), (199, .getfield 24, 3), (202, .iload 6, 2), (204, .aload_n 0, 1), (205, .getfield 21, 3), (208, .iload_n 1, 1), (209, .aaload, 1), (210, .iload_n 3, 1), (211, .iload 6, 2), (213, .iadd, 1), (214, .laload, 1), (215, .lastore, 1), (216, .iinc 6 1, 3), (219, .goto (-28), 3), (222, .iconst 0, 1), (223, .istore 6, 2), (225, .iload 6, 2), (227, .iload 5, 2), (229, .if_icmp .ge 28, 3), (232, .aload_n 0, 1), (233, .getfield 21, 3), (236, .iload_n 2, 1), (237, .aaload, 1), (238, .iload 4, 2), (240, .iload 6, 2), (242, .iadd, 1), (243, .aload_n 0, 1), (244, .getfield 24, 3), (247, .iload 6, 2), (249, .laload, 1), (250, .lastore, 1), (251, .iinc 6 1, 3), (254, .goto (-29), 3), (257, .iload 5, 2), (259, .ireturn, 1)]
theorem ddX8_copy : dAll cX8_copy qX8_copy = true := by decide +kernel
def qX8_element : List (Nat × Instr × Nat) := [(0, .iload_n 1, 1), (1, .i2l, 1), (2, .lconst 0, 1), (3, .ldc2_w 113, 3), (6, .invokestatic 94, 3), (9, .ifCond .eq 42, 3), (12, .aload_n 0, 1), (13, .getfield 7, 3), (16, .iload_n 1, 1), (17, .iaload, 1), (18, .iconst 1, 1), (19, .if_icmp .ne 32, 3), (22, .iload_n 2, 1), (23, .i2l, 1), (24, .lconst 0, 1), (25, .aload_n 0, 1), (26, .getfield 16, 3), (29, .iload_n 1, 1), (30, .iaload, 1), (31, .iconst 1, 1), (32, .isub, 1), (33, .i2l, 1), (34, .invokestatic 94, 3), (37, .ifCond .eq 14, 3), (40, .aload_n 0, 1), (41, .getfield 21, 3), (44, .iload_n 1, 1), (45, .aaload, 1), (46, .iload_n 2, 1), (47, .laload, 1), (48, .goto 4, 3), (51, .lconst 0, 1), (52, .lreturn, 1)]
theorem ddX8_element : dAll cX8_element qX8_element = true := by decide +kernel
def qX8_holds : List (Nat × Instr × Nat) := [(0, .iload_n 1, 1), (1, .i2l, 1), (2, .lconst 0, 1), (3, .ldc2_w 113, 3), (6, .invokestatic 94, 3), (9, .ifCond .eq 12, 3), (12, .aload_n 0, 1), (13, .getfield 7, 3), (16, .iload_n 1, 1), (17, .iaload, 1), (18, .ifCond .ne 5, 3), (21, .iconst (-1), 1), (22, .ireturn, 1), (23, .aload_n 0, 1), (24, .getfield 7, 3), (27, .iload_n 1, 1), (28, .iaload, 1), (29, .iconst 1, 1), (30, .if_icmp .ne 12, 3), (33, .aload_n 0, 1), (34, .getfield 13, 3), (37, .iload_n 1, 1), (38, .iaload, 1), (39, .goto 12, 3), (42, .bipush 10, 2), (44, .aload_n 0, 1), (45, .getfield 28, 3), (48, .iload_n 1, 1), (49, .iaload, 1), (50, .iadd, 1), (51, .ireturn, 1)]
theorem ddX8_holds : dAll cX8_holds qX8_holds = true := by decide +kernel
def qX8_mayBy : List (Nat × Instr × Nat) := [(0, .iload_n 0, 1), (1, .tableswitch 93 1 4 #[31, 41, 51, 91], 31), (32, .iload_n 1, 1), (33, .i2l, 1), (34, .lconst 0, 1), (35, .ldc2_w 126, 3), (38, .invokestatic 94, 3), (41, .ireturn, 1), (42, .iload_n 1, 1), (43, .i2l, 1), (44, .lconst 1, 1), (45, .ldc2_w 128, 3), (48, .invokestatic 94, 3), (51, .ireturn, 1), (52, .iload_n 1, 1), (53, .ifCond .lt 37, 3), (56, .iload_n 1, 1), (57, .bipush 10, 2), (59, .idiv, 1), (60, .i2l, 1), (61, .lconst 0, 1), (62, .ldc2_w 126, 3), (65, .invokestatic 94, 3), (68, .ifCond .eq 22, 3), (71, .iload_n 1, 1), (72, .bipush 10, 2), (74, .irem, 1), (75, .i2l, 1), (76, .lconst 1, 1), (77, .ldc2_w 128, 3), (80, .invokestatic 94, 3), (83, .ifCond .eq 7, 3), (86, .iconst 1, 1), (87, .goto 4, 3), (90, .iconst 0, 1), (91, .ireturn, 1), (92, .iconst 1, 1), (93, .ireturn, 1), (94, .iload_n 1, 1), (95, .i2l, 1), (96, .lconst 0, 1), (97, .ldc2_w 113, 3), (100, .invokestatic 94, 3), (103, .ireturn, 1)]
theorem ddX8_mayBy : dAll cX8_mayBy qX8_mayBy = true := by decide +kernel
def qX8_rule : List (Nat × Instr × Nat) := [(0, .iload_n 1, 1), (1, .i2l, 1), (2, .lconst 0, 1), (3, .ldc2_w 113, 3), (6, .invokestatic 94, 3), (9, .ifCond .eq 23, 3), (12, .iload_n 2, 1), (13, .i2l, 1), (14, .lconst 1, 1), (15, .ldc2_w 130, 3), (18, .invokestatic 94, 3), (21, .ifCond .eq 11, 3), (24, .iload_n 2, 1), (25, .iload_n 3, 1), (26, .invokestatic 132, 3), (29, .ifCond .ne 10, 3), (32, .aload_n 0, 1), (33, .bipush (-2), 2), (35, .invokevirtual 119, 3), (38, .ireturn, 1), (39, .iload_n 2, 1), (40, .iconst 5, 1), (41, .if_icmp .ne 103, 3), (44, .aload_n 0, 1), (45, .getfield 7, 3), (48, .iload_n 3, 1), (49, .iaload, 1), (50, .iconst 2, 1), (51, .if_icmp .ne 10, 3), (54, .aload_n 0, 1), (55, .bipush (-3), 2), (57, .invokevirtual 119, 3), (60, .ireturn, 1), (61, .aload_n 0, 1), (62, .getfield 7, 3), (65, .iload_n 3, 1), (66, .iaload, 1), (67, .ifCond .ne 10, 3), (70, .aload_n 0, 1), (71, .bipush (-4), 2), (73, .invokevirtual 119, 3), (76, .ireturn, 1), (77, .aload_n 0, 1), (78, .getfield 52, 3), (81, .iload_n 1, 1), (82, .aload_n 0, 1), (83, .getfield 16, 3), (86, .iload_n 3, 1), (87, .iaload, 1), (88, .iastore, 1), (89, .iconst 0, 1), (90, .istore 4, 2), (92, .iload 4, 2), (94, .bipush 125, 2), (96, .if_icmp .ge 48, 3), (99, .aload_n 0, 1), (100, .getfield 36, 3), (103, .iload_n 1, 1), (104, .aaload, 1), (105, .iload 4, 2), (107, .iload 4, 2), (109, .aload_n 0, 1), (110, .getfield 16, 3), (113, .iload_n 3, 1), (114, .iaload, 1), (115, .if_icmp .ge 21, 3), (118, .aload_n 0, 1), (119, .getfield 21, 3), (122, .iload_n 3, 1), (123, .aaload, 1), (124, .iload 4, 2), (126, .laload, 1), (127, .lconst 0, 1), (128, .lcmp, 1), (129, .ifCond .eq 7, 3), (132, .iconst 1, 1), (133, .goto 4, 3), (136, .iconst 0, 1), (137, .iastore, 1), (138, .iinc 4 1, 3), (141, .goto (-49), 3), (144, .aload_n 0, 1), (145, .getfield 7, 3), (148, .iload_n 1, 1), (149, .iconst 2, 1), (150, .iastore, 1), (151, .aload_n 0, 1), (152, .getfield 28, 3), (155, .iload_n 1, 1), (156, .iload_n 2, 1), (157, .iastore, 1), (158, .aload_n 0, 1), (159, .getfield 31, 3), (162, .iload_n 1, 1), (163, .iload_n 3, 1), (164, .iastore, 1), (165, .iconst 1, 1), (166, .ireturn, 1)]
theorem ddX8_rule : dAll cX8_rule qX8_rule = true := by decide +kernel
def qX8_says : List (Nat × Instr × Nat) := [(0, .iload_n 1, 1), (1, .i2l, 1), (2, .lconst 0, 1), (3, .ldc2_w 113, 3), (6, .invokestatic 94, 3), (9, .ifCond .eq 15, 3), (12, .iload_n 2, 1), (13, .i2l, 1), (14, .lconst 0, 1), (15, .ldc2_w 130, 3), (18, .invokestatic 94, 3), (21, .ifCond .ne 10, 3), (24, .aload_n 0, 1), (25, .bipush (-2), 2), (27, .invokevirtual 119, 3), (30, .ireturn, 1), (31, .aload_n 0, 1), (32, .getfield 7, 3), (35, .iload_n 1, 1), (36, .iaload, 1), (37, .iconst 2, 1), (38, .if_icmp .ne 36, 3), (41, .iload_n 2, 1), (42, .ifCond .eq 28, 3), (45, .aload_n 0, 1), (46, .getfield 28, 3), (49, .iload_n 1, 1), (50, .iaload, 1), (51, .iload_n 2, 1), (52, .if_icmp .eq 18, 3), (55, .iload_n 2, 1), (56, .iconst 1, 1), (57, .if_icmp .ne 17, 3), (60, .aload_n 0, 1), (61, .getfield 28, 3), (64, .iload_n 1, 1), (65, .iaload, 1), (66, .iconst 3, 1), (67, .if_icmp .ne 7, 3), (70, .iconst 1, 1), (71, .goto 4, 3), (74, .iconst 0, 1), (75, .istore_n 3, 1), (76, .aload_n 0, 1), (77, .getfield 7, 3), (80, .iload_n 1, 1), (81, .iaload, 1), (82, .iconst 1, 1), (83, .if_icmp .eq 17, 3), (86, .aload_n 0, 1), (87, .getfield 7, 3), (90, .iload_n 1, 1), (91, .iaload, 1), (92, .iconst 2, 1), (93, .if_icmp .ne 14, 3), (96, .iload_n 3, 1), (97, .ifCond .ne 10, 3), (100, .aload_n 0, 1), (101, .bipush (-3), 2), (103, .invokevirtual 119, 3), (106, .ireturn, 1), (107, .aload_n 0, 1), (108, .getfield 7, 3), (111, .iload_n 1, 1), (112, .iaload, 1), (113, .ifCond .ne 10, 3), (116, .aload_n 0, 1), (117, .bipush (-4), 2), (119, .invokevirtual 119, 3), (122, .ireturn, 1), (123, .iload_n 2, 1), (124, .tableswitch 86 0 4 #[36, 38, 67, 74, 84], 36), (160, .iconst 0, 1), (161, .ireturn, 1), (162, .aload_n 0, 1), (163, .getfield 28, 3), (166, .iload_n 1, 1), (167, .iaload, 1), (168, .iconst 3, 1), (169, .if_icmp .ne 15, 3), (172, .aload_n 0, 1), (173, .getfield 31, 3), (176, .iload_n 1, 1), (177, .iaload, 1), (178, .bipush 10, 2), (180, .idiv, 1), (181, .goto 9, 3), (184, .aload_n 0, 1), (185, .getfield 31, 3), (188, .iload_n 1, 1), (189, .iaload, 1), (190, .ireturn, 1), (191, .aload_n 0, 1), (192, .getfield 31, 3), (195, .iload_n 1, 1), (196, .iaload, 1), (197, .ireturn, 1), (198, .aload_n 0, 1), (199, .getfield 31, 3), (202, .iload_n 1, 1), (203, .iaload, 1), (204, .bipush 10, 2), (206, .irem, 1), (207, .ireturn, 1), (208, .iconst 1, 1), (209, .ireturn, 1), (210, .aload_n 0, 1), (211, .getfield 52, 3), (214, .iload_n 1, 1), (215, .iaload, 1), (216, .ireturn, 1)]
theorem ddX8_says : dAll cX8_says qX8_says = true := by decide +kernel
def qX8_feed : List (Nat × Instr × Nat) := [(0, .iload_n 2, 1), (1, .i2l, 1), (2, .lconst 1, 1), (3, .ldc2_w 115, 3), (6, .invokestatic 94, 3), (9, .ifCond .ne 10, 3), (12, .aload_n 0, 1), (13, .bipush (-2), 2), (15, .invokevirtual 119, 3), (18, .ireturn, 1), (19, .iload_n 2, 1), (20, .sipush 160, 3), (23, .aload_n 0, 1), (24, .getfield 136, 3), (27, .isub, 1), (28, .if_icmp .le 10, 3), (31, .aload_n 0, 1), (32, .bipush (-6), 2), (34, .invokevirtual 119, 3), (37, .ireturn, 1), (38, .iload_n 2, 1), (39, .iconst 1, 1), (40, .isub, 1), (41, .istore_n 3, 1), (42, .iload_n 3, 1), (43, .ifCond .lt 35, 3), (46, .aload_n 0, 1), (47, .getfield 39, 3), (50, .aload_n 0, 1), (51, .dup, 1), (52, .getfield 136, 3), (55, .dup_x1, 1), (56, .iconst 1, 1), (57, .iadd, 1), (58, .putfield 136, 3), (61, .iload_n 1, 1), (62, .bipush 8, 2), (64, .iload_n 3, 1), (65, .imul, 1), (66, .ishr, 1), (67, .sipush 255, 3), (70, .iand, 1), (71, .iastore, 1), (72, .iinc 3 (-1), 3), (75, .goto (-33), 3), (78, .aload_n 0, 1), (79, .getfield 136, 3), (82, .ireturn, 1)]
theorem ddX8_feed : dAll cX8_feed qX8_feed = true := by decide +kernel
def qX8_wipe : List (Nat × Instr × Nat) := [(0, .aload_n 0, 1), (1, .getfield 136, 3), (4, .istore_n 1, 1), (5, .aload_n 0, 1), (6, .iconst 0, 1), (7, .putfield 136, 3), (10, .iload_n 1, 1), (11, .ireturn, 1)]
theorem ddX8_wipe : dAll cX8_wipe qX8_wipe = true := by decide +kernel
def qX8_isLetter : List (Nat × Instr × Nat) := [(0, .iload_n 0, 1), (1, .bipush 97, 2), (3, .if_icmp .lt 13, 3), (6, .iload_n 0, 1), (7, .bipush 122, 2), (9, .if_icmp .gt 7, 3), (12, .iconst 1, 1), (13, .goto 4, 3), (16, .iconst 0, 1), (17, .ireturn, 1)]
theorem ddX8_isLetter : dAll cX8_isLetter qX8_isLetter = true := by decide +kernel
def qX8_isDigit : List (Nat × Instr × Nat) := [(0, .iload_n 0, 1), (1, .bipush 48, 2), (3, .if_icmp .lt 13, 3), (6, .iload_n 0, 1), (7, .bipush 57, 2), (9, .if_icmp .gt 7, 3), (12, .iconst 1, 1), (13, .goto 4, 3), (16, .iconst 0, 1), (17, .ireturn, 1)]
theorem ddX8_isDigit : dAll cX8_isDigit qX8_isDigit = true := by decide +kernel
def qX8_look : List (Nat × Instr × Nat) := [(0, .aload_n 0, 1), (1, .getfield 139, 3), (4, .aload_n 0, 1), (5, .getfield 136, 3), (8, .if_icmp .ge 30, 3), (11, .aload_n 0, 1), (12, .getfield 39, 3), (15, .aload_n 0, 1), (16, .getfield 139, 3), (19, .iaload, 1), (20, .bipush 32, 2), (22, .if_icmp .ne 16, 3), (25, .aload_n 0, 1), (26, .dup, 1), (27, .getfield 139, 3), (30, .iconst 1, 1), (31, .iadd, 1), (32, .putfield 139, 3), (35, .goto (-35), 3), (38, .aload_n 0, 1), (39, .aload_n 0, 1), (40, .getfield 139, 3), (43, .putfield 142, 3), (46, .aload_n 0, 1), (47, .lconst 0, 1), (48, .putfield 145, 3), (51, .aload_n 0, 1), (52, .getfield 139, 3), (55, .aload_n 0, 1), (56, .getfield 136, 3), (59, .if_icmp .ne 11, 3), (62, .aload_n 0, 1), (63, .iconst 0, 1), (64, .putfield 149, 3), (67, .goto 200, 3), (70, .aload_n 0, 1), (71, .getfield 39, 3), (74, .aload_n 0, 1), (75, .getfield 139, 3), (78, .iaload, 1), (79, .invokestatic 152, 3), (82, .ifCond .eq 47, 3), (85, .aload_n 0, 1), (86, .iconst 1, 1), (87, .putfield 149, 3), (90, .aload_n 0, 1), (91, .getfield 139, 3), (94, .aload_n 0, 1), (95, .getfield 136, 3), (98, .if_icmp .ge 169, 3), (101, .aload_n 0, 1), (102, .getfield 39, 3), (105, .aload_n 0, 1), (106, .getfield 139, 3), (109, .iaload, 1), (110, .invokestatic 152, 3), (113, .ifCond .eq 154, 3), (116, .aload_n 0, 1), (117, .dup, 1), (118, .getfield 139, 3), (121, .iconst 1, 1), (122, .iadd, 1), (123, .putfield 139, 3), (126, .goto (-36), 3), (129, .aload_n 0, 1), (130, .getfield 39, 3), (133, .aload_n 0, 1), (134, .getfield 139, 3), (137, .iaload, 1), (138, .invokestatic 155, 3), (141, .ifCond .eq 93, 3), (144, .aload_n 0, 1), (145, .iconst 2, 1), (146, .putfield 149, 3), (149, .aload_n 0, 1), (150, .getfield 139, 3), (153, .aload_n 0, 1), (154, .getfield 136, 3), (157, .if_icmp .ge 110, 3), (160, .aload_n 0, 1), (161, .getfield 39, 3), (164, .aload_n 0, 1), (165, .getfield 139, 3), (168, .iaload, 1), (169, .invokestatic 155, 3), (172, .ifCond .eq 95, 3), (175, .aload_n 0, 1), (176, .aload_n 0, 1), (177, .getfield 139, 3), (180, .aload_n 0, 1), (181, .getfield 142, 3), (184, .isub, 1), (185, .iconst 2, 1), (186, .if_icmp .ge 29, 3), (189, .aload_n 0, 1), (190, .getfield 145, 3), (193, .ldc2_w 158, 3), (196, .lmul, 1), (197, .aload_n 0, 1), (198, .getfield 39, 3), (201, .aload_n 0, 1), (202, .getfield 139, 3), (205, .iaload, 1), (206, .i2l, 1), (207, .ladd, 1), (208, .ldc2_w 160, 3), (211, .lsub, 1), (212, .goto 6, 3), (215, .ldc2_w 162, 3), (218, .putfield 145, 3), (221, .aload_n 0, 1), (222, .dup, 1), (223, .getfield 139, 3), (226, .iconst 1, 1), (227, .iadd, 1), (228, .putfield 139, 3), (231, .goto (-82), 3), (234, .aload_n 0, 1), (235, .aload_n 0, 1), (236, .getfield 39, 3), (239, .aload_n 0, 1), (240, .getfield 139, 3), (243, .iaload, 1), (244, .bipush 59, 2), (246, .if_icmp .ne 7, 3), (249, .iconst 3, 1), (250, .goto 4, 3), (253, .iconst 4, 1), (254, .putfield 149, 3), (257, .aload_n 0, 1), (258, .dup, 1), (259, .getfield 139, 3), (262, .iconst 1, 1), (263, .iadd, 1), (264, .putfield 139, 3), (267, .return_, 1)]
theorem ddX8_look : dAll cX8_look qX8_look = true := by decide +kernel
def qX8_wrong : List (Nat × Instr × Nat) := [(0, .aload_n 0, 1), (1, .aload_n 0, 1), (2, .getfield 142, 3), (5, .putfield 164, 3), (8, .iconst 0, 1), (9, .ireturn, 1)]
theorem ddX8_wrong : dAll cX8_wrong qX8_wrong = true := by decide +kernel
def qX8_isWord : List (Nat × Instr × Nat) := [(0, .aload_n 0, 1), (1, .getfield 149, 3), (4, .iconst 1, 1), (5, .if_icmp .ne 19, 3), (8, .aload_n 0, 1), (9, .getfield 139, 3), (12, .aload_n 0, 1), (13, .getfield 142, 3), (16, .isub, 1), (17, .aload_n 1, 1), (18, .invokevirtual 167, 3), (21, .if_icmp .eq 5, 3), (24, .iconst 0, 1), (25, .ireturn, 1), (26, .iconst 0, 1), (27, .istore_n 2, 1), (28, .iload_n 2, 1), (29, .aload_n 1, 1), (30, .invokevirtual 167, 3), (33, .if_icmp .ge 30, 3), (36, .aload_n 0, 1), (37, .getfield 39, 3), (40, .aload_n 0, 1), (41, .getfield 142, 3), (44, .iload_n 2, 1), (45, .iadd, 1), (46, .iaload, 1), (47, .aload_n 1, 1), (48, .iload_n 2, 1), (49, .invokevirtual 173, 3), (52, .if_icmp .eq 5, 3), (55, .iconst 0, 1), (56, .ireturn, 1), (57, .iinc 2 1, 3), (60, .goto (-32), 3), (63, .iconst 1, 1), (64, .ireturn, 1)]
theorem ddX8_isWord : dAll cX8_isWord qX8_isWord = true := by decide +kernel
def qX8_told : List (Nat × Instr × Nat) := [(0, .aload_n 0, 1), (1, .aload_n 1, 1), (2, .invokevirtual 177, 3), (5, .ifCond .ne 8, 3), (8, .aload_n 0, 1), (9, .invokevirtual 181, 3), (12, .ireturn, 1), (13, .aload_n 0, 1), (14, .invokevirtual 185, 3), (17, .aload_n 0, 1), (18, .getfield 149, 3), (21, .iconst 2, 1), (22, .if_icmp .ne 19, 3), (25, .aload_n 0, 1), (26, .getfield 145, 3), (29, .iload 4, 2), (31, .i2l, 1), (32, .iload 5, 2), (34, .i2l, 1), (35, .invokestatic 94, 3), (38, .ifCond .ne 8, 3), (41, .aload_n 0, 1), (42, .invokevirtual 181, 3), (45, .ireturn, 1), (46, .aload_n 2, 1), (47, .iload_n 3, 1), (48, .aload_n 0, 1), (49, .getfield 145, 3), (52, .l2i, 1), (53, .iastore, 1), (54, .aload_n 0, 1), (55, .invokevirtual 185, 3), (58, .iconst 1, 1), (59, .ireturn, 1)]
theorem ddX8_told : dAll cX8_told qX8_told = true := by decide +kernel
def qX8_statement : List (Nat × Instr × Nat) := [(0, .aload_n 0, 1), (1, .ldc 188, 2), (3, .invokevirtual 177, 3), (6, .ifCond .eq 15, 3), (9, .aload_n 0, 1), (10, .ldc 188, 2), (12, .aload_n 1, 1), (13, .iconst 0, 1), (14, .iconst 1, 1), (15, .bipush 6, 2), (17, .invokevirtual 190, 3), (20, .ireturn, 1), (21, .aload_n 0, 1), (22, .ldc 194, 2), (24, .invokevirtual 177, 3), (27, .ifCond .eq 37, 3), (30, .aload_n 0, 1), (31, .ldc 194, 2), (33, .aload_n 1, 1), (34, .iconst 1, 1), (35, .iconst 0, 1), (36, .bipush 99, 2), (38, .invokevirtual 190, 3), (41, .ifCond .eq 21, 3), (44, .aload_n 0, 1), (45, .ldc 196, 2), (47, .aload_n 1, 1), (48, .iconst 2, 1), (49, .iconst 1, 1), (50, .bipush 40, 2), (52, .invokevirtual 190, 3), (55, .ifCond .eq 7, 3), (58, .iconst 1, 1), (59, .goto 4, 3), (62, .iconst 0, 1), (63, .ireturn, 1), (64, .aload_n 0, 1), (65, .ldc 198, 2), (67, .invokevirtual 177, 3), (70, .ifCond .eq 14, 3), (73, .aload_n 0, 1), (74, .ldc 198, 2), (76, .aload_n 1, 1), (77, .iconst 3, 1), (78, .iconst 0, 1), (79, .iconst 3, 1), (80, .invokevirtual 190, 3), (83, .ireturn, 1), (84, .aload_n 0, 1), (85, .ldc 200, 2), (87, .invokevirtual 177, 3), (90, .ifCond .eq 10, 3), (93, .aload_n 1, 1), (94, .iconst 4, 1), (95, .iaload, 1), (96, .iconst 3, 1), (97, .if_icmp .ne 8, 3), (100, .aload_n 0, 1), (101, .invokevirtual 181, 3), (104, .ireturn, 1), (105, .aload_n 0, 1), (106, .invokevirtual 185, 3), (109, .iconst 5, 1), (110, .iconst 5, 1), (111, .aload_n 1, 1), (112, .iconst 4, 1), (113, .iaload, 1), (114, .imul, 1), (115, .iadd, 1), (116, .istore_n 2, 1), (117, .aload_n 1, 1), (118, .iload_n 2, 1), (119, .iconst 3, 1), (120, .iadd, 1), (121, .iconst 0, 1), (122, .iastore, 1), (123, .aload_n 1, 1), (124, .iload_n 2, 1), (125, .iconst 4, 1), (126, .iadd, 1), (127, .iconst 0, 1), (128, .iastore, 1), (129, .aload_n 0, 1), (130, .ldc 196, 2), (132, .aload_n 1, 1), (133, .iload_n 2, 1), (134, .iconst 1, 1), (135, .bipush 9, 2), (137, .invokevirtual 190, 3), (140, .ifCond .eq 34, 3), (143, .aload_n 0, 1), (144, .ldc 202, 2), (146, .aload_n 1, 1), (147, .iload_n 2, 1), (148, .iconst 1, 1), (149, .iadd, 1), (150, .iconst 0, 1), (151, .iconst 4, 1), (152, .invokevirtual 190, 3), (155, .ifCond .eq 19, 3), (158, .aload_n 0, 1), (159, .ldc 204, 2), (161, .aload_n 1, 1), (162, .iload_n 2, 1), (163, .iconst 2, 1), (164, .iadd, 1), (165, .iconst 0, 1), (166, .bipush 9, 2), (168, .invokevirtual 190, 3), (171, .ifCond .ne 5, 3), (174, .iconst 0, 1), (175, .ireturn, 1), (176, .aload_n 0, 1), (177, .ldc 206, 2), (179, .invokevirtual 177, 3), (182, .ifCond .eq 21, 3), (185, .aload_n 0, 1), (186, .ldc 206, 2), (188, .aload_n 1, 1), (189, .iload_n 2, 1), (190, .iconst 3, 1), (191, .iadd, 1), (192, .iconst 0, 1), (193, .bipush 99, 2), (195, .invokevirtual 190, 3), (198, .ifCond .ne 5, 3), (201, .iconst 0, 1), (202, .ireturn, 1), (203, .aload_n 0, 1), (204, .ldc 207, 2), (206, .invokevirtual 177, 3), (209, .ifCond .eq 21, 3), (212, .aload_n 0, 1), (213, .ldc 207, 2), (215, .aload_n 1, 1), (216, .iload_n 2, 1), (217, .iconst 4, 1), (218, .iadd, 1), (219, .iconst 0, 1), (220, .bipush 99, 2), (222, .invokevirtual 190, 3), (225, .ifCond .ne 5, 3), (228, .iconst 0, 1), (229, .ireturn, 1), (230, .aload_n 1, 1), (231, .iconst 4, 1), (232, .dup2, 1), (233, .iaload, 1), (234, .iconst 1, 1), (235, .iadd, 1), (236, .iastore, 1), (237, .iconst 1, 1), (238, .ireturn, 1)]
theorem ddX8_statement : dAll cX8_statement qX8_statement = true := by decide +kernel
def qX8_read : List (Nat × Instr × Nat) := [(0, .aload_n 1, 1), (1, .iconst 0, 1), (2, .iconst 3, 1), (3, .iastore, 1), (4, .aload_n 1, 1), (5, .iconst 1, 1), (6, .bipush 10, 2), (8, .iastore, 1), (9, .aload_n 1, 1), (10, .iconst 2, 1), (11, .bipush 10, 2), (13, .iastore, 1), (14, .aload_n 1, 1), (15, .iconst 3, 1), (16, .iconst 0, 1), (17, .iastore, 1), (18, .aload_n 1, 1), (19, .iconst 4, 1), (20, .iconst 0, 1), (21, .iastore, 1), (22, .aload_n 0, 1), (23, .iconst 0, 1), (24, .putfield 139, 3), (27, .aload_n 0, 1), (28, .invokevirtual 185, 3), (31, .aload_n 0, 1), (32, .aload_n 1, 1), (33, .invokevirtual 209, 3), (36, .ifCond .ne 5, 3), (39, .iconst 0, 1), (40, .ireturn, 1), (41, .aload_n 0, 1), (42, .getfield 149, 3), (45, .ifCond .eq 30, 3), (48, .aload_n 0, 1), (49, .getfield 149, 3), (52, .iconst 3, 1), (53, .if_icmp .eq 8, 3), (56, .aload_n 0, 1), (57, .invokevirtual 181, 3), (60, .ireturn, 1), (61, .aload_n 0, 1), (62, .invokevirtual 185, 3), (65, .aload_n 0, 1), (66, .aload_n 1, 1), (67, .invokevirtual 209, 3), (70, .ifCond .ne (-29), 3), (73, .iconst 0, 1), (74, .ireturn, 1), (75, .aload_n 1, 1), (76, .iconst 4, 1), (77, .iaload, 1), (78, .ifCond .gt 10, 3), (81, .aload_n 0, 1), (82, .invokevirtual 181, 3), (85, .ifCond .eq 7, 3), (88, .iconst 1, 1), (89, .goto 4, 3), (92, .iconst 0, 1), (93, .ireturn, 1)]
theorem ddX8_read : dAll cX8_read qX8_read = true := by decide +kernel
def qX8_house : List (Nat × Instr × Nat) := [(0, .aload_n 0, 1), (1, .getfield 91, 3), (4, .bipush 6, 2), (6, .if_icmp .ne 10, 3), (9, .aload_n 0, 1), (10, .bipush (-6), 2), (12, .invokevirtual 119, 3), (15, .ireturn, 1), (16, .aload_n 0, 1), (17, .aload_n 0, 1), (18, .getfield 45, 3), (21, .aload_n 0, 1), (22, .getfield 91, 3), (25, .aaload, 1), (26, .invokevirtual 213, 3), (29, .istore_n 1, 1), (30, .aload_n 0, 1), (31, .iconst 0, 1), (32, .putfield 136, 3), (35, .iload_n 1, 1), (36, .ifCond .ne 18, 3), (39, .aload_n 0, 1), (40, .bipush (-2), 2), (42, .invokevirtual 119, 3), (45, .pop, 1), (46, .bipush (-20), 2), (48, .aload_n 0, 1), (49, .getfield 164, 3), (52, .isub, 1), (53, .ireturn, 1), (54, .aload_n 0, 1), (55, .dup, 1), (56, .getfield 91, 3), (59, .dup_x1, 1), (60, .iconst 1, 1), (61, .iadd, 1), (62, .putfield 91, 3), (65, .ireturn, 1)]
theorem ddX8_house : dAll cX8_house qX8_house = true := by decide +kernel
def qX8_houseOf : List (Nat × Instr × Nat) := [(0, .aload_n 0, 1), (1, .iload_n 1, 1), (2, .invokevirtual 106, 3), (5, .ifCond .eq 26, 3), (8, .iload_n 2, 1), (9, .i2l, 1), (10, .lconst 0, 1), (11, .ldc2_w 115, 3), (14, .invokestatic 94, 3), (17, .ifCond .eq 14, 3), (20, .aload_n 0, 1), (21, .getfield 45, 3), (24, .iload_n 1, 1), (25, .aaload, 1), (26, .iload_n 2, 1), (27, .iaload, 1), (28, .goto 9, 3), (31, .aload_n 0, 1), (32, .bipush (-2), 2), (34, .invokevirtual 119, 3), (37, .ireturn, 1)]
theorem ddX8_houseOf : dAll cX8_houseOf qX8_houseOf = true := by decide +kernel
def qX8_sortOf : List (Nat × Instr × Nat) := [(0, .aload_n 0, 1), (1, .iload_n 1, 1), (2, .invokevirtual 106, 3), (5, .ifCond .eq 32, 3), (8, .iload_n 2, 1), (9, .i2l, 1), (10, .lconst 0, 1), (11, .aload_n 0, 1), (12, .iload_n 1, 1), (13, .invokevirtual 98, 3), (16, .iconst 1, 1), (17, .isub, 1), (18, .i2l, 1), (19, .invokestatic 94, 3), (22, .ifCond .eq 15, 3), (25, .iload_n 3, 1), (26, .i2l, 1), (27, .lconst 0, 1), (28, .ldc2_w 115, 3), (31, .invokestatic 94, 3), (34, .ifCond .ne 10, 3), (37, .aload_n 0, 1), (38, .bipush (-2), 2), (40, .invokevirtual 119, 3), (43, .ireturn, 1), (44, .aload_n 0, 1), (45, .getfield 45, 3), (48, .iload_n 1, 1), (49, .aaload, 1), (50, .iconst 5, 1), (51, .iconst 5, 1), (52, .iload_n 2, 1), (53, .imul, 1), (54, .iadd, 1), (55, .iload_n 3, 1), (56, .iadd, 1), (57, .iaload, 1), (58, .ireturn, 1)]
theorem ddX8_sortOf : dAll cX8_sortOf qX8_sortOf = true := by decide +kernel
def qX8_alter : List (Nat × Instr × Nat) := [(0, .aload_n 0, 1), (1, .iload_n 1, 1), (2, .invokevirtual 106, 3), (5, .ifCond .eq 57, 3), (8, .iload_n 2, 1), (9, .i2l, 1), (10, .lconst 0, 1), (11, .ldc2_w 216, 3), (14, .invokestatic 94, 3), (17, .ifCond .eq 45, 3), (20, .iload_n 3, 1), (21, .i2l, 1), (22, .iload_n 2, 1), (23, .iconst 1, 1), (24, .if_icmp .ne 7, 3), (27, .lconst 1, 1), (28, .goto 4, 3), (31, .lconst 0, 1), (32, .iload_n 2, 1), (33, .ifCond .ne 9, 3), (36, .ldc2_w 126, 3), (39, .goto 17, 3), (42, .iload_n 2, 1), (43, .iconst 1, 1), (44, .if_icmp .ne 9, 3), (47, .ldc2_w 218, 3), (50, .goto 6, 3), (53, .ldc2_w 220, 3), (56, .invokestatic 94, 3), (59, .ifCond .ne 10, 3), (62, .aload_n 0, 1), (63, .bipush (-2), 2), (65, .invokevirtual 119, 3), (68, .ireturn, 1), (69, .aload_n 0, 1), (70, .getfield 45, 3), (73, .iload_n 1, 1), (74, .aaload, 1), (75, .iconst 1, 1), (76, .iload_n 2, 1), (77, .iadd, 1), (78, .iaload, 1), (79, .istore 4, 2), (81, .aload_n 0, 1), (82, .getfield 45, 3), (85, .iload_n 1, 1), (86, .aaload, 1), (87, .iconst 1, 1), (88, .iload_n 2, 1), (89, .iadd, 1), (90, .iload_n 3, 1), (91, .iastore, 1), (92, .iload 4, 2), (94, .ireturn, 1)]
theorem ddX8_alter : dAll cX8_alter qX8_alter = true := by decide +kernel
def qX8_change : List (Nat × Instr × Nat) := [(0, .aload_n 0, 1), (1, .iload_n 1, 1), (2, .invokevirtual 106, 3), (5, .ifCond .eq 66, 3), (8, .iload_n 2, 1), (9, .i2l, 1), (10, .lconst 0, 1), (11, .aload_n 0, 1), (12, .iload_n 1, 1), (13, .invokevirtual 98, 3), (16, .iconst 1, 1), (17, .isub, 1), (18, .i2l, 1), (19, .invokestatic 94, 3), (22, .ifCond .eq 49, 3), (25, .iload_n 3, 1), (26, .i2l, 1), (27, .lconst 0, 1), (28, .ldc2_w 220, 3), (31, .invokestatic 94, 3), (34, .ifCond .eq 37, 3), (37, .iload 4, 2), (39, .i2l, 1), (40, .lconst 0, 1), (41, .iload_n 3, 1), (42, .ifCond .ne 9, 3), (45, .ldc2_w 115, 3), (48, .goto 17, 3), (51, .iload_n 3, 1), (52, .iconst 1, 1), (53, .if_icmp .ne 9, 3), (56, .ldc2_w 222, 3), (59, .goto 6, 3), (62, .ldc2_w 126, 3), (65, .invokestatic 94, 3), (68, .ifCond .ne 10, 3), (71, .aload_n 0, 1), (72, .bipush (-2), 2), (74, .invokevirtual 119, 3), (77, .ireturn, 1), (78, .bipush 6, 2), (80, .iconst 5, 1), (81, .iload_n 2, 1), (82, .imul, 1), (83, .iadd, 1), (84, .iload_n 3, 1), (85, .iadd, 1), (86, .istore 5, 2), (88, .aload_n 0, 1), (89, .getfield 45, 3), (92, .iload_n 1, 1), (93, .aaload, 1), (94, .iload 5, 2), (96, .iaload, 1), (97, .istore 6, 2), (99, .aload_n 0, 1), (100, .getfield 45, 3), (103, .iload_n 1, 1), (104, .aaload, 1), (105, .iload 5, 2), (107, .iload 4, 2), (109, .iastore, 1), (110, .iload 6, 2), (112, .ireturn, 1)]
theorem ddX8_change : dAll cX8_change qX8_change = true := by decide +kernel
def qX8_ofState : List (Nat × Instr × Nat) := [(0, .iload_n 0, 1), (1, .iconst 5, 1), (2, .iload_n 1, 1), (3, .invokestatic 102, 3), (6, .idiv, 1), (7, .iconst 5, 1), (8, .irem, 1), (9, .ireturn, 1)]
theorem ddX8_ofState : dAll cX8_ofState qX8_ofState = true := by decide +kernel
def qX8_of : List (Nat × Instr × Nat) := [(0, .iload_n 1, 1), (1, .i2l, 1), (2, .lconst 0, 1), (3, .ldc2_w 224, 3), (6, .invokestatic 94, 3), (9, .ifCond .eq 23, 3), (12, .iload_n 2, 1), (13, .i2l, 1), (14, .lconst 0, 1), (15, .ldc2_w 216, 3), (18, .invokestatic 94, 3), (21, .ifCond .eq 11, 3), (24, .iload_n 1, 1), (25, .iload_n 2, 1), (26, .invokestatic 226, 3), (29, .goto 9, 3), (32, .aload_n 0, 1), (33, .bipush (-2), 2), (35, .invokevirtual 119, 3), (38, .ireturn, 1)]
theorem ddX8_of : dAll cX8_of qX8_of = true := by decide +kernel
def qX8_numberOf : List (Nat × Instr × Nat) := [(0, .aload_n 0, 1), (1, .getfield 45, 3), (4, .iload_n 1, 1), (5, .aaload, 1), (6, .iconst 5, 1), (7, .iconst 5, 1), (8, .iload_n 2, 1), (9, .imul, 1), (10, .iadd, 1), (11, .iload_n 3, 1), (12, .iadd, 1), (13, .iaload, 1), (14, .ireturn, 1)]
theorem ddX8_numberOf : dAll cX8_numberOf qX8_numberOf = true := by decide +kernel
def qX8_sum : List (Nat × Instr × Nat) := [(0, .iconst 0, 1), (1, .istore 4, 2), (3, .iconst 0, 1), (4, .istore 5, 2), (6, .iload 5, 2), (8, .aload_n 0, 1), (9, .iload_n 1, 1), (10, .invokevirtual 98, 3), (13, .if_icmp .ge 29, 3), (16, .iload 4, 2), (18, .iload_n 2, 1), (19, .iload 5, 2), (21, .invokestatic 226, 3), (24, .aload_n 0, 1), (25, .iload_n 1, 1), (26, .iload 5, 2), (28, .iload_n 3, 1), (29, .invokevirtual 229, 3), (32, .imul, 1), (33, .iadd, 1), (34, .istore 4, 2), (36, .iinc 5 1, 3), (39, .goto (-33), 3), (42, .iload 4, 2), (44, .ireturn, 1)]
theorem ddX8_sum : dAll cX8_sum qX8_sum = true := by decide +kernel
def qX8_space : List (Nat × Instr × Nat) := [(0, .aload_n 0, 1), (1, .iload_n 1, 1), (2, .iload_n 2, 1), (3, .invokevirtual 233, 3), (6, .ifCond .eq 13, 3), (9, .aload_n 0, 1), (10, .iload_n 1, 1), (11, .iload_n 2, 1), (12, .iconst 0, 1), (13, .invokevirtual 236, 3), (16, .goto 9, 3), (19, .aload_n 0, 1), (20, .bipush (-2), 2), (22, .invokevirtual 119, 3), (25, .ireturn, 1)]
theorem ddX8_space : dAll cX8_space qX8_space = true := by decide +kernel
def qX8_scaleOf : List (Nat × Instr × Nat) := [(0, .lconst 1, 1), (1, .lstore_n 3, 1), (2, .iconst 0, 1), (3, .istore 5, 2), (5, .iload 5, 2), (7, .iload_n 2, 1), (8, .iconst 1, 1), (9, .aload_n 0, 1), (10, .iload_n 1, 1), (11, .invokevirtual 98, 3), (14, .iadd, 1), (15, .imul, 1), (16, .if_icmp .ge 15, 3), (19, .lload_n 3, 1), (20, .ldc2_w 115, 3), (23, .lmul, 1), (24, .lstore_n 3, 1), (25, .iinc 5 1, 3), (28, .goto (-23), 3), (31, .lload_n 3, 1), (32, .lreturn, 1)]
theorem ddX8_scaleOf : dAll cX8_scaleOf qX8_scaleOf = true := by decide +kernel
def qX8_scale : List (Nat × Instr × Nat) := [(0, .aload_n 0, 1), (1, .iload_n 1, 1), (2, .iload_n 2, 1), (3, .invokevirtual 239, 3), (6, .ifCond .eq 12, 3), (9, .aload_n 0, 1), (10, .iload_n 1, 1), (11, .iload_n 2, 1), (12, .invokevirtual 242, 3), (15, .goto 10, 3), (18, .aload_n 0, 1), (19, .bipush (-2), 2), (21, .invokevirtual 119, 3), (24, .i2l, 1), (25, .lreturn, 1)]
theorem ddX8_scale : dAll cX8_scale qX8_scale = true := by decide +kernel
def qX8_isLoad : List (Nat × Instr × Nat) := [(0, .iload_n 3, 1), (1, .iconst 5, 1), (2, .irem, 1), (3, .iload_n 2, 1), (4, .iconst 5, 1), (5, .irem, 1), (6, .if_icmp .gt 27, 3), (9, .iload_n 3, 1), (10, .iconst 5, 1), (11, .idiv, 1), (12, .iconst 5, 1), (13, .irem, 1), (14, .iload_n 2, 1), (15, .iconst 5, 1), (16, .idiv, 1), (17, .iconst 5, 1), (18, .irem, 1), (19, .if_icmp .gt 14, 3), (22, .iload_n 3, 1), (23, .bipush 25, 2), (25, .idiv, 1), (26, .iload_n 2, 1), (27, .bipush 25, 2), (29, .idiv, 1), (30, .if_icmp .le 5, 3), (33, .iconst 0, 1), (34, .ireturn, 1), (35, .aload_n 0, 1), (36, .iload_n 1, 1), (37, .iload_n 3, 1), (38, .iconst 0, 1), (39, .invokevirtual 236, 3), (42, .aload_n 0, 1), (43, .getfield 45, 3), (46, .iload_n 1, 1), (47, .aaload, 1), (48, .iconst 2, 1), (49, .iaload, 1), (50, .if_icmp .gt 7, 3), (53, .iconst 1, 1), (54, .goto 4, 3), (57, .iconst 0, 1), (58, .ireturn, 1)]
theorem ddX8_isLoad : dAll cX8_isLoad qX8_isLoad = true := by decide +kernel
def qX8_fillOf : List (Nat × Instr × Nat) := [(0, .iconst 0, 1), (1, .istore_n 3, 1), (2, .aload_n 0, 1), (3, .getfield 45, 3), (6, .iload_n 1, 1), (7, .aaload, 1), (8, .iconst 2, 1), (9, .iaload, 1), (10, .istore 4, 2), (12, .iconst 0, 1), (13, .istore 5, 2), (15, .iconst 0, 1), (16, .istore 6, 2), (18, .iload 6, 2), (20, .aload_n 0, 1), (21, .iload_n 1, 1), (22, .invokevirtual 98, 3), (25, .if_icmp .ge 142, 3), (28, .iconst (-1), 1), (29, .istore 7, 2), (31, .iconst 0, 1), (32, .istore 8, 2), (34, .iload 8, 2), (36, .aload_n 0, 1), (37, .iload_n 1, 1), (38, .invokevirtual 98, 3), (41, .if_icmp .ge 48, 3), (44, .iload 5, 2), (46, .iload 8, 2), (48, .ishr, 1), (49, .iconst 1, 1), (50, .iand, 1), (51, .ifCond .ne 32, 3), (54, .iload 7, 2), (56, .iconst (-1), 1), (57, .if_icmp .eq 22, 3), (60, .aload_n 0, 1), (61, .iload_n 1, 1), (62, .iload 8, 2), (64, .iconst 2, 1), (65, .invokevirtual 229, 3), (68, .aload_n 0, 1), (69, .iload_n 1, 1), (70, .iload 7, 2), (72, .iconst 2, 1), (73, .invokevirtual 229, 3), (76, .if_icmp .le 7, 3), (79, .iload 8, 2), (81, .istore 7, 2), (83, .iinc 8 1, 3), (86, .goto (-52), 3), (89, .iload 5, 2), (91, .iconst 1, 1), (92, .iload 7, 2), (94, .ishl, 1), (95, .ior, 1), (96, .istore 5, 2), (98, .aload_n 0, 1), (99, .iload_n 1, 1), (100, .iload 7, 2), (102, .iconst 0, 1), (103, .invokevirtual 229, 3), (106, .istore 8, 2), (108, .iload 4, 2), (110, .iload 8, 2), (112, .idiv, 1), (113, .istore 9, 2), (115, .iload 9, 2), (117, .iload_n 2, 1), (118, .iload 7, 2), (120, .invokestatic 226, 3), (123, .if_icmp .le 12, 3), (126, .iload_n 2, 1), (127, .iload 7, 2), (129, .invokestatic 226, 3), (132, .goto 5, 3), (135, .iload 9, 2), (137, .istore 9, 2), (139, .iload 4, 2), (141, .iload 9, 2), (143, .iload 8, 2), (145, .imul, 1), (146, .isub, 1), (147, .istore 4, 2), (149, .iload_n 3, 1), (150, .iload 9, 2), (152, .iconst 5, 1), (153, .iload 7, 2), (155, .invokestatic 102, 3), (158, .imul, 1), (159, .iadd, 1), (160, .istore_n 3, 1), (161, .iinc 6 1, 3), (164, .goto (-146), 3), (167, .iload_n 3, 1), (168, .ireturn, 1)]
theorem ddX8_fillOf : dAll cX8_fillOf qX8_fillOf = true := by decide +kernel
def qX8_fill : List (Nat × Instr × Nat) := [(0, .aload_n 0, 1), (1, .iload_n 1, 1), (2, .iload_n 2, 1), (3, .invokevirtual 233, 3), (6, .ifCond .eq 12, 3), (9, .aload_n 0, 1), (10, .iload_n 1, 1), (11, .iload_n 2, 1), (12, .invokevirtual 246, 3), (15, .goto 9, 3), (18, .aload_n 0, 1), (19, .bipush (-2), 2), (21, .invokevirtual 119, 3), (24, .ireturn, 1)]
theorem ddX8_fill : dAll cX8_fill qX8_fill = true := by decide +kernel
def qX8_findWays : List (Nat × Instr × Nat) := [(0, .aload_n 0, 1), (1, .iload_n 1, 1), (2, .invokevirtual 98, 3), (5, .istore_n 2, 1), (6, .iconst 0, 1), (7, .istore_n 3, 1), (8, .iload_n 3, 1), (9, .aload_n 0, 1), (10, .iload_n 1, 1), (11, .invokevirtual 110, 3), (14, .if_icmp .ge 47, 3), (17, .aload_n 0, 1), (18, .getfield 73, 3), (21, .iload_n 3, 1), (22, .aload_n 0, 1), (23, .iload_n 1, 1), (24, .iload_n 3, 1), (25, .invokevirtual 246, 3), (28, .iastore, 1), (29, .aload_n 0, 1), (30, .getfield 76, 3), (33, .iload_n 3, 1), (34, .aload_n 0, 1), (35, .iload_n 1, 1), (36, .iload_n 3, 1), (37, .iconst 0, 1), (38, .invokevirtual 236, 3), (41, .iastore, 1), (42, .aload_n 0, 1), (43, .getfield 79, 3), (46, .iload_n 3, 1), (47, .aload_n 0, 1), (48, .iload_n 1, 1), (49, .iload_n 3, 1), (50, .iconst 2, 1), (51, .invokevirtual 236, 3), (54, .iastore, 1), (55, .iinc 3 1, 3), (58, .goto (-50), 3), (61, .iconst 0, 1), (62, .istore_n 3, 1), (63, .iload_n 3, 1), (64, .iconst 1, 1), (65, .iload_n 2, 1), (66, .ishl, 1), (67, .if_icmp .ge 225, 3), (70, .aload_n 0, 1), (71, .getfield 64, 3), (74, .iload_n 3, 1), (75, .lconst 1, 1), (76, .lastore, 1), (77, .iconst 0, 1), (78, .istore 4, 2), (80, .iload 4, 2), (82, .iload_n 2, 1), (83, .if_icmp .ge 48, 3), (86, .aload_n 0, 1), (87, .iload_n 1, 1), (88, .iload 4, 2), (90, .iconst 1, 1), (91, .invokevirtual 229, 3), (94, .istore 5, 2), (96, .aload_n 0, 1), (97, .getfield 64, 3), (100, .iload_n 3, 1), (101, .dup2, 1), (102, .laload, 1), (103, .iload_n 3, 1), (104, .iload 4, 2), (106, .ishr, 1), (107, .iconst 1, 1), (108, .iand, 1), (109, .ifCond .eq 9, 3), (112, .iload 5, 2), (114, .i2l, 1), (115, .goto 8, 3), (118, .iconst 4, 1), (119, .iload 5, 2), (121, .isub, 1), (122, .i2l, 1), (123, .lmul, 1), (124, .lastore, 1), (125, .iinc 4 1, 3), (128, .goto (-48), 3), (131, .iconst 0, 1), (132, .istore 4, 2), (134, .iload 4, 2), (136, .aload_n 0, 1), (137, .iload_n 1, 1), (138, .invokevirtual 110, 3), (141, .if_icmp .ge 145, 3), (144, .aload_n 0, 1), (145, .getfield 67, 3), (148, .iload_n 3, 1), (149, .aaload, 1), (150, .iload 4, 2), (152, .iload 4, 2), (154, .iastore, 1), (155, .aload_n 0, 1), (156, .getfield 70, 3), (159, .iload_n 3, 1), (160, .aaload, 1), (161, .iload 4, 2), (163, .iconst 0, 1), (164, .iastore, 1), (165, .iconst 0, 1), (166, .istore 5, 2), (168, .iload 5, 2), (170, .iload_n 2, 1), (171, .if_icmp .ge 109, 3), (174, .iload_n 3, 1), (175, .iload 5, 2), (177, .ishr, 1), (178, .iconst 1, 1), (179, .iand, 1), (180, .ifCond .eq 7, 3), (183, .iconst 1, 1), (184, .goto 4, 3), (187, .iconst 0, 1), (188, .istore 6, 2), (190, .iload 4, 2), (192, .iload 5, 2), (194, .invokestatic 226, 3), (197, .iconst 4, 1), (198, .if_icmp .ne 7, 3), (201, .iconst 1, 1), (202, .goto 4, 3), (205, .iconst 0, 1), (206, .istore 7, 2), (208, .aload_n 0, 1), (209, .getfield 67, 3), (212, .iload_n 3, 1), (213, .aaload, 1), (214, .iload 4, 2), (216, .dup2, 1), (217, .iaload, 1), (218, .iload 6, 2), (220, .ifCond .eq 17, 3), (223, .iload 7, 2), (225, .ifCond .ne 12, 3), (228, .iconst 5, 1), (229, .iload 5, 2), (231, .invokestatic 102, 3), (234, .goto 4, 3), (237, .iconst 0, 1), (238, .iadd, 1), (239, .iastore, 1), (240, .aload_n 0, 1), (241, .getfield 70, 3), (244, .iload_n 3, 1), (245, .aaload, 1), (246, .iload 4, 2), (248, .dup2, 1), (249, .iaload, 1), (250, .iload 6, 2), (252, .ifCond .eq 19, 3), (255, .iload 7, 2), (257, .ifCond .eq 14, 3), (260, .aload_n 0, 1), (261, .iload_n 1, 1), (262, .iload 5, 2), (264, .iconst 3, 1), (265, .invokevirtual 229, 3), (268, .goto 4, 3), (271, .iconst 0, 1), (272, .iadd, 1), (273, .iastore, 1), (274, .iinc 5 1, 3), (277, .goto (-109), 3), (280, .iinc 4 1, 3), (283, .goto (-149), 3), (286, .iinc 3 1, 3), (289, .goto (-226), 3), (292, .return_, 1)]
theorem ddX8_findWays : dAll cX8_findWays qX8_findWays = true := by decide +kernel
def qX8_behind : List (Nat × Instr × Nat) := [(0, .aload_n 0, 1), (1, .iload_n 1, 1), (2, .invokevirtual 98, 3), (5, .istore 5, 2), (7, .aload_n 0, 1), (8, .iload_n 1, 1), (9, .iload_n 2, 1), (10, .iconst 1, 1), (11, .isub, 1), (12, .invokevirtual 242, 3), (15, .lstore 6, 2), (17, .aload_n 0, 1), (18, .getfield 79, 3), (21, .iload_n 3, 1), (22, .iaload, 1), (23, .i2l, 1), (24, .iconst 4, 1), (25, .iload 5, 2), (27, .invokestatic 102, 3), (30, .i2l, 1), (31, .lmul, 1), (32, .lload 6, 2), (34, .lmul, 1), (35, .lstore 8, 2), (37, .iconst 0, 1), (38, .istore 10, 2), (40, .iload 10, 2), (42, .iconst 1, 1), (43, .iload 5, 2), (45, .ishl, 1), (46, .if_icmp .ge 60, 3), (49, .aload_n 0, 1), (50, .getfield 64, 3), (53, .iload 10, 2), (55, .laload, 1), (56, .lconst 0, 1), (57, .lcmp, 1), (58, .ifCond .le 42, 3), (61, .lload 8, 2), (63, .aload_n 0, 1), (64, .getfield 64, 3), (67, .iload 10, 2), (69, .laload, 1), (70, .aload_n 0, 1), (71, .getfield 70, 3), (74, .iload 10, 2), (76, .aaload, 1), (77, .iload_n 3, 1), (78, .iaload, 1), (79, .i2l, 1), (80, .lload 6, 2), (82, .lmul, 1), (83, .aload 4, 2), (85, .aload_n 0, 1), (86, .getfield 67, 3), (89, .iload 10, 2), (91, .aaload, 1), (92, .iload_n 3, 1), (93, .iaload, 1), (94, .laload, 1), (95, .ladd, 1), (96, .lmul, 1), (97, .ladd, 1), (98, .lstore 8, 2), (100, .iinc 10 1, 3), (103, .goto (-63), 3), (106, .lload 8, 2), (108, .lreturn, 1)]
theorem ddX8_behind : dAll cX8_behind qX8_behind = true := by decide +kernel
def qX8_boxOf : List (Nat × Instr × Nat) := [(0, .aload_n 0, 1), (1, .getfield 45, 3), (4, .iload_n 1, 1), (5, .aaload, 1), (6, .iconst 1, 1), (7, .iaload, 1), (8, .i2l, 1), (9, .iconst 4, 1), (10, .aload_n 0, 1), (11, .iload_n 1, 1), (12, .invokevirtual 98, 3), (15, .invokestatic 102, 3), (18, .i2l, 1), (19, .lmul, 1), (20, .aload_n 0, 1), (21, .iload_n 1, 1), (22, .iload_n 2, 1), (23, .iconst 1, 1), (24, .isub, 1), (25, .invokevirtual 242, 3), (28, .lmul, 1), (29, .lreturn, 1)]
theorem ddX8_boxOf : dAll cX8_boxOf qX8_boxOf = true := by decide +kernel
def qX8_findBest : List (Nat × Instr × Nat) := [(0, .aload_n 0, 1), (1, .iload_n 1, 1), (2, .invokevirtual 249, 3), (5, .iconst 0, 1), (6, .istore_n 2, 1), (7, .iload_n 2, 1), (8, .aload_n 0, 1), (9, .iload_n 1, 1), (10, .invokevirtual 110, 3), (13, .if_icmp .ge 34, 3), (16, .aload_n 0, 1), (17, .getfield 55, 3), (20, .iconst 0, 1), (21, .aaload, 1), (22, .iload_n 2, 1), (23, .aload_n 0, 1), (24, .iload_n 1, 1), (25, .iload_n 2, 1), (26, .iconst 4, 1), (27, .invokevirtual 236, 3), (30, .i2l, 1), (31, .lastore, 1), (32, .aload_n 0, 1), (33, .getfield 58, 3), (36, .iconst 0, 1), (37, .aaload, 1), (38, .iload_n 2, 1), (39, .iconst 0, 1), (40, .iastore, 1), (41, .iinc 2 1, 3), (44, .goto (-37), 3), (47, .iconst 1, 1), (48, .istore_n 2, 1), (49, .iload_n 2, 1), (50, .aload_n 0, 1), (51, .getfield 45, 3), (54, .iload_n 1, 1), (55, .aaload, 1), (56, .iconst 0, 1), (57, .iaload, 1), (58, .if_icmp .gt 215, 3), (61, .iconst 0, 1), (62, .istore_n 3, 1), (63, .iload_n 3, 1), (64, .aload_n 0, 1), (65, .iload_n 1, 1), (66, .invokevirtual 110, 3), (69, .if_icmp .ge 30, 3), (72, .aload_n 0, 1), (73, .getfield 82, 3), (76, .iload_n 3, 1), (77, .aload_n 0, 1), (78, .iload_n 1, 1), (79, .iload_n 2, 1), (80, .iload_n 3, 1), (81, .aload_n 0, 1), (82, .getfield 55, 3), (85, .iload_n 2, 1), (86, .iconst 1, 1), (87, .isub, 1), (88, .aaload, 1), (89, .invokevirtual 253, 3), (92, .lastore, 1), (93, .iinc 3 1, 3), (96, .goto (-33), 3), (99, .iconst 0, 1), (100, .istore_n 3, 1), (101, .iload_n 3, 1), (102, .aload_n 0, 1), (103, .iload_n 1, 1), (104, .invokevirtual 110, 3), (107, .if_icmp .ge 160, 3), (110, .aload_n 0, 1), (111, .getfield 82, 3), (114, .iload_n 3, 1), (115, .laload, 1), (116, .lstore 4, 2), (118, .iconst 0, 1), (119, .istore 6, 2), (121, .iconst 1, 1), (122, .istore 7, 2), (124, .iload 7, 2), (126, .iload_n 3, 1), (127, .if_icmp .gt 85, 3), (130, .aload_n 0, 1), (131, .getfield 76, 3), (134, .iload 7, 2), (136, .iaload, 1), (137, .aload_n 0, 1), (138, .getfield 45, 3), (141, .iload_n 1, 1), (142, .aaload, 1), (143, .iconst 2, 1), (144, .iaload, 1), (145, .if_icmp .gt 61, 3), (148, .aload_n 0, 1), (149, .iload_n 1, 1), (150, .iload_n 3, 1), (151, .iload 7, 2), (153, .invokevirtual 257, 3), (156, .ifCond .eq 50, 3), (159, .aload_n 0, 1), (160, .iload_n 1, 1), (161, .iload_n 2, 1), (162, .invokevirtual 261, 3), (165, .aload_n 0, 1), (166, .getfield 82, 3), (169, .iload_n 3, 1), (170, .iload 7, 2), (172, .isub, 1), (173, .laload, 1), (174, .ladd, 1), (175, .lstore 8, 2), (177, .lload 8, 2), (179, .lload 4, 2), (181, .lcmp, 1), (182, .ifCond .lt 16, 3), (185, .iload_n 2, 1), (186, .aload_n 0, 1), (187, .getfield 88, 3), (190, .if_icmp .ne 16, 3), (193, .iload 6, 2), (195, .ifCond .ne 11, 3), (198, .lload 8, 2), (200, .lstore 4, 2), (202, .iload 7, 2), (204, .istore 6, 2), (206, .iinc 7 1, 3), (209, .goto (-85), 3), (212, .aload_n 0, 1), (213, .getfield 55, 3), (216, .iload_n 2, 1), (217, .aaload, 1), (218, .iload_n 3, 1), (219, .aload_n 0, 1), (220, .getfield 45, 3), (223, .iload_n 1, 1), (224, .aaload, 1), (225, .iconst 3, 1), (226, .iaload, 1), (227, .i2l, 1), (228, .aload_n 0, 1), (229, .getfield 82, 3), (232, .iload_n 3, 1), (233, .laload, 1), (234, .lmul, 1), (235, .iconst 4, 1), (236, .aload_n 0, 1), (237, .getfield 45, 3), (240, .iload_n 1, 1), (241, .aaload, 1), (242, .iconst 3, 1), (243, .iaload, 1), (244, .isub, 1), (245, .i2l, 1), (246, .lload 4, 2), (248, .lmul, 1), (249, .ladd, 1), (250, .lastore, 1), (251, .aload_n 0, 1), (252, .getfield 58, 3), (255, .iload_n 2, 1), (256, .aaload, 1), (257, .iload_n 3, 1), (258, .iload 6, 2), (260, .iastore, 1), (261, .iinc 3 1, 3), (264, .goto (-163), 3), (267, .iinc 2 1, 3), (270, .goto (-221), 3), (273, .return_, 1)]
theorem ddX8_findBest : dAll cX8_findBest qX8_findBest = true := by decide +kernel
def qX8_withLoad : List (Nat × Instr × Nat) := [(0, .aload_n 0, 1), (1, .iload_n 1, 1), (2, .iload_n 2, 1), (3, .iload_n 3, 1), (4, .aload 5, 2), (6, .invokevirtual 253, 3), (9, .lstore 6, 2), (11, .iload 4, 2), (13, .ifCond .ne 8, 3), (16, .lload 6, 2), (18, .goto 22, 3), (21, .aload_n 0, 1), (22, .iload_n 1, 1), (23, .iload_n 2, 1), (24, .invokevirtual 261, 3), (27, .aload_n 0, 1), (28, .iload_n 1, 1), (29, .iload_n 2, 1), (30, .iload_n 3, 1), (31, .iload 4, 2), (33, .isub, 1), (34, .aload 5, 2), (36, .invokevirtual 253, 3), (39, .ladd, 1), (40, .lstore 8, 2), (42, .aload_n 0, 1), (43, .getfield 45, 3), (46, .iload_n 1, 1), (47, .aaload, 1), (48, .iconst 3, 1), (49, .iaload, 1), (50, .i2l, 1), (51, .lload 6, 2), (53, .lmul, 1), (54, .iconst 4, 1), (55, .aload_n 0, 1), (56, .getfield 45, 3), (59, .iload_n 1, 1), (60, .aaload, 1), (61, .iconst 3, 1), (62, .iaload, 1), (63, .isub, 1), (64, .i2l, 1), (65, .lload 8, 2), (67, .lmul, 1), (68, .ladd, 1), (69, .lreturn, 1)]
theorem ddX8_withLoad : dAll cX8_withLoad qX8_withLoad = true := by decide +kernel
def qX8_cost : List (Nat × Instr × Nat) := [(0, .aload_n 0, 1), (1, .iload_n 1, 1), (2, .iload_n 2, 1), (3, .invokevirtual 239, 3), (6, .ifCond .eq 12, 3), (9, .aload_n 0, 1), (10, .iload_n 1, 1), (11, .iload_n 3, 1), (12, .invokevirtual 233, 3), (15, .ifCond .ne 11, 3), (18, .aload_n 0, 1), (19, .bipush (-2), 2), (21, .invokevirtual 119, 3), (24, .i2l, 1), (25, .lreturn, 1), (26, .aload_n 0, 1), (27, .iload_n 1, 1), (28, .invokevirtual 264, 3), (31, .aload_n 0, 1), (32, .getfield 55, 3), (35, .iload_n 2, 1), (36, .aaload, 1), (37, .iload_n 3, 1), (38, .laload, 1), (39, .lreturn, 1)]
theorem ddX8_cost : dAll cX8_cost qX8_cost = true := by decide +kernel
def qX8_best : List (Nat × Instr × Nat) := [(0, .aload_n 0, 1), (1, .iload_n 1, 1), (2, .iload_n 2, 1), (3, .invokevirtual 239, 3), (6, .ifCond .eq 16, 3), (9, .iload_n 2, 1), (10, .ifCond .eq 12, 3), (13, .aload_n 0, 1), (14, .iload_n 1, 1), (15, .iload_n 3, 1), (16, .invokevirtual 233, 3), (19, .ifCond .ne 10, 3), (22, .aload_n 0, 1), (23, .bipush (-2), 2), (25, .invokevirtual 119, 3), (28, .ireturn, 1), (29, .aload_n 0, 1), (30, .iload_n 1, 1), (31, .invokevirtual 264, 3), (34, .aload_n 0, 1), (35, .getfield 58, 3), (38, .iload_n 2, 1), (39, .aaload, 1), (40, .iload_n 3, 1), (41, .iaload, 1), (42, .ireturn, 1)]
theorem ddX8_best : dAll cX8_best qX8_best = true := by decide +kernel
def qX8_loadBy : List (Nat × Instr × Nat) := [(0, .aload_n 0, 1), (1, .getfield 28, 3), (4, .iload 4, 2), (6, .iaload, 1), (7, .iconst 4, 1), (8, .if_icmp .ne 12, 3), (11, .aload_n 0, 1), (12, .getfield 58, 3), (15, .iload_n 2, 1), (16, .aaload, 1), (17, .iload_n 3, 1), (18, .iaload, 1), (19, .ireturn, 1), (20, .aload_n 0, 1), (21, .iload_n 2, 1), (22, .iload_n 3, 1), (23, .iload 4, 2), (25, .aload_n 0, 1), (26, .iload_n 1, 1), (27, .iload_n 3, 1), (28, .iconst 0, 1), (29, .invokevirtual 236, 3), (32, .invokevirtual 267, 3), (35, .ifCond .eq 12, 3), (38, .aload_n 0, 1), (39, .iload_n 1, 1), (40, .iload_n 3, 1), (41, .invokevirtual 246, 3), (44, .goto 4, 3), (47, .iconst 0, 1), (48, .ireturn, 1)]
theorem ddX8_loadBy : dAll cX8_loadBy qX8_loadBy = true := by decide +kernel
def qX8_fillsBy : List (Nat × Instr × Nat) := [(0, .aload_n 0, 1), (1, .getfield 28, 3), (4, .iload_n 3, 1), (5, .iaload, 1), (6, .tableswitch 94 1 3 #[26, 43, 60], 26), (32, .iload 4, 2), (34, .aload_n 0, 1), (35, .getfield 31, 3), (38, .iload_n 3, 1), (39, .iaload, 1), (40, .if_icmp .lt 7, 3), (43, .iconst 1, 1), (44, .goto 4, 3), (47, .iconst 0, 1), (48, .ireturn, 1), (49, .iload_n 1, 1), (50, .aload_n 0, 1), (51, .getfield 31, 3), (54, .iload_n 3, 1), (55, .iaload, 1), (56, .irem, 1), (57, .ifCond .ne 7, 3), (60, .iconst 1, 1), (61, .goto 4, 3), (64, .iconst 0, 1), (65, .ireturn, 1), (66, .iload 4, 2), (68, .aload_n 0, 1), (69, .getfield 31, 3), (72, .iload_n 3, 1), (73, .iaload, 1), (74, .bipush 10, 2), (76, .idiv, 1), (77, .if_icmp .ge 17, 3), (80, .iload_n 1, 1), (81, .aload_n 0, 1), (82, .getfield 31, 3), (85, .iload_n 3, 1), (86, .iaload, 1), (87, .bipush 10, 2), (89, .irem, 1), (90, .irem, 1), (91, .ifCond .ne 7, 3), (94, .iconst 1, 1), (95, .goto 4, 3), (98, .iconst 0, 1), (99, .ireturn, 1), (100, .aload_n 0, 1), (101, .getfield 36, 3), (104, .iload_n 3, 1), (105, .aaload, 1), (106, .iload_n 2, 1), (107, .iaload, 1), (108, .iconst 1, 1), (109, .if_icmp .ne 7, 3), (112, .iconst 1, 1), (113, .goto 4, 3), (116, .iconst 0, 1), (117, .ireturn, 1)]
theorem ddX8_fillsBy : dAll cX8_fillsBy qX8_fillsBy = true := by decide +kernel
def qX8_noRule : List (Nat × Instr × Nat) := [(0, .aload_n 0, 1), (1, .getfield 7, 3), (4, .iload_n 1, 1), (5, .iaload, 1), (6, .iconst 1, 1), (7, .if_icmp .ne 10, 3), (10, .aload_n 0, 1), (11, .bipush (-3), 2), (13, .invokevirtual 119, 3), (16, .ireturn, 1), (17, .aload_n 0, 1), (18, .getfield 7, 3), (21, .iload_n 1, 1), (22, .iaload, 1), (23, .ifCond .ne 12, 3), (26, .aload_n 0, 1), (27, .bipush (-4), 2), (29, .invokevirtual 119, 3), (32, .goto 4, 3), (35, .iconst 0, 1), (36, .ireturn, 1)]
theorem ddX8_noRule : dAll cX8_noRule qX8_noRule = true := by decide +kernel
def qX8_load : List (Nat × Instr × Nat) := [(0, .aload_n 0, 1), (1, .iload_n 1, 1), (2, .iload_n 2, 1), (3, .invokevirtual 239, 3), (6, .ifCond .eq 29, 3), (9, .iload_n 2, 1), (10, .ifCond .eq 25, 3), (13, .aload_n 0, 1), (14, .iload_n 1, 1), (15, .iload_n 3, 1), (16, .invokevirtual 233, 3), (19, .ifCond .eq 16, 3), (22, .iload 4, 2), (24, .i2l, 1), (25, .lconst 0, 1), (26, .ldc2_w 113, 3), (29, .invokestatic 94, 3), (32, .ifCond .ne 10, 3), (35, .aload_n 0, 1), (36, .bipush (-2), 2), (38, .invokevirtual 119, 3), (41, .ireturn, 1), (42, .aload_n 0, 1), (43, .iload 4, 2), (45, .invokevirtual 271, 3), (48, .istore 5, 2), (50, .iload 5, 2), (52, .ifCond .eq 6, 3), (55, .iload 5, 2), (57, .ireturn, 1), (58, .aload_n 0, 1), (59, .iload_n 1, 1), (60, .invokevirtual 264, 3), (63, .aload_n 0, 1), (64, .iload_n 1, 1), (65, .iload_n 2, 1), (66, .iload_n 3, 1), (67, .iload 4, 2), (69, .invokevirtual 274, 3), (72, .ireturn, 1)]
theorem ddX8_load : dAll cX8_load qX8_load = true := by decide +kernel
def qX8_findByRule : List (Nat × Instr × Nat) := [(0, .aload_n 0, 1), (1, .iload_n 1, 1), (2, .invokevirtual 264, 3), (5, .aload_n 0, 1), (6, .iload_n 1, 1), (7, .iload_n 2, 1), (8, .invokevirtual 278, 3), (11, .return_, 1)]
theorem ddX8_findByRule : dAll cX8_findByRule qX8_findByRule = true := by decide +kernel
def qX8_goesByRule : List (Nat × Instr × Nat) := [(0, .iconst 0, 1), (1, .istore_n 3, 1), (2, .iload_n 3, 1), (3, .aload_n 0, 1), (4, .iload_n 1, 1), (5, .invokevirtual 110, 3), (8, .if_icmp .ge 25, 3), (11, .aload_n 0, 1), (12, .getfield 61, 3), (15, .iconst 0, 1), (16, .aaload, 1), (17, .iload_n 3, 1), (18, .aload_n 0, 1), (19, .iload_n 1, 1), (20, .iload_n 3, 1), (21, .iconst 4, 1), (22, .invokevirtual 236, 3), (25, .i2l, 1), (26, .lastore, 1), (27, .iinc 3 1, 3), (30, .goto (-28), 3), (33, .iconst 1, 1), (34, .istore_n 3, 1), (35, .iload_n 3, 1), (36, .aload_n 0, 1), (37, .getfield 45, 3), (40, .iload_n 1, 1), (41, .aaload, 1), (42, .iconst 0, 1), (43, .iaload, 1), (44, .if_icmp .gt 202, 3), (47, .iconst 0, 1), (48, .istore 4, 2), (50, .iload 4, 2), (52, .aload_n 0, 1), (53, .iload_n 1, 1), (54, .invokevirtual 110, 3), (57, .if_icmp .ge 32, 3), (60, .aload_n 0, 1), (61, .getfield 82, 3), (64, .iload 4, 2), (66, .aload_n 0, 1), (67, .iload_n 1, 1), (68, .iload_n 3, 1), (69, .iload 4, 2), (71, .aload_n 0, 1), (72, .getfield 61, 3), (75, .iload_n 3, 1), (76, .iconst 1, 1), (77, .isub, 1), (78, .aaload, 1), (79, .invokevirtual 253, 3), (82, .lastore, 1), (83, .iinc 4 1, 3), (86, .goto (-36), 3), (89, .aload_n 0, 1), (90, .iload_n 1, 1), (91, .iload_n 3, 1), (92, .invokevirtual 261, 3), (95, .lstore 4, 2), (97, .iconst 0, 1), (98, .istore 6, 2), (100, .iload 6, 2), (102, .aload_n 0, 1), (103, .iload_n 1, 1), (104, .invokevirtual 110, 3), (107, .if_icmp .ge 133, 3), (110, .aload_n 0, 1), (111, .getfield 28, 3), (114, .iload_n 2, 1), (115, .iaload, 1), (116, .iconst 4, 1), (117, .if_icmp .ne 15, 3), (120, .aload_n 0, 1), (121, .getfield 58, 3), (124, .iload_n 3, 1), (125, .aaload, 1), (126, .iload 6, 2), (128, .iaload, 1), (129, .goto 32, 3), (132, .aload_n 0, 1), (133, .iload_n 3, 1), (134, .iload 6, 2), (136, .iload_n 2, 1), (137, .aload_n 0, 1), (138, .getfield 76, 3), (141, .iload 6, 2), (143, .iaload, 1), (144, .invokevirtual 267, 3), (147, .ifCond .eq 13, 3), (150, .aload_n 0, 1), (151, .getfield 73, 3), (154, .iload 6, 2), (156, .iaload, 1), (157, .goto 4, 3), (160, .iconst 0, 1), (161, .istore 7, 2), (163, .iload 7, 2), (165, .ifCond .ne 13, 3), (168, .aload_n 0, 1), (169, .getfield 82, 3), (172, .iload 6, 2), (174, .laload, 1), (175, .goto 16, 3), (178, .lload 4, 2), (180, .aload_n 0, 1), (181, .getfield 82, 3), (184, .iload 6, 2), (186, .iload 7, 2), (188, .isub, 1), (189, .laload, 1), (190, .ladd, 1), (191, .lstore 8, 2), (193, .aload_n 0, 1), (194, .getfield 61, 3), (197, .iload_n 3, 1), (198, .aaload, 1), (199, .iload 6, 2), (201, .aload_n 0, 1), (202, .getfield 45, 3), (205, .iload_n 1, 1), (206, .aaload, 1), (207, .iconst 3, 1), (208, .iaload, 1), (209, .i2l, 1), (210, .aload_n 0, 1), (211, .getfield 82, 3), (214, .iload 6, 2), (216, .laload, 1), (217, .lmul, 1), (218, .iconst 4, 1), (219, .aload_n 0, 1), (220, .getfield 45, 3), (223, .iload_n 1, 1), (224, .aaload, 1), (225, .iconst 3, 1), (226, .iaload, 1), (227, .isub, 1), (228, .i2l, 1), (229, .lload 8, 2), (231, .lmul, 1), (232, .ladd, 1), (233, .lastore, 1), (234, .iinc 6 1, 3), (237, .goto (-137), 3), (240, .iinc 3 1, 3), (243, .goto (-208), 3), (246, .return_, 1)]
theorem ddX8_goesByRule : dAll cX8_goesByRule qX8_goesByRule = true := by decide +kernel
def qX8_byShelf : List (Nat × Instr × Nat) := [(0, .aload_n 0, 1), (1, .iload_n 1, 1), (2, .iload_n 2, 1), (3, .invokevirtual 239, 3), (6, .ifCond .eq 25, 3), (9, .aload_n 0, 1), (10, .iload_n 1, 1), (11, .iload_n 3, 1), (12, .invokevirtual 233, 3), (15, .ifCond .eq 16, 3), (18, .iload 4, 2), (20, .i2l, 1), (21, .lconst 0, 1), (22, .ldc2_w 113, 3), (25, .invokestatic 94, 3), (28, .ifCond .ne 11, 3), (31, .aload_n 0, 1), (32, .bipush (-2), 2), (34, .invokevirtual 119, 3), (37, .i2l, 1), (38, .lreturn, 1), (39, .aload_n 0, 1), (40, .iload 4, 2), (42, .invokevirtual 271, 3), (45, .istore 6, 2), (47, .iload 6, 2), (49, .ifCond .eq 7, 3), (52, .iload 6, 2), (54, .i2l, 1), (55, .lreturn, 1), (56, .aload_n 0, 1), (57, .iload_n 1, 1), (58, .iload 4, 2), (60, .invokevirtual 282, 3), (63, .aload_n 0, 1), (64, .getfield 61, 3), (67, .iload_n 2, 1), (68, .aaload, 1), (69, .iload_n 3, 1), (70, .laload, 1), (71, .iload 5, 2), (73, .ifCond .eq 14, 3), (76, .aload_n 0, 1), (77, .getfield 55, 3), (80, .iload_n 2, 1), (81, .aaload, 1), (82, .iload_n 3, 1), (83, .laload, 1), (84, .goto 4, 3), (87, .lconst 0, 1), (88, .lsub, 1), (89, .lreturn, 1)]
theorem ddX8_byShelf : dAll cX8_byShelf qX8_byShelf = true := by decide +kernel
def qX8_mean : List (Nat × Instr × Nat) := [(0, .aload_n 0, 1), (1, .iload_n 1, 1), (2, .iload_n 2, 1), (3, .iload_n 3, 1), (4, .iload 4, 2), (6, .iconst 0, 1), (7, .invokevirtual 285, 3), (10, .lreturn, 1)]
theorem ddX8_mean : dAll cX8_mean qX8_mean = true := by decide +kernel
def qX8_lose : List (Nat × Instr × Nat) := [(0, .aload_n 0, 1), (1, .iload_n 1, 1), (2, .iload_n 2, 1), (3, .iload_n 3, 1), (4, .iload 4, 2), (6, .iconst 1, 1), (7, .invokevirtual 285, 3), (10, .lreturn, 1)]
theorem ddX8_lose : dAll cX8_lose qX8_lose = true := by decide +kernel
def qX8_boy : List (Nat × Instr × Nat) := [(0, .aload_n 0, 1), (1, .iload_n 1, 1), (2, .invokevirtual 106, 3), (5, .ifCond .ne 10, 3), (8, .aload_n 0, 1), (9, .bipush (-2), 2), (11, .invokevirtual 119, 3), (14, .ireturn, 1), (15, .iconst (-1), 1), (16, .istore_n 2, 1), (17, .lconst 0, 1), (18, .lstore_n 3, 1), (19, .iconst 0, 1), (20, .istore 5, 2), (22, .iload 5, 2), (24, .bipush 8, 2), (26, .if_icmp .ge 62, 3), (29, .aload_n 0, 1), (30, .getfield 7, 3), (33, .iload 5, 2), (35, .iaload, 1), (36, .iconst 2, 1), (37, .if_icmp .ne 45, 3), (40, .aload_n 0, 1), (41, .iload_n 1, 1), (42, .iload 5, 2), (44, .invokevirtual 282, 3), (47, .aload_n 0, 1), (48, .getfield 61, 3), (51, .aload_n 0, 1), (52, .getfield 45, 3), (55, .iload_n 1, 1), (56, .aaload, 1), (57, .iconst 0, 1), (58, .iaload, 1), (59, .aaload, 1), (60, .iconst 0, 1), (61, .laload, 1), (62, .lstore 6, 2), (64, .iload_n 2, 1), (65, .iconst (-1), 1), (66, .if_icmp .eq 10, 3), (69, .lload 6, 2), (71, .lload_n 3, 1), (72, .lcmp, 1), (73, .ifCond .ge 9, 3), (76, .iload 5, 2), (78, .istore_n 2, 1), (79, .lload 6, 2), (81, .lstore_n 3, 1), (82, .iinc 5 1, 3), (85, .goto (-63), 3), (88, .iload_n 2, 1), (89, .iconst (-1), 1), (90, .if_icmp .ne 12, 3), (93, .aload_n 0, 1), (94, .bipush (-5), 2), (96, .invokevirtual 119, 3), (99, .goto 4, 3), (102, .iload_n 2, 1), (103, .ireturn, 1)]
theorem ddX8_boy : dAll cX8_boy qX8_boy = true := by decide +kernel
def qX8_waits : List (Nat × Instr × Nat) := [(0, .aload_n 0, 1), (1, .iload_n 1, 1), (2, .iload_n 2, 1), (3, .invokevirtual 239, 3), (6, .ifCond .eq 16, 3), (9, .iload_n 2, 1), (10, .ifCond .eq 12, 3), (13, .aload_n 0, 1), (14, .iload_n 1, 1), (15, .iload_n 3, 1), (16, .invokevirtual 233, 3), (19, .ifCond .ne 11, 3), (22, .aload_n 0, 1), (23, .bipush (-2), 2), (25, .invokevirtual 119, 3), (28, .i2l, 1), (29, .lreturn, 1), (30, .aload_n 0, 1), (31, .iload_n 1, 1), (32, .invokevirtual 264, 3), (35, .ldc2_w 115, 3), (38, .aload_n 0, 1), (39, .iload_n 1, 1), (40, .iload_n 2, 1), (41, .iload_n 3, 1), (42, .aload_n 0, 1), (43, .getfield 55, 3), (46, .iload_n 2, 1), (47, .iconst 1, 1), (48, .isub, 1), (49, .aaload, 1), (50, .invokevirtual 253, 3), (53, .lmul, 1), (54, .aload_n 0, 1), (55, .getfield 55, 3), (58, .iload_n 2, 1), (59, .aaload, 1), (60, .iload_n 3, 1), (61, .laload, 1), (62, .lsub, 1), (63, .lreturn, 1)]
theorem ddX8_waits : dAll cX8_waits qX8_waits = true := by decide +kernel
def qX8_once : List (Nat × Instr × Nat) := [(0, .aload_n 0, 1), (1, .iload_n 1, 1), (2, .iload_n 2, 1), (3, .invokevirtual 239, 3), (6, .ifCond .eq 16, 3), (9, .iload_n 2, 1), (10, .ifCond .eq 12, 3), (13, .aload_n 0, 1), (14, .iload_n 1, 1), (15, .iload_n 3, 1), (16, .invokevirtual 233, 3), (19, .ifCond .ne 11, 3), (22, .aload_n 0, 1), (23, .bipush (-2), 2), (25, .invokevirtual 119, 3), (28, .i2l, 1), (29, .lreturn, 1), (30, .aload_n 0, 1), (31, .iload_n 1, 1), (32, .invokevirtual 264, 3), (35, .aload_n 0, 1), (36, .iload_n 1, 1), (37, .iload_n 2, 1), (38, .iload_n 3, 1), (39, .aload_n 0, 1), (40, .iload_n 1, 1), (41, .iload_n 3, 1), (42, .invokevirtual 246, 3), (45, .aload_n 0, 1), (46, .getfield 55, 3), (49, .iload_n 2, 1), (50, .iconst 1, 1), (51, .isub, 1), (52, .aaload, 1), (53, .invokevirtual 289, 3), (56, .aload_n 0, 1), (57, .getfield 55, 3), (60, .iload_n 2, 1), (61, .aaload, 1), (62, .iload_n 3, 1), (63, .laload, 1), (64, .lsub, 1), (65, .lreturn, 1)]
theorem ddX8_once : dAll cX8_once qX8_once = true := by decide +kernel
def qX8_goesOn : List (Nat × Instr × Nat) := [(0, .aload_n 0, 1), (1, .iload_n 1, 1), (2, .invokevirtual 98, 3), (5, .istore 6, 2), (7, .iconst 0, 1), (8, .istore 7, 2), (10, .iload 7, 2), (12, .iconst 1, 1), (13, .iload 6, 2), (15, .ishl, 1), (16, .if_icmp .ge 125, 3), (19, .lload_n 3, 1), (20, .lconst 0, 1), (21, .lcmp, 1), (22, .ifCond .le 119, 3), (25, .lload_n 3, 1), (26, .lstore 8, 2), (28, .iload_n 2, 1), (29, .istore 10, 2), (31, .iconst 0, 1), (32, .istore 11, 2), (34, .iload 11, 2), (36, .iload 6, 2), (38, .if_icmp .ge 87, 3), (41, .iload 7, 2), (43, .iload 11, 2), (45, .ishr, 1), (46, .iconst 1, 1), (47, .iand, 1), (48, .ifCond .eq 7, 3), (51, .iconst 1, 1), (52, .goto 4, 3), (55, .iconst 0, 1), (56, .istore 12, 2), (58, .aload_n 0, 1), (59, .iload_n 1, 1), (60, .iload 11, 2), (62, .iconst 1, 1), (63, .invokevirtual 229, 3), (66, .istore 13, 2), (68, .lload 8, 2), (70, .iload 12, 2), (72, .ifCond .eq 9, 3), (75, .iload 13, 2), (77, .i2l, 1), (78, .goto 8, 3), (81, .iconst 4, 1), (82, .iload 13, 2), (84, .isub, 1), (85, .i2l, 1), (86, .lmul, 1), (87, .lstore 8, 2), (89, .iload 10, 2), (91, .iload 12, 2), (93, .ifCond .eq 22, 3), (96, .iload_n 2, 1), (97, .iload 11, 2), (99, .invokestatic 226, 3), (102, .iconst 4, 1), (103, .if_icmp .ge 12, 3), (106, .iconst 5, 1), (107, .iload 11, 2), (109, .invokestatic 102, 3), (112, .goto 4, 3), (115, .iconst 0, 1), (116, .iadd, 1), (117, .istore 10, 2), (119, .iinc 11 1, 3), (122, .goto (-88), 3), (125, .aload 5, 2), (127, .iload 10, 2), (129, .dup2, 1), (130, .laload, 1), (131, .lload 8, 2), (133, .ladd, 1), (134, .lastore, 1), (135, .iinc 7 1, 3), (138, .goto (-128), 3), (141, .return_, 1)]
theorem ddX8_goesOn : dAll cX8_goesOn qX8_goesOn = true := by decide +kernel
def qX8_findChances : List (Nat × Instr × Nat) := [(0, .aload_n 0, 1), (1, .iload_n 1, 1), (2, .invokevirtual 264, 3), (5, .aload_n 0, 1), (6, .getfield 45, 3), (9, .iload_n 1, 1), (10, .aaload, 1), (11, .iconst 0, 1), (12, .iaload, 1), (13, .istore_n 3, 1), (14, .iconst 0, 1), (15, .istore 4, 2), (17, .iload 4, 2), (19, .iload_n 3, 1), (20, .if_icmp .gt 36, 3), (23, .iconst 0, 1), (24, .istore 5, 2), (26, .iload 5, 2), (28, .bipush 125, 2), (30, .if_icmp .ge 20, 3), (33, .aload_n 0, 1), (34, .getfield 85, 3), (37, .iload 4, 2), (39, .aaload, 1), (40, .iload 5, 2), (42, .lconst 0, 1), (43, .lastore, 1), (44, .iinc 5 1, 3), (47, .goto (-21), 3), (50, .iinc 4 1, 3), (53, .goto (-36), 3), (56, .aload_n 0, 1), (57, .getfield 85, 3), (60, .iload_n 3, 1), (61, .aaload, 1), (62, .iconst 0, 1), (63, .lconst 1, 1), (64, .lastore, 1), (65, .iload_n 3, 1), (66, .istore 4, 2), (68, .iload 4, 2), (70, .ifCond .le 116, 3), (73, .iconst 0, 1), (74, .istore 5, 2), (76, .iload 5, 2), (78, .aload_n 0, 1), (79, .iload_n 1, 1), (80, .invokevirtual 110, 3), (83, .if_icmp .ge 97, 3), (86, .aload_n 0, 1), (87, .getfield 85, 3), (90, .iload 4, 2), (92, .aaload, 1), (93, .iload 5, 2), (95, .laload, 1), (96, .lstore 6, 2), (98, .lload 6, 2), (100, .lconst 0, 1), (101, .lcmp, 1), (102, .ifCond .le 72, 3), (105, .aload_n 0, 1), (106, .iload_n 1, 1), (107, .iload 5, 2), (109, .lload 6, 2), (111, .aload_n 0, 1), (112, .getfield 45, 3), (115, .iload_n 1, 1), (116, .aaload, 1), (117, .iconst 3, 1), (118, .iaload, 1), (119, .i2l, 1), (120, .lmul, 1), (121, .aload_n 0, 1), (122, .getfield 85, 3), (125, .iload 4, 2), (127, .iconst 1, 1), (128, .isub, 1), (129, .aaload, 1), (130, .invokevirtual 293, 3), (133, .aload_n 0, 1), (134, .iload_n 1, 1), (135, .iload 5, 2), (137, .aload_n 0, 1), (138, .iload_n 1, 1), (139, .iload 4, 2), (141, .iload 5, 2), (143, .iload_n 2, 1), (144, .invokevirtual 274, 3), (147, .isub, 1), (148, .lload 6, 2), (150, .iconst 4, 1), (151, .aload_n 0, 1), (152, .getfield 45, 3), (155, .iload_n 1, 1), (156, .aaload, 1), (157, .iconst 3, 1), (158, .iaload, 1), (159, .isub, 1), (160, .i2l, 1), (161, .lmul, 1), (162, .aload_n 0, 1), (163, .getfield 85, 3), (166, .iload 4, 2), (168, .iconst 1, 1), (169, .isub, 1), (170, .aaload, 1), (171, .invokevirtual 293, 3), (174, .iinc 5 1, 3), (177, .goto (-101), 3), (180, .iinc 4 (-1), 3), (183, .goto (-115), 3), (186, .return_, 1)]
theorem ddX8_findChances : dAll cX8_findChances qX8_findChances = true := by decide +kernel
def qX8_chance : List (Nat × Instr × Nat) := [(0, .aload_n 0, 1), (1, .iload_n 1, 1), (2, .iload_n 2, 1), (3, .invokevirtual 239, 3), (6, .ifCond .eq 25, 3), (9, .aload_n 0, 1), (10, .iload_n 1, 1), (11, .iload_n 3, 1), (12, .invokevirtual 233, 3), (15, .ifCond .eq 16, 3), (18, .iload 4, 2), (20, .i2l, 1), (21, .lconst 0, 1), (22, .ldc2_w 113, 3), (25, .invokestatic 94, 3), (28, .ifCond .ne 11, 3), (31, .aload_n 0, 1), (32, .bipush (-2), 2), (34, .invokevirtual 119, 3), (37, .i2l, 1), (38, .lreturn, 1), (39, .aload_n 0, 1), (40, .iload 4, 2), (42, .invokevirtual 271, 3), (45, .istore 5, 2), (47, .iload 5, 2), (49, .ifCond .eq 7, 3), (52, .iload 5, 2), (54, .i2l, 1), (55, .lreturn, 1), (56, .aload_n 0, 1), (57, .iload_n 1, 1), (58, .iload 4, 2), (60, .invokevirtual 297, 3), (63, .aload_n 0, 1), (64, .getfield 85, 3), (67, .iload_n 2, 1), (68, .aaload, 1), (69, .iload_n 3, 1), (70, .laload, 1), (71, .lreturn, 1)]
theorem ddX8_chance : dAll cX8_chance qX8_chance = true := by decide +kernel
def qX8_reach : List (Nat × Instr × Nat) := [(0, .aload_n 0, 1), (1, .iload_n 1, 1), (2, .iload_n 2, 1), (3, .invokevirtual 239, 3), (6, .ifCond .eq 15, 3), (9, .iload_n 3, 1), (10, .i2l, 1), (11, .lconst 0, 1), (12, .ldc2_w 113, 3), (15, .invokestatic 94, 3), (18, .ifCond .ne 10, 3), (21, .aload_n 0, 1), (22, .bipush (-2), 2), (24, .invokevirtual 119, 3), (27, .ireturn, 1), (28, .aload_n 0, 1), (29, .iload_n 3, 1), (30, .invokevirtual 271, 3), (33, .istore 4, 2), (35, .iload 4, 2), (37, .ifCond .eq 6, 3), (40, .iload 4, 2), (42, .ireturn, 1), (43, .aload_n 0, 1), (44, .iload_n 1, 1), (45, .iload_n 3, 1), (46, .invokevirtual 297, 3), (49, .iconst 0, 1), (50, .istore 5, 2), (52, .iconst 0, 1), (53, .istore 6, 2), (55, .iload 6, 2), (57, .aload_n 0, 1), (58, .iload_n 1, 1), (59, .invokevirtual 110, 3), (62, .if_icmp .ge 33, 3), (65, .iload 5, 2), (67, .aload_n 0, 1), (68, .getfield 85, 3), (71, .iload_n 2, 1), (72, .aaload, 1), (73, .iload 6, 2), (75, .laload, 1), (76, .lconst 0, 1), (77, .lcmp, 1), (78, .ifCond .le 7, 3), (81, .iconst 1, 1), (82, .goto 4, 3), (85, .iconst 0, 1), (86, .iadd, 1), (87, .istore 5, 2), (89, .iinc 6 1, 3), (92, .goto (-37), 3), (95, .iload 5, 2), (97, .ireturn, 1)]
theorem ddX8_reach : dAll cX8_reach qX8_reach = true := by decide +kernel
def qX8_meanOf : List (Nat × Instr × Nat) := [(0, .aload_n 0, 1), (1, .iload_n 1, 1), (2, .iload_n 3, 1), (3, .invokevirtual 297, 3), (6, .aload_n 0, 1), (7, .getfield 45, 3), (10, .iload_n 1, 1), (11, .aaload, 1), (12, .iconst 3, 1), (13, .iaload, 1), (14, .istore 4, 2), (16, .lconst 0, 1), (17, .lstore 5, 2), (19, .aload_n 0, 1), (20, .getfield 45, 3), (23, .iload_n 1, 1), (24, .aaload, 1), (25, .iconst 0, 1), (26, .iaload, 1), (27, .istore 7, 2), (29, .iload 7, 2), (31, .ifCond .le 153, 3), (34, .lconst 0, 1), (35, .lstore 8, 2), (37, .iconst 0, 1), (38, .istore 10, 2), (40, .iload 10, 2), (42, .aload_n 0, 1), (43, .iload_n 1, 1), (44, .invokevirtual 110, 3), (47, .if_icmp .ge 103, 3), (50, .aload_n 0, 1), (51, .getfield 85, 3), (54, .iload 7, 2), (56, .aaload, 1), (57, .iload 10, 2), (59, .laload, 1), (60, .lstore 11, 2), (62, .lload 11, 2), (64, .lconst 0, 1), (65, .lcmp, 1), (66, .ifCond .le 78, 3), (69, .aload_n 0, 1), (70, .iload_n 1, 1), (71, .iload 7, 2), (73, .iload 10, 2), (75, .iload_n 3, 1), (76, .invokevirtual 274, 3), (79, .istore 13, 2), (81, .iload_n 2, 1), (82, .iconst (-1), 1), (83, .if_icmp .ne 28, 3), (86, .lload 8, 2), (88, .iload 13, 2), (90, .ifCond .eq 14, 3), (93, .lload 11, 2), (95, .iconst 4, 1), (96, .iload 4, 2), (98, .isub, 1), (99, .i2l, 1), (100, .lmul, 1), (101, .goto 4, 3), (104, .lconst 0, 1), (105, .ladd, 1), (106, .lstore 8, 2), (108, .goto 36, 3), (111, .lload 8, 2), (113, .lload 11, 2), (115, .iload 4, 2), (117, .iload 10, 2), (119, .iload_n 2, 1), (120, .invokestatic 226, 3), (123, .imul, 1), (124, .iconst 4, 1), (125, .iload 4, 2), (127, .isub, 1), (128, .iload 10, 2), (130, .iload 13, 2), (132, .isub, 1), (133, .iload_n 2, 1), (134, .invokestatic 226, 3), (137, .imul, 1), (138, .iadd, 1), (139, .i2l, 1), (140, .lmul, 1), (141, .ladd, 1), (142, .lstore 8, 2), (144, .iinc 10 1, 3), (147, .goto (-107), 3), (150, .lload 5, 2), (152, .lload 8, 2), (154, .iconst 4, 1), (155, .aload_n 0, 1), (156, .iload_n 1, 1), (157, .invokevirtual 98, 3), (160, .invokestatic 102, 3), (163, .i2l, 1), (164, .lmul, 1), (165, .aload_n 0, 1), (166, .iload_n 1, 1), (167, .iload 7, 2), (169, .iconst 1, 1), (170, .isub, 1), (171, .invokevirtual 242, 3), (174, .lmul, 1), (175, .ladd, 1), (176, .lstore 5, 2), (178, .iinc 7 (-1), 3), (181, .goto (-152), 3), (184, .lload 5, 2), (186, .lreturn, 1)]
theorem ddX8_meanOf : dAll cX8_meanOf qX8_meanOf = true := by decide +kernel
def qX8_held : List (Nat × Instr × Nat) := [(0, .aload_n 0, 1), (1, .iload_n 1, 1), (2, .invokevirtual 106, 3), (5, .ifCond .eq 32, 3), (8, .iload_n 2, 1), (9, .i2l, 1), (10, .lconst 0, 1), (11, .aload_n 0, 1), (12, .iload_n 1, 1), (13, .invokevirtual 98, 3), (16, .iconst 1, 1), (17, .isub, 1), (18, .i2l, 1), (19, .invokestatic 94, 3), (22, .ifCond .eq 15, 3), (25, .iload_n 3, 1), (26, .i2l, 1), (27, .lconst 0, 1), (28, .ldc2_w 113, 3), (31, .invokestatic 94, 3), (34, .ifCond .ne 11, 3), (37, .aload_n 0, 1), (38, .bipush (-2), 2), (40, .invokevirtual 119, 3), (43, .i2l, 1), (44, .lreturn, 1), (45, .aload_n 0, 1), (46, .iload_n 3, 1), (47, .invokevirtual 271, 3), (50, .istore 4, 2), (52, .iload 4, 2), (54, .ifCond .eq 9, 3), (57, .iload 4, 2), (59, .i2l, 1), (60, .goto 10, 3), (63, .aload_n 0, 1), (64, .iload_n 1, 1), (65, .iload_n 2, 1), (66, .iload_n 3, 1), (67, .invokevirtual 300, 3), (70, .lreturn, 1)]
theorem ddX8_held : dAll cX8_held qX8_held = true := by decide +kernel
def qX8_boxes : List (Nat × Instr × Nat) := [(0, .aload_n 0, 1), (1, .iload_n 1, 1), (2, .invokevirtual 106, 3), (5, .ifCond .eq 15, 3), (8, .iload_n 2, 1), (9, .i2l, 1), (10, .lconst 0, 1), (11, .ldc2_w 113, 3), (14, .invokestatic 94, 3), (17, .ifCond .ne 11, 3), (20, .aload_n 0, 1), (21, .bipush (-2), 2), (23, .invokevirtual 119, 3), (26, .i2l, 1), (27, .lreturn, 1), (28, .aload_n 0, 1), (29, .iload_n 2, 1), (30, .invokevirtual 271, 3), (33, .istore_n 3, 1), (34, .iload_n 3, 1), (35, .ifCond .eq 8, 3), (38, .iload_n 3, 1), (39, .i2l, 1), (40, .goto 10, 3), (43, .aload_n 0, 1), (44, .iload_n 1, 1), (45, .iconst (-1), 1), (46, .iload_n 2, 1), (47, .invokevirtual 300, 3), (50, .lreturn, 1)]
theorem ddX8_boxes : dAll cX8_boxes qX8_boxes = true := by decide +kernel
def qX8_leastOf : List (Nat × Instr × Nat) := [(0, .iconst (-1), 1), (1, .istore 5, 2), (3, .lconst 0, 1), (4, .lstore 6, 2), (6, .aload_n 0, 1), (7, .iload_n 1, 1), (8, .invokevirtual 249, 3), (11, .iload_n 3, 1), (12, .istore 8, 2), (14, .iload 8, 2), (16, .iload 4, 2), (18, .if_icmp .gt 95, 3), (21, .iload_n 2, 1), (22, .iconst 2, 1), (23, .if_icmp .eq 21, 3), (26, .iload 8, 2), (28, .iload_n 3, 1), (29, .if_icmp .eq 15, 3), (32, .aload_n 0, 1), (33, .iload_n 1, 1), (34, .iload 8, 2), (36, .iconst 1, 1), (37, .isub, 1), (38, .invokevirtual 304, 3), (41, .ifCond .eq 66, 3), (44, .aload_n 0, 1), (45, .getfield 28, 3), (48, .bipush 9, 2), (50, .iload_n 2, 1), (51, .iastore, 1), (52, .aload_n 0, 1), (53, .getfield 31, 3), (56, .bipush 9, 2), (58, .iload 8, 2), (60, .iastore, 1), (61, .aload_n 0, 1), (62, .iload_n 1, 1), (63, .bipush 9, 2), (65, .invokevirtual 278, 3), (68, .aload_n 0, 1), (69, .getfield 61, 3), (72, .aload_n 0, 1), (73, .getfield 45, 3), (76, .iload_n 1, 1), (77, .aaload, 1), (78, .iconst 0, 1), (79, .iaload, 1), (80, .aaload, 1), (81, .iconst 0, 1), (82, .laload, 1), (83, .lstore 9, 2), (85, .iload 5, 2), (87, .iconst (-1), 1), (88, .if_icmp .eq 11, 3), (91, .lload 9, 2), (93, .lload 6, 2), (95, .lcmp, 1), (96, .ifCond .ge 11, 3), (99, .iload 8, 2), (101, .istore 5, 2), (103, .lload 9, 2), (105, .lstore 6, 2), (107, .iinc 8 1, 3), (110, .goto (-96), 3), (113, .iload 5, 2), (115, .ireturn, 1)]
theorem ddX8_leastOf : dAll cX8_leastOf qX8_leastOf = true := by decide +kernel
def qX8_hasRoom : List (Nat × Instr × Nat) := [(0, .iconst 0, 1), (1, .istore_n 3, 1), (2, .iload_n 3, 1), (3, .aload_n 0, 1), (4, .iload_n 1, 1), (5, .invokevirtual 110, 3), (8, .if_icmp .ge 21, 3), (11, .aload_n 0, 1), (12, .getfield 76, 3), (15, .iload_n 3, 1), (16, .iaload, 1), (17, .iload_n 2, 1), (18, .if_icmp .ne 5, 3), (21, .iconst 1, 1), (22, .ireturn, 1), (23, .iinc 3 1, 3), (26, .goto (-24), 3), (29, .iconst 0, 1), (30, .ireturn, 1)]
theorem ddX8_hasRoom : dAll cX8_hasRoom qX8_hasRoom = true := by decide +kernel
def qX8_plain : List (Nat × Instr × Nat) := [(0, .aload_n 0, 1), (1, .iload_n 1, 1), (2, .invokevirtual 106, 3), (5, .ifCond .eq 15, 3), (8, .aload_n 0, 1), (9, .iload_n 1, 1), (10, .iconst 1, 1), (11, .iconst 0, 1), (12, .bipush 99, 2), (14, .invokevirtual 307, 3), (17, .goto 9, 3), (20, .aload_n 0, 1), (21, .bipush (-2), 2), (23, .invokevirtual 119, 3), (26, .ireturn, 1)]
theorem ddX8_plain : dAll cX8_plain qX8_plain = true := by decide +kernel
def qX8_every : List (Nat × Instr × Nat) := [(0, .aload_n 0, 1), (1, .iload_n 1, 1), (2, .invokevirtual 106, 3), (5, .ifCond .eq 15, 3), (8, .aload_n 0, 1), (9, .iload_n 1, 1), (10, .iconst 2, 1), (11, .iconst 1, 1), (12, .bipush 6, 2), (14, .invokevirtual 307, 3), (17, .goto 9, 3), (20, .aload_n 0, 1), (21, .bipush (-2), 2), (23, .invokevirtual 119, 3), (26, .ireturn, 1)]
theorem ddX8_every : dAll cX8_every qX8_every = true := by decide +kernel
def qX8_promise : List (Nat × Instr × Nat) := [(0, .aload_n 0, 1), (1, .iload_n 1, 1), (2, .iload_n 2, 1), (3, .invokevirtual 239, 3), (6, .ifCond .eq 7, 3), (9, .iload_n 2, 1), (10, .ifCond .ne 11, 3), (13, .aload_n 0, 1), (14, .bipush (-2), 2), (16, .invokevirtual 119, 3), (19, .i2l, 1), (20, .lreturn, 1), (21, .aload_n 0, 1), (22, .iload_n 2, 1), (23, .putfield 88, 3), (26, .aload_n 0, 1), (27, .iload_n 1, 1), (28, .invokevirtual 264, 3), (31, .aload_n 0, 1), (32, .getfield 55, 3), (35, .aload_n 0, 1), (36, .getfield 45, 3), (39, .iload_n 1, 1), (40, .aaload, 1), (41, .iconst 0, 1), (42, .iaload, 1), (43, .aaload, 1), (44, .iconst 0, 1), (45, .laload, 1), (46, .lstore_n 3, 1), (47, .aload_n 0, 1), (48, .iconst (-1), 1), (49, .putfield 88, 3), (52, .aload_n 0, 1), (53, .iload_n 1, 1), (54, .invokevirtual 264, 3), (57, .lload_n 3, 1), (58, .aload_n 0, 1), (59, .getfield 55, 3), (62, .aload_n 0, 1), (63, .getfield 45, 3), (66, .iload_n 1, 1), (67, .aaload, 1), (68, .iconst 0, 1), (69, .iaload, 1), (70, .aaload, 1), (71, .iconst 0, 1), (72, .laload, 1), (73, .lsub, 1), (74, .lreturn, 1)]
theorem ddX8_promise : dAll cX8_promise qX8_promise = true := by decide +kernel
def qX8_dear : List (Nat × Instr × Nat) := [(0, .aload_n 0, 1), (1, .iload_n 1, 1), (2, .iload_n 2, 1), (3, .invokevirtual 239, 3), (6, .ifCond .eq 40, 3), (9, .aload_n 0, 1), (10, .iload_n 1, 1), (11, .iload_n 3, 1), (12, .invokevirtual 233, 3), (15, .ifCond .eq 31, 3), (18, .iload 4, 2), (20, .i2l, 1), (21, .lconst 0, 1), (22, .aload_n 0, 1), (23, .iload_n 1, 1), (24, .invokevirtual 98, 3), (27, .iconst 1, 1), (28, .isub, 1), (29, .i2l, 1), (30, .invokestatic 94, 3), (33, .ifCond .eq 13, 3), (36, .iload_n 3, 1), (37, .iload 4, 2), (39, .invokestatic 226, 3), (42, .iconst 4, 1), (43, .if_icmp .ne 11, 3), (46, .aload_n 0, 1), (47, .bipush (-2), 2), (49, .invokevirtual 119, 3), (52, .i2l, 1), (53, .lreturn, 1), (54, .aload_n 0, 1), (55, .iload_n 1, 1), (56, .invokevirtual 264, 3), (59, .aload_n 0, 1), (60, .getfield 55, 3), (63, .iload_n 2, 1), (64, .aaload, 1), (65, .iload_n 3, 1), (66, .iconst 5, 1), (67, .iload 4, 2), (69, .invokestatic 102, 3), (72, .iadd, 1), (73, .laload, 1), (74, .aload_n 0, 1), (75, .getfield 55, 3), (78, .iload_n 2, 1), (79, .aaload, 1), (80, .iload_n 3, 1), (81, .laload, 1), (82, .lsub, 1), (83, .lreturn, 1)]
theorem ddX8_dear : dAll cX8_dear qX8_dear = true := by decide +kernel
def qX8_findRooms : List (Nat × Instr × Nat) := [(0, .aload_n 0, 1), (1, .iload_n 1, 1), (2, .invokevirtual 264, 3), (5, .aload_n 0, 1), (6, .iconst (-1), 1), (7, .putfield 310, 3), (10, .aload_n 0, 1), (11, .iconst 0, 1), (12, .putfield 313, 3), (15, .iconst 0, 1), (16, .istore_n 3, 1), (17, .iload_n 3, 1), (18, .aload_n 0, 1), (19, .iload_n 1, 1), (20, .invokevirtual 110, 3), (23, .if_icmp .ge 77, 3), (26, .aload_n 0, 1), (27, .iload_n 1, 1), (28, .iload_n 3, 1), (29, .iconst 0, 1), (30, .invokevirtual 236, 3), (33, .istore 4, 2), (35, .aload_n 0, 1), (36, .getfield 58, 3), (39, .iload_n 2, 1), (40, .aaload, 1), (41, .iload_n 3, 1), (42, .iaload, 1), (43, .ifCond .ne 28, 3), (46, .aload_n 0, 1), (47, .iload 4, 2), (49, .aload_n 0, 1), (50, .getfield 313, 3), (53, .if_icmp .le 8, 3), (56, .iload 4, 2), (58, .goto 7, 3), (61, .aload_n 0, 1), (62, .getfield 313, 3), (65, .putfield 313, 3), (68, .goto 26, 3), (71, .aload_n 0, 1), (72, .getfield 310, 3), (75, .iconst (-1), 1), (76, .if_icmp .eq 12, 3), (79, .iload 4, 2), (81, .aload_n 0, 1), (82, .getfield 310, 3), (85, .if_icmp .ge 9, 3), (88, .aload_n 0, 1), (89, .iload 4, 2), (91, .putfield 310, 3), (94, .iinc 3 1, 3), (97, .goto (-80), 3), (100, .aload_n 0, 1), (101, .getfield 310, 3), (104, .iconst (-1), 1), (105, .if_icmp .eq 7, 3), (108, .iconst 1, 1), (109, .goto 4, 3), (112, .iconst 0, 1), (113, .ireturn, 1)]
theorem ddX8_findRooms : dAll cX8_findRooms qX8_findRooms = true := by decide +kernel
def qX8_shape : List (Nat × Instr × Nat) := [(0, .aload_n 0, 1), (1, .iload_n 1, 1), (2, .iload_n 2, 1), (3, .invokevirtual 239, 3), (6, .ifCond .eq 7, 3), (9, .iload_n 2, 1), (10, .ifCond .ne 10, 3), (13, .aload_n 0, 1), (14, .bipush (-2), 2), (16, .invokevirtual 119, 3), (19, .ireturn, 1), (20, .aload_n 0, 1), (21, .iload_n 1, 1), (22, .iload_n 2, 1), (23, .invokevirtual 316, 3), (26, .ifCond .eq 23, 3), (29, .aload_n 0, 1), (30, .getfield 313, 3), (33, .aload_n 0, 1), (34, .getfield 310, 3), (37, .if_icmp .ge 12, 3), (40, .aload_n 0, 1), (41, .getfield 313, 3), (44, .iconst 1, 1), (45, .iadd, 1), (46, .goto 4, 3), (49, .iconst (-1), 1), (50, .ireturn, 1)]
theorem ddX8_shape : dAll cX8_shape qX8_shape = true := by decide +kernel
def qX8_odd : List (Nat × Instr × Nat) := [(0, .aload_n 0, 1), (1, .iload_n 1, 1), (2, .iload_n 2, 1), (3, .invokevirtual 239, 3), (6, .ifCond .eq 7, 3), (9, .iload_n 2, 1), (10, .ifCond .ne 10, 3), (13, .aload_n 0, 1), (14, .bipush (-2), 2), (16, .invokevirtual 119, 3), (19, .ireturn, 1), (20, .aload_n 0, 1), (21, .iload_n 1, 1), (22, .iload_n 2, 1), (23, .invokevirtual 316, 3), (26, .ifCond .ne 5, 3), (29, .iconst (-1), 1), (30, .ireturn, 1), (31, .iconst 0, 1), (32, .istore_n 3, 1), (33, .iload_n 3, 1), (34, .aload_n 0, 1), (35, .iload_n 1, 1), (36, .invokevirtual 110, 3), (39, .if_icmp .ge 36, 3), (42, .aload_n 0, 1), (43, .getfield 58, 3), (46, .iload_n 2, 1), (47, .aaload, 1), (48, .iload_n 3, 1), (49, .iaload, 1), (50, .ifCond .ne 19, 3), (53, .aload_n 0, 1), (54, .iload_n 1, 1), (55, .iload_n 3, 1), (56, .iconst 0, 1), (57, .invokevirtual 236, 3), (60, .aload_n 0, 1), (61, .getfield 310, 3), (64, .if_icmp .lt 5, 3), (67, .iload_n 3, 1), (68, .ireturn, 1), (69, .iinc 3 1, 3), (72, .goto (-39), 3), (75, .iconst (-1), 1), (76, .ireturn, 1)]
theorem ddX8_odd : dAll cX8_odd qX8_odd = true := by decide +kernel
def qX8_judge : List (Nat × Instr × Nat) := [(0, .aload_n 0, 1), (1, .iload_n 1, 1), (2, .iload_n 2, 1), (3, .invokevirtual 233, 3), (6, .ifCond .eq 15, 3), (9, .iload_n 3, 1), (10, .i2l, 1), (11, .lconst 0, 1), (12, .ldc2_w 113, 3), (15, .invokestatic 94, 3), (18, .ifCond .ne 10, 3), (21, .aload_n 0, 1), (22, .bipush (-2), 2), (24, .invokevirtual 119, 3), (27, .ireturn, 1), (28, .aload_n 0, 1), (29, .getfield 7, 3), (32, .iload_n 3, 1), (33, .iaload, 1), (34, .iconst 2, 1), (35, .if_icmp .ne 10, 3), (38, .aload_n 0, 1), (39, .bipush (-3), 2), (41, .invokevirtual 119, 3), (44, .ireturn, 1), (45, .aload_n 0, 1), (46, .getfield 7, 3), (49, .iload_n 3, 1), (50, .iaload, 1), (51, .ifCond .ne 10, 3), (54, .aload_n 0, 1), (55, .bipush (-4), 2), (57, .invokevirtual 119, 3), (60, .ireturn, 1), (61, .aload_n 0, 1), (62, .getfield 16, 3), (65, .iload_n 3, 1), (66, .iaload, 1), (67, .aload_n 0, 1), (68, .iload_n 1, 1), (69, .invokevirtual 98, 3), (72, .if_icmp .ge 10, 3), (75, .aload_n 0, 1), (76, .bipush (-2), 2), (78, .invokevirtual 119, 3), (81, .ireturn, 1), (82, .iconst 0, 1), (83, .istore 4, 2), (85, .iconst 0, 1), (86, .istore 5, 2), (88, .iload 5, 2), (90, .aload_n 0, 1), (91, .iload_n 1, 1), (92, .invokevirtual 98, 3), (95, .if_icmp .ge 58, 3), (98, .aload_n 0, 1), (99, .getfield 21, 3), (102, .iload_n 3, 1), (103, .aaload, 1), (104, .iload 5, 2), (106, .laload, 1), (107, .lconst 0, 1), (108, .iload_n 2, 1), (109, .iload 5, 2), (111, .invokestatic 226, 3), (114, .i2l, 1), (115, .invokestatic 94, 3), (118, .ifCond .ne 5, 3), (121, .iconst 1, 1), (122, .ireturn, 1), (123, .iload 4, 2), (125, .aload_n 0, 1), (126, .getfield 21, 3), (129, .iload_n 3, 1), (130, .aaload, 1), (131, .iload 5, 2), (133, .laload, 1), (134, .l2i, 1), (135, .aload_n 0, 1), (136, .iload_n 1, 1), (137, .iload 5, 2), (139, .iconst 0, 1), (140, .invokevirtual 229, 3), (143, .imul, 1), (144, .iadd, 1), (145, .istore 4, 2), (147, .iinc 5 1, 3), (150, .goto (-62), 3), (153, .iload 4, 2), (155, .aload_n 0, 1), (156, .getfield 45, 3), (159, .iload_n 1, 1), (160, .aaload, 1), (161, .iconst 2, 1), (162, .iaload, 1), (163, .if_icmp .le 7, 3), (166, .iconst 2, 1), (167, .goto 4, 3), (170, .iconst 0, 1), (171, .ireturn, 1)]
theorem ddX8_judge : dAll cX8_judge qX8_judge = true := by decide +kernel
def qX8_mayJoin : List (Nat × Instr × Nat) := [(0, .aload_n 0, 1), (1, .getfield 45, 3), (4, .iload_n 1, 1), (5, .aaload, 1), (6, .iconst 0, 1), (7, .iaload, 1), (8, .aload_n 0, 1), (9, .getfield 45, 3), (12, .iload_n 2, 1), (13, .aaload, 1), (14, .iconst 0, 1), (15, .iaload, 1), (16, .if_icmp .ne 22, 3), (19, .aload_n 0, 1), (20, .iload_n 1, 1), (21, .invokevirtual 98, 3), (24, .aload_n 0, 1), (25, .iload_n 2, 1), (26, .invokevirtual 98, 3), (29, .iadd, 1), (30, .iconst 3, 1), (31, .if_icmp .gt 7, 3), (34, .iconst 1, 1), (35, .goto 4, 3), (38, .iconst 0, 1), (39, .ireturn, 1)]
theorem ddX8_mayJoin : dAll cX8_mayJoin qX8_mayJoin = true := by decide +kernel
def qX8_joinTo : List (Nat × Instr × Nat) := [(0, .iconst 0, 1), (1, .istore 4, 2), (3, .iload 4, 2), (5, .bipush 20, 2), (7, .if_icmp .ge 27, 3), (10, .aload_n 0, 1), (11, .getfield 45, 3), (14, .iload_n 3, 1), (15, .aaload, 1), (16, .iload 4, 2), (18, .aload_n 0, 1), (19, .getfield 45, 3), (22, .iload_n 1, 1), (23, .aaload, 1), (24, .iload 4, 2), (26, .iaload, 1), (27, .iastore, 1), (28, .iinc 4 1, 3), (31, .goto (-28), 3), (34, .iconst 0, 1), (35, .istore 4, 2), (37, .iload 4, 2), (39, .iconst 5, 1), (40, .aload_n 0, 1), (41, .iload_n 2, 1), (42, .invokevirtual 98, 3), (45, .imul, 1), (46, .if_icmp .ge 39, 3), (49, .aload_n 0, 1), (50, .getfield 45, 3), (53, .iload_n 3, 1), (54, .aaload, 1), (55, .iconst 5, 1), (56, .iconst 5, 1), (57, .aload_n 0, 1), (58, .iload_n 1, 1), (59, .invokevirtual 98, 3), (62, .imul, 1), (63, .iadd, 1), (64, .iload 4, 2), (66, .iadd, 1), (67, .aload_n 0, 1), (68, .getfield 45, 3), (71, .iload_n 2, 1), (72, .aaload, 1), (73, .iconst 5, 1), (74, .iload 4, 2), (76, .iadd, 1), (77, .iaload, 1), (78, .iastore, 1), (79, .iinc 4 1, 3), (82, .goto (-45), 3), (85, .aload_n 0, 1), (86, .getfield 45, 3), (89, .iload_n 3, 1), (90, .aaload, 1), (91, .iconst 4, 1), (92, .aload_n 0, 1), (93, .iload_n 1, 1), (94, .invokevirtual 98, 3), (97, .aload_n 0, 1), (98, .iload_n 2, 1), (99, .invokevirtual 98, 3), (102, .iadd, 1), (103, .iastore, 1), (104, .return_, 1)]
theorem ddX8_joinTo : dAll cX8_joinTo qX8_joinTo = true := by decide +kernel
def qX8_join : List (Nat × Instr × Nat) := [(0, .aload_n 0, 1), (1, .iload_n 1, 1), (2, .invokevirtual 106, 3), (5, .ifCond .eq 16, 3), (8, .aload_n 0, 1), (9, .iload_n 2, 1), (10, .invokevirtual 106, 3), (13, .ifCond .eq 8, 3), (16, .iload_n 1, 1), (17, .iload_n 2, 1), (18, .if_icmp .ne 10, 3), (21, .aload_n 0, 1), (22, .bipush (-2), 2), (24, .invokevirtual 119, 3), (27, .ireturn, 1), (28, .aload_n 0, 1), (29, .iload_n 1, 1), (30, .iload_n 2, 1), (31, .invokevirtual 319, 3), (34, .ifCond .ne 10, 3), (37, .aload_n 0, 1), (38, .bipush (-5), 2), (40, .invokevirtual 119, 3), (43, .ireturn, 1), (44, .aload_n 0, 1), (45, .getfield 91, 3), (48, .bipush 6, 2), (50, .if_icmp .ne 10, 3), (53, .aload_n 0, 1), (54, .bipush (-6), 2), (56, .invokevirtual 119, 3), (59, .ireturn, 1), (60, .aload_n 0, 1), (61, .iload_n 1, 1), (62, .iload_n 2, 1), (63, .aload_n 0, 1), (64, .getfield 91, 3), (67, .invokevirtual 322, 3), (70, .aload_n 0, 1), (71, .dup, 1), (72, .getfield 91, 3), (75, .dup_x1, 1), (76, .iconst 1, 1), (77, .iadd, 1), (78, .putfield 91, 3), (81, .ireturn, 1)]
theorem ddX8_join : dAll cX8_join qX8_join = true := by decide +kernel
def qX8_wholeCost : List (Nat × Instr × Nat) := [(0, .aload_n 0, 1), (1, .iload_n 1, 1), (2, .invokevirtual 264, 3), (5, .aload_n 0, 1), (6, .getfield 55, 3), (9, .aload_n 0, 1), (10, .getfield 45, 3), (13, .iload_n 1, 1), (14, .aaload, 1), (15, .iconst 0, 1), (16, .iaload, 1), (17, .aaload, 1), (18, .iconst 0, 1), (19, .laload, 1), (20, .lreturn, 1)]
theorem ddX8_wholeCost : dAll cX8_wholeCost qX8_wholeCost = true := by decide +kernel
def qX8_saved : List (Nat × Instr × Nat) := [(0, .aload_n 0, 1), (1, .iload_n 1, 1), (2, .invokevirtual 106, 3), (5, .ifCond .eq 16, 3), (8, .aload_n 0, 1), (9, .iload_n 2, 1), (10, .invokevirtual 106, 3), (13, .ifCond .eq 8, 3), (16, .iload_n 1, 1), (17, .iload_n 2, 1), (18, .if_icmp .ne 11, 3), (21, .aload_n 0, 1), (22, .bipush (-2), 2), (24, .invokevirtual 119, 3), (27, .i2l, 1), (28, .lreturn, 1), (29, .aload_n 0, 1), (30, .iload_n 1, 1), (31, .iload_n 2, 1), (32, .invokevirtual 319, 3), (35, .ifCond .ne 11, 3), (38, .aload_n 0, 1), (39, .bipush (-5), 2), (41, .invokevirtual 119, 3), (44, .i2l, 1), (45, .lreturn, 1), (46, .aload_n 0, 1), (47, .iload_n 1, 1), (48, .iload_n 2, 1), (49, .bipush 6, 2), (51, .invokevirtual 322, 3), (54, .aload_n 0, 1), (55, .getfield 45, 3), (58, .iload_n 1, 1), (59, .aaload, 1), (60, .iconst 0, 1), (61, .iaload, 1), (62, .istore_n 3, 1), (63, .aload_n 0, 1), (64, .bipush 6, 2), (66, .iload_n 3, 1), (67, .invokevirtual 242, 3), (70, .lstore 4, 2), (72, .aload_n 0, 1), (73, .iload_n 1, 1), (74, .invokevirtual 326, 3), (77, .lload 4, 2), (79, .aload_n 0, 1), (80, .iload_n 1, 1), (81, .iload_n 3, 1), (82, .invokevirtual 242, 3), (85, .ldiv, 1), (86, .lmul, 1), (87, .lstore 6, 2), (89, .aload_n 0, 1), (90, .iload_n 2, 1), (91, .invokevirtual 326, 3), (94, .lload 4, 2), (96, .aload_n 0, 1), (97, .iload_n 2, 1), (98, .iload_n 3, 1), (99, .invokevirtual 242, 3), (102, .ldiv, 1), (103, .lmul, 1), (104, .lstore 8, 2), (106, .lload 6, 2), (108, .lload 8, 2), (110, .ladd, 1), (111, .aload_n 0, 1), (112, .bipush 6, 2), (114, .invokevirtual 326, 3), (117, .lsub, 1), (118, .lstore 10, 2), (120, .lload 10, 2), (122, .lconst 0, 1), (123, .lcmp, 1), (124, .ifCond .ge 7, 3), (127, .lconst 0, 1), (128, .goto 5, 3), (131, .lload 10, 2), (133, .lreturn, 1)]
theorem ddX8_saved : dAll cX8_saved qX8_saved = true := by decide +kernel
def qX8_seed : List (Nat × Instr × Nat) := [(0, .aload_n 0, 1), (1, .getfield 48, 3), (4, .istore_n 2, 1), (5, .aload_n 0, 1), (6, .iload_n 1, 1), (7, .putfield 48, 3), (10, .iload_n 2, 1), (11, .ireturn, 1)]
theorem ddX8_seed : dAll cX8_seed qX8_seed = true := by decide +kernel
def qX8_draw : List (Nat × Instr × Nat) := [(0, .aload_n 0, 1), (1, .aload_n 0, 1), (2, .getfield 48, 3), (5, .ldc_w 330, 3), (8, .imul, 1), (9, .sipush 12345, 3), (12, .iadd, 1), (13, .putfield 48, 3), (16, .aload_n 0, 1), (17, .getfield 48, 3), (20, .bipush 16, 2), (22, .iushr, 1), (23, .iconst 4, 1), (24, .irem, 1), (25, .ireturn, 1)]
theorem ddX8_draw : dAll cX8_draw qX8_draw = true := by decide +kernel
def qX8_day : List (Nat × Instr × Nat) := [(0, .aload_n 0, 1), (1, .invokevirtual 331, 3), (4, .aload_n 0, 1), (5, .getfield 45, 3), (8, .iload_n 1, 1), (9, .aaload, 1), (10, .iconst 3, 1), (11, .iaload, 1), (12, .if_icmp .ge 7, 3), (15, .iconst 0, 1), (16, .goto 12, 3), (19, .aload_n 0, 1), (20, .iload_n 1, 1), (21, .iload_n 2, 1), (22, .iload_n 3, 1), (23, .iload 4, 2), (25, .invokevirtual 274, 3), (28, .istore 5, 2), (30, .iload 5, 2), (32, .ifCond .eq 14, 3), (35, .aload_n 0, 1), (36, .getfield 45, 3), (39, .iload_n 1, 1), (40, .aaload, 1), (41, .iconst 1, 1), (42, .iaload, 1), (43, .goto 4, 3), (46, .iconst 0, 1), (47, .istore 6, 2), (49, .aload_n 0, 1), (50, .iload 5, 2), (52, .ifCond .eq 7, 3), (55, .iconst 1, 1), (56, .goto 4, 3), (59, .iconst 0, 1), (60, .putfield 334, 3), (63, .aload_n 0, 1), (64, .iconst 0, 1), (65, .putfield 337, 3), (68, .aload_n 0, 1), (69, .iconst 0, 1), (70, .putfield 340, 3), (73, .iconst 0, 1), (74, .istore 7, 2), (76, .iload 7, 2), (78, .aload_n 0, 1), (79, .iload_n 1, 1), (80, .invokevirtual 98, 3), (83, .if_icmp .ge 25, 3), (86, .aload_n 0, 1), (87, .dup, 1), (88, .getfield 337, 3), (91, .iload 5, 2), (93, .iload 7, 2), (95, .invokestatic 226, 3), (98, .iadd, 1), (99, .putfield 337, 3), (102, .iinc 7 1, 3), (105, .goto (-29), 3), (108, .iload_n 3, 1), (109, .iload 5, 2), (111, .isub, 1), (112, .istore 7, 2), (114, .iload 6, 2), (116, .aload_n 0, 1), (117, .iload_n 1, 1), (118, .iload 7, 2), (120, .iconst 2, 1), (121, .invokevirtual 236, 3), (124, .iadd, 1), (125, .istore 6, 2), (127, .iconst 0, 1), (128, .istore 8, 2), (130, .iload 8, 2), (132, .aload_n 0, 1), (133, .iload_n 1, 1), (134, .invokevirtual 98, 3), (137, .if_icmp .ge 72, 3), (140, .aload_n 0, 1), (141, .invokevirtual 331, 3), (144, .aload_n 0, 1), (145, .iload_n 1, 1), (146, .iload 8, 2), (148, .iconst 1, 1), (149, .invokevirtual 229, 3), (152, .if_icmp .ge 51, 3), (155, .iload 7, 2), (157, .iload 8, 2), (159, .invokestatic 226, 3), (162, .iconst 4, 1), (163, .if_icmp .ne 29, 3), (166, .iload 6, 2), (168, .aload_n 0, 1), (169, .iload_n 1, 1), (170, .iload 8, 2), (172, .iconst 3, 1), (173, .invokevirtual 229, 3), (176, .iadd, 1), (177, .istore 6, 2), (179, .aload_n 0, 1), (180, .dup, 1), (181, .getfield 340, 3), (184, .iconst 1, 1), (185, .iadd, 1), (186, .putfield 340, 3), (189, .goto 14, 3), (192, .iload 7, 2), (194, .iconst 5, 1), (195, .iload 8, 2), (197, .invokestatic 102, 3), (200, .iadd, 1), (201, .istore 7, 2), (203, .iinc 8 1, 3), (206, .goto (-76), 3), (209, .aload_n 0, 1), (210, .iload 7, 2), (212, .putfield 343, 3), (215, .iload_n 2, 1), (216, .iconst 1, 1), (217, .if_icmp .ne 17, 3), (220, .iload 6, 2), (222, .aload_n 0, 1), (223, .iload_n 1, 1), (224, .iload 7, 2), (226, .iconst 4, 1), (227, .invokevirtual 236, 3), (230, .iadd, 1), (231, .goto 5, 3), (234, .iload 6, 2), (236, .ireturn, 1)]
theorem ddX8_day : dAll cX8_day qX8_day = true := by decide +kernel
def qX8_begin : List (Nat × Instr × Nat) := [(0, .aload_n 0, 1), (1, .iload_n 1, 1), (2, .invokevirtual 106, 3), (5, .ifCond .eq 15, 3), (8, .iload_n 2, 1), (9, .i2l, 1), (10, .lconst 0, 1), (11, .ldc2_w 113, 3), (14, .invokestatic 94, 3), (17, .ifCond .ne 10, 3), (20, .aload_n 0, 1), (21, .bipush (-2), 2), (23, .invokevirtual 119, 3), (26, .ireturn, 1), (27, .aload_n 0, 1), (28, .iload_n 2, 1), (29, .invokevirtual 271, 3), (32, .istore_n 3, 1), (33, .iload_n 3, 1), (34, .ifCond .eq 5, 3), (37, .iload_n 3, 1), (38, .ireturn, 1), (39, .iconst 0, 1), (40, .istore 4, 2), (42, .iload 4, 2), (44, .bipush 20, 2), (46, .if_icmp .ge 28, 3), (49, .aload_n 0, 1), (50, .getfield 45, 3), (53, .bipush 7, 2), (55, .aaload, 1), (56, .iload 4, 2), (58, .aload_n 0, 1), (59, .getfield 45, 3), (62, .iload_n 1, 1), (63, .aaload, 1), (64, .iload 4, 2), (66, .iaload, 1), (67, .iastore, 1), (68, .iinc 4 1, 3), (71, .goto (-29), 3), (74, .aload_n 0, 1), (75, .getfield 28, 3), (78, .bipush 8, 2), (80, .aload_n 0, 1), (81, .getfield 28, 3), (84, .iload_n 2, 1), (85, .iaload, 1), (86, .iastore, 1), (87, .aload_n 0, 1), (88, .getfield 31, 3), (91, .bipush 8, 2), (93, .aload_n 0, 1), (94, .getfield 31, 3), (97, .iload_n 2, 1), (98, .iaload, 1), (99, .iastore, 1), (100, .iconst 0, 1), (101, .istore 4, 2), (103, .iload 4, 2), (105, .bipush 125, 2), (107, .if_icmp .ge 28, 3), (110, .aload_n 0, 1), (111, .getfield 36, 3), (114, .bipush 8, 2), (116, .aaload, 1), (117, .iload 4, 2), (119, .aload_n 0, 1), (120, .getfield 36, 3), (123, .iload_n 2, 1), (124, .aaload, 1), (125, .iload 4, 2), (127, .iaload, 1), (128, .iastore, 1), (129, .iinc 4 1, 3), (132, .goto (-29), 3), (135, .aload_n 0, 1), (136, .iconst 1, 1), (137, .putfield 346, 3), (140, .aload_n 0, 1), (141, .aload_n 0, 1), (142, .getfield 45, 3), (145, .iload_n 1, 1), (146, .aaload, 1), (147, .iconst 0, 1), (148, .iaload, 1), (149, .putfield 349, 3), (152, .aload_n 0, 1), (153, .iconst 0, 1), (154, .putfield 352, 3), (157, .aload_n 0, 1), (158, .iconst 0, 1), (159, .putfield 355, 3), (162, .aload_n 0, 1), (163, .iconst 0, 1), (164, .putfield 358, 3), (167, .aload_n 0, 1), (168, .iconst 0, 1), (169, .putfield 361, 3), (172, .aload_n 0, 1), (173, .iconst 0, 1), (174, .putfield 364, 3), (177, .aload_n 0, 1), (178, .getfield 349, 3), (181, .ireturn, 1)]
theorem ddX8_begin : dAll cX8_begin qX8_begin = true := by decide +kernel
def qX8_step : List (Nat × Instr × Nat) := [(0, .iload_n 1, 1), (1, .i2l, 1), (2, .lconst 1, 1), (3, .ldc2_w 128, 3), (6, .invokestatic 94, 3), (9, .ifCond .ne 10, 3), (12, .aload_n 0, 1), (13, .bipush (-2), 2), (15, .invokevirtual 119, 3), (18, .ireturn, 1), (19, .aload_n 0, 1), (20, .getfield 346, 3), (23, .ifCond .eq 10, 3), (26, .aload_n 0, 1), (27, .getfield 349, 3), (30, .ifCond .ne 10, 3), (33, .aload_n 0, 1), (34, .bipush (-5), 2), (36, .invokevirtual 119, 3), (39, .ireturn, 1), (40, .aload_n 0, 1), (41, .bipush 7, 2), (43, .invokevirtual 264, 3), (46, .iconst 0, 1), (47, .istore_n 2, 1), (48, .iconst 0, 1), (49, .istore_n 3, 1), (50, .iload_n 3, 1), (51, .iload_n 1, 1), (52, .if_icmp .ge 92, 3), (55, .aload_n 0, 1), (56, .getfield 349, 3), (59, .ifCond .le 85, 3), (62, .iload_n 2, 1), (63, .aload_n 0, 1), (64, .bipush 7, 2), (66, .aload_n 0, 1), (67, .getfield 349, 3), (70, .aload_n 0, 1), (71, .getfield 352, 3), (74, .bipush 8, 2), (76, .invokevirtual 367, 3), (79, .iadd, 1), (80, .istore_n 2, 1), (81, .aload_n 0, 1), (82, .aload_n 0, 1), (83, .getfield 343, 3), (86, .putfield 352, 3), (89, .aload_n 0, 1), (90, .dup, 1), (91, .getfield 358, 3), (94, .aload_n 0, 1), (95, .getfield 334, 3), (98, .iadd, 1), (99, .putfield 358, 3), (102, .aload_n 0, 1), (103, .dup, 1), (104, .getfield 361, 3), (107, .aload_n 0, 1), (108, .getfield 337, 3), (111, .iadd, 1), (112, .putfield 361, 3), (115, .aload_n 0, 1), (116, .dup, 1), (117, .getfield 364, 3), (120, .aload_n 0, 1), (121, .getfield 340, 3), (124, .iadd, 1), (125, .putfield 364, 3), (128, .aload_n 0, 1), (129, .dup, 1), (130, .getfield 349, 3), (133, .iconst 1, 1), (134, .isub, 1), (135, .putfield 349, 3), (138, .iinc 3 1, 3), (141, .goto (-91), 3), (144, .aload_n 0, 1), (145, .dup, 1), (146, .getfield 355, 3), (149, .iload_n 2, 1), (150, .iadd, 1), (151, .putfield 355, 3), (154, .iload_n 2, 1), (155, .ireturn, 1)]
theorem ddX8_step : dAll cX8_step qX8_step = true := by decide +kernel
def qX8_week : List (Nat × Instr × Nat) := [(0, .iload_n 1, 1), (1, .i2l, 1), (2, .lconst 0, 1), (3, .ldc2_w 130, 3), (6, .invokestatic 94, 3), (9, .ifCond .ne 10, 3), (12, .aload_n 0, 1), (13, .bipush (-2), 2), (15, .invokevirtual 119, 3), (18, .ireturn, 1), (19, .aload_n 0, 1), (20, .getfield 346, 3), (23, .ifCond .ne 10, 3), (26, .aload_n 0, 1), (27, .bipush (-5), 2), (29, .invokevirtual 119, 3), (32, .ireturn, 1), (33, .iload_n 1, 1), (34, .tableswitch 59 0 4 #[34, 39, 44, 49, 54], 34), (68, .aload_n 0, 1), (69, .getfield 349, 3), (72, .ireturn, 1), (73, .aload_n 0, 1), (74, .getfield 352, 3), (77, .ireturn, 1), (78, .aload_n 0, 1), (79, .getfield 355, 3), (82, .ireturn, 1), (83, .aload_n 0, 1), (84, .getfield 358, 3), (87, .ireturn, 1), (88, .aload_n 0, 1), (89, .getfield 361, 3), (92, .ireturn, 1), (93, .aload_n 0, 1), (94, .getfield 364, 3), (97, .ireturn, 1)]
theorem ddX8_week : dAll cX8_week qX8_week = true := by decide +kernel
def qX8_weeks : List (Nat × Instr × Nat) := [(0, .aload_n 0, 1), (1, .iload_n 1, 1), (2, .invokevirtual 106, 3), (5, .ifCond .eq 27, 3), (8, .iload_n 2, 1), (9, .i2l, 1), (10, .lconst 0, 1), (11, .ldc2_w 113, 3), (14, .invokestatic 94, 3), (17, .ifCond .eq 15, 3), (20, .iload_n 3, 1), (21, .i2l, 1), (22, .lconst 1, 1), (23, .ldc2_w 370, 3), (26, .invokestatic 94, 3), (29, .ifCond .ne 10, 3), (32, .aload_n 0, 1), (33, .bipush (-2), 2), (35, .invokevirtual 119, 3), (38, .ireturn, 1), (39, .aload_n 0, 1), (40, .iload_n 2, 1), (41, .invokevirtual 271, 3), (44, .istore 4, 2), (46, .iload 4, 2), (48, .ifCond .eq 6, 3), (51, .iload 4, 2), (53, .ireturn, 1), (54, .aload_n 0, 1), (55, .iload_n 1, 1), (56, .invokevirtual 264, 3), (59, .iconst 0, 1), (60, .istore 5, 2), (62, .iconst 0, 1), (63, .istore 6, 2), (65, .iload 6, 2), (67, .iload_n 3, 1), (68, .if_icmp .ge 54, 3), (71, .iconst 0, 1), (72, .istore 7, 2), (74, .aload_n 0, 1), (75, .getfield 45, 3), (78, .iload_n 1, 1), (79, .aaload, 1), (80, .iconst 0, 1), (81, .iaload, 1), (82, .istore 8, 2), (84, .iload 8, 2), (86, .ifCond .le 30, 3), (89, .iload 5, 2), (91, .aload_n 0, 1), (92, .iload_n 1, 1), (93, .iload 8, 2), (95, .iload 7, 2), (97, .iload_n 2, 1), (98, .invokevirtual 367, 3), (101, .iadd, 1), (102, .istore 5, 2), (104, .aload_n 0, 1), (105, .getfield 343, 3), (108, .istore 7, 2), (110, .iinc 8 (-1), 3), (113, .goto (-29), 3), (116, .iinc 6 1, 3), (119, .goto (-54), 3), (122, .iload 5, 2), (124, .ireturn, 1)]
theorem ddX8_weeks : dAll cX8_weeks qX8_weeks = true := by decide +kernel
def qX8_takeFrom : List (Nat × Instr × Nat) := [(0, .aload_n 0, 1), (1, .aload_n 1, 1), (2, .getfield 91, 3), (5, .putfield 91, 3), (8, .iconst 0, 1), (9, .istore_n 2, 1), (10, .iload_n 2, 1), (11, .bipush 8, 2), (13, .if_icmp .ge 39, 3), (16, .iconst 0, 1), (17, .istore_n 3, 1), (18, .iload_n 3, 1), (19, .bipush 20, 2), (21, .if_icmp .ge 25, 3), (24, .aload_n 0, 1), (25, .getfield 45, 3), (28, .iload_n 2, 1), (29, .aaload, 1), (30, .iload_n 3, 1), (31, .aload_n 1, 1), (32, .getfield 45, 3), (35, .iload_n 2, 1), (36, .aaload, 1), (37, .iload_n 3, 1), (38, .iaload, 1), (39, .iastore, 1), (40, .iinc 3 1, 3), (43, .goto (-25), 3), (46, .iinc 2 1, 3), (49, .goto (-39), 3), (52, .aload_n 0, 1), (53, .getfield 28, 3), (56, .bipush 8, 2), (58, .aload_n 1, 1), (59, .getfield 28, 3), (62, .bipush 8, 2), (64, .iaload, 1), (65, .iastore, 1), (66, .aload_n 0, 1), (67, .getfield 31, 3), (70, .bipush 8, 2), (72, .aload_n 1, 1), (73, .getfield 31, 3), (76, .bipush 8, 2), (78, .iaload, 1), (79, .iastore, 1), (80, .iconst 0, 1), (81, .istore_n 2, 1), (82, .iload_n 2, 1), (83, .bipush 125, 2), (85, .if_icmp .ge 27, 3), (88, .aload_n 0, 1), (89, .getfield 36, 3), (92, .bipush 8, 2), (94, .aaload, 1), (95, .iload_n 2, 1), (96, .aload_n 1, 1), (97, .getfield 36, 3), (100, .bipush 8, 2), (102, .aaload, 1), (103, .iload_n 2, 1), (104, .iaload, 1), (105, .iastore, 1), (106, .iinc 2 1, 3), (109, .goto (-27), 3), (112, .aload_n 0, 1), (113, .aload_n 1, 1), (114, .getfield 48, 3), (117, .putfield 48, 3), (120, .aload_n 0, 1), (121, .aload_n 1, 1), (122, .getfield 346, 3), (125, .putfield 346, 3), (128, .aload_n 0, 1), (129, .aload_n 1, 1), (130, .getfield 349, 3), (133, .putfield 349, 3), (136, .aload_n 0, 1), (137, .aload_n 1, 1), (138, .getfield 352, 3), (141, .putfield 352, 3), (144, .aload_n 0, 1), (145, .aload_n 1, 1), (146, .getfield 355, 3), (149, .putfield 355, 3), (152, .aload_n 0, 1), (153, .aload_n 1, 1), (154, .getfield 358, 3), (157, .putfield 358, 3), (160, .aload_n 0, 1), (161, .aload_n 1, 1), (162, .getfield 361, 3), (165, .putfield 361, 3), (168, .aload_n 0, 1), (169, .aload_n 1, 1), (170, .getfield 364, 3), (173, .putfield 364, 3), (176, .return_, 1)]
theorem ddX8_takeFrom : dAll cX8_takeFrom qX8_takeFrom = true := by decide +kernel
def qX8_image : List (Nat × Instr × Nat) := [(0, .aload_n 0, 1), (1, .getfield 372, 3), (4, .ifnonnull 14, 3), (7, .aload_n 0, 1), (8, .new 8, 3), (11, .dup, 1), (12, .invokespecial 376, 3), (15, .putfield 372, 3), (18, .aload_n 0, 1), (19, .getfield 372, 3), (22, .aload_n 0, 1), (23, .invokevirtual 377, 3), (26, .iconst 1, 1), (27, .ireturn, 1)]
theorem ddX8_image : dAll cX8_image qX8_image = true := by decide +kernel
def qX8_back : List (Nat × Instr × Nat) := [(0, .aload_n 0, 1), (1, .getfield 372, 3), (4, .ifnonnull 10, 3), (7, .aload_n 0, 1), (8, .bipush (-5), 2), (10, .invokevirtual 119, 3), (13, .ireturn, 1), (14, .aload_n 0, 1), (15, .aload_n 0, 1), (16, .getfield 372, 3), (19, .invokevirtual 377, 3), (22, .iconst 1, 1), (23, .ireturn, 1)]
theorem ddX8_back : dAll cX8_back qX8_back = true := by decide +kernel
def qX8_status : List (Nat × Instr × Nat) := [(0, .iload_n 1, 1), (1, .tableswitch 81 0 3 #[31, 36, 41, 46], 31), (32, .aload_n 0, 1), (33, .getfield 91, 3), (36, .ireturn, 1), (37, .aload_n 0, 1), (38, .getfield 136, 3), (41, .ireturn, 1), (42, .aload_n 0, 1), (43, .getfield 48, 3), (46, .ireturn, 1), (47, .iconst 0, 1), (48, .istore_n 2, 1), (49, .iconst 0, 1), (50, .istore_n 3, 1), (51, .iload_n 3, 1), (52, .bipush 8, 2), (54, .if_icmp .ge 26, 3), (57, .iload_n 2, 1), (58, .aload_n 0, 1), (59, .getfield 7, 3), (62, .iload_n 3, 1), (63, .iaload, 1), (64, .ifCond .eq 7, 3), (67, .iconst 1, 1), (68, .goto 4, 3), (71, .iconst 0, 1), (72, .iadd, 1), (73, .istore_n 2, 1), (74, .iinc 3 1, 3), (77, .goto (-26), 3), (80, .iload_n 2, 1), (81, .ireturn, 1), (82, .iload_n 1, 1), (83, .i2l, 1), (84, .ldc2_w 381, 3), (87, .ldc2_w 383, 3), (90, .invokestatic 94, 3), (93, .ifCond .eq 15, 3), (96, .aload_n 0, 1), (97, .getfield 42, 3), (100, .iload_n 1, 1), (101, .bipush 10, 2), (103, .isub, 1), (104, .iaload, 1), (105, .goto 4, 3), (108, .iconst (-1), 1), (109, .ireturn, 1)]
theorem ddX8_status : dAll cX8_status qX8_status = true := by decide +kernel
end
section
/-! small facts that the walks use -/
theorem rI {x y : Int32} {G : zG} {V : zV} (h : x = y) : pI y G V (some (.int x)) G V := ⟨by rw [h], rfl, rfl⟩
theorem rJ {x y : Int64} {G : zG} {V : zV} (h : x = y) : pJ y G V (some (.long x)) G V := ⟨by rw [h], rfl, rfl⟩
theorem lpU {P : Nat → Prop} (N : Nat) (step : ∀ i, i ≤ N → (i < N → P (i + 1)) → P i) : ∀ i, i ≤ N → P i := by
  intro i hi
  obtain ⟨d, hd⟩ : ∃ d, N - i = d := ⟨_, rfl⟩
  induction d generalizing i with
  | zero => exact step i hi (fun h => by omega)
  | succ d ih => exact step i hi (fun h => ih (i + 1) (by omega) (by omega))
/-- counting down: i of N are still to come -/
theorem lpD {P : Nat → Prop} (step : ∀ i, (∀ j, i = j + 1 → P j) → P i) : ∀ i, P i := by
  intro i
  induction i with
  | zero => exact step 0 (fun j h => by omega)
  | succ i ih => exact step (i + 1) (fun j h => by cases h; exact ih)
theorem ix3 {x : Int32} {m : Nat} (hm : m < 2 ^ 31) (h1 : ¬ x < 0) (h2 : ¬ nI m ≤ x) : ∃ j : Nat, j < m ∧ x = nI j := by
  rcases pk_ix x hm with h | h | h
  · exact absurd h h1
  · exact absurd h h2
  · exact h
theorem i32_lt {x y : Int32} : x < y ↔ x.toInt < y.toInt := Int32.lt_iff_toInt_lt
theorem i32_le {x y : Int32} : x ≤ y ↔ x.toInt ≤ y.toInt := Int32.le_iff_toInt_le
theorem i32_eq {x y : Int32} : x = y ↔ x.toInt = y.toInt := Int32.toInt_inj.symm
theorem toI_0 : (0 : Int32).toInt = 0 := rfl
def b2i (p : Prop) [Decidable p] : Int32 := if p then 1 else 0
theorem b2i_t {p : Prop} [Decidable p] (h : p) : b2i p = 1 := if_pos h
theorem b2i_f {p : Prop} [Decidable p] (h : ¬ p) : b2i p = 0 := if_neg h
theorem b2i_ne {p : Prop} [Decidable p] (h : ¬ b2i p = 0) : p := by
  by_cases hp : p
  · exact hp
  · exact absurd (b2i_f hp) h
theorem b2i_eq {p : Prop} [Decidable p] (h : b2i p = 0) : ¬ p := by
  intro hp
  rw [b2i_t hp] at h
  exact absurd h (by decide)
theorem b2i_nar {p : Prop} [Decidable p] : narrow .boolean (.int (b2i p)) = .int (b2i p) := by
  unfold b2i
  split <;> rfl
/-- an element of an int array, 0 beside it -/
def atI (V : zV) (a m : Nat) (x : Int32) : Int32 := if x < 0 ∨ nI m ≤ x then 0 else V.2.2.1 a x.toNatClampNeg
def atL (V : zV) (a m : Nat) (x : Int32) : Int64 := if x < 0 ∨ nI m ≤ x then 0 else V.2.2.2 a x.toNatClampNeg
theorem atI_in {V : zV} {a m j : Nat} (h : j < m) (hm : m < 2 ^ 31) : atI V a m (nI j) = V.2.2.1 a j := by
  unfold atI
  rw [if_neg, nI_clamp (by omega)]
  rintro (h1 | h1)
  · exact nI_pos (by omega) h1
  · exact nI_ge h hm h1
theorem atL_in {V : zV} {a m j : Nat} (h : j < m) (hm : m < 2 ^ 31) : atL V a m (nI j) = V.2.2.2 a j := by
  unfold atL
  rw [if_neg, nI_clamp (by omega)]
  rintro (h1 | h1)
  · exact nI_pos (by omega) h1
  · exact nI_ge h hm h1
theorem atI_out {V : zV} {a m : Nat} {x : Int32} (h : x < 0 ∨ nI m ≤ x) : atI V a m x = 0 := if_pos h
theorem atL_out {V : zV} {a m : Nat} {x : Int32} (h : x < 0 ∨ nI m ≤ x) : atL V a m x = 0 := if_pos h
/-- a stretch of a row becomes g -/
def rw2 {α : Type} (f : Nat → Nat → α) (a lo n : Nat) (g : Nat → α) : Nat → Nat → α := fun x j => if x = a ∧ lo ≤ j ∧ j < lo + n then g (j - lo) else f x j
theorem rw2_0 {α : Type} (f : Nat → Nat → α) (a lo : Nat) (g : Nat → α) : rw2 f a lo 0 g = f := by
  funext x j
  simp only [rw2]
  rw [if_neg (by omega)]
theorem rw2_s {α : Type} (f : Nat → Nat → α) (a lo i : Nat) (g : Nat → α) {v : α} (hv : v = g i) : u2 (rw2 f a lo i g) a (lo + i) v = rw2 f a lo (i + 1) g := by
  funext x j
  simp only [rw2, u2]
  by_cases h : x = a ∧ j = lo + i
  · rw [if_pos h, if_pos (by omega), hv]
    congr 1
    omega
  · rw [if_neg h]
    by_cases h2 : x = a ∧ lo ≤ j ∧ j < lo + i
    · rw [if_pos h2, if_pos (by omega)]
    · rw [if_neg h2, if_neg (by omega)]
theorem rw2_ne {α : Type} {f : Nat → Nat → α} {a lo n : Nat} {g : Nat → α} {x : Nat} (h : x ≠ a) (j : Nat) : rw2 f a lo n g x j = f x j := by
  simp only [rw2]
  rw [if_neg (by omega)]
theorem rw2_in {α : Type} {f : Nat → Nat → α} {a lo n : Nat} {g : Nat → α} {j : Nat} (h1 : lo ≤ j) (h2 : j < lo + n) : rw2 f a lo n g a j = g (j - lo) := by
  simp only [rw2]
  rw [if_pos ⟨trivial, h1, h2⟩]
theorem rw2_out {α : Type} {f : Nat → Nat → α} {a lo n : Nat} {g : Nat → α} {j : Nat} (h : j < lo ∨ lo + n ≤ j) : rw2 f a lo n g a j = f a j := by
  simp only [rw2]
  rw [if_neg (by omega)]
theorem rw2_in0 {α : Type} {f : Nat → Nat → α} {a n : Nat} {g : Nat → α} {j : Nat} (h2 : j < n) : rw2 f a 0 n g a j = g j := by
  rw [rw2_in (Nat.zero_le _) (by omega)]
  rfl
def rAI (V : zV) (a lo n : Nat) (g : Nat → Int32) : zV := (V.1, V.2.1, rw2 V.2.2.1 a lo n g, V.2.2.2)
def rAJ (V : zV) (a lo n : Nat) (g : Nat → Int64) : zV := (V.1, V.2.1, V.2.2.1, rw2 V.2.2.2 a lo n g)
theorem rAI_0 (V : zV) (a lo : Nat) (g : Nat → Int32) : rAI V a lo 0 g = V := by
  unfold rAI
  rw [rw2_0]
theorem rAJ_0 (V : zV) (a lo : Nat) (g : Nat → Int64) : rAJ V a lo 0 g = V := by
  unfold rAJ
  rw [rw2_0]
theorem rAI_s (V : zV) (a lo i : Nat) (g : Nat → Int32) {v : Int32} (hv : v = g i) : sAI (rAI V a lo i g) a (lo + i) v = rAI V a lo (i + 1) g := by
  unfold sAI rAI
  dsimp only
  rw [rw2_s _ _ _ _ _ hv]
theorem rAJ_s (V : zV) (a lo i : Nat) (g : Nat → Int64) {v : Int64} (hv : v = g i) : sAJ (rAJ V a lo i g) a (lo + i) v = rAJ V a lo (i + 1) g := by
  unfold sAJ rAJ
  dsimp only
  rw [rw2_s _ _ _ _ _ hv]
/-- digits of a state -/
def dig (s k : Nat) : Nat := s / 5 ^ k % 5
theorem dig_lt (s k : Nat) : dig s k < 5 := Nat.mod_lt _ (by decide)
/-- a sum of n numbers -/
def sumN (n : Nat) (f : Nat → Nat) : Nat := match n with
  | 0 => 0
  | n + 1 => sumN n f + f n
theorem sumN_congr {n : Nat} {f g : Nat → Nat} (h : ∀ i, i < n → f i = g i) : sumN n f = sumN n g := by
  induction n with
  | zero => rfl
  | succ n ih => show sumN n f + f n = sumN n g + g n; rw [ih (fun i hi => h i (by omega)), h n (by omega)]
theorem sumN_le {n M : Nat} {f : Nat → Nat} (h : ∀ i, i < n → f i ≤ M) : sumN n f ≤ n * M := by
  induction n with
  | zero => exact Nat.zero_le _
  | succ n ih =>
    have h1 := ih (fun i hi => h i (by omega))
    have h2 := h n (by omega)
    show sumN n f + f n ≤ (n + 1) * M
    rw [Nat.succ_mul]
    omega
theorem shl4 : ∀ p : Fin 32, (1 : Int64) <<< ((nI (2 * p.val)).toInt64 &&& 63) = lN (4 ^ p.val) := by decide +kernel
theorem nI_cmul (a b : Nat) : nI a * nI b = nI (a * b) := pk_mul a b
theorem nI_lit0 : (0 : Int32) = nI 0 := rfl
theorem nI_inj {a b : Nat} (ha : a < 2 ^ 31) (hb : b < 2 ^ 31) (h : nI a = nI b) : a = b := (nI_eq ha hb).mp h
theorem iinc1 (a : Nat) : nI a + Int32.ofInt 1 = nI (a + 1) := nI_1 a
theorem iinc6 (a : Nat) : nI a + Int32.ofInt 6 = nI (a + 6) := nI_add a 6
theorem cleT {a b : Nat} (ha : a < 2 ^ 31) (hb : b < 2 ^ 31) (h : nI a ≤ nI b) : a ≤ b := (nI_leI ha hb).mp h
theorem cleF {a b : Nat} (ha : a < 2 ^ 31) (hb : b < 2 ^ 31) (h : ¬ nI a ≤ nI b) : b < a := Nat.lt_of_not_le (fun q => h ((nI_leI ha hb).mpr q))
theorem cltT {a b : Nat} (ha : a < 2 ^ 31) (hb : b < 2 ^ 31) (h : nI a < nI b) : a < b := (nI_ltI ha hb).mp h
theorem cltF {a b : Nat} (ha : a < 2 ^ 31) (hb : b < 2 ^ 31) (h : ¬ nI a < nI b) : b ≤ a := Nat.le_of_not_lt (fun q => h ((nI_ltI ha hb).mpr q))
theorem ceqT {a b : Nat} (ha : a < 2 ^ 31) (hb : b < 2 ^ 31) (h : nI a = nI b) : a = b := (nI_eq ha hb).mp h
theorem ceqF {a b : Nat} (ha : a < 2 ^ 31) (hb : b < 2 ^ 31) (h : ¬ nI a = nI b) : a ≠ b := fun q => h (by rw [q])
theorem div32 {a d : Nat} (ha : a < 2 ^ 31) (h0 : 0 < d) (hd : d < 2 ^ 31) : nI a / nI d = nI (a / d) := pk_div ha h0 hd
theorem rem32 {a d : Nat} (ha : a < 2 ^ 31) (h0 : 0 < d) (hd : d < 2 ^ 31) : nI a - nI a / nI d * nI d = nI (a % d) := pk_rem ha h0 hd
theorem rAI_s0 (V : zV) (a i : Nat) (g : Nat → Int32) {v : Int32} (hv : v = g i) : sAI (rAI V a 0 i g) a i v = rAI V a 0 (i + 1) g := by
  have := rAI_s V a 0 i g hv
  rwa [Nat.zero_add] at this
theorem rAJ_s0 (V : zV) (a i : Nat) (g : Nat → Int64) {v : Int64} (hv : v = g i) : sAJ (rAJ V a 0 i g) a i v = rAJ V a 0 (i + 1) g := by
  have := rAJ_s V a 0 i g hv
  rwa [Nat.zero_add] at this
theorem isK_nG {Z : zP} {G : zG} {a c t m : Nat} (h : isK Z G a c) : isK Z (nG G t m) a c := ⟨h.1, Nat.lt_succ_of_lt h.2.1, by show (va_up G.2.1 G.1 (t, m) a).1 = c; rw [va_up_ne _ _ (Nat.ne_of_lt h.2.1)]; exact h.2.2⟩
theorem isA_nG {Z : zP} {G : zG} {a t' m' t m : Nat} (h : isA Z G a t' m') : isA Z (nG G t m) a t' m' := ⟨h.1, Nat.lt_succ_of_lt h.2.1, by show va_up G.2.1 G.1 (t, m) a = _; rw [va_up_ne _ _ (Nat.ne_of_lt h.2.1)]; exact h.2.2⟩
end
section
theorem c_X7_standing {l : Launch} {Z : zP} {G : zG} {V : zV} {s k : Nat} (hs : s < 125) (hk : k < 3) : CT l Z yX7_standing cX7_standing 2 (some .int) 0 0 0 [.int (nI s), .int (nI k)] G V (pI (nI (dig s k)) G V) := by
  refine CT.of (by decide +kernel) (Nat.le_of_ble_eq_true rfl) (fun X hX cx => ?_)
  subst hX
  show Wm Z X 2 G V 0 0 _ 0 [(0, some (.int (nI s))), (1, some (.int (nI k)))] []
  refine x_iload_n (pc := 0) cx (dA ddX7_standing (i := 0) rfl) rfl ?_
  by_cases c1_0 : nI k = 0
  · refine x_tabIn (pc := 1) (v := 0) (tgt := 28) cx (dA ddX7_standing (i := 1) rfl) (by rw [c1_0]; decide) (by decide) (by decide) rfl (by decide) ?_
    have hk0 : k = 0 := nI_inj (by omega) (by omega) c1_0
    refine x_iload_n (pc := 28) cx (dA ddX7_standing (i := 2) rfl) rfl ?_
    refine x_iconst (pc := 29) (v := nI 5) cx (dA ddX7_standing (i := 3) rfl) (by decide) ?_
    refine x_irem (pc := 30) cx (by decide) (dA ddX7_standing (i := 4) rfl) ?_
    refine x_ireturn (pc := 31) cx (dA ddX7_standing (i := 5) rfl) (Nat.le_of_ble_eq_true rfl) (Nat.le_of_ble_eq_true rfl) ?_
    refine rI ?_
    rw [rem32 (by omega) (by omega) (by omega), hk0]
    unfold dig
    rw [Nat.pow_zero, Nat.div_one]
  by_cases c1_1 : nI k = 1
  · refine x_tabIn (pc := 1) (v := 1) (tgt := 32) cx (dA ddX7_standing (i := 1) rfl) (by rw [c1_1]; decide) (by decide) (by decide) rfl (by decide) ?_
    have hk0 : k = 1 := nI_inj (by omega) (by omega) c1_1
    refine x_iload_n (pc := 32) cx (dA ddX7_standing (i := 6) rfl) rfl ?_
    refine x_iconst (pc := 33) (v := nI 5) cx (dA ddX7_standing (i := 7) rfl) (by decide) ?_
    refine x_idiv (pc := 34) cx (by decide) (dA ddX7_standing (i := 8) rfl) ?_
    refine x_iconst (pc := 35) (v := nI 5) cx (dA ddX7_standing (i := 9) rfl) (by decide) ?_
    refine x_irem (pc := 36) cx (by decide) (dA ddX7_standing (i := 10) rfl) ?_
    refine x_ireturn (pc := 37) cx (dA ddX7_standing (i := 11) rfl) (Nat.le_of_ble_eq_true rfl) (Nat.le_of_ble_eq_true rfl) ?_
    refine rI ?_
    rw [div32 (by omega) (by omega) (by omega), rem32 (by omega) (by omega) (by omega), hk0]
    rfl
  by_cases c1_2 : nI k = 2
  · refine x_tabIn (pc := 1) (v := 2) (tgt := 38) cx (dA ddX7_standing (i := 1) rfl) (by rw [c1_2]; decide) (by decide) (by decide) rfl (by decide) ?_
    have hk0 : k = 2 := nI_inj (by omega) (by omega) c1_2
    refine x_iload_n (pc := 38) cx (dA ddX7_standing (i := 12) rfl) rfl ?_
    refine x_bipush (pc := 39) (v := nI 25) cx (dA ddX7_standing (i := 13) rfl) (by decide) ?_
    refine x_idiv (pc := 41) cx (by decide) (dA ddX7_standing (i := 14) rfl) ?_
    refine x_iconst (pc := 42) (v := nI 5) cx (dA ddX7_standing (i := 15) rfl) (by decide) ?_
    refine x_irem (pc := 43) cx (by decide) (dA ddX7_standing (i := 16) rfl) ?_
    refine x_ireturn (pc := 44) cx (dA ddX7_standing (i := 17) rfl) (Nat.le_of_ble_eq_true rfl) (Nat.le_of_ble_eq_true rfl) ?_
    refine rI ?_
    rw [div32 (by omega) (by omega) (by omega), rem32 (by omega) (by omega) (by omega), hk0]
    rfl
  refine x_tabOut (pc := 1) (tgt := 45) cx (dA ddX7_standing (i := 1) rfl) (by have t0 := lv_neT (a := 0) c1_0 (by decide); have t1 := lv_neT (a := 1) c1_1 (by decide); have t2 := lv_neT (a := 2) c1_2 (by decide); omega) (by decide) ?_
  exact absurd (show k = 0 ∨ k = 1 ∨ k = 2 by omega) (by rintro (h | h | h) <;> subst h <;> first | exact c1_0 rfl | exact c1_1 rfl | exact c1_2 rfl)
theorem c_X7_oneOf {l : Launch} {Z : zP} {G : zG} {V : zV} {k : Nat} (hk : k < 3) : CT l Z yX7_oneOf cX7_oneOf 1 (some .int) 0 0 0 [.int (nI k)] G V (pI (nI (5 ^ k)) G V) := by
  refine CT.of (by decide +kernel) (Nat.le_of_ble_eq_true rfl) (fun X hX cx => ?_)
  subst hX
  show Wm Z X 1 G V 0 0 _ 0 [(0, some (.int (nI k)))] []
  refine x_iload_n (pc := 0) cx (dA ddX7_oneOf (i := 0) rfl) rfl ?_
  by_cases c1_0 : nI k = 0
  · refine x_tabIn (pc := 1) (v := 0) (tgt := 28) cx (dA ddX7_oneOf (i := 1) rfl) (by rw [c1_0]; decide) (by decide) (by decide) rfl (by decide) ?_
    refine x_iconst (pc := 28) (v := nI 1) cx (dA ddX7_oneOf (i := 2) rfl) (by decide) ?_
    refine x_ireturn (pc := 29) cx (dA ddX7_oneOf (i := 3) rfl) (Nat.le_of_ble_eq_true rfl) (Nat.le_of_ble_eq_true rfl) ?_
    have hk0 : k = 0 := nI_inj (by omega) (by omega) c1_0
    subst hk0
    exact rI rfl
  by_cases c1_1 : nI k = 1
  · refine x_tabIn (pc := 1) (v := 1) (tgt := 30) cx (dA ddX7_oneOf (i := 1) rfl) (by rw [c1_1]; decide) (by decide) (by decide) rfl (by decide) ?_
    refine x_iconst (pc := 30) (v := nI 5) cx (dA ddX7_oneOf (i := 4) rfl) (by decide) ?_
    refine x_ireturn (pc := 31) cx (dA ddX7_oneOf (i := 5) rfl) (Nat.le_of_ble_eq_true rfl) (Nat.le_of_ble_eq_true rfl) ?_
    have hk0 : k = 1 := nI_inj (by omega) (by omega) c1_1
    subst hk0
    exact rI rfl
  by_cases c1_2 : nI k = 2
  · refine x_tabIn (pc := 1) (v := 2) (tgt := 32) cx (dA ddX7_oneOf (i := 1) rfl) (by rw [c1_2]; decide) (by decide) (by decide) rfl (by decide) ?_
    refine x_bipush (pc := 32) (v := nI 25) cx (dA ddX7_oneOf (i := 6) rfl) (by decide) ?_
    refine x_ireturn (pc := 34) cx (dA ddX7_oneOf (i := 7) rfl) (Nat.le_of_ble_eq_true rfl) (Nat.le_of_ble_eq_true rfl) ?_
    have hk0 : k = 2 := nI_inj (by omega) (by omega) c1_2
    subst hk0
    exact rI rfl
  refine x_tabOut (pc := 1) (tgt := 35) cx (dA ddX7_oneOf (i := 1) rfl) (by have t0 := lv_neT (a := 0) c1_0 (by decide); have t1 := lv_neT (a := 1) c1_1 (by decide); have t2 := lv_neT (a := 2) c1_2 (by decide); omega) (by decide) ?_
  exact absurd (show k = 0 ∨ k = 1 ∨ k = 2 by omega) (by rintro (h | h | h) <;> subst h <;> first | exact c1_0 rfl | exact c1_1 rfl | exact c1_2 rfl)
theorem c_X7_timesOf {l : Launch} {Z : zP} {G : zG} {V : zV} {m : Nat} (hm : m < 32) : CT l Z yX7_timesOf cX7_timesOf 1 (some .long) 0 0 0 [.int (nI m)] G V (pJ (lN (4 ^ m)) G V) := by
  refine CT.of (by decide +kernel) (Nat.le_of_ble_eq_true rfl) (fun X hX cx => ?_)
  subst hX
  show Wm Z X 1 G V 0 0 _ 0 [(0, some (.int (nI m)))] []
  refine x_lconst (pc := 0) (v := lN 1) cx (dA ddX7_timesOf (i := 0) rfl) rfl ?_
  refine x_iconst (pc := 1) (v := nI 2) cx (dA ddX7_timesOf (i := 1) rfl) (by decide) ?_
  refine x_iload_n (pc := 2) cx (dA ddX7_timesOf (i := 2) rfl) rfl ?_
  refine x_imul (pc := 3) cx (dA ddX7_timesOf (i := 3) rfl) ?_
  refine x_lshl (pc := 4) cx (dA ddX7_timesOf (i := 4) rfl) ?_
  refine x_lreturn (pc := 5) cx (dA ddX7_timesOf (i := 5) rfl) (Nat.le_of_ble_eq_true rfl) (Nat.le_of_ble_eq_true rfl) ?_
  refine rJ ?_
  rw [nI_cmul]
  exact shl4 ⟨m, hm⟩
theorem c_X7_scaleOf {l : Launch} {Z : zP} {G : zG} {V : zV} {a b : Nat} (hm : a * (1 + b) < 32) : CT l Z yX7_scaleOf cX7_scaleOf 2 (some .long) 1 0 0 [.int (nI a), .int (nI b)] G V (pJ (lN (4 ^ (a * (1 + b)))) G V) := by
  refine CT.of (by decide +kernel) (Nat.le_of_ble_eq_true rfl) (fun X hX cx => ?_)
  subst hX
  show Wm Z X 2 G V 0 0 _ 0 [(0, some (.int (nI a))), (1, some (.int (nI b)))] []
  refine x_iload_n (pc := 0) cx (dA ddX7_scaleOf (i := 0) rfl) rfl ?_
  refine x_iconst (pc := 1) (v := nI 1) cx (dA ddX7_scaleOf (i := 1) rfl) (by decide) ?_
  refine x_iload_n (pc := 2) cx (dA ddX7_scaleOf (i := 2) rfl) rfl ?_
  refine x_iadd (pc := 3) cx (dA ddX7_scaleOf (i := 3) rfl) ?_
  refine x_imul (pc := 4) cx (dA ddX7_scaleOf (i := 4) rfl) ?_
  rw [nI_add, nI_cmul]
  refine x_S1 (pc := 5) mX7_295 (c_X7_timesOf hm) cx (dA ddX7_scaleOf (i := 5) rfl) (kJ ?_)
  refine x_lreturn (pc := 8) cx (dA ddX7_scaleOf (i := 6) rfl) (Nat.le_of_ble_eq_true rfl) (Nat.le_of_ble_eq_true rfl) ?_
  exact rJ rfl
theorem c_X7_at {l : Launch} {Z : zP} {G : zG} {V : zV} {a m : Nat} {x : Int32} (ha : isA Z G a 1 m) (hm : m < 2 ^ 31) : CT l Z yX7_at cX7_at 2 (some .int) 0 0 0 [.ref a, .int x] G V (pI (atI V a m x) G V) := by
  refine CT.of (by decide +kernel) (Nat.le_of_ble_eq_true rfl) (fun X hX cx => ?_)
  subst hX
  show Wm Z X 2 G V 0 0 _ 0 [(0, some (.ref a)), (1, some (.int x))] []
  refine x_iload_n (pc := 0) cx (dA ddX7_at (i := 0) rfl) rfl ?_
  refine x_if_lt (pc := 1) (tgt := 16) cx (dA ddX7_at (i := 1) rfl) (by decide) (fun c1 => ?_) (fun c1 => ?_)
  · have hx := Or.inl (b := nI m ≤ x) c1
    refine x_iconst (pc := 16) (v := nI 0) cx (dA ddX7_at (i := 10) rfl) (by decide) ?_
    refine x_ireturn (pc := 17) cx (dA ddX7_at (i := 11) rfl) (Nat.le_of_ble_eq_true rfl) (Nat.le_of_ble_eq_true rfl) ?_
    first | exact rI (atI_in hj hm).symm | exact rI (atI_out hx).symm
  · refine x_iload_n (pc := 4) cx (dA ddX7_at (i := 2) rfl) rfl ?_
    refine x_aload_n (pc := 5) cx (dA ddX7_at (i := 3) rfl) rfl ?_
    refine x_alen (pc := 6) cx (dA ddX7_at (i := 4) rfl) ha (by decide) ?_
    refine x_icmp_ge (pc := 7) (tgt := 16) cx (dA ddX7_at (i := 5) rfl) (by decide) (fun c7 => ?_) (fun c7 => ?_)
    · have hx := Or.inr (a := x < 0) c7
      refine x_iconst (pc := 16) (v := nI 0) cx (dA ddX7_at (i := 10) rfl) (by decide) ?_
      refine x_ireturn (pc := 17) cx (dA ddX7_at (i := 11) rfl) (Nat.le_of_ble_eq_true rfl) (Nat.le_of_ble_eq_true rfl) ?_
      first | exact rI (atI_in hj hm).symm | exact rI (atI_out hx).symm
    · obtain ⟨j, hj, rfl⟩ := ix3 hm c1 c7
      refine x_aload_n (pc := 10) cx (dA ddX7_at (i := 6) rfl) rfl ?_
      refine x_iload_n (pc := 11) cx (dA ddX7_at (i := 7) rfl) rfl ?_
      refine x_iaload (pc := 12) cx (dA ddX7_at (i := 8) rfl) ha hj hm ?_
      refine x_goto (pc := 13) (tgt := 17) cx (dA ddX7_at (i := 9) rfl) (by decide) ?_
      refine x_ireturn (pc := 17) cx (dA ddX7_at (i := 11) rfl) (Nat.le_of_ble_eq_true rfl) (Nat.le_of_ble_eq_true rfl) ?_
      first | exact rI (atI_in hj hm).symm | exact rI (atI_out hx).symm
theorem c_X7_at_ {l : Launch} {Z : zP} {G : zG} {V : zV} {a m : Nat} {x : Int32} (ha : isA Z G a 2 m) (hm : m < 2 ^ 31) : CT l Z yX7_at_ cX7_at_ 2 (some .long) 0 0 0 [.ref a, .int x] G V (pJ (atL V a m x) G V) := by
  refine CT.of (by decide +kernel) (Nat.le_of_ble_eq_true rfl) (fun X hX cx => ?_)
  subst hX
  show Wm Z X 2 G V 0 0 _ 0 [(0, some (.ref a)), (1, some (.int x))] []
  refine x_iload_n (pc := 0) cx (dA ddX7_at_ (i := 0) rfl) rfl ?_
  refine x_if_lt (pc := 1) (tgt := 16) cx (dA ddX7_at_ (i := 1) rfl) (by decide) (fun c1 => ?_) (fun c1 => ?_)
  · have hx := Or.inl (b := nI m ≤ x) c1
    refine x_lconst (pc := 16) (v := lN 0) cx (dA ddX7_at_ (i := 10) rfl) rfl ?_
    refine x_lreturn (pc := 17) cx (dA ddX7_at_ (i := 11) rfl) (Nat.le_of_ble_eq_true rfl) (Nat.le_of_ble_eq_true rfl) ?_
    first | exact rJ (atL_in hj hm).symm | exact rJ (atL_out hx).symm
  · refine x_iload_n (pc := 4) cx (dA ddX7_at_ (i := 2) rfl) rfl ?_
    refine x_aload_n (pc := 5) cx (dA ddX7_at_ (i := 3) rfl) rfl ?_
    refine x_alen (pc := 6) cx (dA ddX7_at_ (i := 4) rfl) ha (by decide) ?_
    refine x_icmp_ge (pc := 7) (tgt := 16) cx (dA ddX7_at_ (i := 5) rfl) (by decide) (fun c7 => ?_) (fun c7 => ?_)
    · have hx := Or.inr (a := x < 0) c7
      refine x_lconst (pc := 16) (v := lN 0) cx (dA ddX7_at_ (i := 10) rfl) rfl ?_
      refine x_lreturn (pc := 17) cx (dA ddX7_at_ (i := 11) rfl) (Nat.le_of_ble_eq_true rfl) (Nat.le_of_ble_eq_true rfl) ?_
      first | exact rJ (atL_in hj hm).symm | exact rJ (atL_out hx).symm
    · obtain ⟨j, hj, rfl⟩ := ix3 hm c1 c7
      refine x_aload_n (pc := 10) cx (dA ddX7_at_ (i := 6) rfl) rfl ?_
      refine x_iload_n (pc := 11) cx (dA ddX7_at_ (i := 7) rfl) rfl ?_
      refine x_laload (pc := 12) cx (dA ddX7_at_ (i := 8) rfl) ha hj hm ?_
      refine x_goto (pc := 13) (tgt := 17) cx (dA ddX7_at_ (i := 9) rfl) (by decide) ?_
      refine x_lreturn (pc := 17) cx (dA ddX7_at_ (i := 11) rfl) (Nat.le_of_ble_eq_true rfl) (Nat.le_of_ble_eq_true rfl) ?_
      first | exact rJ (atL_in hj hm).symm | exact rJ (atL_out hx).symm
theorem c_X7_put {l : Launch} {Z : zP} {G : zG} {V : zV} {a m j : Nat} {x : Int32} (ha : isA Z G a 1 m) (hj : j < m) (hm : m < 2 ^ 31) : CT l Z yX7_put cX7_put 3 none 0 0 0 [.ref a, .int (nI j), .int x] G V (pV G (sAI V a j x)) := by
  refine CT.of (by decide +kernel) (Nat.le_of_ble_eq_true rfl) (fun X hX cx => ?_)
  subst hX
  show Wm Z X 3 G V 0 0 _ 0 [(0, some (.ref a)), (1, some (.int (nI j))), (2, some (.int x))] []
  refine x_iload_n (pc := 0) cx (dA ddX7_put (i := 0) rfl) rfl ?_
  refine x_if_lt (pc := 1) (tgt := 14) cx (dA ddX7_put (i := 1) rfl) (by decide) (fun c1 => absurd c1 (nI_pos (by omega))) (fun c1 => ?_)
  refine x_iload_n (pc := 4) cx (dA ddX7_put (i := 2) rfl) rfl ?_
  refine x_aload_n (pc := 5) cx (dA ddX7_put (i := 3) rfl) rfl ?_
  refine x_alen (pc := 6) cx (dA ddX7_put (i := 4) rfl) ha (by decide) ?_
  refine x_icmp_ge (pc := 7) (tgt := 14) cx (dA ddX7_put (i := 5) rfl) (by decide) (fun c7 => absurd c7 (nI_ge hj hm)) (fun c7 => ?_)
  refine x_aload_n (pc := 10) cx (dA ddX7_put (i := 6) rfl) rfl ?_
  refine x_iload_n (pc := 11) cx (dA ddX7_put (i := 7) rfl) rfl ?_
  refine x_iload_n (pc := 12) cx (dA ddX7_put (i := 8) rfl) rfl ?_
  refine x_iastore (pc := 13) cx (dA ddX7_put (i := 9) rfl) ha hj hm ?_
  refine x_return (pc := 14) cx (dA ddX7_put (i := 10) rfl) (Nat.le_of_ble_eq_true rfl) (Nat.le_of_ble_eq_true rfl) ?_
  exact ⟨rfl, rfl, rfl⟩
theorem c_X7_put_ {l : Launch} {Z : zP} {G : zG} {V : zV} {a m j : Nat} {x : Int64} (ha : isA Z G a 2 m) (hj : j < m) (hm : m < 2 ^ 31) : CT l Z yX7_put_ cX7_put_ 4 none 0 0 0 [.ref a, .int (nI j), .long x] G V (pV G (sAJ V a j x)) := by
  refine CT.of (by decide +kernel) (Nat.le_of_ble_eq_true rfl) (fun X hX cx => ?_)
  subst hX
  show Wm Z X 4 G V 0 0 _ 0 [(0, some (.ref a)), (1, some (.int (nI j))), (2, some (.long x))] []
  refine x_iload_n (pc := 0) cx (dA ddX7_put_ (i := 0) rfl) rfl ?_
  refine x_if_lt (pc := 1) (tgt := 14) cx (dA ddX7_put_ (i := 1) rfl) (by decide) (fun c1 => absurd c1 (nI_pos (by omega))) (fun c1 => ?_)
  refine x_iload_n (pc := 4) cx (dA ddX7_put_ (i := 2) rfl) rfl ?_
  refine x_aload_n (pc := 5) cx (dA ddX7_put_ (i := 3) rfl) rfl ?_
  refine x_alen (pc := 6) cx (dA ddX7_put_ (i := 4) rfl) ha (by decide) ?_
  refine x_icmp_ge (pc := 7) (tgt := 14) cx (dA ddX7_put_ (i := 5) rfl) (by decide) (fun c7 => absurd c7 (nI_ge hj hm)) (fun c7 => ?_)
  refine x_aload_n (pc := 10) cx (dA ddX7_put_ (i := 6) rfl) rfl ?_
  refine x_iload_n (pc := 11) cx (dA ddX7_put_ (i := 7) rfl) rfl ?_
  refine x_lload_n (pc := 12) cx (dA ddX7_put_ (i := 8) rfl) rfl ?_
  refine x_lastore (pc := 13) cx (dA ddX7_put_ (i := 9) rfl) ha hj hm ?_
  refine x_return (pc := 14) cx (dA ddX7_put_ (i := 10) rfl) (Nat.le_of_ble_eq_true rfl) (Nat.le_of_ble_eq_true rfl) ?_
  exact ⟨rfl, rfl, rfl⟩
theorem c_X7_isShelf {l : Launch} {Z : zP} {G : zG} {V : zV} {x : Int32} : CT l Z yX7_isShelf cX7_isShelf 1 (some .boolean) 0 0 0 [.int x] G V (pI (b2i (0 ≤ x.toInt ∧ x.toInt < 8)) G V) := by
  refine CT.of (by decide +kernel) (Nat.le_of_ble_eq_true rfl) (fun X hX cx => ?_)
  subst hX
  show Wm Z X 1 G V 0 0 _ 0 [(0, some (.int x))] []
  refine x_iload_n (pc := 0) cx (dA ddX7_isShelf (i := 0) rfl) rfl ?_
  refine x_if_lt (pc := 1) (tgt := 14) cx (dA ddX7_isShelf (i := 1) rfl) (by decide) (fun c1 => ?_) (fun c1 => ?_)
  · refine x_iconst (pc := 14) (v := nI 0) cx (dA ddX7_isShelf (i := 7) rfl) (by decide) ?_
    refine x_zreturn (pc := 15) cx (dA ddX7_isShelf (i := 8) rfl) (Nat.le_of_ble_eq_true rfl) (Nat.le_of_ble_eq_true rfl) rfl ?_
    refine rI ?_
    have e8 : (nI 8).toInt = 8 := rfl
    simp only [i32_lt, i32_le, toI_0] at c1
    try simp only [i32_lt, i32_le, toI_0, e8] at c7
    first | exact (b2i_t (by omega)).symm | exact (b2i_f (by omega)).symm
  · refine x_iload_n (pc := 4) cx (dA ddX7_isShelf (i := 2) rfl) rfl ?_
    refine x_bipush (pc := 5) (v := nI 8) cx (dA ddX7_isShelf (i := 3) rfl) (by decide) ?_
    refine x_icmp_ge (pc := 7) (tgt := 14) cx (dA ddX7_isShelf (i := 4) rfl) (by decide) (fun c7 => ?_) (fun c7 => ?_)
    · refine x_iconst (pc := 14) (v := nI 0) cx (dA ddX7_isShelf (i := 7) rfl) (by decide) ?_
      refine x_zreturn (pc := 15) cx (dA ddX7_isShelf (i := 8) rfl) (Nat.le_of_ble_eq_true rfl) (Nat.le_of_ble_eq_true rfl) rfl ?_
      refine rI ?_
      have e8 : (nI 8).toInt = 8 := rfl
      simp only [i32_lt, i32_le, toI_0] at c1
      try simp only [i32_lt, i32_le, toI_0, e8] at c7
      first | exact (b2i_t (by omega)).symm | exact (b2i_f (by omega)).symm
    · refine x_iconst (pc := 10) (v := nI 1) cx (dA ddX7_isShelf (i := 5) rfl) (by decide) ?_
      refine x_goto (pc := 11) (tgt := 15) cx (dA ddX7_isShelf (i := 6) rfl) (by decide) ?_
      refine x_zreturn (pc := 15) cx (dA ddX7_isShelf (i := 8) rfl) (Nat.le_of_ble_eq_true rfl) (Nat.le_of_ble_eq_true rfl) rfl ?_
      refine rI ?_
      have e8 : (nI 8).toInt = 8 := rfl
      simp only [i32_lt, i32_le, toI_0] at c1
      try simp only [i32_lt, i32_le, toI_0, e8] at c7
      first | exact (b2i_t (by omega)).symm | exact (b2i_f (by omega)).symm
end
section
section XO
variable {Z : zP} {X : xP} {nL : Nat} {G : zG} {V : zV} {k n : Nat} {Q : State → Prop} {pc : Nat} {lw : List (Nat × Option Value)} {st : List Value} {own nm : String} {cc : ByteArray} {ret : Option FieldType} {D mc ms : Nat}
theorem x_newI {m : Nat} (cx : Cx Z X own nm cc nL ret D mc ms) (d : decode cc pc = .ok (.newarray .int, 2)) (hm : m < 65536) (kk : Wm Z X nL (nG G (9 + 1) m) V (k + 1) (n + m) Q (pc + 2) lw (.ref G.1 :: st)) (hk : k + 1 ≤ mc := by first | exact Nat.le_of_ble_eq_true rfl | omega) (hn : n + m ≤ ms := by first | exact Nat.le_of_ble_eq_true rfl | omega) : Wm Z X nL G V k n Q pc lw (.int (nI m) :: st) :=
  x_newarray (at' := .int) (t := 1) rfl (by decide) (by decide) rfl (fun U h => h) ka_int cx d hm hk hn kk
theorem x_newJ {m : Nat} (cx : Cx Z X own nm cc nL ret D mc ms) (d : decode cc pc = .ok (.newarray .long, 2)) (hm : m < 65536) (kk : Wm Z X nL (nG G (9 + 2) m) V (k + 1) (n + m) Q (pc + 2) lw (.ref G.1 :: st)) (hk : k + 1 ≤ mc := by first | exact Nat.le_of_ble_eq_true rfl | omega) (hn : n + m ≤ ms := by first | exact Nat.le_of_ble_eq_true rfl | omega) : Wm Z X nL G V k n Q pc lw (.int (nI m) :: st) :=
  x_newarray (at' := .long) (t := 2) rfl (by decide) (by decide) rfl (fun U h => h) ka_long cx d hm hk hn kk
theorem x_newB {m : Nat} (cx : Cx Z X own nm cc nL ret D mc ms) (d : decode cc pc = .ok (.newarray .byte, 2)) (hm : m < 65536) (kk : Wm Z X nL (nG G (9 + 0) m) V (k + 1) (n + m) Q (pc + 2) lw (.ref G.1 :: st)) (hk : k + 1 ≤ mc := by first | exact Nat.le_of_ble_eq_true rfl | omega) (hn : n + m ≤ ms := by first | exact Nat.le_of_ble_eq_true rfl | omega) : Wm Z X nL G V k n Q pc lw (.int (nI m) :: st) :=
  x_newarray (at' := .byte) (t := 0) rfl (by decide) (by decide) rfl (fun U h => h) ka_byte cx d hm hk hn kk
theorem x_mmin {idx : Nat} {x y : Int32} (w : cW own idx yJ9_min_7cf53 cJ9_min_7cf53 2 (some .int) 2) (cx : Cx Z X own nm cc nL ret D mc ms) (d : decode cc pc = .ok (.invokestatic idx, 3)) (kk : Wm Z X nL G V k n Q (pc + 3) lw (.int (if y < x then y else x) :: st)) (hD : 1 ≤ D := by decide) (hk : k ≤ mc := by first | exact Nat.le_of_ble_eq_true rfl | omega) (hn : n ≤ ms := by first | exact Nat.le_of_ble_eq_true rfl | omega) (hr : (st.map fun v => v.category).sum ≤ 8 := by exact Nat.le_of_ble_eq_true rfl) : Wm Z X nL G V k n Q pc lw (.int y :: .int x :: st) := by
  intro H locs ls hM hS hl
  have c1 := cx.2.2.2.2.2.2.2.2.2.1
  have c2 := cx.2.2.2.2.2.2.2.2.2.2.1
  have c3 := cx.2.2.2.2.2.2.2.2.2.2.2.1
  have c4 := cx.2.2.2.2.2.2.2.2.2.2.2.2.1
  have hts := cx.2.2.2.2.1
  exact va_mmin cx.1 cx.2.1 (by rw [cx.2.2.1]; exact hl.1.symm) cx.2.2.2.1 (hts _ w.1) (hts _ ys_J9_min_7cf53) (hts _ w.2.2.1) (hts _ w.2.1) (by omega) (by omega) (by omega) (by omega) d (kk H locs ls hM hS hl)
theorem x_mmax {idx : Nat} {x y : Int32} (w : cW own idx yJ9_max_7cf53 cJ9_max_7cf53 2 (some .int) 2) (cx : Cx Z X own nm cc nL ret D mc ms) (d : decode cc pc = .ok (.invokestatic idx, 3)) (kk : Wm Z X nL G V k n Q (pc + 3) lw (.int (if x < y then y else x) :: st)) (hD : 1 ≤ D := by decide) (hk : k ≤ mc := by first | exact Nat.le_of_ble_eq_true rfl | omega) (hn : n ≤ ms := by first | exact Nat.le_of_ble_eq_true rfl | omega) (hr : (st.map fun v => v.category).sum ≤ 8 := by exact Nat.le_of_ble_eq_true rfl) : Wm Z X nL G V k n Q pc lw (.int y :: .int x :: st) := by
  intro H locs ls hM hS hl
  have c1 := cx.2.2.2.2.2.2.2.2.2.1
  have c2 := cx.2.2.2.2.2.2.2.2.2.2.1
  have c3 := cx.2.2.2.2.2.2.2.2.2.2.2.1
  have c4 := cx.2.2.2.2.2.2.2.2.2.2.2.2.1
  have hts := cx.2.2.2.2.1
  exact va_mmax cx.1 cx.2.1 (by rw [cx.2.2.1]; exact hl.1.symm) cx.2.2.2.1 (hts _ w.1) (hts _ ys_J9_max_7cf53) (hts _ w.2.2.1) (hts _ w.2.1) (by omega) (by omega) (by omega) (by omega) d (kk H locs ls hM hS hl)
theorem x_mmaxL {idx : Nat} {x y : Int64} (w : cW own idx yJ9_max_f86c9 cJ9_max_f86c9 4 (some .long) 2) (cx : Cx Z X own nm cc nL ret D mc ms) (d : decode cc pc = .ok (.invokestatic idx, 3)) (kk : Wm Z X nL G V k n Q (pc + 3) lw (.long (if y < x then x else y) :: st)) (hD : 1 ≤ D := by decide) (hk : k ≤ mc := by first | exact Nat.le_of_ble_eq_true rfl | omega) (hn : n ≤ ms := by first | exact Nat.le_of_ble_eq_true rfl | omega) (hr : (st.map fun v => v.category).sum ≤ 8 := by exact Nat.le_of_ble_eq_true rfl) : Wm Z X nL G V k n Q pc lw (.long y :: .long x :: st) := by
  intro H locs ls hM hS hl
  have c1 := cx.2.2.2.2.2.2.2.2.2.1
  have c2 := cx.2.2.2.2.2.2.2.2.2.2.1
  have c3 := cx.2.2.2.2.2.2.2.2.2.2.2.1
  have c4 := cx.2.2.2.2.2.2.2.2.2.2.2.2.1
  have hts := cx.2.2.2.2.1
  exact va_mmax_long cx.1 cx.2.1 (by rw [cx.2.2.1]; exact hl.1.symm) cx.2.2.2.1 (hts _ w.1) (hts _ ys_J9_max_f86c9) (hts _ w.2.2.1) (hts _ w.2.1) (by omega) (by omega) (by omega) (by omega) d (kk H locs ls hM hS hl)
end XO
/-! HOUSES -/
def HouseAt (Z : zP) (G : zG) (h : Nat) : Prop := isK Z G h 0 ∧ G.2.2.1 0 h = some (h + 1) ∧ isA Z G (h + 1) 1 20
/-- the house's numbers -/
def HouseV (V : zV) (h : Nat) (N : Nat → Nat) : Prop := ∀ j, j < 20 → V.2.2.1 (h + 1) j = nI (N j)
def HouseB (N : Nat → Nat) : Prop := N 4 ≤ 3 ∧ ∀ j, j < 20 → N j ≤ 99
theorem rfA {G : zG} {f a b : Nat} (h : G.2.2.1 f a = some b) : va_rf (G.2.2.1 f a) = .ref b := by rw [h]; rfl
theorem nI20 {j : Nat} (h : j ≤ 99) : j < 2 ^ 31 := by omega
theorem HouseV.rAI {V : zV} {h : Nat} {g : Nat → Int32} {M : Nat → Nat} (hg : ∀ j, j < 20 → g j = nI (M j)) : HouseV (rAI V (h + 1) 0 20 g) h M := fun j hj => (rw2_in0 hj).trans (hg j hj)
/-- one number more becomes v -/
def numP (N : Nat → Nat) (i v : Nat) : Nat → Nat := fun j => if j = i then v else N j
theorem HouseV.put {V : zV} {h i v : Nat} {N : Nat → Nat} (hV : HouseV V h N) : HouseV (sAI V (h + 1) i (nI v)) h (numP N i v) := by
  intro j hj
  show u2 V.2.2.1 (h + 1) i (nI v) (h + 1) j = _
  unfold numP
  by_cases e : j = i
  · subst e
    rw [u2_same, if_pos rfl]
  · rw [u2_snd _ _ e, if_neg e]
    exact hV j hj
/-- the sum over the sorts of what stands, by one of a sort's numbers -/
def sumP (N : Nat → Nat) (s w : Nat) : Nat := sumN (N 4) (fun k => dig s k * N (5 + 5 * k + w))
theorem sumP_lt {N : Nat → Nat} (hB : HouseB N) {s w : Nat} (hw : w < 5) : sumP N s w ≤ 1188 := by
  have h := sumN_le (n := N 4) (M := 4 * 99) (f := fun k => dig s k * N (5 + 5 * k + w)) (fun i hi => Nat.mul_le_mul (by have := dig_lt s i; omega) (hB.2 _ (by have := hB.1; omega)))
  have h3 := hB.1
  have : N 4 * (4 * 99) ≤ 3 * (4 * 99) := Nat.mul_le_mul_right _ h3
  unfold sumP
  omega
/-- filling: what room is left, and what is put in -/
def fillStep (N : Nat → Nat) (s hold k : Nat) (p : Nat × Nat) : Nat × Nat := if N (5 + 5 * k + 2) = hold ∧ 0 < N (5 + 5 * k + 0) then (p.1 - min (dig s k) (p.1 / N (5 + 5 * k + 0)) * N (5 + 5 * k + 0), p.2 + min (dig s k) (p.1 / N (5 + 5 * k + 0)) * 5 ^ k) else p
def fillIn (N : Nat → Nat) (s hold : Nat) : Nat → Nat × Nat → Nat × Nat
  | 0, p => p
  | k + 1, p => fillStep N s hold k (fillIn N s hold k p)
def fillOut (N : Nat → Nat) (s : Nat) : Nat → Nat × Nat
  | 0 => (N 2, 0)
  | c + 1 => fillIn N s (9 - c) (N 4) (fillOut N s c)
def fillP (N : Nat → Nat) (s : Nat) : Nat := (fillOut N s 10).2
theorem fillStep_le {N : Nat → Nat} {s hold k : Nat} (hk : k < 3) {p : Nat × Nat} : (fillStep N s hold k p).1 ≤ p.1 ∧ (fillStep N s hold k p).2 ≤ p.2 + 100 := by
  unfold fillStep
  split
  · refine ⟨Nat.sub_le _ _, ?_⟩
    have h1 : min (dig s k) (p.1 / N (5 + 5 * k + 0)) ≤ 4 := by have := dig_lt s k; omega
    have h2 : 5 ^ k ≤ 25 := by
      rcases (show k = 0 ∨ k = 1 ∨ k = 2 by omega) with rfl | rfl | rfl <;> decide
    have := Nat.mul_le_mul h1 h2
    show p.2 + _ ≤ _
    omega
  · exact ⟨Nat.le_refl _, by omega⟩
theorem fillIn_le {N : Nat → Nat} {s hold : Nat} {p : Nat × Nat} : ∀ {k : Nat}, k ≤ 3 → (fillIn N s hold k p).1 ≤ p.1 ∧ (fillIn N s hold k p).2 ≤ p.2 + 100 * k
  | 0, _ => ⟨Nat.le_refl _, Nat.le_refl _⟩
  | k + 1, h => by
    have h1 := fillIn_le (N := N) (s := s) (hold := hold) (p := p) (k := k) (by omega)
    have h2 := fillStep_le (N := N) (s := s) (hold := hold) (k := k) (by omega) (p := fillIn N s hold k p)
    show (fillStep N s hold k _).1 ≤ _ ∧ (fillStep N s hold k _).2 ≤ _
    omega
theorem fillOut_le {N : Nat → Nat} (hB : HouseB N) {s : Nat} : ∀ {c : Nat}, (fillOut N s c).1 ≤ 99 ∧ (fillOut N s c).2 ≤ 300 * c
  | 0 => ⟨hB.2 2 (by omega), Nat.le_refl _⟩
  | c + 1 => by
    have h1 := fillOut_le hB (s := s) (c := c)
    have h2 := fillIn_le (N := N) (s := s) (hold := 9 - c) (p := fillOut N s c) (k := N 4) hB.1
    have h3 := hB.1
    show (fillIn N s (9 - c) (N 4) (fillOut N s c)).1 ≤ _ ∧ (fillIn N s (9 - c) (N 4) (fillOut N s c)).2 ≤ _
    omega
end
section
noncomputable def b2p (p : Prop) : Int32 := @b2i p (Classical.propDecidable p)
theorem b2p_t {p : Prop} (h : p) : b2p p = 1 := @b2i_t p (Classical.propDecidable p) h
theorem b2p_f {p : Prop} (h : ¬ p) : b2p p = 0 := @b2i_f p (Classical.propDecidable p) h
theorem b2p_ne {p : Prop} (h : ¬ b2p p = 0) : p := @b2i_ne p (Classical.propDecidable p) h
theorem b2p_eq {p : Prop} (h : b2p p = 0) : ¬ p := @b2i_eq p (Classical.propDecidable p) h
def likeP (N M : Nat → Nat) : Prop := ∀ j, j < 20 → N j = M j
theorem rw2_self (V : zV) (o a i : Nat) : rw2 V.2.2.1 a 0 i (fun j => V.2.2.1 o j) o i = V.2.2.1 o i := by
  by_cases h : o = a
  · subst h
    exact rw2_out (Or.inr (by omega))
  · exact rw2_ne h i
def clearP (j : Nat) : Nat := if j = 0 then 3 else if j = 1 then 10 else if j = 2 then 10 else 0
theorem clear_eq (V : zV) (h : Nat) : rAI V (h + 1) 0 20 (fun j => nI (clearP j)) = sAI (sAI (sAI (rAI V (h + 1) 0 20 (fun _ => nI 0)) (h + 1) 0 (nI 3)) (h + 1) 1 (nI 10)) (h + 1) 2 (nI 10) := by
  unfold rAI sAI
  dsimp only
  congr 3
  funext x j
  simp only [u2, rw2, clearP]
  by_cases hx : x = h + 1
  · subst hx
    by_cases h0 : j = 0
    · subst h0; simp
    · by_cases h1 : j = 1
      · subst h1; simp
      · by_cases h2 : j = 2
        · subst h2; simp
        · simp [h0, h1, h2]
  · simp [hx]
theorem c_X0_init {l : Launch} {Z : zP} {G : zG} {V : zV} {h : Nat} (h0 : isK Z G h 0) : CT l Z yX0_init cX0_init 1 none 1 1 20 [.ref h] G V (pV (sR (nG G 10 20) 0 h (some G.1)) V) := by
  refine CT.of (by decide +kernel) (Nat.le_of_ble_eq_true rfl) (fun X hX cx => ?_)
  subst hX
  show Wm Z X 1 G V 0 0 _ 0 [(0, some (.ref h))] []
  refine x_aload_n (pc := 0) cx (dA ddX0_init (i := 0) rfl) rfl ?_
  refine x_objInit (pc := 1) koX0_3 ko_i ko_c cx (dA ddX0_init (i := 1) rfl) (by decide) (Nat.le_of_ble_eq_true rfl) ?_
  refine x_aload_n (pc := 4) cx (dA ddX0_init (i := 2) rfl) rfl ?_
  refine x_bipush (pc := 5) (v := nI 20) cx (dA ddX0_init (i := 3) rfl) (by decide) ?_
  refine x_newI (pc := 7) cx (dA ddX0_init (i := 4) rfl) (by decide) ?_
  refine pX0_9 (pc := 9) (x := some G.1) cx (dA ddX0_init (i := 5) rfl) (isK_nG h0) ?_
  refine x_return (pc := 12) cx (dA ddX0_init (i := 6) rfl) (Nat.le_of_ble_eq_true rfl) (Nat.le_of_ble_eq_true rfl) ?_
  exact ⟨rfl, rfl, rfl⟩
theorem c_X0_number {l : Launch} {Z : zP} {G : zG} {V : zV} {h : Nat} (hH : HouseAt Z G h) {N : Nat → Nat} (hV : HouseV V h N) (hB : HouseB N) {w : Nat} (hw : w < 5) : CT l Z yX0_number cX0_number 2 (some .int) 0 0 0 [.ref h, .int (nI w)] G V (pI (nI (N w)) G V) := by
  refine CT.of (by decide +kernel) (Nat.le_of_ble_eq_true rfl) (fun X hX cx => ?_)
  subst hX
  show Wm Z X 2 G V 0 0 _ 0 [(0, some (.ref h)), (1, some (.int (nI w)))] []
  have h0 := hH.1
  have hA := hH.2.2
  have b4 := hB.1
  have bN := hB.2
  refine x_iload_n (pc := 0) cx (dA ddX0_number (i := 0) rfl) rfl ?_
  refine x_if_lt (pc := 1) (tgt := 27) cx (dA ddX0_number (i := 1) rfl) (by decide) (fun c1 => absurd c1 (nI_pos (by omega))) (fun c1 => ?_)
  refine x_iload_n (pc := 4) cx (dA ddX0_number (i := 2) rfl) rfl ?_
  refine x_iconst (pc := 5) (v := nI 5) cx (dA ddX0_number (i := 3) rfl) (by decide) ?_
  refine x_icmp_ge (pc := 6) (tgt := 27) cx (dA ddX0_number (i := 4) rfl) (by decide) (fun c6 => absurd c6 (nI_ge (by omega) (by omega))) (fun c6 => ?_)
  refine x_iload_n (pc := 9) cx (dA ddX0_number (i := 5) rfl) rfl ?_
  refine x_aload_n (pc := 10) cx (dA ddX0_number (i := 6) rfl) rfl ?_
  refine gX0_9 (pc := 11) (rfA hH.2.1) cx (dA ddX0_number (i := 7) rfl) h0 ?_
  refine x_alen (pc := 14) cx (dA ddX0_number (i := 8) rfl) hA (by decide) ?_
  refine x_icmp_ge (pc := 15) (tgt := 27) cx (dA ddX0_number (i := 9) rfl) (by decide) (fun c15 => absurd c15 (nI_ge (by omega) (by omega))) (fun c15 => ?_)
  refine x_aload_n (pc := 18) cx (dA ddX0_number (i := 10) rfl) rfl ?_
  refine gX0_9 (pc := 19) (rfA hH.2.1) cx (dA ddX0_number (i := 11) rfl) h0 ?_
  refine x_iload_n (pc := 22) cx (dA ddX0_number (i := 12) rfl) rfl ?_
  refine x_iaload (pc := 23) cx (dA ddX0_number (i := 13) rfl) hA (by omega) (by omega) ?_
  refine x_goto (pc := 24) (tgt := 28) cx (dA ddX0_number (i := 14) rfl) (by decide) ?_
  refine x_ireturn (pc := 28) cx (dA ddX0_number (i := 16) rfl) (Nat.le_of_ble_eq_true rfl) (Nat.le_of_ble_eq_true rfl) ?_
  exact rI (hV w (by omega))
theorem c_X0_putNumber {l : Launch} {Z : zP} {G : zG} {V : zV} {h : Nat} (hH : HouseAt Z G h) {w : Nat} {x : Int32} (hw : w < 5) : CT l Z yX0_putNumber cX0_putNumber 3 none 1 0 0 [.ref h, .int (nI w), .int x] G V (pV G (sAI V (h + 1) w x)) := by
  refine CT.of (by decide +kernel) (Nat.le_of_ble_eq_true rfl) (fun X hX cx => ?_)
  subst hX
  show Wm Z X 3 G V 0 0 _ 0 [(0, some (.ref h)), (1, some (.int (nI w))), (2, some (.int x))] []
  have h0 := hH.1
  have hA := hH.2.2
  refine x_iload_n (pc := 0) cx (dA ddX0_putNumber (i := 0) rfl) rfl ?_
  refine x_iconst (pc := 1) (v := nI 5) cx (dA ddX0_putNumber (i := 1) rfl) (by decide) ?_
  refine x_icmp_ge (pc := 2) (tgt := 14) cx (dA ddX0_putNumber (i := 2) rfl) (by decide) (fun c2 => absurd c2 (nI_ge (by omega) (by omega))) (fun c2 => ?_)
  refine x_aload_n (pc := 5) cx (dA ddX0_putNumber (i := 3) rfl) rfl ?_
  refine gX0_9 (pc := 6) (rfA hH.2.1) cx (dA ddX0_putNumber (i := 4) rfl) h0 ?_
  refine x_iload_n (pc := 9) cx (dA ddX0_putNumber (i := 5) rfl) rfl ?_
  refine x_iload_n (pc := 10) cx (dA ddX0_putNumber (i := 6) rfl) rfl ?_
  refine x_SN3 (pc := 11) mX0_23 (c_X7_put hA (by omega) (by omega)) cx (dA ddX0_putNumber (i := 7) rfl) (kV ?_)
  refine x_return (pc := 14) cx (dA ddX0_putNumber (i := 8) rfl) (Nat.le_of_ble_eq_true rfl) (Nat.le_of_ble_eq_true rfl) ?_
  exact ⟨rfl, rfl, rfl⟩
theorem c_X0_placeOf {l : Launch} {Z : zP} {G : zG} {V : zV} {a b : Nat} : CT l Z yX0_placeOf cX0_placeOf 2 (some .int) 0 0 0 [.int (nI a), .int (nI b)] G V (pI (nI (5 + 5 * a + b)) G V) := by
  refine CT.of (by decide +kernel) (Nat.le_of_ble_eq_true rfl) (fun X hX cx => ?_)
  subst hX
  show Wm Z X 2 G V 0 0 _ 0 [(0, some (.int (nI a))), (1, some (.int (nI b)))] []
  refine x_iconst (pc := 0) (v := nI 5) cx (dA ddX0_placeOf (i := 0) rfl) (by decide) ?_
  refine x_iload_n (pc := 1) cx (dA ddX0_placeOf (i := 1) rfl) rfl ?_
  refine x_iconst (pc := 2) (v := nI 5) cx (dA ddX0_placeOf (i := 2) rfl) (by decide) ?_
  refine x_imul (pc := 3) cx (dA ddX0_placeOf (i := 3) rfl) ?_
  refine x_iadd (pc := 4) cx (dA ddX0_placeOf (i := 4) rfl) ?_
  refine x_iload_n (pc := 5) cx (dA ddX0_placeOf (i := 5) rfl) rfl ?_
  refine x_iadd (pc := 6) cx (dA ddX0_placeOf (i := 6) rfl) ?_
  refine x_ireturn (pc := 7) cx (dA ddX0_placeOf (i := 7) rfl) (Nat.le_of_ble_eq_true rfl) (Nat.le_of_ble_eq_true rfl) ?_
  refine rI ?_
  rw [nI_cmul, nI_add, nI_add, Nat.mul_comm a 5]
theorem c_X0_sortNumber {l : Launch} {Z : zP} {G : zG} {V : zV} {h : Nat} (hH : HouseAt Z G h) {N : Nat → Nat} (hV : HouseV V h N) (hB : HouseB N) {s w : Nat} (hs : s < 3) (hw : w < 5) : CT l Z yX0_sortNumber cX0_sortNumber 3 (some .int) 1 0 0 [.ref h, .int (nI s), .int (nI w)] G V (pI (nI (N (5 + 5 * s + w))) G V) := by
  refine CT.of (by decide +kernel) (Nat.le_of_ble_eq_true rfl) (fun X hX cx => ?_)
  subst hX
  show Wm Z X 3 G V 0 0 _ 0 [(0, some (.ref h)), (1, some (.int (nI s))), (2, some (.int (nI w)))] []
  have h0 := hH.1
  have hA := hH.2.2
  have b4 := hB.1
  have bN := hB.2
  refine x_aload_n (pc := 0) cx (dA ddX0_sortNumber (i := 0) rfl) rfl ?_
  refine gX0_9 (pc := 1) (rfA hH.2.1) cx (dA ddX0_sortNumber (i := 1) rfl) h0 ?_
  refine x_iload_n (pc := 4) cx (dA ddX0_sortNumber (i := 2) rfl) rfl ?_
  refine x_iload_n (pc := 5) cx (dA ddX0_sortNumber (i := 3) rfl) rfl ?_
  refine x_S2 (pc := 6) mX0_27 c_X0_placeOf cx (dA ddX0_sortNumber (i := 4) rfl) (kI ?_)
  refine x_SN2 (pc := 9) mX0_19 (c_X7_at hA (by omega)) cx (dA ddX0_sortNumber (i := 5) rfl) (kI ?_)
  refine x_ireturn (pc := 12) cx (dA ddX0_sortNumber (i := 6) rfl) (Nat.le_of_ble_eq_true rfl) (Nat.le_of_ble_eq_true rfl) ?_
  refine rI ?_
  rw [atI_in (by omega) (by omega)]
  exact hV _ (by omega)
theorem c_X0_putSortNumber {l : Launch} {Z : zP} {G : zG} {V : zV} {h : Nat} (hH : HouseAt Z G h) {s w : Nat} {x : Int32} (hs : s < 3) (hw : w < 5) : CT l Z yX0_putSortNumber cX0_putSortNumber 4 none 1 0 0 [.ref h, .int (nI s), .int (nI w), .int x] G V (pV G (sAI V (h + 1) (5 + 5 * s + w) x)) := by
  refine CT.of (by decide +kernel) (Nat.le_of_ble_eq_true rfl) (fun X hX cx => ?_)
  subst hX
  show Wm Z X 4 G V 0 0 _ 0 [(0, some (.ref h)), (1, some (.int (nI s))), (2, some (.int (nI w))), (3, some (.int x))] []
  have h0 := hH.1
  have hA := hH.2.2
  refine x_aload_n (pc := 0) cx (dA ddX0_putSortNumber (i := 0) rfl) rfl ?_
  refine gX0_9 (pc := 1) (rfA hH.2.1) cx (dA ddX0_putSortNumber (i := 1) rfl) h0 ?_
  refine x_iload_n (pc := 4) cx (dA ddX0_putSortNumber (i := 2) rfl) rfl ?_
  refine x_iload_n (pc := 5) cx (dA ddX0_putSortNumber (i := 3) rfl) rfl ?_
  refine x_S2 (pc := 6) mX0_27 c_X0_placeOf cx (dA ddX0_putSortNumber (i := 4) rfl) (kI ?_)
  refine x_iload_n (pc := 9) cx (dA ddX0_putSortNumber (i := 5) rfl) rfl ?_
  refine x_SN3 (pc := 10) mX0_23 (c_X7_put hA (by omega) (by omega)) cx (dA ddX0_putSortNumber (i := 6) rfl) (kV ?_)
  refine x_return (pc := 13) cx (dA ddX0_putSortNumber (i := 7) rfl) (Nat.le_of_ble_eq_true rfl) (Nat.le_of_ble_eq_true rfl) ?_
  exact ⟨rfl, rfl, rfl⟩
theorem c_X0_days {l : Launch} {Z : zP} {G : zG} {V : zV} {h : Nat} (hH : HouseAt Z G h) {N : Nat → Nat} (hV : HouseV V h N) (hB : HouseB N) : CT l Z yX0_days cX0_days 1 (some .int) 1 0 0 [.ref h] G V (pI (nI (N 0)) G V) := by
  refine CT.of (by decide +kernel) (Nat.le_of_ble_eq_true rfl) (fun X hX cx => ?_)
  subst hX
  show Wm Z X 1 G V 0 0 _ 0 [(0, some (.ref h))] []
  have h0 := hH.1
  have hA := hH.2.2
  have b4 := hB.1
  have bN := hB.2
  refine x_aload_n (pc := 0) cx (dA ddX0_days (i := 0) rfl) rfl ?_
  refine x_iconst (pc := 1) (v := nI 0) cx (dA ddX0_days (i := 1) rfl) (by decide) ?_
  refine x_V1 (pc := 2) mX0_31 h0 (c_X0_number hH hV hB (by omega)) cx (dA ddX0_days (i := 2) rfl) (kI ?_)
  refine x_ireturn (pc := 5) cx (dA ddX0_days (i := 3) rfl) (Nat.le_of_ble_eq_true rfl) (Nat.le_of_ble_eq_true rfl) ?_
  exact rI rfl
theorem c_X0_sorts {l : Launch} {Z : zP} {G : zG} {V : zV} {h : Nat} (hH : HouseAt Z G h) {N : Nat → Nat} (hV : HouseV V h N) (hB : HouseB N) : CT l Z yX0_sorts cX0_sorts 1 (some .int) 1 0 0 [.ref h] G V (pI (nI (N 4)) G V) := by
  refine CT.of (by decide +kernel) (Nat.le_of_ble_eq_true rfl) (fun X hX cx => ?_)
  subst hX
  show Wm Z X 1 G V 0 0 _ 0 [(0, some (.ref h))] []
  have h0 := hH.1
  have hA := hH.2.2
  have b4 := hB.1
  have bN := hB.2
  refine x_aload_n (pc := 0) cx (dA ddX0_sorts (i := 0) rfl) rfl ?_
  refine x_iconst (pc := 1) (v := nI 4) cx (dA ddX0_sorts (i := 1) rfl) (by decide) ?_
  refine x_V1 (pc := 2) mX0_31 h0 (c_X0_number hH hV hB (by omega)) cx (dA ddX0_sorts (i := 2) rfl) (kI ?_)
  refine x_ireturn (pc := 5) cx (dA ddX0_sorts (i := 3) rfl) (Nat.le_of_ble_eq_true rfl) (Nat.le_of_ble_eq_true rfl) ?_
  exact rI rfl
theorem c_X0_hasSort {l : Launch} {Z : zP} {G : zG} {V : zV} {h : Nat} (hH : HouseAt Z G h) {N : Nat → Nat} (hV : HouseV V h N) (hB : HouseB N) {x : Int32} : CT l Z yX0_hasSort cX0_hasSort 2 (some .boolean) 2 0 0 [.ref h, .int x] G V (pI (b2i (0 ≤ x.toInt ∧ x.toInt < N 4)) G V) := by
  refine CT.of (by decide +kernel) (Nat.le_of_ble_eq_true rfl) (fun X hX cx => ?_)
  subst hX
  show Wm Z X 2 G V 0 0 _ 0 [(0, some (.ref h)), (1, some (.int x))] []
  have h0 := hH.1
  have hA := hH.2.2
  have b4 := hB.1
  have bN := hB.2
  refine x_iload_n (pc := 0) cx (dA ddX0_hasSort (i := 0) rfl) rfl ?_
  refine x_if_lt (pc := 1) (tgt := 16) cx (dA ddX0_hasSort (i := 1) rfl) (by decide) (fun c1 => ?_) (fun c1 => ?_)
  · refine x_iconst (pc := 16) (v := nI 0) cx (dA ddX0_hasSort (i := 8) rfl) (by decide) ?_
    refine x_zreturn (pc := 17) cx (dA ddX0_hasSort (i := 9) rfl) (Nat.le_of_ble_eq_true rfl) (Nat.le_of_ble_eq_true rfl) rfl ?_
    refine rI ?_
    have e8 : (nI (N 4)).toInt = N 4 := nI_toInt (by omega)
    simp only [i32_lt, i32_le, toI_0] at c1
    try simp only [i32_lt, i32_le, toI_0, e8] at c9
    first | exact (b2i_t (by omega)).symm | exact (b2i_f (by omega)).symm
  · refine x_iload_n (pc := 4) cx (dA ddX0_hasSort (i := 2) rfl) rfl ?_
    refine x_aload_n (pc := 5) cx (dA ddX0_hasSort (i := 3) rfl) rfl ?_
    refine x_V0 (pc := 6) mX0_35 h0 (c_X0_sorts hH hV hB) cx (dA ddX0_hasSort (i := 4) rfl) (kI ?_)
    refine x_icmp_ge (pc := 9) (tgt := 16) cx (dA ddX0_hasSort (i := 5) rfl) (by decide) (fun c9 => ?_) (fun c9 => ?_)
    · refine x_iconst (pc := 16) (v := nI 0) cx (dA ddX0_hasSort (i := 8) rfl) (by decide) ?_
      refine x_zreturn (pc := 17) cx (dA ddX0_hasSort (i := 9) rfl) (Nat.le_of_ble_eq_true rfl) (Nat.le_of_ble_eq_true rfl) rfl ?_
      refine rI ?_
      have e8 : (nI (N 4)).toInt = N 4 := nI_toInt (by omega)
      simp only [i32_lt, i32_le, toI_0] at c1
      try simp only [i32_lt, i32_le, toI_0, e8] at c9
      first | exact (b2i_t (by omega)).symm | exact (b2i_f (by omega)).symm
    · refine x_iconst (pc := 12) (v := nI 1) cx (dA ddX0_hasSort (i := 6) rfl) (by decide) ?_
      refine x_goto (pc := 13) (tgt := 17) cx (dA ddX0_hasSort (i := 7) rfl) (by decide) ?_
      refine x_zreturn (pc := 17) cx (dA ddX0_hasSort (i := 9) rfl) (Nat.le_of_ble_eq_true rfl) (Nat.le_of_ble_eq_true rfl) rfl ?_
      refine rI ?_
      have e8 : (nI (N 4)).toInt = N 4 := nI_toInt (by omega)
      simp only [i32_lt, i32_le, toI_0] at c1
      try simp only [i32_lt, i32_le, toI_0, e8] at c9
      first | exact (b2i_t (by omega)).symm | exact (b2i_f (by omega)).symm
theorem c_X0_states {l : Launch} {Z : zP} {G : zG} {V : zV} {h : Nat} (hH : HouseAt Z G h) {N : Nat → Nat} (hV : HouseV V h N) (hB : HouseB N) : CT l Z yX0_states cX0_states 1 (some .int) 2 0 0 [.ref h] G V (pI (nI (5 ^ N 4)) G V) := by
  refine CT.of (by decide +kernel) (Nat.le_of_ble_eq_true rfl) (fun X hX cx => ?_)
  subst hX
  show Wm Z X 1 G V 0 0 _ 0 [(0, some (.ref h))] []
  have h0 := hH.1
  have hA := hH.2.2
  have b4 := hB.1
  have bN := hB.2
  refine x_aload_n (pc := 0) cx (dA ddX0_states (i := 0) rfl) rfl ?_
  refine x_V0 (pc := 1) mX0_35 h0 (c_X0_sorts hH hV hB) cx (dA ddX0_states (i := 1) rfl) (kI ?_)
  refine x_iconst (pc := 4) (v := nI 3) cx (dA ddX0_states (i := 2) rfl) (by decide) ?_
  refine x_icmp_ge (pc := 5) (tgt := 18) cx (dA ddX0_states (i := 3) rfl) (by decide) (fun c5 => ?_) (fun c5 => ?_)
  · have c5 := cleT (by omega) (by omega) c5
    refine x_bipush (pc := 18) (v := nI 125) cx (dA ddX0_states (i := 8) rfl) (by decide) ?_
    refine x_ireturn (pc := 20) cx (dA ddX0_states (i := 9) rfl) (Nat.le_of_ble_eq_true rfl) (Nat.le_of_ble_eq_true rfl) ?_
    first | exact rI rfl | (have e3 : N 4 = 3 := by omega) ; rw [e3] ; exact rI rfl
  · have c5 := cleF (by omega) (by omega) c5
    refine x_aload_n (pc := 8) cx (dA ddX0_states (i := 4) rfl) rfl ?_
    refine x_V0 (pc := 9) mX0_35 h0 (c_X0_sorts hH hV hB) cx (dA ddX0_states (i := 5) rfl) (kI ?_)
    refine x_SN1 (pc := 12) mX0_39 (c_X7_oneOf (by omega)) cx (dA ddX0_states (i := 6) rfl) (kI ?_)
    refine x_goto (pc := 15) (tgt := 20) cx (dA ddX0_states (i := 7) rfl) (by decide) ?_
    refine x_ireturn (pc := 20) cx (dA ddX0_states (i := 9) rfl) (Nat.le_of_ble_eq_true rfl) (Nat.le_of_ble_eq_true rfl) ?_
    first | exact rI rfl | (have e3 : N 4 = 3 := by omega) ; rw [e3] ; exact rI rfl
theorem c_X0_sumOf {l : Launch} {Z : zP} {G : zG} {V : zV} {h : Nat} (hH : HouseAt Z G h) {N : Nat → Nat} (hV : HouseV V h N) (hB : HouseB N) {s w : Nat} (hs : s < 125) (hw : w < 5) : CT l Z yX0_sumOf cX0_sumOf 5 (some .int) 2 0 0 [.ref h, .int (nI s), .int (nI w)] G V (pI (nI (sumP N s w)) G V) := by
  refine CT.of (by decide +kernel) (Nat.le_of_ble_eq_true rfl) (fun X hX cx => ?_)
  subst hX
  show Wm Z X 5 G V 0 0 _ 0 [(0, some (.ref h)), (1, some (.int (nI s))), (2, some (.int (nI w)))] []
  have h0 := hH.1
  have hA := hH.2.2
  have b4 := hB.1
  have bN := hB.2
  refine x_iconst (pc := 0) (v := nI 0) cx (dA ddX0_sumOf (i := 0) rfl) (by decide) ?_
  refine x_istore_n (pc := 1) cx (dA ddX0_sumOf (i := 1) rfl) (by decide) rfl ?_
  refine x_iconst (pc := 2) (v := nI 0) cx (dA ddX0_sumOf (i := 2) rfl) (by decide) ?_
  refine x_istore (pc := 3) cx (dA ddX0_sumOf (i := 3) rfl) (by decide) rfl ?_
  have L5 : ∀ i, i ≤ N 4 → Wm Z X 5 G V 0 0 (rQ Z X 0 0 (pI (nI (sumP N s w)) G V)) 5 [(0, some (.ref h)), (1, some (.int (nI s))), (2, some (.int (nI w))), (3, some (.int (nI (sumN i (fun k => dig s k * N (5 + 5 * k + w)))))), (4, some (.int (nI i)))] [] := by
    refine lpU (N 4) (fun i hi ih => ?_)
    refine x_iload (pc := 5) cx (dA ddX0_sumOf (i := 4) rfl) rfl ?_
    refine x_aload_n (pc := 7) cx (dA ddX0_sumOf (i := 5) rfl) rfl ?_
    refine x_V0 (pc := 8) mX0_35 h0 (c_X0_sorts hH hV hB) cx (dA ddX0_sumOf (i := 6) rfl) (kI ?_)
    refine x_icmp_ge (pc := 11) (tgt := 37) cx (dA ddX0_sumOf (i := 7) rfl) (by decide) (fun c11 => ?_) (fun c11 => ?_)
    · have c11 := cleT (by omega) (by omega) c11
      refine x_iload_n (pc := 37) cx (dA ddX0_sumOf (i := 21) rfl) rfl ?_
      refine x_ireturn (pc := 38) cx (dA ddX0_sumOf (i := 22) rfl) (Nat.le_of_ble_eq_true rfl) (Nat.le_of_ble_eq_true rfl) ?_
      have e : i = N 4 := by omega
      subst e
      exact rI rfl
    · have c11 := cleF (by omega) (by omega) c11
      refine x_iload_n (pc := 14) cx (dA ddX0_sumOf (i := 8) rfl) rfl ?_
      refine x_iload_n (pc := 15) cx (dA ddX0_sumOf (i := 9) rfl) rfl ?_
      refine x_iload (pc := 16) cx (dA ddX0_sumOf (i := 10) rfl) rfl ?_
      refine x_SN2 (pc := 18) mX0_42 (c_X7_standing hs (by omega)) cx (dA ddX0_sumOf (i := 11) rfl) (kI ?_)
      refine x_aload_n (pc := 21) cx (dA ddX0_sumOf (i := 12) rfl) rfl ?_
      refine x_iload (pc := 22) cx (dA ddX0_sumOf (i := 13) rfl) rfl ?_
      refine x_iload_n (pc := 24) cx (dA ddX0_sumOf (i := 14) rfl) rfl ?_
      refine x_V2 (pc := 25) mX0_45 h0 (c_X0_sortNumber hH hV hB (by omega) hw) cx (dA ddX0_sumOf (i := 15) rfl) (kI ?_)
      refine x_imul (pc := 28) cx (dA ddX0_sumOf (i := 16) rfl) ?_
      refine x_iadd (pc := 29) cx (dA ddX0_sumOf (i := 17) rfl) ?_
      rw [nI_cmul, nI_add]
      refine x_istore_n (pc := 30) cx (dA ddX0_sumOf (i := 18) rfl) (by decide) rfl ?_
      refine x_iinc (pc := 31) cx (dA ddX0_sumOf (i := 19) rfl) rfl (iinc1 _) (by decide) rfl ?_
      refine x_goto (pc := 34) (tgt := 5) cx (dA ddX0_sumOf (i := 20) rfl) (by decide) ?_
      exact x_enter (ih (by omega)) ⟨.inr rfl, .inr rfl, .inr rfl, .inr rfl, .inr rfl, trivial⟩
  exact x_enter (L5 0 (Nat.zero_le _)) ⟨.inr rfl, .inr rfl, .inr rfl, .inr rfl, .inr rfl, trivial⟩
theorem c_X0_goesWith {l : Launch} {Z : zP} {G : zG} {V : zV} {h : Nat} (hH : HouseAt Z G h) {N : Nat → Nat} (hV : HouseV V h N) (hB : HouseB N) {o : Nat} {M : Nat → Nat} (oH : HouseAt Z G o) (oV : HouseV V o M) (oB : HouseB M) : CT l Z yX0_goesWith cX0_goesWith 2 (some .boolean) 2 0 0 [.ref h, .ref o] G V (pI (b2i (N 0 = M 0 ∧ N 4 + M 4 ≤ 3)) G V) := by
  refine CT.of (by decide +kernel) (Nat.le_of_ble_eq_true rfl) (fun X hX cx => ?_)
  subst hX
  show Wm Z X 2 G V 0 0 _ 0 [(0, some (.ref h)), (1, some (.ref o))] []
  have h0 := hH.1
  have hA := hH.2.2
  have b4 := hB.1
  have bN := hB.2
  have o0 := oH.1
  have oA := oH.2.2
  have b4o := oB.1
  have bM := oB.2
  have n0 := bN 0 (by omega)
  have m0 := bM 0 (by omega)
  refine x_aload_n (pc := 0) cx (dA ddX0_goesWith (i := 0) rfl) rfl ?_
  refine x_V0 (pc := 1) mX0_48 h0 (c_X0_days hH hV hB) cx (dA ddX0_goesWith (i := 1) rfl) (kI ?_)
  refine x_aload_n (pc := 4) cx (dA ddX0_goesWith (i := 2) rfl) rfl ?_
  refine x_V0 (pc := 5) mX0_48 o0 (c_X0_days oH oV oB) cx (dA ddX0_goesWith (i := 3) rfl) (kI ?_)
  refine x_icmp_ne (pc := 8) (tgt := 28) cx (dA ddX0_goesWith (i := 4) rfl) (by decide) (fun c8 => ?_) (fun c8 => ?_)
  · have c8 := ceqF (by omega) (by omega) c8
    refine x_iconst (pc := 28) (v := nI 0) cx (dA ddX0_goesWith (i := 14) rfl) (by decide) ?_
    refine x_zreturn (pc := 29) cx (dA ddX0_goesWith (i := 15) rfl) (Nat.le_of_ble_eq_true rfl) (Nat.le_of_ble_eq_true rfl) rfl ?_
    refine rI ?_
    first | exact (b2i_t (by omega)).symm | exact (b2i_f (by omega)).symm
  · have c8 := ceqT (by omega) (by omega) c8
    refine x_aload_n (pc := 11) cx (dA ddX0_goesWith (i := 5) rfl) rfl ?_
    refine x_V0 (pc := 12) mX0_35 h0 (c_X0_sorts hH hV hB) cx (dA ddX0_goesWith (i := 6) rfl) (kI ?_)
    refine x_aload_n (pc := 15) cx (dA ddX0_goesWith (i := 7) rfl) rfl ?_
    refine x_V0 (pc := 16) mX0_35 o0 (c_X0_sorts oH oV oB) cx (dA ddX0_goesWith (i := 8) rfl) (kI ?_)
    refine x_iadd (pc := 19) cx (dA ddX0_goesWith (i := 9) rfl) ?_
    rw [nI_add]
    refine x_iconst (pc := 20) (v := nI 3) cx (dA ddX0_goesWith (i := 10) rfl) (by decide) ?_
    refine x_icmp_gt (pc := 21) (tgt := 28) cx (dA ddX0_goesWith (i := 11) rfl) (by decide) (fun c21 => ?_) (fun c21 => ?_)
    · have c21 := cltT (by omega) (by omega) c21
      refine x_iconst (pc := 28) (v := nI 0) cx (dA ddX0_goesWith (i := 14) rfl) (by decide) ?_
      refine x_zreturn (pc := 29) cx (dA ddX0_goesWith (i := 15) rfl) (Nat.le_of_ble_eq_true rfl) (Nat.le_of_ble_eq_true rfl) rfl ?_
      refine rI ?_
      first | exact (b2i_t (by omega)).symm | exact (b2i_f (by omega)).symm
    · have c21 := cltF (by omega) (by omega) c21
      refine x_iconst (pc := 24) (v := nI 1) cx (dA ddX0_goesWith (i := 12) rfl) (by decide) ?_
      refine x_goto (pc := 25) (tgt := 29) cx (dA ddX0_goesWith (i := 13) rfl) (by decide) ?_
      refine x_zreturn (pc := 29) cx (dA ddX0_goesWith (i := 15) rfl) (Nat.le_of_ble_eq_true rfl) (Nat.le_of_ble_eq_true rfl) rfl ?_
      refine rI ?_
      first | exact (b2i_t (by omega)).symm | exact (b2i_f (by omega)).symm
theorem c_X0_become {l : Launch} {Z : zP} {G : zG} {V : zV} {h : Nat} (hH : HouseAt Z G h) {o : Nat} (oH : HouseAt Z G o) : CT l Z yX0_become cX0_become 3 none 1 0 0 [.ref h, .ref o] G V (pV G (rAI V (h + 1) 0 20 (fun j => V.2.2.1 (o + 1) j))) := by
  refine CT.of (by decide +kernel) (Nat.le_of_ble_eq_true rfl) (fun X hX cx => ?_)
  subst hX
  show Wm Z X 3 G V 0 0 _ 0 [(0, some (.ref h)), (1, some (.ref o))] []
  have h0 := hH.1
  have hA := hH.2.2
  have o0 := oH.1
  have oA := oH.2.2
  refine x_iconst (pc := 0) (v := nI 0) cx (dA ddX0_become (i := 0) rfl) (by decide) ?_
  refine x_istore_n (pc := 1) cx (dA ddX0_become (i := 1) rfl) (by decide) rfl ?_
  have L2 : ∀ i, i ≤ 20 → Wm Z X 3 G (rAI V (h + 1) 0 i (fun j => V.2.2.1 (o + 1) j)) 0 0 (rQ Z X 0 0 (pV G (rAI V (h + 1) 0 20 (fun j => V.2.2.1 (o + 1) j)))) 2 [(0, some (.ref h)), (1, some (.ref o)), (2, some (.int (nI i)))] [] := by
    refine lpU 20 (fun i hi ih => ?_)
    refine x_iload_n (pc := 2) cx (dA ddX0_become (i := 2) rfl) rfl ?_
    refine x_aload_n (pc := 3) cx (dA ddX0_become (i := 3) rfl) rfl ?_
    refine gX0_9 (pc := 4) (rfA hH.2.1) cx (dA ddX0_become (i := 4) rfl) h0 ?_
    refine x_alen (pc := 7) cx (dA ddX0_become (i := 5) rfl) hA (by decide) ?_
    refine x_icmp_ge (pc := 8) (tgt := 31) cx (dA ddX0_become (i := 6) rfl) (by decide) (fun c8 => ?_) (fun c8 => ?_)
    · have c8 := cleT (by omega) (by omega) c8
      have e : i = 20 := by omega
      subst e
      refine x_return (pc := 31) cx (dA ddX0_become (i := 17) rfl) (Nat.le_of_ble_eq_true rfl) (Nat.le_of_ble_eq_true rfl) ?_
      exact ⟨rfl, rfl, rfl⟩
    · have c8 := cleF (by omega) (by omega) c8
      refine x_aload_n (pc := 11) cx (dA ddX0_become (i := 7) rfl) rfl ?_
      refine gX0_9 (pc := 12) (rfA hH.2.1) cx (dA ddX0_become (i := 8) rfl) h0 ?_
      refine x_iload_n (pc := 15) cx (dA ddX0_become (i := 9) rfl) rfl ?_
      refine x_aload_n (pc := 16) cx (dA ddX0_become (i := 10) rfl) rfl ?_
      refine gX0_9 (pc := 17) (rfA oH.2.1) cx (dA ddX0_become (i := 11) rfl) o0 ?_
      refine x_iload_n (pc := 20) cx (dA ddX0_become (i := 12) rfl) rfl ?_
      refine x_SN2 (pc := 21) mX0_19 (c_X7_at oA (by omega)) cx (dA ddX0_become (i := 13) rfl) (kI ?_)
      rw [atI_in (by omega) (by omega)]
      refine x_iastore (pc := 24) cx (dA ddX0_become (i := 14) rfl) hA (by omega) (by omega) ?_
      rw [rAI_s0 V (h + 1) i (fun j => V.2.2.1 (o + 1) j) (v := (rAI V (h + 1) 0 i (fun j => V.2.2.1 (o + 1) j)).2.2.1 (o + 1) i) (rw2_self V (o + 1) (h + 1) i)]
      refine x_iinc (pc := 25) cx (dA ddX0_become (i := 15) rfl) rfl (iinc1 _) (by decide) rfl ?_
      refine x_goto (pc := 28) (tgt := 2) cx (dA ddX0_become (i := 16) rfl) (by decide) ?_
      exact x_enter (ih (by omega)) ⟨.inr rfl, .inr rfl, .inr rfl, trivial⟩
  have L := L2 0 (Nat.zero_le _)
  rw [rAI_0] at L
  exact x_enter L ⟨.inr rfl, .inr rfl, .inr rfl, trivial⟩
theorem c_X0_isLike {l : Launch} {Z : zP} {G : zG} {V : zV} {h : Nat} (hH : HouseAt Z G h) {N : Nat → Nat} (hV : HouseV V h N) (hB : HouseB N) {o : Nat} {M : Nat → Nat} (oH : HouseAt Z G o) (oV : HouseV V o M) (oB : HouseB M) : CT l Z yX0_isLike cX0_isLike 3 (some .boolean) 1 0 0 [.ref h, .ref o] G V (pI (b2p (likeP N M)) G V) := by
  refine CT.of (by decide +kernel) (Nat.le_of_ble_eq_true rfl) (fun X hX cx => ?_)
  subst hX
  show Wm Z X 3 G V 0 0 _ 0 [(0, some (.ref h)), (1, some (.ref o))] []
  have h0 := hH.1
  have hA := hH.2.2
  have b4 := hB.1
  have bN := hB.2
  have o0 := oH.1
  have oA := oH.2.2
  have b4o := oB.1
  have bM := oB.2
  refine x_iconst (pc := 0) (v := nI 0) cx (dA ddX0_isLike (i := 0) rfl) (by decide) ?_
  refine x_istore_n (pc := 1) cx (dA ddX0_isLike (i := 1) rfl) (by decide) rfl ?_
  have L2 : ∀ i, i ≤ 20 → (∀ j, j < i → N j = M j) → Wm Z X 3 G V 0 0 (rQ Z X 0 0 (pI (b2p (likeP N M)) G V)) 2 [(0, some (.ref h)), (1, some (.ref o)), (2, some (.int (nI i)))] [] := by
    refine lpU 20 (fun i hi ih => ?_)
    intro hq
    refine x_iload_n (pc := 2) cx (dA ddX0_isLike (i := 2) rfl) rfl ?_
    refine x_aload_n (pc := 3) cx (dA ddX0_isLike (i := 3) rfl) rfl ?_
    refine gX0_9 (pc := 4) (rfA hH.2.1) cx (dA ddX0_isLike (i := 4) rfl) h0 ?_
    refine x_alen (pc := 7) cx (dA ddX0_isLike (i := 5) rfl) hA (by decide) ?_
    refine x_icmp_ge (pc := 8) (tgt := 36) cx (dA ddX0_isLike (i := 6) rfl) (by decide) (fun c8 => ?_) (fun c8 => ?_)
    · have c8 := cleT (by omega) (by omega) c8
      refine x_iconst (pc := 36) (v := nI 1) cx (dA ddX0_isLike (i := 20) rfl) (by decide) ?_
      refine x_zreturn (pc := 37) cx (dA ddX0_isLike (i := 21) rfl) (Nat.le_of_ble_eq_true rfl) (Nat.le_of_ble_eq_true rfl) rfl ?_
      exact rI (b2p_t (fun j hj => hq j (by omega))).symm
    · have c8 := cleF (by omega) (by omega) c8
      refine x_aload_n (pc := 11) cx (dA ddX0_isLike (i := 7) rfl) rfl ?_
      refine gX0_9 (pc := 12) (rfA hH.2.1) cx (dA ddX0_isLike (i := 8) rfl) h0 ?_
      refine x_iload_n (pc := 15) cx (dA ddX0_isLike (i := 9) rfl) rfl ?_
      refine x_iaload (pc := 16) cx (dA ddX0_isLike (i := 10) rfl) hA (by omega) (by omega) ?_
      refine x_aload_n (pc := 17) cx (dA ddX0_isLike (i := 11) rfl) rfl ?_
      refine gX0_9 (pc := 18) (rfA oH.2.1) cx (dA ddX0_isLike (i := 12) rfl) o0 ?_
      refine x_iload_n (pc := 21) cx (dA ddX0_isLike (i := 13) rfl) rfl ?_
      refine x_SN2 (pc := 22) mX0_19 (c_X7_at oA (by omega)) cx (dA ddX0_isLike (i := 14) rfl) (kI ?_)
      rw [atI_in (by omega) (by omega), hV i (by omega), oV i (by omega)]
      have n1 := bN i (by omega)
      have m1 := bM i (by omega)
      refine x_icmp_eq (pc := 25) (tgt := 30) cx (dA ddX0_isLike (i := 15) rfl) (by decide) (fun c25 => ?_) (fun c25 => ?_)
      · have c25 := ceqT (by omega) (by omega) c25
        refine x_iinc (pc := 30) cx (dA ddX0_isLike (i := 18) rfl) rfl (iinc1 _) (by decide) rfl ?_
        refine x_goto (pc := 33) (tgt := 2) cx (dA ddX0_isLike (i := 19) rfl) (by decide) ?_
        exact x_enter (ih (by omega) (lt_s hq c25)) ⟨.inr rfl, .inr rfl, .inr rfl, trivial⟩
      · have c25 := ceqF (by omega) (by omega) c25
        refine x_iconst (pc := 28) (v := nI 0) cx (dA ddX0_isLike (i := 16) rfl) (by decide) ?_
        refine x_zreturn (pc := 29) cx (dA ddX0_isLike (i := 17) rfl) (Nat.le_of_ble_eq_true rfl) (Nat.le_of_ble_eq_true rfl) rfl ?_
        exact rI (b2p_f (fun q => c25 (q i (by omega)))).symm
  exact x_enter (L2 0 (Nat.zero_le _) lt_0) ⟨.inr rfl, .inr rfl, .inr rfl, trivial⟩
theorem c_X0_clear {l : Launch} {Z : zP} {G : zG} {V : zV} {h : Nat} (hH : HouseAt Z G h) : CT l Z yX0_clear cX0_clear 2 none 2 0 0 [.ref h] G V (pV G (rAI V (h + 1) 0 20 (fun j => nI (clearP j)))) := by
  refine CT.of (by decide +kernel) (Nat.le_of_ble_eq_true rfl) (fun X hX cx => ?_)
  subst hX
  show Wm Z X 2 G V 0 0 _ 0 [(0, some (.ref h))] []
  have h0 := hH.1
  have hA := hH.2.2
  refine x_iconst (pc := 0) (v := nI 0) cx (dA ddX0_clear (i := 0) rfl) (by decide) ?_
  refine x_istore_n (pc := 1) cx (dA ddX0_clear (i := 1) rfl) (by decide) rfl ?_
  have L2 : ∀ i, i ≤ 20 → Wm Z X 2 G (rAI V (h + 1) 0 i (fun _ => nI 0)) 0 0 (rQ Z X 0 0 (pV G (rAI V (h + 1) 0 20 (fun j => nI (clearP j))))) 2 [(0, some (.ref h)), (1, some (.int (nI i)))] [] := by
    refine lpU 20 (fun i hi ih => ?_)
    refine x_iload_n (pc := 2) cx (dA ddX0_clear (i := 2) rfl) rfl ?_
    refine x_aload_n (pc := 3) cx (dA ddX0_clear (i := 3) rfl) rfl ?_
    refine gX0_9 (pc := 4) (rfA hH.2.1) cx (dA ddX0_clear (i := 4) rfl) h0 ?_
    refine x_alen (pc := 7) cx (dA ddX0_clear (i := 5) rfl) hA (by decide) ?_
    refine x_icmp_ge (pc := 8) (tgt := 24) cx (dA ddX0_clear (i := 6) rfl) (by decide) (fun c8 => ?_) (fun c8 => ?_)
    · have c8 := cleT (by omega) (by omega) c8
      have e : i = 20 := by omega
      subst e
      refine x_aload_n (pc := 24) cx (dA ddX0_clear (i := 14) rfl) rfl ?_
      refine x_iconst (pc := 25) (v := nI 0) cx (dA ddX0_clear (i := 15) rfl) (by decide) ?_
      refine x_iconst (pc := 26) (v := nI 3) cx (dA ddX0_clear (i := 16) rfl) (by decide) ?_
      refine x_V2 (pc := 27) mX0_15 h0 (c_X0_putNumber hH (by omega)) cx (dA ddX0_clear (i := 17) rfl) (kV ?_)
      refine x_aload_n (pc := 30) cx (dA ddX0_clear (i := 18) rfl) rfl ?_
      refine x_iconst (pc := 31) (v := nI 1) cx (dA ddX0_clear (i := 19) rfl) (by decide) ?_
      refine x_bipush (pc := 32) (v := nI 10) cx (dA ddX0_clear (i := 20) rfl) (by decide) ?_
      refine x_V2 (pc := 34) mX0_15 h0 (c_X0_putNumber hH (by omega)) cx (dA ddX0_clear (i := 21) rfl) (kV ?_)
      refine x_aload_n (pc := 37) cx (dA ddX0_clear (i := 22) rfl) rfl ?_
      refine x_iconst (pc := 38) (v := nI 2) cx (dA ddX0_clear (i := 23) rfl) (by decide) ?_
      refine x_bipush (pc := 39) (v := nI 10) cx (dA ddX0_clear (i := 24) rfl) (by decide) ?_
      refine x_V2 (pc := 41) mX0_15 h0 (c_X0_putNumber hH (by omega)) cx (dA ddX0_clear (i := 25) rfl) (kV ?_)
      refine x_return (pc := 44) cx (dA ddX0_clear (i := 26) rfl) (Nat.le_of_ble_eq_true rfl) (Nat.le_of_ble_eq_true rfl) ?_
      refine ⟨rfl, rfl, ?_⟩
      exact (clear_eq V h).symm
    · have c8 := cleF (by omega) (by omega) c8
      refine x_aload_n (pc := 11) cx (dA ddX0_clear (i := 7) rfl) rfl ?_
      refine gX0_9 (pc := 12) (rfA hH.2.1) cx (dA ddX0_clear (i := 8) rfl) h0 ?_
      refine x_iload_n (pc := 15) cx (dA ddX0_clear (i := 9) rfl) rfl ?_
      refine x_iconst (pc := 16) (v := nI 0) cx (dA ddX0_clear (i := 10) rfl) (by decide) ?_
      refine x_iastore (pc := 17) cx (dA ddX0_clear (i := 11) rfl) hA (by omega) (by omega) ?_
      rw [rAI_s0 V (h + 1) i (fun _ => nI 0) (v := nI 0) rfl]
      refine x_iinc (pc := 18) cx (dA ddX0_clear (i := 12) rfl) rfl (iinc1 _) (by decide) rfl ?_
      refine x_goto (pc := 21) (tgt := 2) cx (dA ddX0_clear (i := 13) rfl) (by decide) ?_
      exact x_enter (ih (by omega)) ⟨.inr rfl, .inr rfl, trivial⟩
  have L := L2 0 (Nat.zero_le _)
  rw [rAI_0] at L
  exact x_enter L ⟨.inr rfl, .inr rfl, trivial⟩
end
section
def mLo1 : Nat → Int
  | 0 => 1
  | 1 => 0
  | 2 => 1
  | _ => 0
def mHi1 : Nat → Int
  | 0 => 6
  | 1 => 99
  | 2 => 40
  | _ => 3
def mLo2 : Nat → Int
  | 0 => 1
  | _ => 0
def mHi2 : Nat → Int
  | 0 => 9
  | 1 => 4
  | 2 => 9
  | _ => 99
theorem nI_dec (m : Nat) (h : m < 2 ^ 31) : (nI m + Int32.ofInt (-1)).toInt = (m : Int) - 1 := by
  cases m with
  | zero => decide
  | succ n =>
    rw [show nI (n + 1) + Int32.ofInt (-1) = nI n from pk_m1 n, nI_toInt (by omega)]
    omega
theorem nI_min {a b : Nat} (ha : a < 2 ^ 31) (hb : b < 2 ^ 31) : (if nI b < nI a then nI b else nI a) = nI (min a b) := by
  by_cases h : b < a
  · rw [if_pos ((nI_ltI hb ha).mpr h), Nat.min_eq_right (by omega)]
  · rw [if_neg (fun q => h ((nI_ltI hb ha).mp q)), Nat.min_eq_left (by omega)]
theorem c_X0_mayBe {l : Launch} {Z : zP} {G : zG} {V : zV} {w : Nat} {x : Int32} (hw : w < 4) : CT l Z yX0_mayBe cX0_mayBe 2 (some .boolean) 0 0 0 [.int (nI w), .int x] G V (pI (b2i (mLo1 w ≤ x.toInt ∧ x.toInt ≤ mHi1 w)) G V) := by
  refine CT.of (by decide +kernel) (Nat.le_of_ble_eq_true rfl) (fun X hX cx => ?_)
  subst hX
  show Wm Z X 2 G V 0 0 _ 0 [(0, some (.int (nI w))), (1, some (.int x))] []
  refine x_iload_n (pc := 0) cx (dA ddX0_mayBe (i := 0) rfl) rfl ?_
  by_cases c1_0 : nI w = 0
  · refine x_tabIn (pc := 1) (v := 0) (tgt := 32) cx (dA ddX0_mayBe (i := 1) rfl) (by rw [c1_0]; decide) (by decide) (by decide) rfl (by decide) ?_
    refine x_iload_n (pc := 32) cx (dA ddX0_mayBe (i := 2) rfl) rfl ?_
    refine x_iconst (pc := 33) (v := nI 1) cx (dA ddX0_mayBe (i := 3) rfl) (by decide) ?_
    refine x_icmp_lt (pc := 34) (tgt := 47) cx (dA ddX0_mayBe (i := 4) rfl) (by decide) (fun c34 => ?_) (fun c34 => ?_)
    · refine x_iconst (pc := 47) (v := nI 0) cx (dA ddX0_mayBe (i := 10) rfl) (by decide) ?_
      refine x_zreturn (pc := 48) cx (dA ddX0_mayBe (i := 11) rfl) (Nat.le_of_ble_eq_true rfl) (Nat.le_of_ble_eq_true rfl) rfl ?_
      refine rI ?_
      have hw0 : w = 0 := by first | exact nI_inj (by omega) (by omega) c1_0
      have hlo : mLo1 w = 1 := by rcases hw0 with rfl <;> rfl
      have hhi : mHi1 w = 6 := by rcases hw0 with rfl <;> rfl
      have t1 : (nI 1).toInt = 1 := rfl
      have t2 : (nI 6).toInt = 6 := rfl
      simp only [i32_lt, i32_le, toI_0, t1] at c34
      try simp only [i32_lt, i32_le, toI_0, t2] at c40
      first | exact (b2i_t (by omega)).symm | exact (b2i_f (by omega)).symm
    · refine x_iload_n (pc := 37) cx (dA ddX0_mayBe (i := 5) rfl) rfl ?_
      refine x_bipush (pc := 38) (v := nI 6) cx (dA ddX0_mayBe (i := 6) rfl) (by decide) ?_
      refine x_icmp_gt (pc := 40) (tgt := 47) cx (dA ddX0_mayBe (i := 7) rfl) (by decide) (fun c40 => ?_) (fun c40 => ?_)
      · refine x_iconst (pc := 47) (v := nI 0) cx (dA ddX0_mayBe (i := 10) rfl) (by decide) ?_
        refine x_zreturn (pc := 48) cx (dA ddX0_mayBe (i := 11) rfl) (Nat.le_of_ble_eq_true rfl) (Nat.le_of_ble_eq_true rfl) rfl ?_
        refine rI ?_
        have hw0 : w = 0 := by first | exact nI_inj (by omega) (by omega) c1_0
        have hlo : mLo1 w = 1 := by rcases hw0 with rfl <;> rfl
        have hhi : mHi1 w = 6 := by rcases hw0 with rfl <;> rfl
        have t1 : (nI 1).toInt = 1 := rfl
        have t2 : (nI 6).toInt = 6 := rfl
        simp only [i32_lt, i32_le, toI_0, t1] at c34
        try simp only [i32_lt, i32_le, toI_0, t2] at c40
        first | exact (b2i_t (by omega)).symm | exact (b2i_f (by omega)).symm
      · refine x_iconst (pc := 43) (v := nI 1) cx (dA ddX0_mayBe (i := 8) rfl) (by decide) ?_
        refine x_goto (pc := 44) (tgt := 48) cx (dA ddX0_mayBe (i := 9) rfl) (by decide) ?_
        refine x_zreturn (pc := 48) cx (dA ddX0_mayBe (i := 11) rfl) (Nat.le_of_ble_eq_true rfl) (Nat.le_of_ble_eq_true rfl) rfl ?_
        refine rI ?_
        have hw0 : w = 0 := by first | exact nI_inj (by omega) (by omega) c1_0
        have hlo : mLo1 w = 1 := by rcases hw0 with rfl <;> rfl
        have hhi : mHi1 w = 6 := by rcases hw0 with rfl <;> rfl
        have t1 : (nI 1).toInt = 1 := rfl
        have t2 : (nI 6).toInt = 6 := rfl
        simp only [i32_lt, i32_le, toI_0, t1] at c34
        try simp only [i32_lt, i32_le, toI_0, t2] at c40
        first | exact (b2i_t (by omega)).symm | exact (b2i_f (by omega)).symm
  by_cases c1_1 : nI w = 1
  · refine x_tabIn (pc := 1) (v := 1) (tgt := 49) cx (dA ddX0_mayBe (i := 1) rfl) (by rw [c1_1]; decide) (by decide) (by decide) rfl (by decide) ?_
    refine x_iload_n (pc := 49) cx (dA ddX0_mayBe (i := 12) rfl) rfl ?_
    refine x_if_lt (pc := 50) (tgt := 63) cx (dA ddX0_mayBe (i := 13) rfl) (by decide) (fun c50 => ?_) (fun c50 => ?_)
    · refine x_iconst (pc := 63) (v := nI 0) cx (dA ddX0_mayBe (i := 19) rfl) (by decide) ?_
      refine x_zreturn (pc := 64) cx (dA ddX0_mayBe (i := 20) rfl) (Nat.le_of_ble_eq_true rfl) (Nat.le_of_ble_eq_true rfl) rfl ?_
      refine rI ?_
      have hw0 : w = 1 := by first | exact nI_inj (by omega) (by omega) c1_1
      have hlo : mLo1 w = 0 := by rcases hw0 with rfl <;> rfl
      have hhi : mHi1 w = 99 := by rcases hw0 with rfl <;> rfl
      have t1 : (nI 0).toInt = 0 := rfl
      have t2 : (nI 99).toInt = 99 := rfl
      simp only [i32_lt, i32_le, toI_0, t1] at c50
      try simp only [i32_lt, i32_le, toI_0, t2] at c56
      first | exact (b2i_t (by omega)).symm | exact (b2i_f (by omega)).symm
    · refine x_iload_n (pc := 53) cx (dA ddX0_mayBe (i := 14) rfl) rfl ?_
      refine x_bipush (pc := 54) (v := nI 99) cx (dA ddX0_mayBe (i := 15) rfl) (by decide) ?_
      refine x_icmp_gt (pc := 56) (tgt := 63) cx (dA ddX0_mayBe (i := 16) rfl) (by decide) (fun c56 => ?_) (fun c56 => ?_)
      · refine x_iconst (pc := 63) (v := nI 0) cx (dA ddX0_mayBe (i := 19) rfl) (by decide) ?_
        refine x_zreturn (pc := 64) cx (dA ddX0_mayBe (i := 20) rfl) (Nat.le_of_ble_eq_true rfl) (Nat.le_of_ble_eq_true rfl) rfl ?_
        refine rI ?_
        have hw0 : w = 1 := by first | exact nI_inj (by omega) (by omega) c1_1
        have hlo : mLo1 w = 0 := by rcases hw0 with rfl <;> rfl
        have hhi : mHi1 w = 99 := by rcases hw0 with rfl <;> rfl
        have t1 : (nI 0).toInt = 0 := rfl
        have t2 : (nI 99).toInt = 99 := rfl
        simp only [i32_lt, i32_le, toI_0, t1] at c50
        try simp only [i32_lt, i32_le, toI_0, t2] at c56
        first | exact (b2i_t (by omega)).symm | exact (b2i_f (by omega)).symm
      · refine x_iconst (pc := 59) (v := nI 1) cx (dA ddX0_mayBe (i := 17) rfl) (by decide) ?_
        refine x_goto (pc := 60) (tgt := 64) cx (dA ddX0_mayBe (i := 18) rfl) (by decide) ?_
        refine x_zreturn (pc := 64) cx (dA ddX0_mayBe (i := 20) rfl) (Nat.le_of_ble_eq_true rfl) (Nat.le_of_ble_eq_true rfl) rfl ?_
        refine rI ?_
        have hw0 : w = 1 := by first | exact nI_inj (by omega) (by omega) c1_1
        have hlo : mLo1 w = 0 := by rcases hw0 with rfl <;> rfl
        have hhi : mHi1 w = 99 := by rcases hw0 with rfl <;> rfl
        have t1 : (nI 0).toInt = 0 := rfl
        have t2 : (nI 99).toInt = 99 := rfl
        simp only [i32_lt, i32_le, toI_0, t1] at c50
        try simp only [i32_lt, i32_le, toI_0, t2] at c56
        first | exact (b2i_t (by omega)).symm | exact (b2i_f (by omega)).symm
  by_cases c1_2 : nI w = 2
  · refine x_tabIn (pc := 1) (v := 2) (tgt := 65) cx (dA ddX0_mayBe (i := 1) rfl) (by rw [c1_2]; decide) (by decide) (by decide) rfl (by decide) ?_
    refine x_iload_n (pc := 65) cx (dA ddX0_mayBe (i := 21) rfl) rfl ?_
    refine x_iconst (pc := 66) (v := nI 1) cx (dA ddX0_mayBe (i := 22) rfl) (by decide) ?_
    refine x_icmp_lt (pc := 67) (tgt := 80) cx (dA ddX0_mayBe (i := 23) rfl) (by decide) (fun c67 => ?_) (fun c67 => ?_)
    · refine x_iconst (pc := 80) (v := nI 0) cx (dA ddX0_mayBe (i := 29) rfl) (by decide) ?_
      refine x_zreturn (pc := 81) cx (dA ddX0_mayBe (i := 30) rfl) (Nat.le_of_ble_eq_true rfl) (Nat.le_of_ble_eq_true rfl) rfl ?_
      refine rI ?_
      have hw0 : w = 2 := by first | exact nI_inj (by omega) (by omega) c1_2
      have hlo : mLo1 w = 1 := by rcases hw0 with rfl <;> rfl
      have hhi : mHi1 w = 40 := by rcases hw0 with rfl <;> rfl
      have t1 : (nI 1).toInt = 1 := rfl
      have t2 : (nI 40).toInt = 40 := rfl
      simp only [i32_lt, i32_le, toI_0, t1] at c67
      try simp only [i32_lt, i32_le, toI_0, t2] at c73
      first | exact (b2i_t (by omega)).symm | exact (b2i_f (by omega)).symm
    · refine x_iload_n (pc := 70) cx (dA ddX0_mayBe (i := 24) rfl) rfl ?_
      refine x_bipush (pc := 71) (v := nI 40) cx (dA ddX0_mayBe (i := 25) rfl) (by decide) ?_
      refine x_icmp_gt (pc := 73) (tgt := 80) cx (dA ddX0_mayBe (i := 26) rfl) (by decide) (fun c73 => ?_) (fun c73 => ?_)
      · refine x_iconst (pc := 80) (v := nI 0) cx (dA ddX0_mayBe (i := 29) rfl) (by decide) ?_
        refine x_zreturn (pc := 81) cx (dA ddX0_mayBe (i := 30) rfl) (Nat.le_of_ble_eq_true rfl) (Nat.le_of_ble_eq_true rfl) rfl ?_
        refine rI ?_
        have hw0 : w = 2 := by first | exact nI_inj (by omega) (by omega) c1_2
        have hlo : mLo1 w = 1 := by rcases hw0 with rfl <;> rfl
        have hhi : mHi1 w = 40 := by rcases hw0 with rfl <;> rfl
        have t1 : (nI 1).toInt = 1 := rfl
        have t2 : (nI 40).toInt = 40 := rfl
        simp only [i32_lt, i32_le, toI_0, t1] at c67
        try simp only [i32_lt, i32_le, toI_0, t2] at c73
        first | exact (b2i_t (by omega)).symm | exact (b2i_f (by omega)).symm
      · refine x_iconst (pc := 76) (v := nI 1) cx (dA ddX0_mayBe (i := 27) rfl) (by decide) ?_
        refine x_goto (pc := 77) (tgt := 81) cx (dA ddX0_mayBe (i := 28) rfl) (by decide) ?_
        refine x_zreturn (pc := 81) cx (dA ddX0_mayBe (i := 30) rfl) (Nat.le_of_ble_eq_true rfl) (Nat.le_of_ble_eq_true rfl) rfl ?_
        refine rI ?_
        have hw0 : w = 2 := by first | exact nI_inj (by omega) (by omega) c1_2
        have hlo : mLo1 w = 1 := by rcases hw0 with rfl <;> rfl
        have hhi : mHi1 w = 40 := by rcases hw0 with rfl <;> rfl
        have t1 : (nI 1).toInt = 1 := rfl
        have t2 : (nI 40).toInt = 40 := rfl
        simp only [i32_lt, i32_le, toI_0, t1] at c67
        try simp only [i32_lt, i32_le, toI_0, t2] at c73
        first | exact (b2i_t (by omega)).symm | exact (b2i_f (by omega)).symm
  by_cases c1_3 : nI w = 3
  · refine x_tabIn (pc := 1) (v := 3) (tgt := 82) cx (dA ddX0_mayBe (i := 1) rfl) (by rw [c1_3]; decide) (by decide) (by decide) rfl (by decide) ?_
    refine x_iload_n (pc := 82) cx (dA ddX0_mayBe (i := 31) rfl) rfl ?_
    refine x_if_lt (pc := 83) (tgt := 95) cx (dA ddX0_mayBe (i := 32) rfl) (by decide) (fun c83 => ?_) (fun c83 => ?_)
    · refine x_iconst (pc := 95) (v := nI 0) cx (dA ddX0_mayBe (i := 38) rfl) (by decide) ?_
      refine x_zreturn (pc := 96) cx (dA ddX0_mayBe (i := 39) rfl) (Nat.le_of_ble_eq_true rfl) (Nat.le_of_ble_eq_true rfl) rfl ?_
      refine rI ?_
      have hw0 : w = 3 := by first | exact nI_inj (by omega) (by omega) c1_3
      have hlo : mLo1 w = 0 := by rcases hw0 with rfl <;> rfl
      have hhi : mHi1 w = 3 := by rcases hw0 with rfl <;> rfl
      have t1 : (nI 0).toInt = 0 := rfl
      have t2 : (nI 3).toInt = 3 := rfl
      simp only [i32_lt, i32_le, toI_0, t1] at c83
      try simp only [i32_lt, i32_le, toI_0, t2] at c88
      first | exact (b2i_t (by omega)).symm | exact (b2i_f (by omega)).symm
    · refine x_iload_n (pc := 86) cx (dA ddX0_mayBe (i := 33) rfl) rfl ?_
      refine x_iconst (pc := 87) (v := nI 3) cx (dA ddX0_mayBe (i := 34) rfl) (by decide) ?_
      refine x_icmp_gt (pc := 88) (tgt := 95) cx (dA ddX0_mayBe (i := 35) rfl) (by decide) (fun c88 => ?_) (fun c88 => ?_)
      · refine x_iconst (pc := 95) (v := nI 0) cx (dA ddX0_mayBe (i := 38) rfl) (by decide) ?_
        refine x_zreturn (pc := 96) cx (dA ddX0_mayBe (i := 39) rfl) (Nat.le_of_ble_eq_true rfl) (Nat.le_of_ble_eq_true rfl) rfl ?_
        refine rI ?_
        have hw0 : w = 3 := by first | exact nI_inj (by omega) (by omega) c1_3
        have hlo : mLo1 w = 0 := by rcases hw0 with rfl <;> rfl
        have hhi : mHi1 w = 3 := by rcases hw0 with rfl <;> rfl
        have t1 : (nI 0).toInt = 0 := rfl
        have t2 : (nI 3).toInt = 3 := rfl
        simp only [i32_lt, i32_le, toI_0, t1] at c83
        try simp only [i32_lt, i32_le, toI_0, t2] at c88
        first | exact (b2i_t (by omega)).symm | exact (b2i_f (by omega)).symm
      · refine x_iconst (pc := 91) (v := nI 1) cx (dA ddX0_mayBe (i := 36) rfl) (by decide) ?_
        refine x_goto (pc := 92) (tgt := 96) cx (dA ddX0_mayBe (i := 37) rfl) (by decide) ?_
        refine x_zreturn (pc := 96) cx (dA ddX0_mayBe (i := 39) rfl) (Nat.le_of_ble_eq_true rfl) (Nat.le_of_ble_eq_true rfl) rfl ?_
        refine rI ?_
        have hw0 : w = 3 := by first | exact nI_inj (by omega) (by omega) c1_3
        have hlo : mLo1 w = 0 := by rcases hw0 with rfl <;> rfl
        have hhi : mHi1 w = 3 := by rcases hw0 with rfl <;> rfl
        have t1 : (nI 0).toInt = 0 := rfl
        have t2 : (nI 3).toInt = 3 := rfl
        simp only [i32_lt, i32_le, toI_0, t1] at c83
        try simp only [i32_lt, i32_le, toI_0, t2] at c88
        first | exact (b2i_t (by omega)).symm | exact (b2i_f (by omega)).symm
  refine x_tabOut (pc := 1) (tgt := 97) cx (dA ddX0_mayBe (i := 1) rfl) (by have t0 := lv_neT (a := 0) c1_0 (by decide); have t1 := lv_neT (a := 1) c1_1 (by decide); have t2 := lv_neT (a := 2) c1_2 (by decide); have t3 := lv_neT (a := 3) c1_3 (by decide); omega) (by decide) ?_
  exact absurd (show w = 0 ∨ w = 1 ∨ w = 2 ∨ w = 3 by omega) (by rintro (h | h | h | h) <;> subst h <;> first | exact c1_0 rfl | exact c1_1 rfl | exact c1_2 rfl | exact c1_3 rfl)
theorem c_X0_mayBeOfSort {l : Launch} {Z : zP} {G : zG} {V : zV} {w : Nat} {x : Int32} (hw : w < 5) : CT l Z yX0_mayBeOfSort cX0_mayBeOfSort 2 (some .boolean) 0 0 0 [.int (nI w), .int x] G V (pI (b2i (mLo2 w ≤ x.toInt ∧ x.toInt ≤ mHi2 w)) G V) := by
  refine CT.of (by decide +kernel) (Nat.le_of_ble_eq_true rfl) (fun X hX cx => ?_)
  subst hX
  show Wm Z X 2 G V 0 0 _ 0 [(0, some (.int (nI w))), (1, some (.int x))] []
  refine x_iload_n (pc := 0) cx (dA ddX0_mayBeOfSort (i := 0) rfl) rfl ?_
  by_cases c1_0 : nI w = 0
  · refine x_tabIn (pc := 1) (v := 0) (tgt := 36) cx (dA ddX0_mayBeOfSort (i := 1) rfl) (by rw [c1_0]; decide) (by decide) (by decide) rfl (by decide) ?_
    refine x_iload_n (pc := 36) cx (dA ddX0_mayBeOfSort (i := 2) rfl) rfl ?_
    refine x_iconst (pc := 37) (v := nI 1) cx (dA ddX0_mayBeOfSort (i := 3) rfl) (by decide) ?_
    refine x_icmp_lt (pc := 38) (tgt := 51) cx (dA ddX0_mayBeOfSort (i := 4) rfl) (by decide) (fun c38 => ?_) (fun c38 => ?_)
    · refine x_iconst (pc := 51) (v := nI 0) cx (dA ddX0_mayBeOfSort (i := 10) rfl) (by decide) ?_
      refine x_zreturn (pc := 52) cx (dA ddX0_mayBeOfSort (i := 11) rfl) (Nat.le_of_ble_eq_true rfl) (Nat.le_of_ble_eq_true rfl) rfl ?_
      refine rI ?_
      have hw0 : w = 0 := by first | exact nI_inj (by omega) (by omega) c1_0
      have hlo : mLo2 w = 1 := by rcases hw0 with rfl <;> rfl
      have hhi : mHi2 w = 9 := by rcases hw0 with rfl <;> rfl
      have t1 : (nI 1).toInt = 1 := rfl
      have t2 : (nI 9).toInt = 9 := rfl
      simp only [i32_lt, i32_le, toI_0, t1] at c38
      try simp only [i32_lt, i32_le, toI_0, t2] at c44
      first | exact (b2i_t (by omega)).symm | exact (b2i_f (by omega)).symm
    · refine x_iload_n (pc := 41) cx (dA ddX0_mayBeOfSort (i := 5) rfl) rfl ?_
      refine x_bipush (pc := 42) (v := nI 9) cx (dA ddX0_mayBeOfSort (i := 6) rfl) (by decide) ?_
      refine x_icmp_gt (pc := 44) (tgt := 51) cx (dA ddX0_mayBeOfSort (i := 7) rfl) (by decide) (fun c44 => ?_) (fun c44 => ?_)
      · refine x_iconst (pc := 51) (v := nI 0) cx (dA ddX0_mayBeOfSort (i := 10) rfl) (by decide) ?_
        refine x_zreturn (pc := 52) cx (dA ddX0_mayBeOfSort (i := 11) rfl) (Nat.le_of_ble_eq_true rfl) (Nat.le_of_ble_eq_true rfl) rfl ?_
        refine rI ?_
        have hw0 : w = 0 := by first | exact nI_inj (by omega) (by omega) c1_0
        have hlo : mLo2 w = 1 := by rcases hw0 with rfl <;> rfl
        have hhi : mHi2 w = 9 := by rcases hw0 with rfl <;> rfl
        have t1 : (nI 1).toInt = 1 := rfl
        have t2 : (nI 9).toInt = 9 := rfl
        simp only [i32_lt, i32_le, toI_0, t1] at c38
        try simp only [i32_lt, i32_le, toI_0, t2] at c44
        first | exact (b2i_t (by omega)).symm | exact (b2i_f (by omega)).symm
      · refine x_iconst (pc := 47) (v := nI 1) cx (dA ddX0_mayBeOfSort (i := 8) rfl) (by decide) ?_
        refine x_goto (pc := 48) (tgt := 52) cx (dA ddX0_mayBeOfSort (i := 9) rfl) (by decide) ?_
        refine x_zreturn (pc := 52) cx (dA ddX0_mayBeOfSort (i := 11) rfl) (Nat.le_of_ble_eq_true rfl) (Nat.le_of_ble_eq_true rfl) rfl ?_
        refine rI ?_
        have hw0 : w = 0 := by first | exact nI_inj (by omega) (by omega) c1_0
        have hlo : mLo2 w = 1 := by rcases hw0 with rfl <;> rfl
        have hhi : mHi2 w = 9 := by rcases hw0 with rfl <;> rfl
        have t1 : (nI 1).toInt = 1 := rfl
        have t2 : (nI 9).toInt = 9 := rfl
        simp only [i32_lt, i32_le, toI_0, t1] at c38
        try simp only [i32_lt, i32_le, toI_0, t2] at c44
        first | exact (b2i_t (by omega)).symm | exact (b2i_f (by omega)).symm
  by_cases c1_1 : nI w = 1
  · refine x_tabIn (pc := 1) (v := 1) (tgt := 53) cx (dA ddX0_mayBeOfSort (i := 1) rfl) (by rw [c1_1]; decide) (by decide) (by decide) rfl (by decide) ?_
    refine x_iload_n (pc := 53) cx (dA ddX0_mayBeOfSort (i := 12) rfl) rfl ?_
    refine x_if_lt (pc := 54) (tgt := 66) cx (dA ddX0_mayBeOfSort (i := 13) rfl) (by decide) (fun c54 => ?_) (fun c54 => ?_)
    · refine x_iconst (pc := 66) (v := nI 0) cx (dA ddX0_mayBeOfSort (i := 19) rfl) (by decide) ?_
      refine x_zreturn (pc := 67) cx (dA ddX0_mayBeOfSort (i := 20) rfl) (Nat.le_of_ble_eq_true rfl) (Nat.le_of_ble_eq_true rfl) rfl ?_
      refine rI ?_
      have hw0 : w = 1 := by first | exact nI_inj (by omega) (by omega) c1_1
      have hlo : mLo2 w = 0 := by rcases hw0 with rfl <;> rfl
      have hhi : mHi2 w = 4 := by rcases hw0 with rfl <;> rfl
      have t1 : (nI 0).toInt = 0 := rfl
      have t2 : (nI 4).toInt = 4 := rfl
      simp only [i32_lt, i32_le, toI_0, t1] at c54
      try simp only [i32_lt, i32_le, toI_0, t2] at c59
      first | exact (b2i_t (by omega)).symm | exact (b2i_f (by omega)).symm
    · refine x_iload_n (pc := 57) cx (dA ddX0_mayBeOfSort (i := 14) rfl) rfl ?_
      refine x_iconst (pc := 58) (v := nI 4) cx (dA ddX0_mayBeOfSort (i := 15) rfl) (by decide) ?_
      refine x_icmp_gt (pc := 59) (tgt := 66) cx (dA ddX0_mayBeOfSort (i := 16) rfl) (by decide) (fun c59 => ?_) (fun c59 => ?_)
      · refine x_iconst (pc := 66) (v := nI 0) cx (dA ddX0_mayBeOfSort (i := 19) rfl) (by decide) ?_
        refine x_zreturn (pc := 67) cx (dA ddX0_mayBeOfSort (i := 20) rfl) (Nat.le_of_ble_eq_true rfl) (Nat.le_of_ble_eq_true rfl) rfl ?_
        refine rI ?_
        have hw0 : w = 1 := by first | exact nI_inj (by omega) (by omega) c1_1
        have hlo : mLo2 w = 0 := by rcases hw0 with rfl <;> rfl
        have hhi : mHi2 w = 4 := by rcases hw0 with rfl <;> rfl
        have t1 : (nI 0).toInt = 0 := rfl
        have t2 : (nI 4).toInt = 4 := rfl
        simp only [i32_lt, i32_le, toI_0, t1] at c54
        try simp only [i32_lt, i32_le, toI_0, t2] at c59
        first | exact (b2i_t (by omega)).symm | exact (b2i_f (by omega)).symm
      · refine x_iconst (pc := 62) (v := nI 1) cx (dA ddX0_mayBeOfSort (i := 17) rfl) (by decide) ?_
        refine x_goto (pc := 63) (tgt := 67) cx (dA ddX0_mayBeOfSort (i := 18) rfl) (by decide) ?_
        refine x_zreturn (pc := 67) cx (dA ddX0_mayBeOfSort (i := 20) rfl) (Nat.le_of_ble_eq_true rfl) (Nat.le_of_ble_eq_true rfl) rfl ?_
        refine rI ?_
        have hw0 : w = 1 := by first | exact nI_inj (by omega) (by omega) c1_1
        have hlo : mLo2 w = 0 := by rcases hw0 with rfl <;> rfl
        have hhi : mHi2 w = 4 := by rcases hw0 with rfl <;> rfl
        have t1 : (nI 0).toInt = 0 := rfl
        have t2 : (nI 4).toInt = 4 := rfl
        simp only [i32_lt, i32_le, toI_0, t1] at c54
        try simp only [i32_lt, i32_le, toI_0, t2] at c59
        first | exact (b2i_t (by omega)).symm | exact (b2i_f (by omega)).symm
  by_cases c1_2 : nI w = 2
  · refine x_tabIn (pc := 1) (v := 2) (tgt := 68) cx (dA ddX0_mayBeOfSort (i := 1) rfl) (by rw [c1_2]; decide) (by decide) (by decide) rfl (by decide) ?_
    refine x_iload_n (pc := 68) cx (dA ddX0_mayBeOfSort (i := 21) rfl) rfl ?_
    refine x_if_lt (pc := 69) (tgt := 82) cx (dA ddX0_mayBeOfSort (i := 22) rfl) (by decide) (fun c69 => ?_) (fun c69 => ?_)
    · refine x_iconst (pc := 82) (v := nI 0) cx (dA ddX0_mayBeOfSort (i := 28) rfl) (by decide) ?_
      refine x_zreturn (pc := 83) cx (dA ddX0_mayBeOfSort (i := 29) rfl) (Nat.le_of_ble_eq_true rfl) (Nat.le_of_ble_eq_true rfl) rfl ?_
      refine rI ?_
      have hw0 : w = 2 := by first | exact nI_inj (by omega) (by omega) c1_2
      have hlo : mLo2 w = 0 := by rcases hw0 with rfl <;> rfl
      have hhi : mHi2 w = 9 := by rcases hw0 with rfl <;> rfl
      have t1 : (nI 0).toInt = 0 := rfl
      have t2 : (nI 9).toInt = 9 := rfl
      simp only [i32_lt, i32_le, toI_0, t1] at c69
      try simp only [i32_lt, i32_le, toI_0, t2] at c75
      first | exact (b2i_t (by omega)).symm | exact (b2i_f (by omega)).symm
    · refine x_iload_n (pc := 72) cx (dA ddX0_mayBeOfSort (i := 23) rfl) rfl ?_
      refine x_bipush (pc := 73) (v := nI 9) cx (dA ddX0_mayBeOfSort (i := 24) rfl) (by decide) ?_
      refine x_icmp_gt (pc := 75) (tgt := 82) cx (dA ddX0_mayBeOfSort (i := 25) rfl) (by decide) (fun c75 => ?_) (fun c75 => ?_)
      · refine x_iconst (pc := 82) (v := nI 0) cx (dA ddX0_mayBeOfSort (i := 28) rfl) (by decide) ?_
        refine x_zreturn (pc := 83) cx (dA ddX0_mayBeOfSort (i := 29) rfl) (Nat.le_of_ble_eq_true rfl) (Nat.le_of_ble_eq_true rfl) rfl ?_
        refine rI ?_
        have hw0 : w = 2 := by first | exact nI_inj (by omega) (by omega) c1_2
        have hlo : mLo2 w = 0 := by rcases hw0 with rfl <;> rfl
        have hhi : mHi2 w = 9 := by rcases hw0 with rfl <;> rfl
        have t1 : (nI 0).toInt = 0 := rfl
        have t2 : (nI 9).toInt = 9 := rfl
        simp only [i32_lt, i32_le, toI_0, t1] at c69
        try simp only [i32_lt, i32_le, toI_0, t2] at c75
        first | exact (b2i_t (by omega)).symm | exact (b2i_f (by omega)).symm
      · refine x_iconst (pc := 78) (v := nI 1) cx (dA ddX0_mayBeOfSort (i := 26) rfl) (by decide) ?_
        refine x_goto (pc := 79) (tgt := 83) cx (dA ddX0_mayBeOfSort (i := 27) rfl) (by decide) ?_
        refine x_zreturn (pc := 83) cx (dA ddX0_mayBeOfSort (i := 29) rfl) (Nat.le_of_ble_eq_true rfl) (Nat.le_of_ble_eq_true rfl) rfl ?_
        refine rI ?_
        have hw0 : w = 2 := by first | exact nI_inj (by omega) (by omega) c1_2
        have hlo : mLo2 w = 0 := by rcases hw0 with rfl <;> rfl
        have hhi : mHi2 w = 9 := by rcases hw0 with rfl <;> rfl
        have t1 : (nI 0).toInt = 0 := rfl
        have t2 : (nI 9).toInt = 9 := rfl
        simp only [i32_lt, i32_le, toI_0, t1] at c69
        try simp only [i32_lt, i32_le, toI_0, t2] at c75
        first | exact (b2i_t (by omega)).symm | exact (b2i_f (by omega)).symm
  by_cases c1_3 : nI w = 3
  · refine x_tabIn (pc := 1) (v := 3) (tgt := 84) cx (dA ddX0_mayBeOfSort (i := 1) rfl) (by rw [c1_3]; decide) (by decide) (by decide) rfl (by decide) ?_
    refine x_iload_n (pc := 84) cx (dA ddX0_mayBeOfSort (i := 30) rfl) rfl ?_
    refine x_if_lt (pc := 85) (tgt := 98) cx (dA ddX0_mayBeOfSort (i := 31) rfl) (by decide) (fun c85 => ?_) (fun c85 => ?_)
    · refine x_iconst (pc := 98) (v := nI 0) cx (dA ddX0_mayBeOfSort (i := 37) rfl) (by decide) ?_
      refine x_zreturn (pc := 99) cx (dA ddX0_mayBeOfSort (i := 38) rfl) (Nat.le_of_ble_eq_true rfl) (Nat.le_of_ble_eq_true rfl) rfl ?_
      refine rI ?_
      have hw0 : w = 3 ∨ w = 4 := by first | exact Or.inl (nI_inj (by omega) (by omega) c1_3) | exact Or.inr (nI_inj (by omega) (by omega) c1_4)
      have hlo : mLo2 w = 0 := by rcases hw0 with rfl | rfl <;> rfl
      have hhi : mHi2 w = 99 := by rcases hw0 with rfl | rfl <;> rfl
      have t1 : (nI 0).toInt = 0 := rfl
      have t2 : (nI 99).toInt = 99 := rfl
      simp only [i32_lt, i32_le, toI_0, t1] at c85
      try simp only [i32_lt, i32_le, toI_0, t2] at c91
      first | exact (b2i_t (by omega)).symm | exact (b2i_f (by omega)).symm
    · refine x_iload_n (pc := 88) cx (dA ddX0_mayBeOfSort (i := 32) rfl) rfl ?_
      refine x_bipush (pc := 89) (v := nI 99) cx (dA ddX0_mayBeOfSort (i := 33) rfl) (by decide) ?_
      refine x_icmp_gt (pc := 91) (tgt := 98) cx (dA ddX0_mayBeOfSort (i := 34) rfl) (by decide) (fun c91 => ?_) (fun c91 => ?_)
      · refine x_iconst (pc := 98) (v := nI 0) cx (dA ddX0_mayBeOfSort (i := 37) rfl) (by decide) ?_
        refine x_zreturn (pc := 99) cx (dA ddX0_mayBeOfSort (i := 38) rfl) (Nat.le_of_ble_eq_true rfl) (Nat.le_of_ble_eq_true rfl) rfl ?_
        refine rI ?_
        have hw0 : w = 3 ∨ w = 4 := by first | exact Or.inl (nI_inj (by omega) (by omega) c1_3) | exact Or.inr (nI_inj (by omega) (by omega) c1_4)
        have hlo : mLo2 w = 0 := by rcases hw0 with rfl | rfl <;> rfl
        have hhi : mHi2 w = 99 := by rcases hw0 with rfl | rfl <;> rfl
        have t1 : (nI 0).toInt = 0 := rfl
        have t2 : (nI 99).toInt = 99 := rfl
        simp only [i32_lt, i32_le, toI_0, t1] at c85
        try simp only [i32_lt, i32_le, toI_0, t2] at c91
        first | exact (b2i_t (by omega)).symm | exact (b2i_f (by omega)).symm
      · refine x_iconst (pc := 94) (v := nI 1) cx (dA ddX0_mayBeOfSort (i := 35) rfl) (by decide) ?_
        refine x_goto (pc := 95) (tgt := 99) cx (dA ddX0_mayBeOfSort (i := 36) rfl) (by decide) ?_
        refine x_zreturn (pc := 99) cx (dA ddX0_mayBeOfSort (i := 38) rfl) (Nat.le_of_ble_eq_true rfl) (Nat.le_of_ble_eq_true rfl) rfl ?_
        refine rI ?_
        have hw0 : w = 3 ∨ w = 4 := by first | exact Or.inl (nI_inj (by omega) (by omega) c1_3) | exact Or.inr (nI_inj (by omega) (by omega) c1_4)
        have hlo : mLo2 w = 0 := by rcases hw0 with rfl | rfl <;> rfl
        have hhi : mHi2 w = 99 := by rcases hw0 with rfl | rfl <;> rfl
        have t1 : (nI 0).toInt = 0 := rfl
        have t2 : (nI 99).toInt = 99 := rfl
        simp only [i32_lt, i32_le, toI_0, t1] at c85
        try simp only [i32_lt, i32_le, toI_0, t2] at c91
        first | exact (b2i_t (by omega)).symm | exact (b2i_f (by omega)).symm
  by_cases c1_4 : nI w = 4
  · refine x_tabIn (pc := 1) (v := 4) (tgt := 84) cx (dA ddX0_mayBeOfSort (i := 1) rfl) (by rw [c1_4]; decide) (by decide) (by decide) rfl (by decide) ?_
    refine x_iload_n (pc := 84) cx (dA ddX0_mayBeOfSort (i := 30) rfl) rfl ?_
    refine x_if_lt (pc := 85) (tgt := 98) cx (dA ddX0_mayBeOfSort (i := 31) rfl) (by decide) (fun c85 => ?_) (fun c85 => ?_)
    · refine x_iconst (pc := 98) (v := nI 0) cx (dA ddX0_mayBeOfSort (i := 37) rfl) (by decide) ?_
      refine x_zreturn (pc := 99) cx (dA ddX0_mayBeOfSort (i := 38) rfl) (Nat.le_of_ble_eq_true rfl) (Nat.le_of_ble_eq_true rfl) rfl ?_
      refine rI ?_
      have hw0 : w = 3 ∨ w = 4 := by first | exact Or.inl (nI_inj (by omega) (by omega) c1_3) | exact Or.inr (nI_inj (by omega) (by omega) c1_4)
      have hlo : mLo2 w = 0 := by rcases hw0 with rfl | rfl <;> rfl
      have hhi : mHi2 w = 99 := by rcases hw0 with rfl | rfl <;> rfl
      have t1 : (nI 0).toInt = 0 := rfl
      have t2 : (nI 99).toInt = 99 := rfl
      simp only [i32_lt, i32_le, toI_0, t1] at c85
      try simp only [i32_lt, i32_le, toI_0, t2] at c91
      first | exact (b2i_t (by omega)).symm | exact (b2i_f (by omega)).symm
    · refine x_iload_n (pc := 88) cx (dA ddX0_mayBeOfSort (i := 32) rfl) rfl ?_
      refine x_bipush (pc := 89) (v := nI 99) cx (dA ddX0_mayBeOfSort (i := 33) rfl) (by decide) ?_
      refine x_icmp_gt (pc := 91) (tgt := 98) cx (dA ddX0_mayBeOfSort (i := 34) rfl) (by decide) (fun c91 => ?_) (fun c91 => ?_)
      · refine x_iconst (pc := 98) (v := nI 0) cx (dA ddX0_mayBeOfSort (i := 37) rfl) (by decide) ?_
        refine x_zreturn (pc := 99) cx (dA ddX0_mayBeOfSort (i := 38) rfl) (Nat.le_of_ble_eq_true rfl) (Nat.le_of_ble_eq_true rfl) rfl ?_
        refine rI ?_
        have hw0 : w = 3 ∨ w = 4 := by first | exact Or.inl (nI_inj (by omega) (by omega) c1_3) | exact Or.inr (nI_inj (by omega) (by omega) c1_4)
        have hlo : mLo2 w = 0 := by rcases hw0 with rfl | rfl <;> rfl
        have hhi : mHi2 w = 99 := by rcases hw0 with rfl | rfl <;> rfl
        have t1 : (nI 0).toInt = 0 := rfl
        have t2 : (nI 99).toInt = 99 := rfl
        simp only [i32_lt, i32_le, toI_0, t1] at c85
        try simp only [i32_lt, i32_le, toI_0, t2] at c91
        first | exact (b2i_t (by omega)).symm | exact (b2i_f (by omega)).symm
      · refine x_iconst (pc := 94) (v := nI 1) cx (dA ddX0_mayBeOfSort (i := 35) rfl) (by decide) ?_
        refine x_goto (pc := 95) (tgt := 99) cx (dA ddX0_mayBeOfSort (i := 36) rfl) (by decide) ?_
        refine x_zreturn (pc := 99) cx (dA ddX0_mayBeOfSort (i := 38) rfl) (Nat.le_of_ble_eq_true rfl) (Nat.le_of_ble_eq_true rfl) rfl ?_
        refine rI ?_
        have hw0 : w = 3 ∨ w = 4 := by first | exact Or.inl (nI_inj (by omega) (by omega) c1_3) | exact Or.inr (nI_inj (by omega) (by omega) c1_4)
        have hlo : mLo2 w = 0 := by rcases hw0 with rfl | rfl <;> rfl
        have hhi : mHi2 w = 99 := by rcases hw0 with rfl | rfl <;> rfl
        have t1 : (nI 0).toInt = 0 := rfl
        have t2 : (nI 99).toInt = 99 := rfl
        simp only [i32_lt, i32_le, toI_0, t1] at c85
        try simp only [i32_lt, i32_le, toI_0, t2] at c91
        first | exact (b2i_t (by omega)).symm | exact (b2i_f (by omega)).symm
  refine x_tabOut (pc := 1) (tgt := 100) cx (dA ddX0_mayBeOfSort (i := 1) rfl) (by have t0 := lv_neT (a := 0) c1_0 (by decide); have t1 := lv_neT (a := 1) c1_1 (by decide); have t2 := lv_neT (a := 2) c1_2 (by decide); have t3 := lv_neT (a := 3) c1_3 (by decide); have t4 := lv_neT (a := 4) c1_4 (by decide); omega) (by decide) ?_
  exact absurd (show w = 0 ∨ w = 1 ∨ w = 2 ∨ w = 3 ∨ w = 4 by omega) (by rintro (h | h | h | h | h) <;> subst h <;> first | exact c1_0 rfl | exact c1_1 rfl | exact c1_2 rfl | exact c1_3 rfl | exact c1_4 rfl)
theorem c_X0_fillFor {l : Launch} {Z : zP} {G : zG} {V : zV} {h : Nat} (hH : HouseAt Z G h) {N : Nat → Nat} (hV : HouseV V h N) (hB : HouseB N) {s : Nat} (hs : s < 125) : CT l Z yX0_fillFor cX0_fillFor 8 (some .int) 2 0 0 [.ref h, .int (nI s)] G V (pI (nI (fillP N s)) G V) := by
  refine CT.of (by decide +kernel) (Nat.le_of_ble_eq_true rfl) (fun X hX cx => ?_)
  subst hX
  show Wm Z X 8 G V 0 0 _ 0 [(0, some (.ref h)), (1, some (.int (nI s)))] []
  have h0 := hH.1
  have hA := hH.2.2
  have b4 := hB.1
  have bN := hB.2
  refine x_aload_n (pc := 0) cx (dA ddX0_fillFor (i := 0) rfl) rfl ?_
  refine x_iconst (pc := 1) (v := nI 2) cx (dA ddX0_fillFor (i := 1) rfl) (by decide) ?_
  refine x_V1 (pc := 2) mX0_31 h0 (c_X0_number hH hV hB (by omega)) cx (dA ddX0_fillFor (i := 2) rfl) (kI ?_)
  refine x_istore_n (pc := 5) cx (dA ddX0_fillFor (i := 3) rfl) (by decide) rfl ?_
  refine x_iconst (pc := 6) (v := nI 0) cx (dA ddX0_fillFor (i := 4) rfl) (by decide) ?_
  refine x_istore_n (pc := 7) cx (dA ddX0_fillFor (i := 5) rfl) (by decide) rfl ?_
  refine x_bipush (pc := 8) (v := nI 9) cx (dA ddX0_fillFor (i := 6) rfl) (by decide) ?_
  refine x_istore (pc := 10) cx (dA ddX0_fillFor (i := 7) rfl) (by decide) rfl ?_
  have L12 : ∀ c : Nat, c ≤ 10 → ∀ v : Int32, v.toInt = 9 - (c : Int) → Wm Z X 8 G V 0 0 (rQ Z X 0 0 (pI (nI (fillP N s)) G V)) 12 [(0, some (.ref h)), (1, some (.int (nI s))), (2, some (.int (nI (fillOut N s c).1))), (3, some (.int (nI (fillOut N s c).2))), (4, some (.int v))] [] := by
    refine lpU 10 (fun c hc ih => ?_)
    intro v hv
    refine x_iload (pc := 12) cx (dA ddX0_fillFor (i := 8) rfl) rfl ?_
    refine x_if_lt (pc := 14) (tgt := 101) cx (dA ddX0_fillFor (i := 9) rfl) (by decide) (fun c14 => ?_) (fun c14 => ?_)
    · have e10 : c = 10 := by rw [i32_lt, hv, toI_0] at c14; omega
      subst e10
      refine x_iload_n (pc := 101) cx (dA ddX0_fillFor (i := 54) rfl) rfl ?_
      refine x_ireturn (pc := 102) cx (dA ddX0_fillFor (i := 55) rfl) (Nat.le_of_ble_eq_true rfl) (Nat.le_of_ble_eq_true rfl) ?_
      exact rI rfl
    · have h9 : c ≤ 9 := by rw [i32_lt, hv, toI_0] at c14; omega
      have ev : v = nI (9 - c) := by apply Int32.toInt_inj.mp; rw [hv, nI_toInt (by omega)]; omega
      subst ev
      have ol := fillOut_le hB (s := s) (c := c)
      refine x_iconst (pc := 17) (v := nI 0) cx (dA ddX0_fillFor (i := 10) rfl) (by decide) ?_
      refine x_istore (pc := 18) cx (dA ddX0_fillFor (i := 11) rfl) (by decide) rfl ?_
      have L20 : ∀ k, k ≤ N 4 → Wm Z X 8 G V 0 0 (rQ Z X 0 0 (pI (nI (fillP N s)) G V)) 20 [(0, some (.ref h)), (1, some (.int (nI s))), (2, some (.int (nI (fillIn N s (9 - c) k (fillOut N s c)).1))), (3, some (.int (nI (fillIn N s (9 - c) k (fillOut N s c)).2))), (4, some (.int (nI (9 - c)))), (5, some (.int (nI k)))] [] := by
        refine lpU (N 4) (fun k hk ih2 => ?_)
        refine x_iload (pc := 20) cx (dA ddX0_fillFor (i := 12) rfl) rfl ?_
        refine x_aload_n (pc := 22) cx (dA ddX0_fillFor (i := 13) rfl) rfl ?_
        have il := fillIn_le (N := N) (s := s) (hold := 9 - c) (p := fillOut N s c) (k := k) (by omega)
        refine x_V0 (pc := 23) mX0_35 h0 (c_X0_sorts hH hV hB) cx (dA ddX0_fillFor (i := 14) rfl) (kI ?_)
        refine x_icmp_ge (pc := 26) (tgt := 95) cx (dA ddX0_fillFor (i := 15) rfl) (by decide) (fun c26 => ?_) (fun c26 => ?_)
        · have c26 := cleT (by omega) (by omega) c26
          have ek : k = N 4 := by omega
          have ek : k = N 4 := by omega
          subst ek
          refine x_iinc (pc := 95) cx (dA ddX0_fillFor (i := 52) rfl) rfl rfl (by decide) rfl ?_
          refine x_goto (pc := 98) (tgt := 12) cx (dA ddX0_fillFor (i := 53) rfl) (by decide) ?_
          exact x_enter (ih (by omega) _ (by rw [nI_dec _ (by omega)]; omega)) ⟨.inr rfl, .inr rfl, .inr rfl, .inr rfl, .inr rfl, trivial⟩
        · have c26 := cleF (by omega) (by omega) c26
          have nr := bN (5 + 5 * k + 0) (by omega)
          have nh := bN (5 + 5 * k + 2) (by omega)
          refine x_aload_n (pc := 29) cx (dA ddX0_fillFor (i := 16) rfl) rfl ?_
          refine x_iload (pc := 30) cx (dA ddX0_fillFor (i := 17) rfl) rfl ?_
          refine x_iconst (pc := 32) (v := nI 0) cx (dA ddX0_fillFor (i := 18) rfl) (by decide) ?_
          refine x_V2 (pc := 33) mX0_45 h0 (c_X0_sortNumber hH hV hB (by omega) (by omega)) cx (dA ddX0_fillFor (i := 19) rfl) (kI ?_)
          refine x_istore (pc := 36) cx (dA ddX0_fillFor (i := 20) rfl) (by decide) rfl ?_
          refine x_aload_n (pc := 38) cx (dA ddX0_fillFor (i := 21) rfl) rfl ?_
          refine x_iload (pc := 39) cx (dA ddX0_fillFor (i := 22) rfl) rfl ?_
          refine x_iconst (pc := 41) (v := nI 2) cx (dA ddX0_fillFor (i := 23) rfl) (by decide) ?_
          refine x_V2 (pc := 42) mX0_45 h0 (c_X0_sortNumber hH hV hB (by omega) (by omega)) cx (dA ddX0_fillFor (i := 24) rfl) (kI ?_)
          refine x_iload (pc := 45) cx (dA ddX0_fillFor (i := 25) rfl) rfl ?_
          refine x_icmp_ne (pc := 47) (tgt := 89) cx (dA ddX0_fillFor (i := 26) rfl) (by decide) (fun c47 => ?_) (fun c47 => ?_)
          · have c47 := ceqF (by omega) (by omega) c47
            have e5 : fillIn N s (9 - c) (k + 1) (fillOut N s c) = fillStep N s (9 - c) k (fillIn N s (9 - c) k (fillOut N s c)) := rfl
            refine x_iinc (pc := 89) cx (dA ddX0_fillFor (i := 50) rfl) rfl (iinc1 _) (by decide) rfl ?_
            refine x_goto (pc := 92) (tgt := 20) cx (dA ddX0_fillFor (i := 51) rfl) (by decide) ?_
            have ih3 := ih2 (by omega)
            rw [e5] at ih3
            unfold fillStep at ih3
            first
              | (rw [if_pos (by omega)] at ih3; exact x_enter ih3 ⟨.inr rfl, .inr rfl, .inr rfl, .inr rfl, .inr rfl, .inr rfl, trivial⟩)
              | (rw [if_neg (by omega)] at ih3; exact x_enter ih3 ⟨.inr rfl, .inr rfl, .inr rfl, .inr rfl, .inr rfl, .inr rfl, trivial⟩)
          · have c47 := ceqT (by omega) (by omega) c47
            refine x_iload (pc := 50) cx (dA ddX0_fillFor (i := 27) rfl) rfl ?_
            refine x_if_le (pc := 52) (tgt := 89) cx (dA ddX0_fillFor (i := 28) rfl) (by decide) (fun c52 => ?_) (fun c52 => ?_)
            · have c52 := cleT (b := 0) (by omega) (by omega) c52
              have e5 : fillIn N s (9 - c) (k + 1) (fillOut N s c) = fillStep N s (9 - c) k (fillIn N s (9 - c) k (fillOut N s c)) := rfl
              refine x_iinc (pc := 89) cx (dA ddX0_fillFor (i := 50) rfl) rfl (iinc1 _) (by decide) rfl ?_
              refine x_goto (pc := 92) (tgt := 20) cx (dA ddX0_fillFor (i := 51) rfl) (by decide) ?_
              have ih3 := ih2 (by omega)
              rw [e5] at ih3
              unfold fillStep at ih3
              first
                | (rw [if_pos (by omega)] at ih3; exact x_enter ih3 ⟨.inr rfl, .inr rfl, .inr rfl, .inr rfl, .inr rfl, .inr rfl, trivial⟩)
                | (rw [if_neg (by omega)] at ih3; exact x_enter ih3 ⟨.inr rfl, .inr rfl, .inr rfl, .inr rfl, .inr rfl, .inr rfl, trivial⟩)
            · have c52 := cleF (b := 0) (by omega) (by omega) c52
              refine x_iload_n (pc := 55) cx (dA ddX0_fillFor (i := 29) rfl) rfl ?_
              refine x_iload (pc := 56) cx (dA ddX0_fillFor (i := 30) rfl) rfl ?_
              refine x_SN2 (pc := 58) mX0_42 (c_X7_standing hs (by omega)) cx (dA ddX0_fillFor (i := 31) rfl) (kI ?_)
              refine x_iload_n (pc := 61) cx (dA ddX0_fillFor (i := 32) rfl) rfl ?_
              refine x_iload (pc := 62) cx (dA ddX0_fillFor (i := 33) rfl) rfl ?_
              refine x_idiv (pc := 64) cx (nI_ne0 (by omega) (by omega)) (dA ddX0_fillFor (i := 34) rfl) ?_
              rw [div32 (by omega) (by omega) (by omega)]
              have dl := dig_lt s k
              have ml : min (dig s k) ((fillIn N s (9 - c) k (fillOut N s c)).1 / N (5 + 5 * k + 0)) * N (5 + 5 * k + 0) ≤ (fillIn N s (9 - c) k (fillOut N s c)).1 := Nat.le_trans (Nat.mul_le_mul_right _ (Nat.min_le_right _ _)) (Nat.div_mul_le_self _ _)
              refine x_mmin (pc := 65) mX0_55.1 cx (dA ddX0_fillFor (i := 35) rfl) ?_
              rw [nI_min (by omega) (Nat.lt_of_le_of_lt (Nat.div_le_self _ _) (by omega))]
              refine x_istore (pc := 68) cx (dA ddX0_fillFor (i := 36) rfl) (by decide) rfl ?_
              refine x_iload_n (pc := 70) cx (dA ddX0_fillFor (i := 37) rfl) rfl ?_
              refine x_iload (pc := 71) cx (dA ddX0_fillFor (i := 38) rfl) rfl ?_
              refine x_iload (pc := 73) cx (dA ddX0_fillFor (i := 39) rfl) rfl ?_
              refine x_imul (pc := 75) cx (dA ddX0_fillFor (i := 40) rfl) ?_
              refine x_isub (pc := 76) cx (dA ddX0_fillFor (i := 41) rfl) ?_
              rw [nI_cmul, pk_sub ml]
              refine x_istore_n (pc := 77) cx (dA ddX0_fillFor (i := 42) rfl) (by decide) rfl ?_
              refine x_iload_n (pc := 78) cx (dA ddX0_fillFor (i := 43) rfl) rfl ?_
              refine x_iload (pc := 79) cx (dA ddX0_fillFor (i := 44) rfl) rfl ?_
              refine x_iload (pc := 81) cx (dA ddX0_fillFor (i := 45) rfl) rfl ?_
              refine x_SN1 (pc := 83) mX0_39 (c_X7_oneOf (by omega)) cx (dA ddX0_fillFor (i := 46) rfl) (kI ?_)
              refine x_imul (pc := 86) cx (dA ddX0_fillFor (i := 47) rfl) ?_
              refine x_iadd (pc := 87) cx (dA ddX0_fillFor (i := 48) rfl) ?_
              rw [nI_cmul, nI_add]
              refine x_istore_n (pc := 88) cx (dA ddX0_fillFor (i := 49) rfl) (by decide) rfl ?_
              have e5 : fillIn N s (9 - c) (k + 1) (fillOut N s c) = fillStep N s (9 - c) k (fillIn N s (9 - c) k (fillOut N s c)) := rfl
              refine x_iinc (pc := 89) cx (dA ddX0_fillFor (i := 50) rfl) rfl (iinc1 _) (by decide) rfl ?_
              refine x_goto (pc := 92) (tgt := 20) cx (dA ddX0_fillFor (i := 51) rfl) (by decide) ?_
              have ih3 := ih2 (by omega)
              rw [e5] at ih3
              unfold fillStep at ih3
              first
                | (rw [if_pos (by omega)] at ih3; exact x_enter ih3 ⟨.inr rfl, .inr rfl, .inr rfl, .inr rfl, .inr rfl, .inr rfl, trivial⟩)
                | (rw [if_neg (by omega)] at ih3; exact x_enter ih3 ⟨.inr rfl, .inr rfl, .inr rfl, .inr rfl, .inr rfl, .inr rfl, trivial⟩)
      exact x_enter (L20 0 (Nat.zero_le _)) ⟨.inr rfl, .inr rfl, .inr rfl, .inr rfl, .inr rfl, .inr rfl, trivial⟩
  exact x_enter (L12 0 (Nat.zero_le _) (nI 9) rfl) ⟨.inr rfl, .inr rfl, .inr rfl, .inr rfl, .inr rfl, trivial⟩
end
section
theorem zs_native : (Cond.native arraycopyName) ∈ tables_1 := tt2 (j := 53) rfl
section XS
variable {Z : zP} {X : xP} {nL : Nat} {G : zG} {V : zV} {k n : Nat} {Q : State → Prop} {pc : Nat} {lw : List (Nat × Option Value)} {st : List Value} {own nm : String} {cc : ByteArray} {ret : Option FieldType} {D mc ms : Nat}
/-- System.arraycopy between rows of longs -/
theorem x_copyJ {idx a b m0 m1 i j m : Nat} (w1 : Cond.methodLink own idx arraycopyName ∈ WA) (w2 : Cond.native arraycopyName ∈ WA) (w3 : Cond.static arraycopyName ∈ WA) (w4 : Cond.initialized "java/lang/System" ∈ WA)
    (cx : Cx Z X own nm cc nL ret D mc ms) (d : decode cc pc = .ok (.invokestatic idx, 3)) (ha : isA Z G a 2 m0) (hb : isA Z G b 2 m1) (hi : i + m ≤ m0) (hj : j + m ≤ m1) (h0 : m0 < 65536) (h1 : m1 < 65536) (hD : 1 ≤ D) (hr : (st.map fun v => v.category).sum ≤ 8)
    (kk : Wm Z X nL G (rAJ V b j m (fun q => V.2.2.2 a (i + q))) k n Q (pc + 3) lw st) : Wm Z X nL G V k n Q pc lw (.int (nI m) :: .int (nI j) :: .ref b :: .int (nI i) :: .ref a :: st) := by
  intro H locs ls hM hS hl T hT Xs
  have c1 := cx.2.2.2.2.2.2.2.2.2.1
  have c2 := cx.2.2.2.2.2.2.2.2.2.2.1
  have hts := cx.2.2.2.2.1
  have hc0 := hM.arr ha
  have hc1 := hM.arr hb
  have ni : (nI i).toNatClampNeg = i := nI_clamp (by omega)
  have nj : (nI j).toNatClampNeg = j := nI_clamp (by omega)
  have nm' : (nI m).toNatClampNeg = m := nI_clamp (by omega)
  obtain ⟨-, k0, hk0, cm0, hkk0⟩ := (cx.tys (t := 2) (by decide)).1 m0 (fun q => aV G V 2 a q)
  obtain ⟨-, k1, hk1, cm1, hkk1⟩ := (cx.tys (t := 2) (by decide)).1 m1 (fun q => aV G V 2 b q)
  have hw : nativeFrameWords "java/lang/System" "arraycopy" 5 + 11 ≤ 28 := by decide +kernel
  obtain ⟨vm', X', step⟩ := Xs.arraycopy cx.1 cx.2.2.2.1 (hts _ w1) (hts _ w2) (hts _ w3) (hts _ w4) (src := a) (dst := b) (srcPos := nI i) (destPos := nI j) (n := nI m) (by rw [hT]; exact hc0) (by rw [hT]; exact hc1)
    (fun _ h => by cases h) (fun _ h => by cases h) (fun h => by cases h) (fun h => by cases h) hk0 hk1 hkk0 hkk1 (by simp [refKind, zTy]) (nI_pos (by omega)) (nI_pos (by omega)) (nI_pos (by omega))
    (by rw [nI_toInt (by omega), nI_toInt (by omega)]; show ¬ _ > ((arrV _ _ _).slots.size : Int); rw [arrV_size]; omega)
    (by rw [nI_toInt (by omega), nI_toInt (by omega)]; show ¬ _ > ((arrV _ _ _).slots.size : Int); rw [arrV_size]; omega)
    (fun vm₁ _ q hq => by
      rw [nm'] at hq
      have e : (arrV (Z.2.2.1 2) m0 (fun q => aV G V 2 a q)).slots.getD ((nI i).toNatClampNeg + q) .null = .long (V.2.2.2 a (i + q)) := by
        rw [ni, Array.getD_eq_getD_getElem?, arrV_read _ _ (by omega)]
        rfl
      rw [e]
      exact ⟨rfl, trivial⟩)
    (g := F0 X.2.2.2.2.2.1 pc ls (.int (nI m) :: .int (nI j) :: .ref b :: .int (nI i) :: .ref a :: st)) rfl (by show ls.size = _; rw [cx.2.2.1]; exact hl.1) (rest := st) rfl (by rw [cx.2.1]; exact d) (by omega) (by show 2 * 0 + _ + _ ≤ _; omega)
  have e1 : copied (arrV (Z.2.2.1 2) m0 (fun q => aV G V 2 a q)) (arrV (Z.2.2.1 2) m1 (fun q => aV G V 2 b q)) (nI i) (nI j) (nI m) = arrV (Z.2.2.1 2) m1 (fun q => .long (va_cpy (V.2.2.2 a) (V.2.2.2 b) i j m q)) := by
    have := va_copied (fun z : Int64 => Value.long z) (Z.2.2.1 2) (Z.2.2.1 2) (n0 := m0) (n1 := m1) (dp := j) (V.2.2.2 a) (V.2.2.2 b) hi
    unfold copied
    rw [ni, nj, nm']
    exact this
  rw [e1] at X' step
  have hlb : b < H.size := (Array.getElem?_eq_some_iff.mp hc1).1
  obtain ⟨H1, hH1⟩ : ∃ H1, H1 = H.setIfInBounds b (arrV (Z.2.2.1 2) m1 (fun q => .long (va_cpy (V.2.2.2 a) (V.2.2.2 b) i j m q))) := ⟨_, rfl⟩
  have hheap : ((T.setVm vm').setCell b (arrV (Z.2.2.1 2) m1 (fun q => .long (va_cpy (V.2.2.2 a) (V.2.2.2 b) i j m q)))).heap = H1 := by rw [hH1, ← hT]; rfl
  have oq : ∀ q : Nat, q ≠ b → H1[q]? = H[q]? := fun q hq => by rw [hH1]; simp [Array.getElem?_setIfInBounds, Ne.symm hq]
  have hz : H1.size = H.size := by rw [hH1]; simp
  have hnew : H1[b]? = some (arrV (Z.2.2.1 2) m1 (fun q => .long (va_cpy (V.2.2.2 a) (V.2.2.2 b) i j m q))) := by rw [hH1]; simp [Array.getElem?_setIfInBounds, hlb]
  have hM1 : MemOK Z G (rAJ V b j m (fun q => V.2.2.2 a (i + q))) H1 := by
    refine mem_put hM hb.1 rfl rfl hz oq ?_ (fun q hq => ⟨fun c i => rfl, fun t i' => ?_⟩) (fun q f hq => ?_)
    · unfold cOK
      rw [hb.2.2]
      refine ⟨fun h => absurd h (by omega), fun _ => ?_⟩
      rw [hnew]
      refine congrArg some (congrArg (arrV _ _) (funext fun q => ?_))
      show Value.long _ = Value.long (rw2 V.2.2.2 b j m (fun q => V.2.2.2 a (i + q)) b q)
      congr 1
      unfold va_cpy rw2
      by_cases hq : j ≤ q ∧ q < j + m
      · rw [if_pos hq, if_pos ⟨rfl, hq.1, hq.2⟩]
      · rw [if_neg hq, if_neg (fun h => hq ⟨h.2.1, h.2.2⟩)]
    · unfold aV rAJ
      dsimp only
      rw [rw2_ne hq]
    · obtain ⟨f1, f2, f3, f4, f5, f6⟩ := hM.2.2.2.1 q f hq
      refine ⟨f1, f2, f3, f4, ?_, f6⟩
      show rw2 V.2.2.2 b j m (fun q => V.2.2.2 a (i + q)) q f = 0
      have := hb.2.1
      rw [rw2_ne (by omega)]
      exact f5
  obtain ⟨t, a1, b1⟩ := kk H1 _ ls hM1 ⟨by rw [hz]; exact hS.1, fun q g1 g2 => by
      have hbZ := hb.1
      rw [oq q (fun e => g2 (by rw [e]; exact hbZ))]
      exact hS.2.1 q g1 g2, fun q hq => by
      rcases List.mem_append.mp hq with h | h
      · exact hS.2.2 q h
      · obtain ⟨z, -, hz⟩ := List.mem_map.mp h
        rw [← hz]
        exact hb.1⟩ hl _ hheap X'
  exact ⟨t, step t a1, b1⟩
end XS
end
section
section XW
variable {Z : zP} {X : xP} {nL : Nat} {G : zG} {V : zV} {k n : Nat} {Q : State → Prop} {pc : Nat} {lw : List (Nat × Option Value)} {st : List Value} {nm : String} {cc : ByteArray} {ret : Option FieldType} {D mc ms : Nat}
theorem df_X0 : ∀ i, i < 1 → defaultValue (tyX0 i) = (match fTag 0 i with | 0 => .int 0 | 1 => .long 0 | _ => .null) := by decide +kernel
theorem df_X1 : ∀ i, i < 15 → defaultValue (tyX1 i) = (match fTag 1 i with | 0 => .int 0 | 1 => .long 0 | _ => .null) := by decide +kernel
theorem df_X2 : ∀ i, i < 2 → defaultValue (tyX2 i) = (match fTag 2 i with | 0 => .int 0 | 1 => .long 0 | _ => .null) := by decide +kernel
theorem df_X3 : ∀ i, i < 4 → defaultValue (tyX3 i) = (match fTag 3 i with | 0 => .int 0 | 1 => .long 0 | _ => .null) := by decide +kernel
theorem df_X4 : ∀ i, i < 5 → defaultValue (tyX4 i) = (match fTag 4 i with | 0 => .int 0 | 1 => .long 0 | _ => .null) := by decide +kernel
theorem df_X5 : ∀ i, i < 8 → defaultValue (tyX5 i) = (match fTag 5 i with | 0 => .int 0 | 1 => .long 0 | _ => .null) := by decide +kernel
theorem df_X6 : ∀ i, i < 4 → defaultValue (tyX6 i) = (match fTag 6 i with | 0 => .int 0 | 1 => .long 0 | _ => .null) := by decide +kernel
theorem df_X7 : ∀ i, i < 12 → defaultValue (tyX7 i) = (match fTag 7 i with | 0 => .int 0 | 1 => .long 0 | _ => .null) := by decide +kernel
theorem df_X8 : ∀ i, i < 46 → defaultValue (tyX8 i) = (match fTag 8 i with | 0 => .int 0 | 1 => .long 0 | _ => .null) := by decide +kernel
theorem nX1_9 (cx : Cx Z X RX1 nm cc nL ret D mc ms) (d : decode cc pc = .ok (.new 9, 3)) (kk : Wm Z X nL (nG G 0 0) V (k + 1) (n + 1) Q (pc + 3) lw (.ref G.1 :: st)) (hk : k + 1 ≤ mc := by first | exact Nat.le_of_ble_eq_true rfl | omega) (hn : n + 1 ≤ ms := by first | exact Nat.le_of_ble_eq_true rfl | omega) : Wm Z X nL G V k n Q pc lw st := x_new (C := RX0) (T := TX0) (N := 1) (c := 0) tyX0 rfl inX0 tyX0_ok rfl (by decide) df_X0 kkX1_9 yn_X0 yi_RX0 cx d hk hn kk
theorem nX1_116 (cx : Cx Z X RX1 nm cc nL ret D mc ms) (d : decode cc pc = .ok (.new 116, 3)) (kk : Wm Z X nL (nG G 3 0) V (k + 1) (n + 4) Q (pc + 3) lw (.ref G.1 :: st)) (hk : k + 1 ≤ mc := by first | exact Nat.le_of_ble_eq_true rfl | omega) (hn : n + 4 ≤ ms := by first | exact Nat.le_of_ble_eq_true rfl | omega) : Wm Z X nL G V k n Q pc lw st := x_new (C := RX3) (T := TX3) (N := 4) (c := 3) tyX3 rfl inX3 tyX3_ok rfl (by decide) df_X3 kkX1_116 yn_X3 yi_RX3 cx d hk hn kk
theorem nX2_10 (cx : Cx Z X RX2 nm cc nL ret D mc ms) (d : decode cc pc = .ok (.new 10, 3)) (kk : Wm Z X nL (nG G 2 0) V (k + 1) (n + 2) Q (pc + 3) lw (.ref G.1 :: st)) (hk : k + 1 ≤ mc := by first | exact Nat.le_of_ble_eq_true rfl | omega) (hn : n + 2 ≤ ms := by first | exact Nat.le_of_ble_eq_true rfl | omega) : Wm Z X nL G V k n Q pc lw st := x_new (C := RX2) (T := TX2) (N := 2) (c := 2) tyX2 rfl inX2 tyX2_ok rfl (by decide) df_X2 kkX2_10 yn_X2 yi_RX2 cx d hk hn kk
theorem nX5_9 (cx : Cx Z X RX5 nm cc nL ret D mc ms) (d : decode cc pc = .ok (.new 9, 3)) (kk : Wm Z X nL (nG G 0 0) V (k + 1) (n + 1) Q (pc + 3) lw (.ref G.1 :: st)) (hk : k + 1 ≤ mc := by first | exact Nat.le_of_ble_eq_true rfl | omega) (hn : n + 1 ≤ ms := by first | exact Nat.le_of_ble_eq_true rfl | omega) : Wm Z X nL G V k n Q pc lw st := x_new (C := RX0) (T := TX0) (N := 1) (c := 0) tyX0 rfl inX0 tyX0_ok rfl (by decide) df_X0 kkX5_9 yn_X0 yi_RX0 cx d hk hn kk
theorem nrX6_9 {m : Nat} (cx : Cx Z X RX6 nm cc nL ret D mc ms) (d : decode cc pc = .ok (.anewarray 9, 3)) (hm : m < 65536) (kk : Wm Z X nL (nG G (9 + 3) m) V (k + 1) (n + m) Q (pc + 3) lw (.ref G.1 :: st)) (hk : k + 1 ≤ mc := by first | exact Nat.le_of_ble_eq_true rfl | omega) (hn : n + m ≤ ms := by first | exact Nat.le_of_ble_eq_true rfl | omega) : Wm Z X nL G V k n Q pc lw (.int (nI m) :: st) := x_anewarray (C := "SendTheBox$House") (t := 3) rfl (by decide) (by decide) kkX6_9 cx d hm hk hn kk
theorem nX6_21 (cx : Cx Z X RX6 nm cc nL ret D mc ms) (d : decode cc pc = .ok (.new 21, 3)) (kk : Wm Z X nL (nG G 5 0) V (k + 1) (n + 8) Q (pc + 3) lw (.ref G.1 :: st)) (hk : k + 1 ≤ mc := by first | exact Nat.le_of_ble_eq_true rfl | omega) (hn : n + 8 ≤ ms := by first | exact Nat.le_of_ble_eq_true rfl | omega) : Wm Z X nL G V k n Q pc lw st := x_new (C := RX5) (T := TX5) (N := 8) (c := 5) tyX5 rfl inX5 tyX5_ok rfl (by decide) df_X5 kkX6_21 yn_X5 yi_RX5 cx d hk hn kk
theorem nX6_9 (cx : Cx Z X RX6 nm cc nL ret D mc ms) (d : decode cc pc = .ok (.new 9, 3)) (kk : Wm Z X nL (nG G 0 0) V (k + 1) (n + 1) Q (pc + 3) lw (.ref G.1 :: st)) (hk : k + 1 ≤ mc := by first | exact Nat.le_of_ble_eq_true rfl | omega) (hn : n + 1 ≤ ms := by first | exact Nat.le_of_ble_eq_true rfl | omega) : Wm Z X nL G V k n Q pc lw st := x_new (C := RX0) (T := TX0) (N := 1) (c := 0) tyX0 rfl inX0 tyX0_ok rfl (by decide) df_X0 kkX6_9 yn_X0 yi_RX0 cx d hk hn kk
theorem nX7_7 (cx : Cx Z X RX7 nm cc nL ret D mc ms) (d : decode cc pc = .ok (.new 7, 3)) (kk : Wm Z X nL (nG G 6 0) V (k + 1) (n + 4) Q (pc + 3) lw (.ref G.1 :: st)) (hk : k + 1 ≤ mc := by first | exact Nat.le_of_ble_eq_true rfl | omega) (hn : n + 4 ≤ ms := by first | exact Nat.le_of_ble_eq_true rfl | omega) : Wm Z X nL G V k n Q pc lw st := x_new (C := RX6) (T := TX6) (N := 4) (c := 6) tyX6 rfl inX6 tyX6_ok rfl (by decide) df_X6 kkX7_7 yn_X6 yi_RX6 cx d hk hn kk
theorem nX7_19 (cx : Cx Z X RX7 nm cc nL ret D mc ms) (d : decode cc pc = .ok (.new 19, 3)) (kk : Wm Z X nL (nG G 4 0) V (k + 1) (n + 5) Q (pc + 3) lw (.ref G.1 :: st)) (hk : k + 1 ≤ mc := by first | exact Nat.le_of_ble_eq_true rfl | omega) (hn : n + 5 ≤ ms := by first | exact Nat.le_of_ble_eq_true rfl | omega) : Wm Z X nL G V k n Q pc lw st := x_new (C := RX4) (T := TX4) (N := 5) (c := 4) tyX4 rfl inX4 tyX4_ok rfl (by decide) df_X4 kkX7_19 yn_X4 yi_RX4 cx d hk hn kk
theorem nrX7_26 {m : Nat} (cx : Cx Z X RX7 nm cc nL ret D mc ms) (d : decode cc pc = .ok (.anewarray 26, 3)) (hm : m < 65536) (kk : Wm Z X nL (nG G (9 + 5) m) V (k + 1) (n + m) Q (pc + 3) lw (.ref G.1 :: st)) (hk : k + 1 ≤ mc := by first | exact Nat.le_of_ble_eq_true rfl | omega) (hn : n + m ≤ ms := by first | exact Nat.le_of_ble_eq_true rfl | omega) : Wm Z X nL G V k n Q pc lw (.int (nI m) :: st) := x_anewarray (C := "SendTheBox$Row") (t := 5) rfl (by decide) (by decide) kkX7_26 cx d hm hk hn kk
theorem nrX7_32 {m : Nat} (cx : Cx Z X RX7 nm cc nL ret D mc ms) (d : decode cc pc = .ok (.anewarray 32, 3)) (hm : m < 65536) (kk : Wm Z X nL (nG G (9 + 6) m) V (k + 1) (n + m) Q (pc + 3) lw (.ref G.1 :: st)) (hk : k + 1 ≤ mc := by first | exact Nat.le_of_ble_eq_true rfl | omega) (hn : n + m ≤ ms := by first | exact Nat.le_of_ble_eq_true rfl | omega) : Wm Z X nL G V k n Q pc lw (.int (nI m) :: st) := x_anewarray (C := "SendTheBox$Rule") (t := 6) rfl (by decide) (by decide) kkX7_32 cx d hm hk hn kk
theorem nrX7_42 {m : Nat} (cx : Cx Z X RX7 nm cc nL ret D mc ms) (d : decode cc pc = .ok (.anewarray 42, 3)) (hm : m < 65536) (kk : Wm Z X nL (nG G (9 + 4) m) V (k + 1) (n + m) Q (pc + 3) lw (.ref G.1 :: st)) (hk : k + 1 ≤ mc := by first | exact Nat.le_of_ble_eq_true rfl | omega) (hn : n + m ≤ ms := by first | exact Nat.le_of_ble_eq_true rfl | omega) : Wm Z X nL G V k n Q pc lw (.int (nI m) :: st) := x_anewarray (C := "SendTheBox$Plan") (t := 4) rfl (by decide) (by decide) kkX7_42 cx d hm hk hn kk
theorem nX7_42 (cx : Cx Z X RX7 nm cc nL ret D mc ms) (d : decode cc pc = .ok (.new 42, 3)) (kk : Wm Z X nL (nG G 1 0) V (k + 1) (n + 15) Q (pc + 3) lw (.ref G.1 :: st)) (hk : k + 1 ≤ mc := by first | exact Nat.le_of_ble_eq_true rfl | omega) (hn : n + 15 ≤ ms := by first | exact Nat.le_of_ble_eq_true rfl | omega) : Wm Z X nL G V k n Q pc lw st := x_new (C := RX1) (T := TX1) (N := 15) (c := 1) tyX1 rfl inX1 tyX1_ok rfl (by decide) df_X1 kkX7_42 yn_X1 yi_RX1 cx d hk hn kk
theorem nX7_56 (cx : Cx Z X RX7 nm cc nL ret D mc ms) (d : decode cc pc = .ok (.new 56, 3)) (kk : Wm Z X nL (nG G 0 0) V (k + 1) (n + 1) Q (pc + 3) lw (.ref G.1 :: st)) (hk : k + 1 ≤ mc := by first | exact Nat.le_of_ble_eq_true rfl | omega) (hn : n + 1 ≤ ms := by first | exact Nat.le_of_ble_eq_true rfl | omega) : Wm Z X nL G V k n Q pc lw st := x_new (C := RX0) (T := TX0) (N := 1) (c := 0) tyX0 rfl inX0 tyX0_ok rfl (by decide) df_X0 kkX7_56 yn_X0 yi_RX0 cx d hk hn kk
theorem nX7_63 (cx : Cx Z X RX7 nm cc nL ret D mc ms) (d : decode cc pc = .ok (.new 63, 3)) (kk : Wm Z X nL (nG G 5 0) V (k + 1) (n + 8) Q (pc + 3) lw (.ref G.1 :: st)) (hk : k + 1 ≤ mc := by first | exact Nat.le_of_ble_eq_true rfl | omega) (hn : n + 8 ≤ ms := by first | exact Nat.le_of_ble_eq_true rfl | omega) : Wm Z X nL G V k n Q pc lw st := x_new (C := RX5) (T := TX5) (N := 8) (c := 5) tyX5 rfl inX5 tyX5_ok rfl (by decide) df_X5 kkX7_63 yn_X5 yi_RX5 cx d hk hn kk
theorem nX7_26 (cx : Cx Z X RX7 nm cc nL ret D mc ms) (d : decode cc pc = .ok (.new 26, 3)) (kk : Wm Z X nL (nG G 2 0) V (k + 1) (n + 2) Q (pc + 3) lw (.ref G.1 :: st)) (hk : k + 1 ≤ mc := by first | exact Nat.le_of_ble_eq_true rfl | omega) (hn : n + 2 ≤ ms := by first | exact Nat.le_of_ble_eq_true rfl | omega) : Wm Z X nL G V k n Q pc lw st := x_new (C := RX2) (T := TX2) (N := 2) (c := 2) tyX2 rfl inX2 tyX2_ok rfl (by decide) df_X2 kkX7_26 yn_X2 yi_RX2 cx d hk hn kk
theorem nX7_32 (cx : Cx Z X RX7 nm cc nL ret D mc ms) (d : decode cc pc = .ok (.new 32, 3)) (kk : Wm Z X nL (nG G 3 0) V (k + 1) (n + 4) Q (pc + 3) lw (.ref G.1 :: st)) (hk : k + 1 ≤ mc := by first | exact Nat.le_of_ble_eq_true rfl | omega) (hn : n + 4 ≤ ms := by first | exact Nat.le_of_ble_eq_true rfl | omega) : Wm Z X nL G V k n Q pc lw st := x_new (C := RX3) (T := TX3) (N := 4) (c := 3) tyX3 rfl inX3 tyX3_ok rfl (by decide) df_X3 kkX7_32 yn_X3 yi_RX3 cx d hk hn kk
theorem nX8_8 (cx : Cx Z X RX8 nm cc nL ret D mc ms) (d : decode cc pc = .ok (.new 8, 3)) (kk : Wm Z X nL (nG G 8 0) V (k + 1) (n + 46) Q (pc + 3) lw (.ref G.1 :: st)) (hk : k + 1 ≤ mc := by first | exact Nat.le_of_ble_eq_true rfl | omega) (hn : n + 46 ≤ ms := by first | exact Nat.le_of_ble_eq_true rfl | omega) : Wm Z X nL G V k n Q pc lw st := x_new (C := RX8) (T := TX8) (N := 46) (c := 8) tyX8 rfl inX8 tyX8_ok rfl (by decide) df_X8 kkX8_8 yn_X8 yi_RX8 cx d hk hn kk
theorem nL_7 (cx : Cx Z X RL nm cc nL ret D mc ms) (d : decode cc pc = .ok (.new 7, 3)) (kk : Wm Z X nL (nG G 7 0) V (k + 1) (n + 12) Q (pc + 3) lw (.ref G.1 :: st)) (hk : k + 1 ≤ mc := by first | exact Nat.le_of_ble_eq_true rfl | omega) (hn : n + 12 ≤ ms := by first | exact Nat.le_of_ble_eq_true rfl | omega) : Wm Z X nL G V k n Q pc lw st := x_new (C := RX7) (T := TX7) (N := 12) (c := 7) tyX7 rfl inX7 tyX7_ok rfl (by decide) df_X7 kkL_7 yn_X7 yi_RX7 cx d hk hn kk
theorem nL_10 (cx : Cx Z X RL nm cc nL ret D mc ms) (d : decode cc pc = .ok (.new 10, 3)) (kk : Wm Z X nL (nG G 8 0) V (k + 1) (n + 46) Q (pc + 3) lw (.ref G.1 :: st)) (hk : k + 1 ≤ mc := by first | exact Nat.le_of_ble_eq_true rfl | omega) (hn : n + 46 ≤ ms := by first | exact Nat.le_of_ble_eq_true rfl | omega) : Wm Z X nL G V k n Q pc lw st := x_new (C := RX8) (T := TX8) (N := 46) (c := 8) tyX8 rfl inX8 tyX8_ok rfl (by decide) df_X8 kkL_10 yn_X8 yi_RX8 cx d hk hn kk
end XW
end
section
theorem zs_link : Cond.methodLink RX2 35 arraycopyName ∈ WA := wa (tt2 (j := 51) rfl) rfl
theorem zs_stat : Cond.static arraycopyName ∈ WA := wa (tt2 (j := 52) rfl) rfl
theorem zs_init : Cond.initialized "java/lang/System" ∈ WA := wa (tt1 (j := 9) rfl) rfl
/-! ROWS -/
def RowAt (Z : zP) (G : zG) (r m : Nat) : Prop := isK Z G r 2 ∧ G.2.2.1 101 r = some (r + 1) ∧ isA Z G (r + 1) 2 m ∧ m ≤ 125
/-- what an element keeps -/
def lowP (t : Nat) (v : Int64) : Int64 := match t with
  | 0 => v.toInt32.toInt8.toInt32.toInt64
  | 1 => v.toInt32.toInt16.toInt32.toInt64
  | 2 => v.toInt32.toInt64
  | 4 => if v = lN 0 then lN 0 else lN 1
  | _ => v
theorem isK_at {Z : zP} {G : zG} {c : Nat} (h : Z.1 ≤ G.1) : isK Z (nG G c 0) G.1 c := ⟨h, Nat.lt_succ_self _, by show (va_up G.2.1 G.1 (c, 0) G.1).1 = c; rw [va_up_self]⟩
theorem isA_at {Z : zP} {G : zG} {t m : Nat} (h : Z.1 ≤ G.1) : isA Z (nG G (9 + t) m) G.1 t m := ⟨h, Nat.lt_succ_self _, by show va_up G.2.1 G.1 (9 + t, m) G.1 = _; rw [va_up_self]⟩
theorem RowAt.new {Z : zP} {G : zG} {m : Nat} (h : Z.1 ≤ G.1) (hm : m ≤ 125) : RowAt Z (sR (nG (nG G 2 0) (9 + 2) m) 101 G.1 (some (G.1 + 1))) G.1 m :=
  ⟨isK_nG (t := 9 + 2) (m := m) (isK_at h), u2_same _ _ _ _, isA_at (G := nG G 2 0) (t := 2) (Nat.le_succ_of_le h), hm⟩
theorem RowAt.old {Z : zP} {G : zG} {r m q : Nat} (h : RowAt Z G r m) : RowAt Z (sR (nG (nG G 2 0) (9 + 2) q) 101 G.1 (some (G.1 + 1))) r m :=
  ⟨isK_nG (t := 9 + 2) (m := q) (isK_nG (t := 2) (m := 0) h.1), by show u2 G.2.2.1 101 G.1 (some (G.1 + 1)) 101 r = _; rw [u2_snd _ _ (Nat.ne_of_lt h.1.2.1)]; exact h.2.1, isA_nG (t := 9 + 2) (m := q) (isA_nG (t := 2) (m := 0) h.2.2.1), h.2.2.2⟩
theorem c_X2_init {l : Launch} {Z : zP} {G : zG} {V : zV} {r m : Nat} {t : Nat} (h0 : isK Z G r 2) (hr : G.1 = r + 1) (hm : m ≤ 125) : CT l Z yX2_init cX2_init 3 none 1 1 125 [.ref r, .int (nI t), .int (nI m)] G V (pV (sR (nG G (9 + 2) m) 101 r (some (r + 1))) (sI V 100 r (nI t))) := by
  refine CT.of (by decide +kernel) (Nat.le_of_ble_eq_true rfl) (fun X hX cx => ?_)
  subst hX
  show Wm Z X 3 G V 0 0 _ 0 [(0, some (.ref r)), (1, some (.int (nI t))), (2, some (.int (nI m)))] []
  refine x_aload_n (pc := 0) cx (dA ddX2_init (i := 0) rfl) rfl ?_
  refine x_objInit (pc := 1) koX2_3 ko_i ko_c cx (dA ddX2_init (i := 1) rfl) (by decide) (Nat.le_of_ble_eq_true rfl) ?_
  refine x_aload_n (pc := 4) cx (dA ddX2_init (i := 2) rfl) rfl ?_
  refine x_iload_n (pc := 5) cx (dA ddX2_init (i := 3) rfl) rfl ?_
  refine pX2_9 (pc := 6)  cx (dA ddX2_init (i := 4) rfl) h0 ?_
  refine x_aload_n (pc := 9) cx (dA ddX2_init (i := 5) rfl) rfl ?_
  refine x_iload_n (pc := 10) cx (dA ddX2_init (i := 6) rfl) rfl ?_
  refine x_if_le (pc := 11) (tgt := 18) cx (dA ddX2_init (i := 7) rfl) (by decide) (fun c11 => ?_) (fun c11 => ?_)
  · have c11 := cleT (b := 0) (by omega) (by omega) c11
    have em : m = 0 := by omega
    subst em
    refine x_iconst (pc := 18) (v := nI 0) cx (dA ddX2_init (i := 10) rfl) (by decide) ?_
    refine x_newJ (pc := 19) cx (dA ddX2_init (i := 11) rfl) (by omega) ?_
    rw [hr]
    refine pX2_15 (pc := 21) (x := some (r + 1)) cx (dA ddX2_init (i := 12) rfl) (isK_nG h0) ?_
    refine x_return (pc := 24) cx (dA ddX2_init (i := 13) rfl) (by first | exact Nat.le_of_ble_eq_true rfl | omega) (by first | exact Nat.le_of_ble_eq_true rfl | omega) ?_
    exact ⟨rfl, rfl, rfl⟩
  · refine x_iload_n (pc := 14) cx (dA ddX2_init (i := 8) rfl) rfl ?_
    refine x_goto (pc := 15) (tgt := 19) cx (dA ddX2_init (i := 9) rfl) (by decide) ?_
    refine x_newJ (pc := 19) cx (dA ddX2_init (i := 11) rfl) (by omega) ?_
    rw [hr]
    refine pX2_15 (pc := 21) (x := some (r + 1)) cx (dA ddX2_init (i := 12) rfl) (isK_nG h0) ?_
    refine x_return (pc := 24) cx (dA ddX2_init (i := 13) rfl) (by first | exact Nat.le_of_ble_eq_true rfl | omega) (by first | exact Nat.le_of_ble_eq_true rfl | omega) ?_
    exact ⟨rfl, rfl, rfl⟩
theorem c_X2_size {l : Launch} {Z : zP} {G : zG} {V : zV} {r m : Nat} (hR : RowAt Z G r m) : CT l Z yX2_size cX2_size 1 (some .int) 0 0 0 [.ref r] G V (pI (nI m) G V) := by
  refine CT.of (by decide +kernel) (Nat.le_of_ble_eq_true rfl) (fun X hX cx => ?_)
  subst hX
  show Wm Z X 1 G V 0 0 _ 0 [(0, some (.ref r))] []
  have h0 := hR.1
  have hA := hR.2.2.1
  have hm := hR.2.2.2
  refine x_aload_n (pc := 0) cx (dA ddX2_size (i := 0) rfl) rfl ?_
  refine gX2_15 (pc := 1) (rfA hR.2.1) cx (dA ddX2_size (i := 1) rfl) h0 ?_
  refine x_alen (pc := 4) cx (dA ddX2_size (i := 2) rfl) hA (by decide) ?_
  refine x_ireturn (pc := 5) cx (dA ddX2_size (i := 3) rfl) (by first | exact Nat.le_of_ble_eq_true rfl | omega) (by first | exact Nat.le_of_ble_eq_true rfl | omega) ?_
  exact rI rfl
theorem c_X2_hasPlace {l : Launch} {Z : zP} {G : zG} {V : zV} {r m : Nat} (hR : RowAt Z G r m) {x : Int32} : CT l Z yX2_hasPlace cX2_hasPlace 2 (some .boolean) 0 0 0 [.ref r, .int x] G V (pI (b2i (0 ≤ x.toInt ∧ x.toInt < m)) G V) := by
  refine CT.of (by decide +kernel) (Nat.le_of_ble_eq_true rfl) (fun X hX cx => ?_)
  subst hX
  show Wm Z X 2 G V 0 0 _ 0 [(0, some (.ref r)), (1, some (.int x))] []
  have h0 := hR.1
  have hA := hR.2.2.1
  have hm := hR.2.2.2
  refine x_iload_n (pc := 0) cx (dA ddX2_hasPlace (i := 0) rfl) rfl ?_
  refine x_if_lt (pc := 1) (tgt := 17) cx (dA ddX2_hasPlace (i := 1) rfl) (by decide) (fun c1 => ?_) (fun c1 => ?_)
  · refine x_iconst (pc := 17) (v := nI 0) cx (dA ddX2_hasPlace (i := 9) rfl) (by decide) ?_
    refine x_zreturn (pc := 18) cx (dA ddX2_hasPlace (i := 10) rfl) (by first | exact Nat.le_of_ble_eq_true rfl | omega) (by first | exact Nat.le_of_ble_eq_true rfl | omega) rfl ?_
    refine rI ?_
    have e8 : (nI m).toInt = m := nI_toInt (by omega)
    simp only [i32_lt, i32_le, toI_0] at c1
    try simp only [i32_lt, i32_le, toI_0, e8] at c10
    first | exact (b2i_t (by omega)).symm | exact (b2i_f (by omega)).symm
  · refine x_iload_n (pc := 4) cx (dA ddX2_hasPlace (i := 2) rfl) rfl ?_
    refine x_aload_n (pc := 5) cx (dA ddX2_hasPlace (i := 3) rfl) rfl ?_
    refine gX2_15 (pc := 6) (rfA hR.2.1) cx (dA ddX2_hasPlace (i := 4) rfl) h0 ?_
    refine x_alen (pc := 9) cx (dA ddX2_hasPlace (i := 5) rfl) hA (by decide) ?_
    refine x_icmp_ge (pc := 10) (tgt := 17) cx (dA ddX2_hasPlace (i := 6) rfl) (by decide) (fun c10 => ?_) (fun c10 => ?_)
    · refine x_iconst (pc := 17) (v := nI 0) cx (dA ddX2_hasPlace (i := 9) rfl) (by decide) ?_
      refine x_zreturn (pc := 18) cx (dA ddX2_hasPlace (i := 10) rfl) (by first | exact Nat.le_of_ble_eq_true rfl | omega) (by first | exact Nat.le_of_ble_eq_true rfl | omega) rfl ?_
      refine rI ?_
      have e8 : (nI m).toInt = m := nI_toInt (by omega)
      simp only [i32_lt, i32_le, toI_0] at c1
      try simp only [i32_lt, i32_le, toI_0, e8] at c10
      first | exact (b2i_t (by omega)).symm | exact (b2i_f (by omega)).symm
    · refine x_iconst (pc := 13) (v := nI 1) cx (dA ddX2_hasPlace (i := 7) rfl) (by decide) ?_
      refine x_goto (pc := 14) (tgt := 18) cx (dA ddX2_hasPlace (i := 8) rfl) (by decide) ?_
      refine x_zreturn (pc := 18) cx (dA ddX2_hasPlace (i := 10) rfl) (by first | exact Nat.le_of_ble_eq_true rfl | omega) (by first | exact Nat.le_of_ble_eq_true rfl | omega) rfl ?_
      refine rI ?_
      have e8 : (nI m).toInt = m := nI_toInt (by omega)
      simp only [i32_lt, i32_le, toI_0] at c1
      try simp only [i32_lt, i32_le, toI_0, e8] at c10
      first | exact (b2i_t (by omega)).symm | exact (b2i_f (by omega)).symm
theorem c_X2_hasRange {l : Launch} {Z : zP} {G : zG} {V : zV} {r m : Nat} (hR : RowAt Z G r m) {x y : Int32} : CT l Z yX2_hasRange cX2_hasRange 3 (some .boolean) 0 0 0 [.ref r, .int x, .int y] G V (pI (b2i (0 ≤ x.toInt ∧ 0 ≤ y.toInt ∧ x.toInt + y.toInt ≤ m)) G V) := by
  refine CT.of (by decide +kernel) (Nat.le_of_ble_eq_true rfl) (fun X hX cx => ?_)
  subst hX
  show Wm Z X 3 G V 0 0 _ 0 [(0, some (.ref r)), (1, some (.int x)), (2, some (.int y))] []
  have h0 := hR.1
  have hA := hR.2.2.1
  have hm := hR.2.2.2
  have e8 : (nI m).toInt = m := nI_toInt (by omega)
  refine x_iload_n (pc := 0) cx (dA ddX2_hasRange (i := 0) rfl) rfl ?_
  refine x_if_lt (pc := 1) (tgt := 32) cx (dA ddX2_hasRange (i := 1) rfl) (by decide) (fun c1 => ?_) (fun c1 => ?_)
  · refine x_iconst (pc := 32) (v := nI 0) cx (dA ddX2_hasRange (i := 18) rfl) (by decide) ?_
    refine x_zreturn (pc := 33) cx (dA ddX2_hasRange (i := 19) rfl) (by first | exact Nat.le_of_ble_eq_true rfl | omega) (by first | exact Nat.le_of_ble_eq_true rfl | omega) rfl ?_
    refine rI ?_
    simp only [i32_lt, i32_le, toI_0] at c1
    try simp only [i32_lt, i32_le, toI_0] at c5
    try simp only [i32_lt, i32_le, toI_0, e8] at c14
    try simp only [i32_lt, i32_le, hx] at c25
    first | exact (b2i_t (by omega)).symm | exact (b2i_f (by omega)).symm
  · refine x_iload_n (pc := 4) cx (dA ddX2_hasRange (i := 2) rfl) rfl ?_
    refine x_if_lt (pc := 5) (tgt := 32) cx (dA ddX2_hasRange (i := 3) rfl) (by decide) (fun c5 => ?_) (fun c5 => ?_)
    · refine x_iconst (pc := 32) (v := nI 0) cx (dA ddX2_hasRange (i := 18) rfl) (by decide) ?_
      refine x_zreturn (pc := 33) cx (dA ddX2_hasRange (i := 19) rfl) (by first | exact Nat.le_of_ble_eq_true rfl | omega) (by first | exact Nat.le_of_ble_eq_true rfl | omega) rfl ?_
      refine rI ?_
      simp only [i32_lt, i32_le, toI_0] at c1
      try simp only [i32_lt, i32_le, toI_0] at c5
      try simp only [i32_lt, i32_le, toI_0, e8] at c14
      try simp only [i32_lt, i32_le, hx] at c25
      first | exact (b2i_t (by omega)).symm | exact (b2i_f (by omega)).symm
    · refine x_iload_n (pc := 8) cx (dA ddX2_hasRange (i := 4) rfl) rfl ?_
      refine x_aload_n (pc := 9) cx (dA ddX2_hasRange (i := 5) rfl) rfl ?_
      refine gX2_15 (pc := 10) (rfA hR.2.1) cx (dA ddX2_hasRange (i := 6) rfl) h0 ?_
      refine x_alen (pc := 13) cx (dA ddX2_hasRange (i := 7) rfl) hA (by decide) ?_
      refine x_icmp_gt (pc := 14) (tgt := 32) cx (dA ddX2_hasRange (i := 8) rfl) (by decide) (fun c14 => ?_) (fun c14 => ?_)
      · refine x_iconst (pc := 32) (v := nI 0) cx (dA ddX2_hasRange (i := 18) rfl) (by decide) ?_
        refine x_zreturn (pc := 33) cx (dA ddX2_hasRange (i := 19) rfl) (by first | exact Nat.le_of_ble_eq_true rfl | omega) (by first | exact Nat.le_of_ble_eq_true rfl | omega) rfl ?_
        refine rI ?_
        simp only [i32_lt, i32_le, toI_0] at c1
        try simp only [i32_lt, i32_le, toI_0] at c5
        try simp only [i32_lt, i32_le, toI_0, e8] at c14
        try simp only [i32_lt, i32_le, hx] at c25
        first | exact (b2i_t (by omega)).symm | exact (b2i_f (by omega)).symm
      · have hx : (nI m - x).toInt = m - x.toInt := by
          have h1 : 0 ≤ x.toInt := by simp only [i32_lt, toI_0] at c1; omega
          have h2 : x.toInt ≤ m := by simp only [i32_lt, e8] at c14; omega
          obtain ⟨j, hj, rfl⟩ : ∃ j : Nat, j ≤ m ∧ x = nI j := ⟨x.toInt.toNat, by omega, Int32.toInt_inj.mp (by rw [nI_toInt (by omega)]; omega)⟩
          rw [pk_sub hj, nI_toInt (by omega), nI_toInt (by omega)]
          omega
        refine x_iload_n (pc := 17) cx (dA ddX2_hasRange (i := 9) rfl) rfl ?_
        refine x_aload_n (pc := 18) cx (dA ddX2_hasRange (i := 10) rfl) rfl ?_
        refine gX2_15 (pc := 19) (rfA hR.2.1) cx (dA ddX2_hasRange (i := 11) rfl) h0 ?_
        refine x_alen (pc := 22) cx (dA ddX2_hasRange (i := 12) rfl) hA (by decide) ?_
        refine x_iload_n (pc := 23) cx (dA ddX2_hasRange (i := 13) rfl) rfl ?_
        refine x_isub (pc := 24) cx (dA ddX2_hasRange (i := 14) rfl) ?_
        refine x_icmp_gt (pc := 25) (tgt := 32) cx (dA ddX2_hasRange (i := 15) rfl) (by decide) (fun c25 => ?_) (fun c25 => ?_)
        · refine x_iconst (pc := 32) (v := nI 0) cx (dA ddX2_hasRange (i := 18) rfl) (by decide) ?_
          refine x_zreturn (pc := 33) cx (dA ddX2_hasRange (i := 19) rfl) (by first | exact Nat.le_of_ble_eq_true rfl | omega) (by first | exact Nat.le_of_ble_eq_true rfl | omega) rfl ?_
          refine rI ?_
          simp only [i32_lt, i32_le, toI_0] at c1
          try simp only [i32_lt, i32_le, toI_0] at c5
          try simp only [i32_lt, i32_le, toI_0, e8] at c14
          try simp only [i32_lt, i32_le, hx] at c25
          first | exact (b2i_t (by omega)).symm | exact (b2i_f (by omega)).symm
        · refine x_iconst (pc := 28) (v := nI 1) cx (dA ddX2_hasRange (i := 16) rfl) (by decide) ?_
          refine x_goto (pc := 29) (tgt := 33) cx (dA ddX2_hasRange (i := 17) rfl) (by decide) ?_
          refine x_zreturn (pc := 33) cx (dA ddX2_hasRange (i := 19) rfl) (by first | exact Nat.le_of_ble_eq_true rfl | omega) (by first | exact Nat.le_of_ble_eq_true rfl | omega) rfl ?_
          refine rI ?_
          simp only [i32_lt, i32_le, toI_0] at c1
          try simp only [i32_lt, i32_le, toI_0] at c5
          try simp only [i32_lt, i32_le, toI_0, e8] at c14
          try simp only [i32_lt, i32_le, hx] at c25
          first | exact (b2i_t (by omega)).symm | exact (b2i_f (by omega)).symm
theorem c_X2_valueAt {l : Launch} {Z : zP} {G : zG} {V : zV} {r m : Nat} (hR : RowAt Z G r m) {x : Int32} : CT l Z yX2_valueAt cX2_valueAt 2 (some .long) 1 0 0 [.ref r, .int x] G V (pJ (atL V (r + 1) m x) G V) := by
  refine CT.of (by decide +kernel) (Nat.le_of_ble_eq_true rfl) (fun X hX cx => ?_)
  subst hX
  show Wm Z X 2 G V 0 0 _ 0 [(0, some (.ref r)), (1, some (.int x))] []
  have h0 := hR.1
  have hA := hR.2.2.1
  have hm := hR.2.2.2
  refine x_aload_n (pc := 0) cx (dA ddX2_valueAt (i := 0) rfl) rfl ?_
  refine gX2_15 (pc := 1) (rfA hR.2.1) cx (dA ddX2_valueAt (i := 1) rfl) h0 ?_
  refine x_iload_n (pc := 4) cx (dA ddX2_valueAt (i := 2) rfl) rfl ?_
  refine x_SN2 (pc := 5) mX2_19 (c_X7_at_ hA (by omega)) cx (dA ddX2_valueAt (i := 3) rfl) (kJ ?_)
  refine x_lreturn (pc := 8) cx (dA ddX2_valueAt (i := 4) rfl) (by first | exact Nat.le_of_ble_eq_true rfl | omega) (by first | exact Nat.le_of_ble_eq_true rfl | omega) ?_
  exact rJ rfl
theorem c_X2_lowestBits {l : Launch} {Z : zP} {G : zG} {V : zV} {r : Nat} (h0 : isK Z G r 2) {t : Nat} (ht : V.1 100 r = nI t) (h5 : t < 5) {v : Int64} : CT l Z yX2_lowestBits cX2_lowestBits 3 (some .long) 0 0 0 [.ref r, .long v] G V (pJ (lowP t v) G V) := by
  refine CT.of (by decide +kernel) (Nat.le_of_ble_eq_true rfl) (fun X hX cx => ?_)
  subst hX
  show Wm Z X 3 G V 0 0 _ 0 [(0, some (.ref r)), (1, some (.long v))] []
  refine x_aload_n (pc := 0) cx (dA ddX2_lowestBits (i := 0) rfl) rfl ?_
  refine gX2_9 (pc := 1) (congrArg Value.int ht) cx (dA ddX2_lowestBits (i := 1) rfl) h0 ?_
  by_cases c4_0 : nI t = 0
  · refine x_tabIn (pc := 4) (v := 0) (tgt := 40) cx (dA ddX2_lowestBits (i := 2) rfl) (by rw [c4_0]; decide) (by decide) (by decide) rfl (by decide) ?_
    refine x_lload_n (pc := 40) cx (dA ddX2_lowestBits (i := 3) rfl) rfl ?_
    refine x_l2i (pc := 41) cx (dA ddX2_lowestBits (i := 4) rfl) ?_
    refine x_i2b (pc := 42) cx (dA ddX2_lowestBits (i := 5) rfl) ?_
    refine x_i2l (pc := 43) cx (dA ddX2_lowestBits (i := 6) rfl) ?_
    refine x_lreturn (pc := 44) cx (dA ddX2_lowestBits (i := 7) rfl) (by first | exact Nat.le_of_ble_eq_true rfl | omega) (by first | exact Nat.le_of_ble_eq_true rfl | omega) ?_
    have e : t = 0 := nI_inj (by omega) (by omega) c4_0
    subst e
    exact rJ rfl
  by_cases c4_1 : nI t = 1
  · refine x_tabIn (pc := 4) (v := 1) (tgt := 45) cx (dA ddX2_lowestBits (i := 2) rfl) (by rw [c4_1]; decide) (by decide) (by decide) rfl (by decide) ?_
    refine x_lload_n (pc := 45) cx (dA ddX2_lowestBits (i := 8) rfl) rfl ?_
    refine x_l2i (pc := 46) cx (dA ddX2_lowestBits (i := 9) rfl) ?_
    refine x_i2s (pc := 47) cx (dA ddX2_lowestBits (i := 10) rfl) ?_
    refine x_i2l (pc := 48) cx (dA ddX2_lowestBits (i := 11) rfl) ?_
    refine x_lreturn (pc := 49) cx (dA ddX2_lowestBits (i := 12) rfl) (by first | exact Nat.le_of_ble_eq_true rfl | omega) (by first | exact Nat.le_of_ble_eq_true rfl | omega) ?_
    have e : t = 1 := nI_inj (by omega) (by omega) c4_1
    subst e
    exact rJ rfl
  by_cases c4_2 : nI t = 2
  · refine x_tabIn (pc := 4) (v := 2) (tgt := 50) cx (dA ddX2_lowestBits (i := 2) rfl) (by rw [c4_2]; decide) (by decide) (by decide) rfl (by decide) ?_
    refine x_lload_n (pc := 50) cx (dA ddX2_lowestBits (i := 13) rfl) rfl ?_
    refine x_l2i (pc := 51) cx (dA ddX2_lowestBits (i := 14) rfl) ?_
    refine x_i2l (pc := 52) cx (dA ddX2_lowestBits (i := 15) rfl) ?_
    refine x_lreturn (pc := 53) cx (dA ddX2_lowestBits (i := 16) rfl) (by first | exact Nat.le_of_ble_eq_true rfl | omega) (by first | exact Nat.le_of_ble_eq_true rfl | omega) ?_
    have e : t = 2 := nI_inj (by omega) (by omega) c4_2
    subst e
    exact rJ rfl
  by_cases c4_3 : nI t = 3
  · refine x_tabIn (pc := 4) (v := 3) (tgt := 66) cx (dA ddX2_lowestBits (i := 2) rfl) (by rw [c4_3]; decide) (by decide) (by decide) rfl (by decide) ?_
    refine x_lload_n (pc := 66) cx (dA ddX2_lowestBits (i := 25) rfl) rfl ?_
    refine x_lreturn (pc := 67) cx (dA ddX2_lowestBits (i := 26) rfl) (by first | exact Nat.le_of_ble_eq_true rfl | omega) (by first | exact Nat.le_of_ble_eq_true rfl | omega) ?_
    refine rJ ?_
    first
      | (have e : t = 3 := nI_inj (by omega) (by omega) c4_3; subst e; rfl)
      | (exfalso; rcases (show t = 0 ∨ t = 1 ∨ t = 2 ∨ t = 3 ∨ t = 4 by omega) with h | h | h | h | h; exact c4_0 (by rw [h]; rfl); exact c4_1 (by rw [h]; rfl); exact c4_2 (by rw [h]; rfl); exact c4_3 (by rw [h]; rfl); exact c4_4 (by rw [h]; rfl))
  by_cases c4_4 : nI t = 4
  · refine x_tabIn (pc := 4) (v := 4) (tgt := 54) cx (dA ddX2_lowestBits (i := 2) rfl) (by rw [c4_4]; decide) (by decide) (by decide) rfl (by decide) ?_
    refine x_lload_n (pc := 54) cx (dA ddX2_lowestBits (i := 17) rfl) rfl ?_
    refine x_lconst (pc := 55) (v := lN 0) cx (dA ddX2_lowestBits (i := 18) rfl) rfl ?_
    refine x_lc_eq (pc := 56) (tgt := 64) cx (dA ddX2_lowestBits (i := 19) rfl) (dA ddX2_lowestBits (i := 20) rfl) (by decide) (fun c56 => ?_) (fun c56 => ?_)
    · refine x_lconst (pc := 64) (v := lN 0) cx (dA ddX2_lowestBits (i := 23) rfl) rfl ?_
      refine x_lreturn (pc := 65) cx (dA ddX2_lowestBits (i := 24) rfl) (by first | exact Nat.le_of_ble_eq_true rfl | omega) (by first | exact Nat.le_of_ble_eq_true rfl | omega) ?_
      have e : t = 4 := nI_inj (by omega) (by omega) c4_4
      subst e
      refine rJ ?_
      unfold lowP
      first | exact (if_pos c56).symm | exact (if_neg c56).symm
    · refine x_lconst (pc := 60) (v := lN 1) cx (dA ddX2_lowestBits (i := 21) rfl) rfl ?_
      refine x_goto (pc := 61) (tgt := 65) cx (dA ddX2_lowestBits (i := 22) rfl) (by decide) ?_
      refine x_lreturn (pc := 65) cx (dA ddX2_lowestBits (i := 24) rfl) (by first | exact Nat.le_of_ble_eq_true rfl | omega) (by first | exact Nat.le_of_ble_eq_true rfl | omega) ?_
      have e : t = 4 := nI_inj (by omega) (by omega) c4_4
      subst e
      refine rJ ?_
      unfold lowP
      first | exact (if_pos c56).symm | exact (if_neg c56).symm
  refine x_tabOut (pc := 4) (tgt := 66) cx (dA ddX2_lowestBits (i := 2) rfl) (by have t0 := lv_neT (a := 0) c4_0 (by decide); have t1 := lv_neT (a := 1) c4_1 (by decide); have t2 := lv_neT (a := 2) c4_2 (by decide); have t3 := lv_neT (a := 3) c4_3 (by decide); have t4 := lv_neT (a := 4) c4_4 (by decide); omega) (by decide) ?_
  refine x_lload_n (pc := 66) cx (dA ddX2_lowestBits (i := 25) rfl) rfl ?_
  refine x_lreturn (pc := 67) cx (dA ddX2_lowestBits (i := 26) rfl) (by first | exact Nat.le_of_ble_eq_true rfl | omega) (by first | exact Nat.le_of_ble_eq_true rfl | omega) ?_
  refine rJ ?_
  first
    | (have e : t = 3 := nI_inj (by omega) (by omega) c4_3; subst e; rfl)
    | (exfalso; rcases (show t = 0 ∨ t = 1 ∨ t = 2 ∨ t = 3 ∨ t = 4 by omega) with h | h | h | h | h; exact c4_0 (by rw [h]; rfl); exact c4_1 (by rw [h]; rfl); exact c4_2 (by rw [h]; rfl); exact c4_3 (by rw [h]; rfl); exact c4_4 (by rw [h]; rfl))
theorem c_X2_put {l : Launch} {Z : zP} {G : zG} {V : zV} {r m : Nat} (hR : RowAt Z G r m) {t j : Nat} (ht : V.1 100 r = nI t) (h5 : t < 5) {v : Int64} (hj : j < m) : CT l Z yX2_put cX2_put 4 none 1 0 0 [.ref r, .int (nI j), .long v] G V (pV G (sAJ V (r + 1) j (lowP t v))) := by
  refine CT.of (by decide +kernel) (Nat.le_of_ble_eq_true rfl) (fun X hX cx => ?_)
  subst hX
  show Wm Z X 4 G V 0 0 _ 0 [(0, some (.ref r)), (1, some (.int (nI j))), (2, some (.long v))] []
  have h0 := hR.1
  have hA := hR.2.2.1
  have hm := hR.2.2.2
  refine x_aload_n (pc := 0) cx (dA ddX2_put (i := 0) rfl) rfl ?_
  refine x_iload_n (pc := 1) cx (dA ddX2_put (i := 1) rfl) rfl ?_
  refine x_V1 (pc := 2) mX2_23 h0 (c_X2_hasPlace hR) cx (dA ddX2_put (i := 2) rfl) (kI ?_)
  refine x_if_eq (pc := 5) (tgt := 19) cx (dA ddX2_put (i := 3) rfl) (by decide) (fun c5 => absurd c5 (fun q => b2i_eq q (by rw [nI_toInt (by omega)]; omega))) (fun c5 => ?_)
  refine x_aload_n (pc := 8) cx (dA ddX2_put (i := 4) rfl) rfl ?_
  refine gX2_15 (pc := 9) (rfA hR.2.1) cx (dA ddX2_put (i := 5) rfl) h0 ?_
  refine x_iload_n (pc := 12) cx (dA ddX2_put (i := 6) rfl) rfl ?_
  refine x_aload_n (pc := 13) cx (dA ddX2_put (i := 7) rfl) rfl ?_
  refine x_lload_n (pc := 14) cx (dA ddX2_put (i := 8) rfl) rfl ?_
  refine x_V1 (pc := 15) mX2_27 h0 (c_X2_lowestBits h0 ht h5) cx (dA ddX2_put (i := 9) rfl) (kJ ?_)
  refine x_lastore (pc := 18) cx (dA ddX2_put (i := 10) rfl) hA hj (by omega) ?_
  refine x_return (pc := 19) cx (dA ddX2_put (i := 11) rfl) (by first | exact Nat.le_of_ble_eq_true rfl | omega) (by first | exact Nat.le_of_ble_eq_true rfl | omega) ?_
  exact ⟨rfl, rfl, rfl⟩
theorem c_X2_take {l : Launch} {Z : zP} {G : zG} {V : zV} {r m : Nat} (hR : RowAt Z G r m) {f q i j n : Nat} (hF : RowAt Z G f q) (hi : i + n ≤ q) (hj : j + n ≤ m) : CT l Z yX2_take cX2_take 5 none 1 0 0 [.ref r, .ref f, .int (nI i), .int (nI j), .int (nI n)] G V (pV G (rAJ V (r + 1) j n (fun z => V.2.2.2 (f + 1) (i + z)))) := by
  refine CT.of (by decide +kernel) (Nat.le_of_ble_eq_true rfl) (fun X hX cx => ?_)
  subst hX
  show Wm Z X 5 G V 0 0 _ 0 [(0, some (.ref r)), (1, some (.ref f)), (2, some (.int (nI i))), (3, some (.int (nI j))), (4, some (.int (nI n)))] []
  have h0 := hR.1
  have hA := hR.2.2.1
  have hm := hR.2.2.2
  have f0 := hF.1
  have fA := hF.2.2.1
  have fm := hF.2.2.2
  have e1 : (nI i).toInt = i := nI_toInt (by omega)
  have e2 : (nI j).toInt = j := nI_toInt (by omega)
  have e3 : (nI n).toInt = n := nI_toInt (by omega)
  refine x_aload_n (pc := 0) cx (dA ddX2_take (i := 0) rfl) rfl ?_
  refine x_ifnull_s (pc := 1) cx (dA ddX2_take (i := 1) rfl) ?_
  refine x_aload_n (pc := 4) cx (dA ddX2_take (i := 2) rfl) rfl ?_
  refine x_iload_n (pc := 5) cx (dA ddX2_take (i := 3) rfl) rfl ?_
  refine x_iload (pc := 6) cx (dA ddX2_take (i := 4) rfl) rfl ?_
  refine x_V2 (pc := 8) mX2_31 f0 (c_X2_hasRange hF) cx (dA ddX2_take (i := 5) rfl) (kI ?_)
  refine x_if_eq (pc := 11) (tgt := 39) cx (dA ddX2_take (i := 6) rfl) (by decide) (fun c11 => absurd c11 (fun q => b2i_eq q (by omega))) (fun c11 => ?_)
  refine x_aload_n (pc := 14) cx (dA ddX2_take (i := 7) rfl) rfl ?_
  refine x_iload_n (pc := 15) cx (dA ddX2_take (i := 8) rfl) rfl ?_
  refine x_iload (pc := 16) cx (dA ddX2_take (i := 9) rfl) rfl ?_
  refine x_V2 (pc := 18) mX2_31 h0 (c_X2_hasRange hR) cx (dA ddX2_take (i := 10) rfl) (kI ?_)
  refine x_if_eq (pc := 21) (tgt := 39) cx (dA ddX2_take (i := 11) rfl) (by decide) (fun c21 => absurd c21 (fun q => b2i_eq q (by omega))) (fun c21 => ?_)
  refine x_aload_n (pc := 24) cx (dA ddX2_take (i := 12) rfl) rfl ?_
  refine gX2_15 (pc := 25) (rfA hF.2.1) cx (dA ddX2_take (i := 13) rfl) f0 ?_
  refine x_iload_n (pc := 28) cx (dA ddX2_take (i := 14) rfl) rfl ?_
  refine x_aload_n (pc := 29) cx (dA ddX2_take (i := 15) rfl) rfl ?_
  refine gX2_15 (pc := 30) (rfA hR.2.1) cx (dA ddX2_take (i := 16) rfl) h0 ?_
  refine x_iload_n (pc := 33) cx (dA ddX2_take (i := 17) rfl) rfl ?_
  refine x_iload (pc := 34) cx (dA ddX2_take (i := 18) rfl) rfl ?_
  refine x_copyJ (pc := 36) zs_link (wa zs_native rfl) zs_stat zs_init cx (dA ddX2_take (i := 19) rfl) fA hA hi hj (by omega) (by omega) (by decide) (Nat.le_of_ble_eq_true rfl) ?_
  refine x_return (pc := 39) cx (dA ddX2_take (i := 20) rfl) (by first | exact Nat.le_of_ble_eq_true rfl | omega) (by first | exact Nat.le_of_ble_eq_true rfl | omega) ?_
  exact ⟨rfl, rfl, rfl⟩
theorem c_X2_twin {l : Launch} {Z : zP} {G : zG} {V : zV} {r m : Nat} (hR : RowAt Z G r m) {t : Nat} (ht : V.1 100 r = nI t) : CT l Z yX2_twin cX2_twin 2 (some (.object "SendTheBox$Row")) 2 2 127 [.ref r] G V (pR (some G.1) (sR (nG (nG G 2 0) (9 + 2) m) 101 G.1 (some (G.1 + 1))) (rAJ (sI V 100 G.1 (nI t)) (G.1 + 1) 0 m (fun z => V.2.2.2 (r + 1) z))) := by
  refine CT.of (by decide +kernel) (Nat.le_of_ble_eq_true rfl) (fun X hX cx => ?_)
  subst hX
  show Wm Z X 2 G V 0 0 _ 0 [(0, some (.ref r))] []
  have h0 := hR.1
  have hA := hR.2.2.1
  have hm := hR.2.2.2
  have gz : Z.1 ≤ G.1 := Nat.le_trans h0.1 (Nat.le_of_lt h0.2.1)
  have rl := h0.2.1
  have nR := RowAt.new (m := m) gz hm
  have rR : RowAt Z (sR (nG (nG G 2 0) (9 + 2) m) 101 G.1 (some (G.1 + 1))) r m := RowAt.old hR
  refine nX2_10 (pc := 0) cx (dA ddX2_twin (i := 0) rfl) ?_
  refine x_dup (pc := 3) cx rfl (dA ddX2_twin (i := 1) rfl) ?_
  refine x_aload_n (pc := 4) cx (dA ddX2_twin (i := 2) rfl) rfl ?_
  refine gX2_9 (pc := 5) (congrArg Value.int ht) cx (dA ddX2_twin (i := 3) rfl) (isK_nG h0) ?_
  refine x_aload_n (pc := 8) cx (dA ddX2_twin (i := 4) rfl) rfl ?_
  refine gX2_15 (pc := 9) (rfA hR.2.1) cx (dA ddX2_twin (i := 5) rfl) (isK_nG h0) ?_
  refine x_alen (pc := 12) cx (dA ddX2_twin (i := 6) rfl) (isA_nG hA) (by decide) ?_
  refine x_I2 (pc := 13) mX2_41 (c_X2_init (isK_at gz) rfl hm) cx (dA ddX2_twin (i := 7) rfl) (kV ?_)
  refine x_astore_n (pc := 16) cx (dA ddX2_twin (i := 8) rfl) (by decide) rfl ?_
  refine x_aload_n (pc := 17) cx (dA ddX2_twin (i := 9) rfl) rfl ?_
  refine x_aload_n (pc := 18) cx (dA ddX2_twin (i := 10) rfl) rfl ?_
  refine x_iconst (pc := 19) (v := nI 0) cx (dA ddX2_twin (i := 11) rfl) (by decide) ?_
  refine x_iconst (pc := 20) (v := nI 0) cx (dA ddX2_twin (i := 12) rfl) (by decide) ?_
  refine x_aload_n (pc := 21) cx (dA ddX2_twin (i := 13) rfl) rfl ?_
  refine gX2_15 (pc := 22) (rfA rR.2.1) cx (dA ddX2_twin (i := 14) rfl) rR.1 ?_
  refine x_alen (pc := 25) cx (dA ddX2_twin (i := 15) rfl) rR.2.2.1 (by decide) ?_
  refine x_V4 (pc := 26) mX2_44 nR.1 (c_X2_take (i := 0) (j := 0) nR rR (by omega) (by omega)) cx (dA ddX2_twin (i := 16) rfl) (kV ?_)
  refine x_aload_n (pc := 29) cx (dA ddX2_twin (i := 17) rfl) rfl ?_
  refine x_areturn (pc := 30) (o := some G.1) cx (dA ddX2_twin (i := 18) rfl) (by first | exact Nat.le_of_ble_eq_true rfl | omega) (by first | exact Nat.le_of_ble_eq_true rfl | omega) ?_
  refine ⟨rfl, rfl, ?_⟩
  simp only [Nat.zero_add]
  rfl
end
section
/-! RULES: of a kind κ, by b; one told has m elements, f says which are not 0 -/
def RuleAt (Z : zP) (G : zG) (V : zV) (q κ b m : Nat) (f : Nat → Bool) : Prop := isK Z G q 3 ∧ V.1 150 q = nI κ ∧ (1 ≤ κ ∧ κ ≤ 5) ∧ (κ = 1 → V.1 151 q = nI b ∧ b ≤ 99) ∧ (κ = 2 → V.1 152 q = nI b ∧ 1 ≤ b ∧ b ≤ 6) ∧
  (κ = 3 → V.1 151 q = nI (b / 10) ∧ V.1 152 q = nI (b % 10) ∧ b / 10 ≤ 99 ∧ 1 ≤ b % 10 ∧ b % 10 ≤ 6) ∧ (κ = 5 → ∃ t, G.2.2.1 153 q = some t ∧ RowAt Z G t m ∧ ∀ i, i < m → (V.2.2.2 (t + 1) i = 0 ↔ f i = false))
def saysP (κ b m w : Nat) : Nat := match w with
  | 0 => 0
  | 1 => if κ = 3 then b / 10 else b
  | 2 => b
  | 3 => b % 10
  | 4 => 1
  | _ => m
/-- whether the box is filled: with a days left, in state s, c room standing -/
def fillsP (κ b m : Nat) (f : Nat → Bool) (a s c : Nat) : Bool := match κ with
  | 1 => decide (b ≤ c)
  | 2 => decide (a % b = 0)
  | 3 => decide (b / 10 ≤ c) || decide (a % (b % 10) = 0)
  | 5 => decide (s < m) && f s
  | _ => false
theorem c_X3_init_n {l : Launch} {Z : zP} {G : zG} {V : zV} {q : Nat} (h0 : isK Z G q 3) {κ : Nat} {x : Int32} (h6 : κ < 6) (hk : κ ≠ 3) : CT l Z yX3_init cX3_init 4 none 3 3 131 [.ref q, .int (nI κ), .int x, .null] G V (pV (sR G 153 q none) (sI (sI (sI V 150 q (nI κ)) 151 q x) 152 q x)) := by
  refine CT.of (by decide +kernel) (Nat.le_of_ble_eq_true rfl) (fun X hX cx => ?_)
  subst hX
  show Wm Z X 4 G V 0 0 _ 0 [(0, some (.ref q)), (1, some (.int (nI κ))), (2, some (.int x)), (3, some (.null))] []
  refine x_aload_n (pc := 0) cx (dA ddX3_init (i := 0) rfl) rfl ?_
  refine x_objInit (pc := 1) koX3_3 ko_i ko_c cx (dA ddX3_init (i := 1) rfl) (by decide) (Nat.le_of_ble_eq_true rfl) ?_
  refine x_aload_n (pc := 4) cx (dA ddX3_init (i := 2) rfl) rfl ?_
  refine x_iload_n (pc := 5) cx (dA ddX3_init (i := 3) rfl) rfl ?_
  refine pX3_9 (pc := 6)  cx (dA ddX3_init (i := 4) rfl) h0 ?_
  refine x_aload_n (pc := 9) cx (dA ddX3_init (i := 5) rfl) rfl ?_
  refine x_iload_n (pc := 10) cx (dA ddX3_init (i := 6) rfl) rfl ?_
  refine x_iconst (pc := 11) (v := nI 3) cx (dA ddX3_init (i := 7) rfl) (by decide) ?_
  refine x_icmp_ne (pc := 12) (tgt := 22) cx (dA ddX3_init (i := 8) rfl) (by decide) (fun c12 => ?_) (fun c12 => absurd c12 (fun e => hk (nI_inj (by omega) (by omega) e)))
  refine x_iload_n (pc := 22) cx (dA ddX3_init (i := 13) rfl) rfl ?_
  refine pX3_15 (pc := 23)  cx (dA ddX3_init (i := 14) rfl) h0 ?_
  refine x_aload_n (pc := 26) cx (dA ddX3_init (i := 15) rfl) rfl ?_
  refine x_iload_n (pc := 27) cx (dA ddX3_init (i := 16) rfl) rfl ?_
  refine x_iconst (pc := 28) (v := nI 3) cx (dA ddX3_init (i := 17) rfl) (by decide) ?_
  refine x_icmp_ne (pc := 29) (tgt := 39) cx (dA ddX3_init (i := 18) rfl) (by decide) (fun c29 => ?_) (fun c29 => absurd c29 (fun e => hk (nI_inj (by omega) (by omega) e)))
  refine x_iload_n (pc := 39) cx (dA ddX3_init (i := 23) rfl) rfl ?_
  refine pX3_18 (pc := 40)  cx (dA ddX3_init (i := 24) rfl) h0 ?_
  refine x_aload_n (pc := 43) cx (dA ddX3_init (i := 25) rfl) rfl ?_
  refine x_aload_nN (pc := 44) cx (dA ddX3_init (i := 26) rfl) rfl ?_
  refine x_ifnonnull_n (pc := 45) cx (dA ddX3_init (i := 27) rfl) ?_
  refine x_null (pc := 48) cx (dA ddX3_init (i := 28) rfl) ?_
  refine x_goto (pc := 49) (tgt := 56) cx (dA ddX3_init (i := 29) rfl) (by decide) ?_
  refine pX3_27 (pc := 56) (x := none) cx (dA ddX3_init (i := 32) rfl) h0 ?_
  refine x_return (pc := 59) cx (dA ddX3_init (i := 33) rfl) (by first | exact Nat.le_of_ble_eq_true rfl | omega) (by first | exact Nat.le_of_ble_eq_true rfl | omega) ?_
  exact ⟨rfl, rfl, rfl⟩
theorem c_X3_init_b {l : Launch} {Z : zP} {G : zG} {V : zV} {q : Nat} (h0 : isK Z G q 3) {b : Nat} (hb : b < 1000) : CT l Z yX3_init cX3_init 4 none 3 3 131 [.ref q, .int (nI 3), .int (nI b), .null] G V (pV (sR G 153 q none) (sI (sI (sI V 150 q (nI 3)) 151 q (nI (b / 10))) 152 q (nI (b % 10)))) := by
  refine CT.of (by decide +kernel) (Nat.le_of_ble_eq_true rfl) (fun X hX cx => ?_)
  subst hX
  show Wm Z X 4 G V 0 0 _ 0 [(0, some (.ref q)), (1, some (.int (nI 3))), (2, some (.int (nI b))), (3, some (.null))] []
  refine x_aload_n (pc := 0) cx (dA ddX3_init (i := 0) rfl) rfl ?_
  refine x_objInit (pc := 1) koX3_3 ko_i ko_c cx (dA ddX3_init (i := 1) rfl) (by decide) (Nat.le_of_ble_eq_true rfl) ?_
  refine x_aload_n (pc := 4) cx (dA ddX3_init (i := 2) rfl) rfl ?_
  refine x_iload_n (pc := 5) cx (dA ddX3_init (i := 3) rfl) rfl ?_
  refine pX3_9 (pc := 6)  cx (dA ddX3_init (i := 4) rfl) h0 ?_
  refine x_aload_n (pc := 9) cx (dA ddX3_init (i := 5) rfl) rfl ?_
  refine x_iload_n (pc := 10) cx (dA ddX3_init (i := 6) rfl) rfl ?_
  refine x_iconst (pc := 11) (v := nI 3) cx (dA ddX3_init (i := 7) rfl) (by decide) ?_
  refine x_icmp_ne (pc := 12) (tgt := 22) cx (dA ddX3_init (i := 8) rfl) (by decide) (fun c12 => absurd rfl c12) (fun c12 => ?_)
  refine x_iload_n (pc := 15) cx (dA ddX3_init (i := 9) rfl) rfl ?_
  refine x_bipush (pc := 16) (v := nI 10) cx (dA ddX3_init (i := 10) rfl) (by decide) ?_
  refine x_idiv (pc := 18) cx (by decide) (dA ddX3_init (i := 11) rfl) ?_
  refine x_goto (pc := 19) (tgt := 23) cx (dA ddX3_init (i := 12) rfl) (by decide) ?_
  rw [div32 (by omega) (by omega) (by omega)]
  refine pX3_15 (pc := 23)  cx (dA ddX3_init (i := 14) rfl) h0 ?_
  refine x_aload_n (pc := 26) cx (dA ddX3_init (i := 15) rfl) rfl ?_
  refine x_iload_n (pc := 27) cx (dA ddX3_init (i := 16) rfl) rfl ?_
  refine x_iconst (pc := 28) (v := nI 3) cx (dA ddX3_init (i := 17) rfl) (by decide) ?_
  refine x_icmp_ne (pc := 29) (tgt := 39) cx (dA ddX3_init (i := 18) rfl) (by decide) (fun c29 => absurd rfl c29) (fun c29 => ?_)
  refine x_iload_n (pc := 32) cx (dA ddX3_init (i := 19) rfl) rfl ?_
  refine x_bipush (pc := 33) (v := nI 10) cx (dA ddX3_init (i := 20) rfl) (by decide) ?_
  refine x_irem (pc := 35) cx (by decide) (dA ddX3_init (i := 21) rfl) ?_
  refine x_goto (pc := 36) (tgt := 40) cx (dA ddX3_init (i := 22) rfl) (by decide) ?_
  rw [rem32 (by omega) (by omega) (by omega)]
  refine pX3_18 (pc := 40)  cx (dA ddX3_init (i := 24) rfl) h0 ?_
  refine x_aload_n (pc := 43) cx (dA ddX3_init (i := 25) rfl) rfl ?_
  refine x_aload_nN (pc := 44) cx (dA ddX3_init (i := 26) rfl) rfl ?_
  refine x_ifnonnull_n (pc := 45) cx (dA ddX3_init (i := 27) rfl) ?_
  refine x_null (pc := 48) cx (dA ddX3_init (i := 28) rfl) ?_
  refine x_goto (pc := 49) (tgt := 56) cx (dA ddX3_init (i := 29) rfl) (by decide) ?_
  refine pX3_27 (pc := 56) (x := none) cx (dA ddX3_init (i := 32) rfl) h0 ?_
  refine x_return (pc := 59) cx (dA ddX3_init (i := 33) rfl) (by first | exact Nat.le_of_ble_eq_true rfl | omega) (by first | exact Nat.le_of_ble_eq_true rfl | omega) ?_
  exact ⟨rfl, rfl, rfl⟩
theorem c_X3_init_t {l : Launch} {Z : zP} {G : zG} {V : zV} {q : Nat} (h0 : isK Z G q 3) {x : Int32} {r m t : Nat} (hT : RowAt Z G r m) (ht : V.1 100 r = nI t) : CT l Z yX3_init cX3_init 4 none 3 3 131 [.ref q, .int (nI 5), .int x, .ref r] G V (pV (sR (sR (nG (nG G 2 0) (9 + 2) m) 101 G.1 (some (G.1 + 1))) 153 q (some G.1)) (rAJ (sI (sI (sI (sI V 150 q (nI 5)) 151 q x) 152 q x) 100 G.1 (nI t)) (G.1 + 1) 0 m (fun z => V.2.2.2 (r + 1) z))) := by
  refine CT.of (by decide +kernel) (Nat.le_of_ble_eq_true rfl) (fun X hX cx => ?_)
  subst hX
  show Wm Z X 4 G V 0 0 _ 0 [(0, some (.ref q)), (1, some (.int (nI 5))), (2, some (.int x)), (3, some (.ref r))] []
  have ht : (sI (sI (sI V 150 q (nI 5)) 151 q x) 152 q x).1 100 r = nI t := by
    show u2 (u2 (u2 V.1 150 q (nI 5)) 151 q x) 152 q x 100 r = nI t
    rw [u2_fst _ _ (by decide), u2_fst _ _ (by decide), u2_fst _ _ (by decide)]
    exact ht
  refine x_aload_n (pc := 0) cx (dA ddX3_init (i := 0) rfl) rfl ?_
  refine x_objInit (pc := 1) koX3_3 ko_i ko_c cx (dA ddX3_init (i := 1) rfl) (by decide) (Nat.le_of_ble_eq_true rfl) ?_
  refine x_aload_n (pc := 4) cx (dA ddX3_init (i := 2) rfl) rfl ?_
  refine x_iload_n (pc := 5) cx (dA ddX3_init (i := 3) rfl) rfl ?_
  refine pX3_9 (pc := 6)  cx (dA ddX3_init (i := 4) rfl) h0 ?_
  refine x_aload_n (pc := 9) cx (dA ddX3_init (i := 5) rfl) rfl ?_
  refine x_iload_n (pc := 10) cx (dA ddX3_init (i := 6) rfl) rfl ?_
  refine x_iconst (pc := 11) (v := nI 3) cx (dA ddX3_init (i := 7) rfl) (by decide) ?_
  refine x_icmp_ne (pc := 12) (tgt := 22) cx (dA ddX3_init (i := 8) rfl) (by decide) (fun c12 => ?_) (fun c12 => absurd c12 (by decide))
  refine x_iload_n (pc := 22) cx (dA ddX3_init (i := 13) rfl) rfl ?_
  refine pX3_15 (pc := 23)  cx (dA ddX3_init (i := 14) rfl) h0 ?_
  refine x_aload_n (pc := 26) cx (dA ddX3_init (i := 15) rfl) rfl ?_
  refine x_iload_n (pc := 27) cx (dA ddX3_init (i := 16) rfl) rfl ?_
  refine x_iconst (pc := 28) (v := nI 3) cx (dA ddX3_init (i := 17) rfl) (by decide) ?_
  refine x_icmp_ne (pc := 29) (tgt := 39) cx (dA ddX3_init (i := 18) rfl) (by decide) (fun c29 => ?_) (fun c29 => absurd c29 (by decide))
  refine x_iload_n (pc := 39) cx (dA ddX3_init (i := 23) rfl) rfl ?_
  refine pX3_18 (pc := 40)  cx (dA ddX3_init (i := 24) rfl) h0 ?_
  refine x_aload_n (pc := 43) cx (dA ddX3_init (i := 25) rfl) rfl ?_
  refine x_aload_n (pc := 44) cx (dA ddX3_init (i := 26) rfl) rfl ?_
  refine x_ifnonnull_s (pc := 45) (tgt := 52) cx (dA ddX3_init (i := 27) rfl) (by decide) ?_
  refine x_aload_n (pc := 52) cx (dA ddX3_init (i := 30) rfl) rfl ?_
  refine x_V0 (pc := 53) mX3_21 hT.1 (c_X2_twin (V := (sI (sI (sI V 150 q (nI 5)) 151 q x) 152 q x)) hT ht) cx (dA ddX3_init (i := 31) rfl) (kR ?_)
  have gq := h0.2.1
  refine pX3_27 (pc := 56) (x := some G.1) cx (dA ddX3_init (i := 32) rfl) (isK_nG (isK_nG h0)) ?_
  refine x_return (pc := 59) cx (dA ddX3_init (i := 33) rfl) (by first | exact Nat.le_of_ble_eq_true rfl | omega) (by first | exact Nat.le_of_ble_eq_true rfl | omega) ?_
  exact ⟨rfl, rfl, rfl⟩
theorem c_X3_isOfKind {l : Launch} {Z : zP} {G : zG} {V : zV} {q : Nat} {κ b m : Nat} {f : Nat → Bool} (hR : RuleAt Z G V q κ b m f) {w : Nat} (hw : w < 6) : CT l Z yX3_isOfKind cX3_isOfKind 2 (some .boolean) 0 0 0 [.ref q, .int (nI w)] G V (pI (b2i (w = 0 ∨ w = κ ∨ (w = 1 ∧ κ = 3))) G V) := by
  refine CT.of (by decide +kernel) (Nat.le_of_ble_eq_true rfl) (fun X hX cx => ?_)
  subst hX
  show Wm Z X 2 G V 0 0 _ 0 [(0, some (.ref q)), (1, some (.int (nI w)))] []
  have h0 := hR.1
  have hκ := hR.2.1
  have k1 := hR.2.2.1
  refine x_iload_n (pc := 0) cx (dA ddX3_isOfKind (i := 0) rfl) rfl ?_
  refine x_if_eq (pc := 1) (tgt := 25) cx (dA ddX3_isOfKind (i := 1) rfl) (by decide) (fun c1 => ?_) (fun c1 => ?_)
  · have c1 : w = 0 := nI_inj (by omega) (by omega) c1
    refine x_iconst (pc := 25) (v := nI 1) cx (dA ddX3_isOfKind (i := 13) rfl) (by decide) ?_
    refine x_goto (pc := 26) (tgt := 30) cx (dA ddX3_isOfKind (i := 14) rfl) (by decide) ?_
    refine x_zreturn (pc := 30) cx (dA ddX3_isOfKind (i := 16) rfl) (by first | exact Nat.le_of_ble_eq_true rfl | omega) (by first | exact Nat.le_of_ble_eq_true rfl | omega) rfl ?_
    refine rI ?_
    first | exact (b2i_t (by omega)).symm | exact (b2i_f (by omega)).symm
  · have c1 : w ≠ 0 := fun e => c1 (by rw [e]; rfl)
    refine x_iload_n (pc := 4) cx (dA ddX3_isOfKind (i := 2) rfl) rfl ?_
    refine x_aload_n (pc := 5) cx (dA ddX3_isOfKind (i := 3) rfl) rfl ?_
    refine gX3_9 (pc := 6) (congrArg Value.int hκ) cx (dA ddX3_isOfKind (i := 4) rfl) h0 ?_
    refine x_icmp_eq (pc := 9) (tgt := 25) cx (dA ddX3_isOfKind (i := 5) rfl) (by decide) (fun c9 => ?_) (fun c9 => ?_)
    · have c9 := ceqT (by omega) (by omega) c9
      refine x_iconst (pc := 25) (v := nI 1) cx (dA ddX3_isOfKind (i := 13) rfl) (by decide) ?_
      refine x_goto (pc := 26) (tgt := 30) cx (dA ddX3_isOfKind (i := 14) rfl) (by decide) ?_
      refine x_zreturn (pc := 30) cx (dA ddX3_isOfKind (i := 16) rfl) (by first | exact Nat.le_of_ble_eq_true rfl | omega) (by first | exact Nat.le_of_ble_eq_true rfl | omega) rfl ?_
      refine rI ?_
      first | exact (b2i_t (by omega)).symm | exact (b2i_f (by omega)).symm
    · have c9 := ceqF (by omega) (by omega) c9
      refine x_iload_n (pc := 12) cx (dA ddX3_isOfKind (i := 6) rfl) rfl ?_
      refine x_iconst (pc := 13) (v := nI 1) cx (dA ddX3_isOfKind (i := 7) rfl) (by decide) ?_
      refine x_icmp_ne (pc := 14) (tgt := 29) cx (dA ddX3_isOfKind (i := 8) rfl) (by decide) (fun c14 => ?_) (fun c14 => ?_)
      · have c14 := ceqF (by omega) (by omega) c14
        refine x_iconst (pc := 29) (v := nI 0) cx (dA ddX3_isOfKind (i := 15) rfl) (by decide) ?_
        refine x_zreturn (pc := 30) cx (dA ddX3_isOfKind (i := 16) rfl) (by first | exact Nat.le_of_ble_eq_true rfl | omega) (by first | exact Nat.le_of_ble_eq_true rfl | omega) rfl ?_
        refine rI ?_
        first | exact (b2i_t (by omega)).symm | exact (b2i_f (by omega)).symm
      · have c14 := ceqT (by omega) (by omega) c14
        refine x_aload_n (pc := 17) cx (dA ddX3_isOfKind (i := 9) rfl) rfl ?_
        refine gX3_9 (pc := 18) (congrArg Value.int hκ) cx (dA ddX3_isOfKind (i := 10) rfl) h0 ?_
        refine x_iconst (pc := 21) (v := nI 3) cx (dA ddX3_isOfKind (i := 11) rfl) (by decide) ?_
        refine x_icmp_ne (pc := 22) (tgt := 29) cx (dA ddX3_isOfKind (i := 12) rfl) (by decide) (fun c22 => ?_) (fun c22 => ?_)
        · have c22 := ceqF (by omega) (by omega) c22
          refine x_iconst (pc := 29) (v := nI 0) cx (dA ddX3_isOfKind (i := 15) rfl) (by decide) ?_
          refine x_zreturn (pc := 30) cx (dA ddX3_isOfKind (i := 16) rfl) (by first | exact Nat.le_of_ble_eq_true rfl | omega) (by first | exact Nat.le_of_ble_eq_true rfl | omega) rfl ?_
          refine rI ?_
          first | exact (b2i_t (by omega)).symm | exact (b2i_f (by omega)).symm
        · have c22 := ceqT (by omega) (by omega) c22
          refine x_iconst (pc := 25) (v := nI 1) cx (dA ddX3_isOfKind (i := 13) rfl) (by decide) ?_
          refine x_goto (pc := 26) (tgt := 30) cx (dA ddX3_isOfKind (i := 14) rfl) (by decide) ?_
          refine x_zreturn (pc := 30) cx (dA ddX3_isOfKind (i := 16) rfl) (by first | exact Nat.le_of_ble_eq_true rfl | omega) (by first | exact Nat.le_of_ble_eq_true rfl | omega) rfl ?_
          refine rI ?_
          first | exact (b2i_t (by omega)).symm | exact (b2i_f (by omega)).symm
theorem c_X3_isItsDay {l : Launch} {Z : zP} {G : zG} {V : zV} {q : Nat} (h0 : isK Z G q 3) {e w : Nat} (he : V.1 152 q = nI e) (h6 : e < 10) (hw : w < 10) : CT l Z yX3_isItsDay cX3_isItsDay 2 (some .boolean) 0 0 0 [.ref q, .int (nI w)] G V (pI (b2i (0 < e ∧ w % e = 0)) G V) := by
  refine CT.of (by decide +kernel) (Nat.le_of_ble_eq_true rfl) (fun X hX cx => ?_)
  subst hX
  show Wm Z X 2 G V 0 0 _ 0 [(0, some (.ref q)), (1, some (.int (nI w)))] []
  refine x_aload_n (pc := 0) cx (dA ddX3_isItsDay (i := 0) rfl) rfl ?_
  refine gX3_18 (pc := 1) (congrArg Value.int he) cx (dA ddX3_isItsDay (i := 1) rfl) h0 ?_
  refine x_if_le (pc := 4) (tgt := 20) cx (dA ddX3_isItsDay (i := 2) rfl) (by decide) (fun c4 => ?_) (fun c4 => ?_)
  · have c4 := cleT (b := 0) (by omega) (by omega) c4
    refine x_iconst (pc := 20) (v := nI 0) cx (dA ddX3_isItsDay (i := 10) rfl) (by decide) ?_
    refine x_zreturn (pc := 21) cx (dA ddX3_isItsDay (i := 11) rfl) (by first | exact Nat.le_of_ble_eq_true rfl | omega) (by first | exact Nat.le_of_ble_eq_true rfl | omega) rfl ?_
    refine rI ?_
    first | exact (b2i_t ⟨by omega, by omega⟩).symm | exact (b2i_f (fun h => by first | omega | exact absurd h.2 c13)).symm
  · have c4 := cleF (b := 0) (by omega) (by omega) c4
    refine x_iload_n (pc := 7) cx (dA ddX3_isItsDay (i := 3) rfl) rfl ?_
    refine x_aload_n (pc := 8) cx (dA ddX3_isItsDay (i := 4) rfl) rfl ?_
    refine gX3_18 (pc := 9) (congrArg Value.int he) cx (dA ddX3_isItsDay (i := 5) rfl) h0 ?_
    refine x_irem (pc := 12) cx (nI_ne0 (by omega) (by omega)) (dA ddX3_isItsDay (i := 6) rfl) ?_
    rw [rem32 (by omega) (by omega) (by omega)]
    have lm := Nat.mod_lt w c4
    refine x_if_ne (pc := 13) (tgt := 20) cx (dA ddX3_isItsDay (i := 7) rfl) (by decide) (fun c13 => ?_) (fun c13 => ?_)
    · have c13 : w % e ≠ 0 := fun e => c13 (by rw [e]; rfl)
      refine x_iconst (pc := 20) (v := nI 0) cx (dA ddX3_isItsDay (i := 10) rfl) (by decide) ?_
      refine x_zreturn (pc := 21) cx (dA ddX3_isItsDay (i := 11) rfl) (by first | exact Nat.le_of_ble_eq_true rfl | omega) (by first | exact Nat.le_of_ble_eq_true rfl | omega) rfl ?_
      refine rI ?_
      first | exact (b2i_t ⟨by omega, by omega⟩).symm | exact (b2i_f (fun h => by first | omega | exact absurd h.2 c13)).symm
    · have c13 : w % e = 0 := nI_inj (by omega) (by omega) c13
      refine x_iconst (pc := 16) (v := nI 1) cx (dA ddX3_isItsDay (i := 8) rfl) (by decide) ?_
      refine x_goto (pc := 17) (tgt := 21) cx (dA ddX3_isItsDay (i := 9) rfl) (by decide) ?_
      refine x_zreturn (pc := 21) cx (dA ddX3_isItsDay (i := 11) rfl) (by first | exact Nat.le_of_ble_eq_true rfl | omega) (by first | exact Nat.le_of_ble_eq_true rfl | omega) rfl ?_
      refine rI ?_
      first | exact (b2i_t ⟨by omega, by omega⟩).symm | exact (b2i_f (fun h => by first | omega | exact absurd h.2 c13)).symm
theorem c_X3_numberAs {l : Launch} {Z : zP} {G : zG} {V : zV} {q : Nat} {κ b m : Nat} {f : Nat → Bool} (hR : RuleAt Z G V q κ b m f) {w : Nat} (hw : w < 6) (hs : w = 0 ∨ w = κ ∨ (w = 1 ∧ κ = 3)) : CT l Z yX3_numberAs cX3_numberAs 2 (some .int) 1 0 0 [.ref q, .int (nI w)] G V (pI (nI (saysP κ b m w)) G V) := by
  refine CT.of (by decide +kernel) (Nat.le_of_ble_eq_true rfl) (fun X hX cx => ?_)
  subst hX
  show Wm Z X 2 G V 0 0 _ 0 [(0, some (.ref q)), (1, some (.int (nI w)))] []
  have h0 := hR.1
  have hκ := hR.2.1
  have k1 := hR.2.2.1
  refine x_iload_n (pc := 0) cx (dA ddX3_numberAs (i := 0) rfl) rfl ?_
  by_cases c1_0 : nI w = 1
  · refine x_tabIn (pc := 1) (v := 1) (tgt := 36) cx (dA ddX3_numberAs (i := 1) rfl) (by rw [c1_0]; decide) (by decide) (by decide) rfl (by decide) ?_
    refine x_aload_n (pc := 36) cx (dA ddX3_numberAs (i := 2) rfl) rfl ?_
    refine gX3_15 (pc := 37) rfl cx (dA ddX3_numberAs (i := 3) rfl) h0 ?_
    refine x_ireturn (pc := 40) cx (dA ddX3_numberAs (i := 4) rfl) (by first | exact Nat.le_of_ble_eq_true rfl | omega) (by first | exact Nat.le_of_ble_eq_true rfl | omega) ?_
    have ew : w = 1 := nI_inj (by omega) (by omega) c1_0
    subst ew
    refine rI ?_
    rcases (show κ = 1 ∨ κ = 3 by omega) with e | e
    · subst e; exact (hR.2.2.2.1 rfl).1
    · subst e; exact (hR.2.2.2.2.2.1 rfl).1
  by_cases c1_1 : nI w = 2
  · refine x_tabIn (pc := 1) (v := 2) (tgt := 41) cx (dA ddX3_numberAs (i := 1) rfl) (by rw [c1_1]; decide) (by decide) (by decide) rfl (by decide) ?_
    refine x_aload_n (pc := 41) cx (dA ddX3_numberAs (i := 5) rfl) rfl ?_
    refine gX3_18 (pc := 42) rfl cx (dA ddX3_numberAs (i := 6) rfl) h0 ?_
    refine x_ireturn (pc := 45) cx (dA ddX3_numberAs (i := 7) rfl) (by first | exact Nat.le_of_ble_eq_true rfl | omega) (by first | exact Nat.le_of_ble_eq_true rfl | omega) ?_
    have ew : w = 2 ∨ w = 3 := by first | exact Or.inl (nI_inj (by omega) (by omega) c1_1) | exact Or.inr (nI_inj (by omega) (by omega) c1_2)
    refine rI ?_
    rcases ew with e | e
    · subst e; rcases (show κ = 2 by omega) with rfl; exact (hR.2.2.2.2.1 rfl).1
    · subst e; rcases (show κ = 3 by omega) with rfl; exact (hR.2.2.2.2.2.1 rfl).2.1
  by_cases c1_2 : nI w = 3
  · refine x_tabIn (pc := 1) (v := 3) (tgt := 41) cx (dA ddX3_numberAs (i := 1) rfl) (by rw [c1_2]; decide) (by decide) (by decide) rfl (by decide) ?_
    refine x_aload_n (pc := 41) cx (dA ddX3_numberAs (i := 5) rfl) rfl ?_
    refine gX3_18 (pc := 42) rfl cx (dA ddX3_numberAs (i := 6) rfl) h0 ?_
    refine x_ireturn (pc := 45) cx (dA ddX3_numberAs (i := 7) rfl) (by first | exact Nat.le_of_ble_eq_true rfl | omega) (by first | exact Nat.le_of_ble_eq_true rfl | omega) ?_
    have ew : w = 2 ∨ w = 3 := by first | exact Or.inl (nI_inj (by omega) (by omega) c1_1) | exact Or.inr (nI_inj (by omega) (by omega) c1_2)
    refine rI ?_
    rcases ew with e | e
    · subst e; rcases (show κ = 2 by omega) with rfl; exact (hR.2.2.2.2.1 rfl).1
    · subst e; rcases (show κ = 3 by omega) with rfl; exact (hR.2.2.2.2.2.1 rfl).2.1
  by_cases c1_3 : nI w = 4
  · refine x_tabIn (pc := 1) (v := 4) (tgt := 46) cx (dA ddX3_numberAs (i := 1) rfl) (by rw [c1_3]; decide) (by decide) (by decide) rfl (by decide) ?_
    refine x_iconst (pc := 46) (v := nI 1) cx (dA ddX3_numberAs (i := 8) rfl) (by decide) ?_
    refine x_ireturn (pc := 47) cx (dA ddX3_numberAs (i := 9) rfl) (by first | exact Nat.le_of_ble_eq_true rfl | omega) (by first | exact Nat.le_of_ble_eq_true rfl | omega) ?_
    have ew : w = 4 := nI_inj (by omega) (by omega) c1_3
    subst ew
    exact rI rfl
  by_cases c1_4 : nI w = 5
  · refine x_tabIn (pc := 1) (v := 5) (tgt := 48) cx (dA ddX3_numberAs (i := 1) rfl) (by rw [c1_4]; decide) (by decide) (by decide) rfl (by decide) ?_
    have ew : w = 5 := nI_inj (by omega) (by omega) c1_4
    subst ew
    rcases (show κ = 5 by omega) with rfl
    obtain ⟨t, ht, hT, -⟩ := hR.2.2.2.2.2.2 rfl
    refine x_aload_n (pc := 48) cx (dA ddX3_numberAs (i := 10) rfl) rfl ?_
    refine gX3_27 (pc := 49) (rfA ht) cx (dA ddX3_numberAs (i := 11) rfl) h0 ?_
    refine x_ifnonnull_s (pc := 52) (tgt := 59) cx (dA ddX3_numberAs (i := 12) rfl) (by decide) ?_
    refine x_aload_n (pc := 59) cx (dA ddX3_numberAs (i := 15) rfl) rfl ?_
    refine gX3_27 (pc := 60) (rfA ht) cx (dA ddX3_numberAs (i := 16) rfl) h0 ?_
    refine x_V0 (pc := 63) mX3_35 hT.1 (c_X2_size hT) cx (dA ddX3_numberAs (i := 17) rfl) (kI ?_)
    refine x_ireturn (pc := 66) cx (dA ddX3_numberAs (i := 18) rfl) (by first | exact Nat.le_of_ble_eq_true rfl | omega) (by first | exact Nat.le_of_ble_eq_true rfl | omega) ?_
    exact rI rfl
  refine x_tabOut (pc := 1) (tgt := 67) cx (dA ddX3_numberAs (i := 1) rfl) (by have t0 := lv_neT (a := 1) c1_0 (by decide); have t1 := lv_neT (a := 2) c1_1 (by decide); have t2 := lv_neT (a := 3) c1_2 (by decide); have t3 := lv_neT (a := 4) c1_3 (by decide); have t4 := lv_neT (a := 5) c1_4 (by decide); omega) (by decide) ?_
  refine x_iconst (pc := 67) (v := nI 0) cx (dA ddX3_numberAs (i := 19) rfl) (by decide) ?_
  refine x_ireturn (pc := 68) cx (dA ddX3_numberAs (i := 20) rfl) (by first | exact Nat.le_of_ble_eq_true rfl | omega) (by first | exact Nat.le_of_ble_eq_true rfl | omega) ?_
  refine rI ?_
  rcases (show w = 0 by
      rcases (show w = 0 ∨ w = 1 ∨ w = 2 ∨ w = 3 ∨ w = 4 ∨ w = 5 by omega) with h | h | h | h | h | h
      · exact h
      · exact absurd (by rw [h]; rfl) c1_0
      · exact absurd (by rw [h]; rfl) c1_1
      · exact absurd (by rw [h]; rfl) c1_2
      · exact absurd (by rw [h]; rfl) c1_3
      · exact absurd (by rw [h]; rfl) c1_4) with rfl
  rfl
theorem c_X3_fills {l : Launch} {Z : zP} {G : zG} {V : zV} {q : Nat} {κ b m : Nat} {f : Nat → Bool} (hR : RuleAt Z G V q κ b m f) {a s c : Nat} (ha : a < 10) (hs : s < 125) (hc : c < 2000) : CT l Z yX3_fills cX3_fills 4 (some .boolean) 2 0 0 [.ref q, .int (nI a), .int (nI s), .int (nI c)] G V (pI (b2i (fillsP κ b m f a s c = true)) G V) := by
  refine CT.of (by decide +kernel) (Nat.le_of_ble_eq_true rfl) (fun X hX cx => ?_)
  subst hX
  show Wm Z X 4 G V 0 0 _ 0 [(0, some (.ref q)), (1, some (.int (nI a))), (2, some (.int (nI s))), (3, some (.int (nI c)))] []
  have h0 := hR.1
  have hκ := hR.2.1
  have k1 := hR.2.2.1
  refine x_aload_n (pc := 0) cx (dA ddX3_fills (i := 0) rfl) rfl ?_
  refine gX3_9 (pc := 1) (congrArg Value.int hκ) cx (dA ddX3_fills (i := 1) rfl) h0 ?_
  by_cases c4_0 : nI κ = 1
  · refine x_tabIn (pc := 4) (v := 1) (tgt := 40) cx (dA ddX3_fills (i := 2) rfl) (by rw [c4_0]; decide) (by decide) (by decide) rfl (by decide) ?_
    have ek : κ = 1 := nI_inj (by omega) (by omega) c4_0
    subst ek
    obtain ⟨e1, e2⟩ := hR.2.2.2.1 rfl
    refine x_iload_n (pc := 40) cx (dA ddX3_fills (i := 3) rfl) rfl ?_
    refine x_aload_n (pc := 41) cx (dA ddX3_fills (i := 4) rfl) rfl ?_
    refine gX3_15 (pc := 42) (congrArg Value.int e1) cx (dA ddX3_fills (i := 5) rfl) h0 ?_
    refine x_icmp_lt (pc := 45) (tgt := 52) cx (dA ddX3_fills (i := 6) rfl) (by decide) (fun c45 => ?_) (fun c45 => ?_)
    · have c45 := cltT (by omega) (by omega) c45
      refine x_iconst (pc := 52) (v := nI 0) cx (dA ddX3_fills (i := 9) rfl) (by decide) ?_
      refine x_zreturn (pc := 53) cx (dA ddX3_fills (i := 10) rfl) (by first | exact Nat.le_of_ble_eq_true rfl | omega) (by first | exact Nat.le_of_ble_eq_true rfl | omega) rfl ?_
      refine rI ?_
      simp only [fillsP, decide_eq_true_eq]
      first | exact (b2i_t (by omega)).symm | exact (b2i_f (by omega)).symm
    · have c45 := cltF (by omega) (by omega) c45
      refine x_iconst (pc := 48) (v := nI 1) cx (dA ddX3_fills (i := 7) rfl) (by decide) ?_
      refine x_goto (pc := 49) (tgt := 53) cx (dA ddX3_fills (i := 8) rfl) (by decide) ?_
      refine x_zreturn (pc := 53) cx (dA ddX3_fills (i := 10) rfl) (by first | exact Nat.le_of_ble_eq_true rfl | omega) (by first | exact Nat.le_of_ble_eq_true rfl | omega) rfl ?_
      refine rI ?_
      simp only [fillsP, decide_eq_true_eq]
      first | exact (b2i_t (by omega)).symm | exact (b2i_f (by omega)).symm
  by_cases c4_1 : nI κ = 2
  · refine x_tabIn (pc := 4) (v := 2) (tgt := 54) cx (dA ddX3_fills (i := 2) rfl) (by rw [c4_1]; decide) (by decide) (by decide) rfl (by decide) ?_
    have ek : κ = 2 := nI_inj (by omega) (by omega) c4_1
    subst ek
    obtain ⟨e1, e2, e3⟩ := hR.2.2.2.2.1 rfl
    refine x_aload_n (pc := 54) cx (dA ddX3_fills (i := 11) rfl) rfl ?_
    refine x_iload_n (pc := 55) cx (dA ddX3_fills (i := 12) rfl) rfl ?_
    refine x_V1 (pc := 56) mX3_39 h0 (c_X3_isItsDay h0 e1 (by omega) ha) cx (dA ddX3_fills (i := 13) rfl) (kI ?_)
    refine x_zreturn (pc := 59) cx (dA ddX3_fills (i := 14) rfl) (by first | exact Nat.le_of_ble_eq_true rfl | omega) (by first | exact Nat.le_of_ble_eq_true rfl | omega) b2i_nar ?_
    refine rI ?_
    simp only [fillsP, decide_eq_true_eq]
    by_cases hd : a % b = 0
    · rw [b2i_t ⟨by omega, hd⟩, b2i_t hd]
    · rw [b2i_f (fun h => hd h.2), b2i_f hd]
  by_cases c4_2 : nI κ = 3
  · refine x_tabIn (pc := 4) (v := 3) (tgt := 60) cx (dA ddX3_fills (i := 2) rfl) (by rw [c4_2]; decide) (by decide) (by decide) rfl (by decide) ?_
    have ek : κ = 3 := nI_inj (by omega) (by omega) c4_2
    subst ek
    obtain ⟨e1, e4, e5, e2, e3⟩ := hR.2.2.2.2.2.1 rfl
    refine x_iload_n (pc := 60) cx (dA ddX3_fills (i := 15) rfl) rfl ?_
    refine x_aload_n (pc := 61) cx (dA ddX3_fills (i := 16) rfl) rfl ?_
    refine gX3_15 (pc := 62) (congrArg Value.int e1) cx (dA ddX3_fills (i := 17) rfl) h0 ?_
    refine x_icmp_ge (pc := 65) (tgt := 76) cx (dA ddX3_fills (i := 18) rfl) (by decide) (fun c65 => ?_) (fun c65 => ?_)
    · have c65 := cleT (by omega) (by omega) c65
      refine x_iconst (pc := 76) (v := nI 1) cx (dA ddX3_fills (i := 23) rfl) (by decide) ?_
      refine x_goto (pc := 77) (tgt := 81) cx (dA ddX3_fills (i := 24) rfl) (by decide) ?_
      refine x_zreturn (pc := 81) cx (dA ddX3_fills (i := 26) rfl) (by first | exact Nat.le_of_ble_eq_true rfl | omega) (by first | exact Nat.le_of_ble_eq_true rfl | omega) rfl ?_
      refine rI ?_
      simp only [fillsP, Bool.or_eq_true, decide_eq_true_eq]
      first | exact (b2i_t (Or.inl (by omega))).symm | exact (b2i_t (Or.inr c73.2)).symm | exact (b2i_f (fun h => h.elim (fun h => by omega) (fun h => c73 ⟨by omega, h⟩))).symm
    · have c65 := cleF (by omega) (by omega) c65
      refine x_aload_n (pc := 68) cx (dA ddX3_fills (i := 19) rfl) rfl ?_
      refine x_iload_n (pc := 69) cx (dA ddX3_fills (i := 20) rfl) rfl ?_
      refine x_V1 (pc := 70) mX3_39 h0 (c_X3_isItsDay h0 e4 (by omega) ha) cx (dA ddX3_fills (i := 21) rfl) (kI ?_)
      refine x_if_eq (pc := 73) (tgt := 80) cx (dA ddX3_fills (i := 22) rfl) (by decide) (fun c73 => ?_) (fun c73 => ?_)
      · have c73 := b2i_eq c73
        refine x_iconst (pc := 80) (v := nI 0) cx (dA ddX3_fills (i := 25) rfl) (by decide) ?_
        refine x_zreturn (pc := 81) cx (dA ddX3_fills (i := 26) rfl) (by first | exact Nat.le_of_ble_eq_true rfl | omega) (by first | exact Nat.le_of_ble_eq_true rfl | omega) rfl ?_
        refine rI ?_
        simp only [fillsP, Bool.or_eq_true, decide_eq_true_eq]
        first | exact (b2i_t (Or.inl (by omega))).symm | exact (b2i_t (Or.inr c73.2)).symm | exact (b2i_f (fun h => h.elim (fun h => by omega) (fun h => c73 ⟨by omega, h⟩))).symm
      · have c73 := b2i_ne c73
        refine x_iconst (pc := 76) (v := nI 1) cx (dA ddX3_fills (i := 23) rfl) (by decide) ?_
        refine x_goto (pc := 77) (tgt := 81) cx (dA ddX3_fills (i := 24) rfl) (by decide) ?_
        refine x_zreturn (pc := 81) cx (dA ddX3_fills (i := 26) rfl) (by first | exact Nat.le_of_ble_eq_true rfl | omega) (by first | exact Nat.le_of_ble_eq_true rfl | omega) rfl ?_
        refine rI ?_
        simp only [fillsP, Bool.or_eq_true, decide_eq_true_eq]
        first | exact (b2i_t (Or.inl (by omega))).symm | exact (b2i_t (Or.inr c73.2)).symm | exact (b2i_f (fun h => h.elim (fun h => by omega) (fun h => c73 ⟨by omega, h⟩))).symm
  by_cases c4_3 : nI κ = 4
  · refine x_tabIn (pc := 4) (v := 4) (tgt := 108) cx (dA ddX3_fills (i := 2) rfl) (by rw [c4_3]; decide) (by decide) (by decide) rfl (by decide) ?_
    have ek : κ = 4 := by
      first
      | exact nI_inj (by omega) (by omega) c4_3
      | (rcases (show κ = 1 ∨ κ = 2 ∨ κ = 3 ∨ κ = 4 ∨ κ = 5 by omega) with h | h | h | h | h; exact absurd (by rw [h]; rfl) c4_0; exact absurd (by rw [h]; rfl) c4_1; exact absurd (by rw [h]; rfl) c4_2; exact h; exact absurd (by rw [h]; rfl) c4_4)
    subst ek
    refine x_iconst (pc := 108) (v := nI 0) cx (dA ddX3_fills (i := 41) rfl) (by decide) ?_
    refine x_zreturn (pc := 109) cx (dA ddX3_fills (i := 42) rfl) (by first | exact Nat.le_of_ble_eq_true rfl | omega) (by first | exact Nat.le_of_ble_eq_true rfl | omega) rfl ?_
    refine rI ?_
    exact (b2i_f (by simp [fillsP])).symm
  by_cases c4_4 : nI κ = 5
  · refine x_tabIn (pc := 4) (v := 5) (tgt := 82) cx (dA ddX3_fills (i := 2) rfl) (by rw [c4_4]; decide) (by decide) (by decide) rfl (by decide) ?_
    have ek : κ = 5 := nI_inj (by omega) (by omega) c4_4
    subst ek
    obtain ⟨t, ht, hT, hf⟩ := hR.2.2.2.2.2.2 rfl
    refine x_aload_n (pc := 82) cx (dA ddX3_fills (i := 27) rfl) rfl ?_
    refine gX3_27 (pc := 83) (rfA ht) cx (dA ddX3_fills (i := 28) rfl) h0 ?_
    refine x_ifnull_s (pc := 86) cx (dA ddX3_fills (i := 29) rfl) ?_
    refine x_aload_n (pc := 89) cx (dA ddX3_fills (i := 30) rfl) rfl ?_
    refine gX3_27 (pc := 90) (rfA ht) cx (dA ddX3_fills (i := 31) rfl) h0 ?_
    refine x_iload_n (pc := 93) cx (dA ddX3_fills (i := 32) rfl) rfl ?_
    refine x_V1 (pc := 94) mX3_42 hT.1 (c_X2_valueAt hT) cx (dA ddX3_fills (i := 33) rfl) (kJ ?_)
    refine x_lconst (pc := 97) (v := lN 0) cx (dA ddX3_fills (i := 34) rfl) rfl ?_
    refine x_lc_eq (pc := 98) (tgt := 106) cx (dA ddX3_fills (i := 35) rfl) (dA ddX3_fills (i := 36) rfl) (by decide) (fun c98 => ?_) (fun c98 => ?_)
    · have c98 := c98
      refine x_iconst (pc := 106) (v := nI 0) cx (dA ddX3_fills (i := 39) rfl) (by decide) ?_
      refine x_zreturn (pc := 107) cx (dA ddX3_fills (i := 40) rfl) (by first | exact Nat.le_of_ble_eq_true rfl | omega) (by first | exact Nat.le_of_ble_eq_true rfl | omega) rfl ?_
      refine rI ?_
      simp only [fillsP, Bool.and_eq_true, decide_eq_true_eq]
      have hm := hT.2.2.2
      by_cases hsm : s < m
      · rw [atL_in hsm (by omega)] at c98
        cases hfs : f s
        · first | exact (b2i_f (fun h => by cases h.2)).symm | exact absurd ((hf s hsm).mpr hfs) c98
        · first | exact (b2i_t ⟨hsm, rfl⟩).symm | exact absurd ((hf s hsm).mp c98) (by rw [hfs]; decide)
      · rw [atL_out (Or.inr (nI_le (by omega) (by omega)))] at c98
        first | exact (b2i_f (fun h => hsm h.1)).symm | exact absurd rfl c98
    · have c98 := c98
      refine x_iconst (pc := 102) (v := nI 1) cx (dA ddX3_fills (i := 37) rfl) (by decide) ?_
      refine x_goto (pc := 103) (tgt := 107) cx (dA ddX3_fills (i := 38) rfl) (by decide) ?_
      refine x_zreturn (pc := 107) cx (dA ddX3_fills (i := 40) rfl) (by first | exact Nat.le_of_ble_eq_true rfl | omega) (by first | exact Nat.le_of_ble_eq_true rfl | omega) rfl ?_
      refine rI ?_
      simp only [fillsP, Bool.and_eq_true, decide_eq_true_eq]
      have hm := hT.2.2.2
      by_cases hsm : s < m
      · rw [atL_in hsm (by omega)] at c98
        cases hfs : f s
        · first | exact (b2i_f (fun h => by cases h.2)).symm | exact absurd ((hf s hsm).mpr hfs) c98
        · first | exact (b2i_t ⟨hsm, rfl⟩).symm | exact absurd ((hf s hsm).mp c98) (by rw [hfs]; decide)
      · rw [atL_out (Or.inr (nI_le (by omega) (by omega)))] at c98
        first | exact (b2i_f (fun h => hsm h.1)).symm | exact absurd rfl c98
  refine x_tabOut (pc := 4) (tgt := 108) cx (dA ddX3_fills (i := 2) rfl) (by have t0 := lv_neT (a := 1) c4_0 (by decide); have t1 := lv_neT (a := 2) c4_1 (by decide); have t2 := lv_neT (a := 3) c4_2 (by decide); have t3 := lv_neT (a := 4) c4_3 (by decide); have t4 := lv_neT (a := 5) c4_4 (by decide); omega) (by decide) ?_
  have ek : κ = 4 := by
    first
    | exact nI_inj (by omega) (by omega) c4_3
    | (rcases (show κ = 1 ∨ κ = 2 ∨ κ = 3 ∨ κ = 4 ∨ κ = 5 by omega) with h | h | h | h | h; exact absurd (by rw [h]; rfl) c4_0; exact absurd (by rw [h]; rfl) c4_1; exact absurd (by rw [h]; rfl) c4_2; exact h; exact absurd (by rw [h]; rfl) c4_4)
  subst ek
  refine x_iconst (pc := 108) (v := nI 0) cx (dA ddX3_fills (i := 41) rfl) (by decide) ?_
  refine x_zreturn (pc := 109) cx (dA ddX3_fills (i := 42) rfl) (by first | exact Nat.le_of_ble_eq_true rfl | omega) (by first | exact Nat.le_of_ble_eq_true rfl | omega) rfl ?_
  refine rI ?_
  exact (b2i_f (by simp [fillsP])).symm
end
section
section XT
variable {Z : zP} {X : xP} {nL : Nat} {G : zG} {V : zV} {k n : Nat} {Q : State → Prop} {pc : Nat} {lw : List (Nat × Option Value)} {st : List Value} {own nm : String} {cc : ByteArray} {ret : Option FieldType} {D mc ms : Nat}
theorem MemOK.old {H : Heap} (hM : MemOK Z G V H) : ∀ a : Nat, a < Z.2.2.2.1.size → ¬ (Z.1 ≤ a) → H[a]? = Z.2.2.2.1[a]? := fun a _ h => hM.2.2.2.2 a (Nat.lt_of_not_le h)
theorem Cx.amb (cx : Cx Z X own nm cc nL ret D mc ms) : AmbS Z X.2.2.2.2.1 := cx.2.2.2.2.2.1.2.2.2.2
/-- a text -/
theorem x_ldcS {idx i : Nat} {tx : String} (hq : (own, idx, tx, i) ∈ sTab) (cx : Cx Z X own nm cc nL ret D mc ms) (d : decode cc pc = .ok (.ldc idx, 2)) (kk : Wm Z X nL G V k n Q (pc + 2) lw (.ref (Z.2.2.2.2.1 i) :: st)) : Wm Z X nL G V k n Q pc lw st :=
  fun H locs ls hM hS hl => va_ldcS cx.1 cx.2.1 cx.2.2.2.1 (cx.amb.1 _ hq) d (kk H locs ls hM hS hl)
theorem x_getsC {idx : Nat} (hw : Cond.fieldLink own idx "java/lang/String" "COMPACT_STRINGS" "Z" ∈ WA) (cx : Cx Z X own nm cc nL ret D mc ms) (d : decode cc pc = .ok (.getstatic idx, 3)) (kk : Wm Z X nL G V k n Q (pc + 3) lw (.int (nI 1) :: st)) : Wm Z X nL G V k n Q pc lw st := by
  intro H locs ls hM hS hl
  obtain ⟨cf, kf, fi, f, a, cell, h1, h2, h3, h4, h5, h6, h7, h8⟩ := cx.amb.2.2.1.kept hM.old
  exact W.gets cx.1 cx.2.1 cx.2.2.2.1 (cx.2.2.2.2.1 _ hw) h1 h2 h3 h4 h5 (fun e => by rw [e] at h6; cases h6) h7 rfl d (kk H locs ls hM hS hl)
theorem x_getsF {idx : Nat} (hw : Cond.fieldLink own idx "jdk/internal/util/Preconditions" "SIOOBE_FORMATTER" "Ljava/util/function/BiFunction;" ∈ WA) (cx : Cx Z X own nm cc nL ret D mc ms) (d : decode cc pc = .ok (.getstatic idx, 3)) (kk : ∀ o : Option Nat, Wm Z X nL G V k n Q (pc + 3) lw (va_rf o :: st)) : Wm Z X nL G V k n Q pc lw st := by
  intro H locs ls hM hS hl
  rcases cx.amb.2.2.2.kept hM.old with h | ⟨t, h⟩
  · obtain ⟨cf, kf, fi, f, a, cell, h1, h2, h3, h4, h5, h6, h7, h8⟩ := h
    exact W.gets cx.1 cx.2.1 cx.2.2.2.1 (cx.2.2.2.2.1 _ hw) h1 h2 h3 h4 h5 (fun e => by rw [e] at h6; cases h6) h7 rfl d (kk none H locs ls hM hS hl)
  · obtain ⟨cf, kf, fi, f, a, cell, h1, h2, h3, h4, h5, h6, h7, h8⟩ := h
    exact W.gets cx.1 cx.2.1 cx.2.2.2.1 (cx.2.2.2.2.1 _ hw) h1 h2 h3 h4 h5 (fun e => by rw [e] at h6; cases h6) h7 rfl d (kk (some t) H locs ls hM hS hl)
theorem x_getCoder {idx i : Nat} (hi : i < 9) (hw : Cond.fieldLink own idx "java/lang/String" "coder" "B" ∈ WA) (cx : Cx Z X own nm cc nL ret D mc ms) (d : decode cc pc = .ok (.getfield idx, 3)) (kk : Wm Z X nL G V k n Q (pc + 3) lw (.int (nI 0) :: st)) : Wm Z X nL G V k n Q pc lw (.ref (Z.2.2.2.2.1 i) :: st) := by
  intro H locs ls hM hS hl
  obtain ⟨cf, kf, fi, f, cell, h1, h2, h3, h4, h5, h6⟩ := (cx.amb.2.1 i hi).2.1.kept hM.old
  exact W.getf cx.1 cx.2.1 cx.2.2.2.1 (cx.2.2.2.2.1 _ hw) h1 h2 h3 h4 h5 rfl rfl d (kk H locs ls hM hS hl)
theorem x_getValue {idx i : Nat} (hi : i < 9) (hw : Cond.fieldLink own idx "java/lang/String" "value" "[B" ∈ WA) (cx : Cx Z X own nm cc nL ret D mc ms) (d : decode cc pc = .ok (.getfield idx, 3)) (kk : Wm Z X nL G V k n Q (pc + 3) lw (.ref (Z.2.2.2.2.2 i) :: st)) : Wm Z X nL G V k n Q pc lw (.ref (Z.2.2.2.2.1 i) :: st) := by
  intro H locs ls hM hS hl
  obtain ⟨cf, kf, fi, f, cell, h1, h2, h3, h4, h5, h6⟩ := (cx.amb.2.1 i hi).2.2.1.kept hM.old
  exact W.getf cx.1 cx.2.1 cx.2.2.2.1 (cx.2.2.2.2.1 _ hw) h1 h2 h3 h4 h5 rfl rfl d (kk H locs ls hM hS hl)
theorem x_alenS {i : Nat} (hi : i < 9) (cx : Cx Z X own nm cc nL ret D mc ms) (d : decode cc pc = .ok (.arraylength, 1)) (kk : Wm Z X nL G V k n Q (pc + 1) lw (.int (nI (sW i).length) :: st)) : Wm Z X nL G V k n Q pc lw (.ref (Z.2.2.2.2.2 i) :: st) := by
  intro H locs ls hM hS hl
  obtain ⟨cell, h1, h2, h3, h4, h5, h6, h7⟩ := (cx.amb.2.1 i hi).2.2.2.kept hM.old
  exact W.alen (n := nI (sW i).length) cx.1 cx.2.1 h1 h2 h5 rfl rfl d (kk H locs ls hM hS hl)
theorem x_baloadS {i j : Nat} (hi : i < 9) (hj : j < (sW i).length) (hl31 : j < 2 ^ 31) (cx : Cx Z X own nm cc nL ret D mc ms) (d : decode cc pc = .ok (.baload, 1)) (kk : Wm Z X nL G V k n Q (pc + 1) lw (.int (nI ((sW i).getD j 0)) :: st)) : Wm Z X nL G V k n Q pc lw (.int (nI j) :: .ref (Z.2.2.2.2.2 i) :: st) := by
  intro H locs ls hM hS hl
  obtain ⟨cell, h1, h2, h3, h4, h5, h6, h7⟩ := (cx.amb.2.1 i hi).2.2.2.kept hM.old
  have hc := nI_clamp (n := j) hl31
  refine W.bald (v := .int (nI ((sW i).getD j 0))) cx.1 cx.2.1 h1 h2 h3 (fun q => ?_) (by rw [hc]; exact h6 j hj) rfl rfl d (kk H locs ls hM hS hl)
  rw [hc] at q
  rcases q with q | q
  · exact nI_pos hl31 q
  · omega
theorem x_i2c {x : Int32} (cx : Cx Z X own nm cc nL ret D mc ms) (d : decode cc pc = .ok (.i2c, 1)) (kk : Wm Z X nL G V k n Q (pc + 1) lw (.int (x.toUInt32 % 65536).toInt32 :: st)) : Wm Z X nL G V k n Q pc lw (.int x :: st) :=
  fun H locs ls hM hS hl => lv_i2c cx.1 cx.2.1 d rfl (kk H locs ls hM hS hl)
/-- a call of a text's method -/
theorem x_callT {idx dy ny c1 s1 i : Nat} {y : MethodName} {cy : ByteArray} {ry : Option FieldType} {av rest : List Value} {Post : Option Value → zG → zV → Prop} (hi : i < 9) (hy : y.cls = "java/lang/String") (w : cW own idx y cy ny ry av.length) (w2 : Cond.instanceMethod y ∈ WA) (w3 : Cond.selects y.cls y y ∈ WA) (hC : CT X.2.1 Z y cy ny ry dy c1 s1 (.ref (Z.2.2.2.2.1 i) :: av) G V Post) (cx : Cx Z X own nm cc nL ret D mc ms) (d : decode cc pc = .ok (.invokevirtual idx, 3)) (hd : dy + 1 ≤ D) (hk : k + c1 ≤ mc) (hn : n + s1 ≤ ms) (hr : (rest.map fun v => v.category).sum ≤ 8)
    (kk : ∀ (r : Option Value) (G' : zG) (V' : zV), Post r G' V' → Wm Z X nL G' V' (k + c1) (n + s1) Q (pc + 3) lw (r.toList ++ rest)) : Wm Z X nL G V k n Q pc lw (av.reverse ++ .ref (Z.2.2.2.2.1 i) :: rest) :=
  x_run (fun H locs ls hM hl => va_runV cx.fix hC ⟨cx.callB w hd, cx.2.2.2.2.1 _ w2, cx.2.2.2.2.1 _ w3⟩ ⟨CT.blind, by obtain ⟨cell, h1, h2, h3, -⟩ := (cx.amb.2.1 i hi).1.kept hM.old; exact ⟨cell, h1, h2, by rw [hy]; exact h3⟩, cx.pre hM⟩ rfl rfl hl.1 rfl (lv_room hr) d (cx.fit hk hn)) kk
end XT
end
section
def qJ0_charAt_5068e : List (Nat × Instr × Nat) := [(0, .aload_n 0, 1), (1, .invokevirtual 492, 3), (4, .ifCond .eq 12, 3), (7, .aload_n 0, 1), (8, .getfield 9, 3), (11, .iload_n 1, 1), (12, .invokestatic 495, 3), (15, .ireturn, 1), (16, .aload_n 0, 1), (17, .getfield 9, 3), (20, .iload_n 1, 1), (21, .invokestatic 498, 3), (24, .ireturn, 1)]
theorem ddJ0_charAt_5068e : dAll cJ0_charAt_5068e qJ0_charAt_5068e = true := by decide +kernel
def qJ0_checkIndex_df160 : List (Nat × Instr × Nat) := [(0, .iload_n 0, 1), (1, .iload_n 1, 1), (2, .getstatic 1053, 3), (5, .invokestatic 1059, 3), (8, .pop, 1), (9, .return_, 1)]
theorem ddJ0_checkIndex_df160 : dAll cJ0_checkIndex_df160 qJ0_checkIndex_df160 = true := by decide +kernel
def qJ0_coder_7d493 : List (Nat × Instr × Nat) := [(0, .getstatic 38, 3), (3, .ifCond .eq 10, 3), (6, .aload_n 0, 1), (7, .getfield 15, 3), (10, .goto 4, 3), (13, .iconst 1, 1), (14, .ireturn, 1)]
theorem ddJ0_coder_7d493 : dAll cJ0_coder_7d493 qJ0_coder_7d493 = true := by decide +kernel
def qJ0_isLatin1_aae02 : List (Nat × Instr × Nat) := [(0, .getstatic 38, 3), (3, .ifCond .eq 14, 3), (6, .aload_n 0, 1), (7, .getfield 15, 3), (10, .ifCond .ne 7, 3), (13, .iconst 1, 1), (14, .goto 4, 3), (17, .iconst 0, 1), (18, .ireturn, 1)]
theorem ddJ0_isLatin1_aae02 : dAll cJ0_isLatin1_aae02 qJ0_isLatin1_aae02 = true := by decide +kernel
def qJ0_length_8abf5 : List (Nat × Instr × Nat) := [(0, .aload_n 0, 1), (1, .getfield 9, 3), (4, .arraylength, 1), (5, .aload_n 0, 1), (6, .invokevirtual 335, 3), (9, .ishr, 1), (10, .ireturn, 1)]
theorem ddJ0_length_8abf5 : dAll cJ0_length_8abf5 qJ0_length_8abf5 = true := by decide +kernel
def qJ1_charAt_3b067 : List (Nat × Instr × Nat) := [(0, .iload_n 1, 1), (1, .aload_n 0, 1), (2, .arraylength, 1), (3, .invokestatic 9, 3), (6, .aload_n 0, 1), (7, .iload_n 1, 1), (8, .baload, 1), (9, .sipush 255, 3), (12, .iand, 1), (13, .i2c, 1), (14, .ireturn, 1)]
theorem ddJ1_charAt_3b067 : dAll cJ1_charAt_3b067 qJ1_charAt_3b067 = true := by decide +kernel
def qJ3_checkIndex_8e157 : List (Nat × Instr × Nat) := [(0, .iload_n 0, 1), (1, .ifCond .lt 8, 3), (4, .iload_n 0, 1), (5, .iload_n 1, 1), (6, .if_icmp .lt 10, 3), (9, .aload_n 2, 1), (10, .iload_n 0, 1), (11, .iload_n 1, 1), (12, .invokestatic 95, 3), (15, .athrow, 1), (16, .iload_n 0, 1), (17, .ireturn, 1)]
theorem ddJ3_checkIndex_8e157 : dAll cJ3_checkIndex_8e157 qJ3_checkIndex_8e157 = true := by decide +kernel
theorem zs_compact : Cond.fieldLink RJ0 38 "java/lang/String" "COMPACT_STRINGS" "Z" ∈ WA := wa (tt2 (j := 191) rfl) rfl
theorem zs_format : Cond.fieldLink RJ0 1053 "jdk/internal/util/Preconditions" "SIOOBE_FORMATTER" "Ljava/util/function/BiFunction;" ∈ WA := wa (tt2 (j := 207) rfl) rfl
theorem zs_value : Cond.fieldLink RJ0 9 "java/lang/String" "value" "[B" ∈ WA := wa (tt7 (j := 140) rfl) rfl
theorem zs_coder : Cond.fieldLink RJ0 15 "java/lang/String" "coder" "B" ∈ WA := wa (tt7 (j := 141) rfl) rfl
theorem sW_all : ∀ i, i < 9 → (sW i).length ≤ 6 ∧ ∀ b ∈ sW i, b < 128 := by decide +kernel
theorem sW_big (i : Nat) : sW i = sW (min i 8) := by
  rcases Nat.lt_or_ge i 9 with h | h
  · rw [Nat.min_eq_left (by omega)]
  · rw [Nat.min_eq_right (by omega)]
    obtain ⟨u, rfl⟩ : ∃ u, i = u + 9 := ⟨i - 9, by omega⟩
    rfl
theorem sW_len (i : Nat) : (sW i).length ≤ 6 := by
  rw [sW_big]
  exact (sW_all _ (by omega)).1
theorem sW_lt (i j : Nat) : (sW i).getD j 0 < 128 := by
  rw [List.getD_eq_getElem?_getD]
  cases h : (sW i)[j]? with
  | none => decide
  | some b =>
    have := (sW_all (min i 8) (by omega)).2 b (by rw [← sW_big]; exact List.mem_of_getElem? h)
    exact this
theorem ch_all : ∀ b : Fin 128, (((nI b.val &&& nI 255).toUInt32 % 65536).toInt32 = nI b.val) ∧ narrow .char (.int (nI b.val)) = .int (nI b.val) := by decide +kernel
theorem sW_ch (i j : Nat) : ((nI ((sW i).getD j 0) &&& nI 255).toUInt32 % 65536).toInt32 = nI ((sW i).getD j 0) := (ch_all ⟨_, sW_lt i j⟩).1
theorem zc_nar (b : Nat) (h : b < 128) : narrow .char (.int (nI b)) = .int (nI b) := (ch_all ⟨b, h⟩).2
section XTC
variable {Z : zP} {X : xP} {nL : Nat} {G : zG} {V : zV} {k n : Nat} {Q : State → Prop} {pc : Nat} {lw : List (Nat × Option Value)} {st : List Value} {own nm : String} {cc : ByteArray} {ret : Option FieldType} {D mc ms : Nat}
variable {idx dy ny c1 s1 i : Nat} {y : MethodName} {cy : ByteArray} {ry : Option FieldType} {rest : List Value} {Post : Option Value → zG → zV → Prop}
theorem x_T0 (hi : i < 9) (hy : y.cls = "java/lang/String") (w : cW own idx y cy ny ry 0) (w2 : Cond.instanceMethod y ∈ WA) (w3 : Cond.selects y.cls y y ∈ WA) (hC : CT X.2.1 Z y cy ny ry dy c1 s1 [.ref (Z.2.2.2.2.1 i)] G V Post) (cx : Cx Z X own nm cc nL ret D mc ms) (d : decode cc pc = .ok (.invokevirtual idx, 3)) (kk : ∀ (r : Option Value) (G' : zG) (V' : zV), Post r G' V' → Wm Z X nL G' V' (k + c1) (n + s1) Q (pc + 3) lw (r.toList ++ rest)) (hd : dy + 1 ≤ D := by decide) (hk : k + c1 ≤ mc := by first | exact Nat.le_of_ble_eq_true rfl | omega) (hn : n + s1 ≤ ms := by first | exact Nat.le_of_ble_eq_true rfl | omega) (hr : (rest.map fun v => v.category).sum ≤ 8 := by exact Nat.le_of_ble_eq_true rfl) : Wm Z X nL G V k n Q pc lw (.ref (Z.2.2.2.2.1 i) :: rest) := x_callT (av := []) hi hy w w2 w3 hC cx d hd hk hn hr kk
theorem x_T1 {v1 : Value} (hi : i < 9) (hy : y.cls = "java/lang/String") (w : cW own idx y cy ny ry 1) (w2 : Cond.instanceMethod y ∈ WA) (w3 : Cond.selects y.cls y y ∈ WA) (hC : CT X.2.1 Z y cy ny ry dy c1 s1 [.ref (Z.2.2.2.2.1 i), v1] G V Post) (cx : Cx Z X own nm cc nL ret D mc ms) (d : decode cc pc = .ok (.invokevirtual idx, 3)) (kk : ∀ (r : Option Value) (G' : zG) (V' : zV), Post r G' V' → Wm Z X nL G' V' (k + c1) (n + s1) Q (pc + 3) lw (r.toList ++ rest)) (hd : dy + 1 ≤ D := by decide) (hk : k + c1 ≤ mc := by first | exact Nat.le_of_ble_eq_true rfl | omega) (hn : n + s1 ≤ ms := by first | exact Nat.le_of_ble_eq_true rfl | omega) (hr : (rest.map fun v => v.category).sum ≤ 8 := by exact Nat.le_of_ble_eq_true rfl) : Wm Z X nL G V k n Q pc lw (v1 :: .ref (Z.2.2.2.2.1 i) :: rest) := x_callT (av := [v1]) hi hy w w2 w3 hC cx d hd hk hn hr kk
end XTC
theorem c_J0_coder_7d493 {l : Launch} {Z : zP} {G : zG} {V : zV} {i : Nat} (hi : i < 9) : CT l Z yJ0_coder_7d493 cJ0_coder_7d493 1 (some .byte) 0 0 0 [.ref (Z.2.2.2.2.1 i)] G V (pI (nI 0) G V) := by
  refine CT.of (by decide +kernel) (Nat.le_of_ble_eq_true rfl) (fun X hX cx => ?_)
  subst hX
  show Wm Z X 1 G V 0 0 _ 0 [(0, some (.ref (Z.2.2.2.2.1 i)))] []
  refine x_getsC (pc := 0) zs_compact cx (dA ddJ0_coder_7d493 (i := 0) rfl) ?_
  refine x_if_eq (pc := 3) (tgt := 13) cx (dA ddJ0_coder_7d493 (i := 1) rfl) (by decide) (fun c3 => absurd c3 (by decide)) (fun c3 => ?_)
  refine x_aload_n (pc := 6) cx (dA ddJ0_coder_7d493 (i := 2) rfl) rfl ?_
  refine x_getCoder (pc := 7) hi zs_coder cx (dA ddJ0_coder_7d493 (i := 3) rfl) ?_
  refine x_goto (pc := 10) (tgt := 14) cx (dA ddJ0_coder_7d493 (i := 4) rfl) (by decide) ?_
  refine x_creturn (pc := 14) cx (dA ddJ0_coder_7d493 (i := 6) rfl) (by first | exact Nat.le_of_ble_eq_true rfl | omega) (by first | exact Nat.le_of_ble_eq_true rfl | omega) rfl ?_
  exact rI rfl
theorem c_J0_isLatin1_aae02 {l : Launch} {Z : zP} {G : zG} {V : zV} {i : Nat} (hi : i < 9) : CT l Z yJ0_isLatin1_aae02 cJ0_isLatin1_aae02 1 (some .boolean) 0 0 0 [.ref (Z.2.2.2.2.1 i)] G V (pI (nI 1) G V) := by
  refine CT.of (by decide +kernel) (Nat.le_of_ble_eq_true rfl) (fun X hX cx => ?_)
  subst hX
  show Wm Z X 1 G V 0 0 _ 0 [(0, some (.ref (Z.2.2.2.2.1 i)))] []
  refine x_getsC (pc := 0) zs_compact cx (dA ddJ0_isLatin1_aae02 (i := 0) rfl) ?_
  refine x_if_eq (pc := 3) (tgt := 17) cx (dA ddJ0_isLatin1_aae02 (i := 1) rfl) (by decide) (fun c3 => absurd c3 (by decide)) (fun c3 => ?_)
  refine x_aload_n (pc := 6) cx (dA ddJ0_isLatin1_aae02 (i := 2) rfl) rfl ?_
  refine x_getCoder (pc := 7) hi zs_coder cx (dA ddJ0_isLatin1_aae02 (i := 3) rfl) ?_
  refine x_if_ne (pc := 10) (tgt := 17) cx (dA ddJ0_isLatin1_aae02 (i := 4) rfl) (by decide) (fun c10 => absurd (by decide) c10) (fun c10 => ?_)
  refine x_iconst (pc := 13) (v := nI 1) cx (dA ddJ0_isLatin1_aae02 (i := 5) rfl) (by decide) ?_
  refine x_goto (pc := 14) (tgt := 18) cx (dA ddJ0_isLatin1_aae02 (i := 6) rfl) (by decide) ?_
  refine x_zreturn (pc := 18) cx (dA ddJ0_isLatin1_aae02 (i := 8) rfl) (by first | exact Nat.le_of_ble_eq_true rfl | omega) (by first | exact Nat.le_of_ble_eq_true rfl | omega) rfl ?_
  exact rI rfl
theorem c_J0_length_8abf5 {l : Launch} {Z : zP} {G : zG} {V : zV} {i : Nat} (hi : i < 9) : CT l Z yJ0_length_8abf5 cJ0_length_8abf5 1 (some .int) 1 0 0 [.ref (Z.2.2.2.2.1 i)] G V (pI (nI (sW i).length) G V) := by
  refine CT.of (by decide +kernel) (Nat.le_of_ble_eq_true rfl) (fun X hX cx => ?_)
  subst hX
  show Wm Z X 1 G V 0 0 _ 0 [(0, some (.ref (Z.2.2.2.2.1 i)))] []
  refine x_aload_n (pc := 0) cx (dA ddJ0_length_8abf5 (i := 0) rfl) rfl ?_
  refine x_getValue (pc := 1) hi zs_value cx (dA ddJ0_length_8abf5 (i := 1) rfl) ?_
  refine x_alenS (pc := 4) hi cx (dA ddJ0_length_8abf5 (i := 2) rfl) ?_
  refine x_aload_n (pc := 5) cx (dA ddJ0_length_8abf5 (i := 3) rfl) rfl ?_
  refine x_T0 (pc := 6) hi rfl mJ0_335 ym_J0_coder_7d493 yv_J0_coder_7d493 (c_J0_coder_7d493 hi) cx (dA ddJ0_length_8abf5 (i := 4) rfl) (kI ?_)
  refine x_ishr (pc := 9) cx (dA ddJ0_length_8abf5 (i := 5) rfl) ?_
  refine x_ireturn (pc := 10) cx (dA ddJ0_length_8abf5 (i := 6) rfl) (by first | exact Nat.le_of_ble_eq_true rfl | omega) (by first | exact Nat.le_of_ble_eq_true rfl | omega) ?_
  refine rI ?_
  have := sW_len i
  exact (pk_shrN (n := (sW i).length) (by omega) (nI 0 &&& 31) 0 (by decide)).trans (by rw [Nat.pow_zero, Nat.div_one])
theorem c_J3_checkIndex_8e157 {l : Launch} {Z : zP} {G : zG} {V : zV} {a b : Nat} {o : Option Nat} (h : a < b) (hb : b < 2 ^ 31) : CT l Z yJ3_checkIndex_8e157 cJ3_checkIndex_8e157 3 (some .int) 0 0 0 [.int (nI a), .int (nI b), va_rf o] G V (pI (nI a) G V) := by
  refine CT.of (by decide +kernel) (by cases o <;> exact Nat.le_of_ble_eq_true rfl) (fun X hX cx => ?_)
  subst hX
  show Wm Z X 3 G V 0 0 _ 0 [(0, some (.int (nI a))), (1, some (.int (nI b))), (2, some (va_rf o))] []
  refine x_iload_n (pc := 0) cx (dA ddJ3_checkIndex_8e157 (i := 0) rfl) rfl ?_
  refine x_if_lt (pc := 1) (tgt := 9) cx (dA ddJ3_checkIndex_8e157 (i := 1) rfl) (by decide) (fun c1 => absurd c1 (nI_pos (by omega))) (fun c1 => ?_)
  refine x_iload_n (pc := 4) cx (dA ddJ3_checkIndex_8e157 (i := 2) rfl) rfl ?_
  refine x_iload_n (pc := 5) cx (dA ddJ3_checkIndex_8e157 (i := 3) rfl) rfl ?_
  refine x_icmp_lt (pc := 6) (tgt := 16) cx (dA ddJ3_checkIndex_8e157 (i := 4) rfl) (by decide) (fun c6 => ?_) (fun c6 => absurd (nI_lt h hb) c6)
  refine x_iload_n (pc := 16) cx (dA ddJ3_checkIndex_8e157 (i := 10) rfl) rfl ?_
  refine x_ireturn (pc := 17) cx (dA ddJ3_checkIndex_8e157 (i := 11) rfl) (by first | exact Nat.le_of_ble_eq_true rfl | omega) (by first | exact Nat.le_of_ble_eq_true rfl | omega) ?_
  exact rI rfl
theorem c_J0_checkIndex_df160 {l : Launch} {Z : zP} {G : zG} {V : zV} {a b : Nat} (h : a < b) (hb : b < 2 ^ 31) : CT l Z yJ0_checkIndex_df160 cJ0_checkIndex_df160 2 none 1 0 0 [.int (nI a), .int (nI b)] G V (pV G V) := by
  refine CT.of (by decide +kernel) (Nat.le_of_ble_eq_true rfl) (fun X hX cx => ?_)
  subst hX
  show Wm Z X 2 G V 0 0 _ 0 [(0, some (.int (nI a))), (1, some (.int (nI b)))] []
  refine x_iload_n (pc := 0) cx (dA ddJ0_checkIndex_df160 (i := 0) rfl) rfl ?_
  refine x_iload_n (pc := 1) cx (dA ddJ0_checkIndex_df160 (i := 1) rfl) rfl ?_
  refine x_getsF (pc := 2) zs_format cx (dA ddJ0_checkIndex_df160 (i := 2) rfl) (fun o => ?_)
  refine x_S3 (pc := 5) mJ0_1059 (c_J3_checkIndex_8e157 (o := o) h hb) cx (dA ddJ0_checkIndex_df160 (i := 3) rfl) (kI ?_) (by decide) (Nat.le_of_ble_eq_true rfl) (Nat.le_of_ble_eq_true rfl) (Nat.le_of_ble_eq_true rfl)
  refine x_pop (pc := 8) cx rfl (dA ddJ0_checkIndex_df160 (i := 4) rfl) ?_
  refine x_return (pc := 9) cx (dA ddJ0_checkIndex_df160 (i := 5) rfl) (by first | exact Nat.le_of_ble_eq_true rfl | omega) (by first | exact Nat.le_of_ble_eq_true rfl | omega) ?_
  exact ⟨rfl, rfl, rfl⟩
theorem c_J1_charAt_3b067 {l : Launch} {Z : zP} {G : zG} {V : zV} {i j : Nat} (hi : i < 9) (hj : j < (sW i).length) : CT l Z yJ1_charAt_3b067 cJ1_charAt_3b067 2 (some .char) 2 0 0 [.ref (Z.2.2.2.2.2 i), .int (nI j)] G V (pI (nI ((sW i).getD j 0)) G V) := by
  refine CT.of (by decide +kernel) (Nat.le_of_ble_eq_true rfl) (fun X hX cx => ?_)
  subst hX
  show Wm Z X 2 G V 0 0 _ 0 [(0, some (.ref (Z.2.2.2.2.2 i))), (1, some (.int (nI j)))] []
  have hlen := sW_len i
  refine x_iload_n (pc := 0) cx (dA ddJ1_charAt_3b067 (i := 0) rfl) rfl ?_
  refine x_aload_n (pc := 1) cx (dA ddJ1_charAt_3b067 (i := 1) rfl) rfl ?_
  refine x_alenS (pc := 2) hi cx (dA ddJ1_charAt_3b067 (i := 2) rfl) ?_
  refine x_S2 (pc := 3) mJ1_9 (c_J0_checkIndex_df160 hj (by omega)) cx (dA ddJ1_charAt_3b067 (i := 3) rfl) (kV ?_)
  refine x_aload_n (pc := 6) cx (dA ddJ1_charAt_3b067 (i := 4) rfl) rfl ?_
  refine x_iload_n (pc := 7) cx (dA ddJ1_charAt_3b067 (i := 5) rfl) rfl ?_
  refine x_baloadS (pc := 8) hi hj (by omega) cx (dA ddJ1_charAt_3b067 (i := 6) rfl) ?_
  refine x_sipush (pc := 9) (v := nI 255) cx (dA ddJ1_charAt_3b067 (i := 7) rfl) (by decide) ?_
  refine x_iand (pc := 12) cx (dA ddJ1_charAt_3b067 (i := 8) rfl) ?_
  refine x_i2c (pc := 13) cx (dA ddJ1_charAt_3b067 (i := 9) rfl) ?_
  refine x_creturn (pc := 14) cx (dA ddJ1_charAt_3b067 (i := 10) rfl) (by first | exact Nat.le_of_ble_eq_true rfl | omega) (by first | exact Nat.le_of_ble_eq_true rfl | omega) (by rw [sW_ch i j]; exact zc_nar _ (sW_lt i j)) ?_
  refine rI ?_
  exact sW_ch i j
theorem c_J0_charAt_5068e {l : Launch} {Z : zP} {G : zG} {V : zV} {i j : Nat} (hi : i < 9) (hj : j < (sW i).length) : CT l Z yJ0_charAt_5068e cJ0_charAt_5068e 2 (some .char) 3 0 0 [.ref (Z.2.2.2.2.1 i), .int (nI j)] G V (pI (nI ((sW i).getD j 0)) G V) := by
  refine CT.of (by decide +kernel) (Nat.le_of_ble_eq_true rfl) (fun X hX cx => ?_)
  subst hX
  show Wm Z X 2 G V 0 0 _ 0 [(0, some (.ref (Z.2.2.2.2.1 i))), (1, some (.int (nI j)))] []
  refine x_aload_n (pc := 0) cx (dA ddJ0_charAt_5068e (i := 0) rfl) rfl ?_
  refine x_T0 (pc := 1) hi rfl mJ0_492 ym_J0_isLatin1_aae02 yv_J0_isLatin1_aae02 (c_J0_isLatin1_aae02 hi) cx (dA ddJ0_charAt_5068e (i := 1) rfl) (kI ?_)
  refine x_if_eq (pc := 4) (tgt := 16) cx (dA ddJ0_charAt_5068e (i := 2) rfl) (by decide) (fun c4 => absurd c4 (by decide)) (fun c4 => ?_)
  refine x_aload_n (pc := 7) cx (dA ddJ0_charAt_5068e (i := 3) rfl) rfl ?_
  refine x_getValue (pc := 8) hi zs_value cx (dA ddJ0_charAt_5068e (i := 4) rfl) ?_
  refine x_iload_n (pc := 11) cx (dA ddJ0_charAt_5068e (i := 5) rfl) rfl ?_
  refine x_S2 (pc := 12) mJ0_495 (c_J1_charAt_3b067 hi hj) cx (dA ddJ0_charAt_5068e (i := 6) rfl) (kI ?_)
  refine x_creturn (pc := 15) cx (dA ddJ0_charAt_5068e (i := 7) rfl) (by first | exact Nat.le_of_ble_eq_true rfl | omega) (by first | exact Nat.le_of_ble_eq_true rfl | omega) (zc_nar _ (sW_lt i j)) ?_
  exact rI rfl
end
