section
-- ===== PART A: goes FIRST, ahead of the names: the tables' words, and 'selects' of the private methods out of them =====
/-- a private method of a class that the tables say can be made, by its rows of tables_1 -/
def lw_okq (q : MethodName × Nat) : Prop := (q.1.cls ≠ "java/lang/invoke/MethodHandle" ∧ q.1.cls ≠ "java/lang/invoke/VarHandle") ∧ Cond.instantiable q.1.cls q.2 ∈ tables_1 ∧ Cond.privateMethod q.1 ∈ tables_1 ∧ Cond.instanceMethod q.1 ∈ tables_1
theorem lw_p0 : lw_okq (⟨"SendTheBox", "refuse", "(I)I"⟩, 12) := ⟨⟨by decide +kernel, by decide +kernel⟩, List.mem_of_getElem? (i := 17) (by decide +kernel), List.mem_of_getElem? (i := 229) (by decide +kernel), List.mem_of_getElem? (i := 230) (by decide +kernel)⟩
theorem lw_p1 : lw_okq (⟨"SendTheBox", "putOnShelf", "(ILSendTheBox$Row;LSendTheBox$Rule;)V"⟩, 12) := ⟨⟨by decide +kernel, by decide +kernel⟩, List.mem_of_getElem? (i := 17) (by decide +kernel), List.mem_of_getElem? (i := 246) (by decide +kernel), List.mem_of_getElem? (i := 247) (by decide +kernel)⟩
theorem lw_p2 : lw_okq (⟨"SendTheBox", "rowAt", "(I)LSendTheBox$Row;"⟩, 12) := ⟨⟨by decide +kernel, by decide +kernel⟩, List.mem_of_getElem? (i := 17) (by decide +kernel), List.mem_of_getElem? (i := 254) (by decide +kernel), List.mem_of_getElem? (i := 255) (by decide +kernel)⟩
theorem lw_p3 : lw_okq (⟨"SendTheBox", "lackOnShelf", "(I)I"⟩, 12) := ⟨⟨by decide +kernel, by decide +kernel⟩, List.mem_of_getElem? (i := 17) (by decide +kernel), List.mem_of_getElem? (i := 258) (by decide +kernel), List.mem_of_getElem? (i := 259) (by decide +kernel)⟩
theorem lw_p4 : lw_okq (⟨"SendTheBox", "ruleAt", "(I)LSendTheBox$Rule;"⟩, 12) := ⟨⟨by decide +kernel, by decide +kernel⟩, List.mem_of_getElem? (i := 17) (by decide +kernel), List.mem_of_getElem? (i := 262) (by decide +kernel), List.mem_of_getElem? (i := 263) (by decide +kernel)⟩
theorem lw_p5 : lw_okq (⟨"SendTheBox$Row", "lowestBits", "(J)J"⟩, 2) := ⟨⟨by decide +kernel, by decide +kernel⟩, List.mem_of_getElem? (i := 232) (by decide +kernel), List.mem_of_getElem? (i := 275) (by decide +kernel), List.mem_of_getElem? (i := 276) (by decide +kernel)⟩
theorem lw_p6 : lw_okq (⟨"SendTheBox$Tape", "advance", "()V"⟩, 5) := ⟨⟨by decide +kernel, by decide +kernel⟩, List.mem_of_getElem? (i := 94) (by decide +kernel), List.mem_of_getElem? (i := 404) (by decide +kernel), List.mem_of_getElem? (i := 405) (by decide +kernel)⟩
theorem lw_p7 : lw_okq (⟨"SendTheBox$Tape", "byteAt", "(I)I"⟩, 5) := ⟨⟨by decide +kernel, by decide +kernel⟩, List.mem_of_getElem? (i := 94) (by decide +kernel), List.mem_of_getElem? (i := 408) (by decide +kernel), List.mem_of_getElem? (i := 409) (by decide +kernel)⟩
theorem lw_p8 : lw_okq (⟨"SendTheBox$Tape", "readStatement", "(LSendTheBox$House;)Z"⟩, 5) := ⟨⟨by decide +kernel, by decide +kernel⟩, List.mem_of_getElem? (i := 94) (by decide +kernel), List.mem_of_getElem? (i := 415) (by decide +kernel), List.mem_of_getElem? (i := 416) (by decide +kernel)⟩
theorem lw_p9 : lw_okq (⟨"SendTheBox$Tape", "isWord", "(Ljava/lang/String;)Z"⟩, 5) := ⟨⟨by decide +kernel, by decide +kernel⟩, List.mem_of_getElem? (i := 94) (by decide +kernel), List.mem_of_getElem? (i := 420) (by decide +kernel), List.mem_of_getElem? (i := 421) (by decide +kernel)⟩
theorem lw_p10 : lw_okq (⟨"SendTheBox$Tape", "readHouseNumber", "(LSendTheBox$House;I)Z"⟩, 5) := ⟨⟨by decide +kernel, by decide +kernel⟩, List.mem_of_getElem? (i := 94) (by decide +kernel), List.mem_of_getElem? (i := 472) (by decide +kernel), List.mem_of_getElem? (i := 473) (by decide +kernel)⟩
theorem lw_p11 : lw_okq (⟨"SendTheBox$Tape", "numberHere", "()I"⟩, 5) := ⟨⟨by decide +kernel, by decide +kernel⟩, List.mem_of_getElem? (i := 94) (by decide +kernel), List.mem_of_getElem? (i := 476) (by decide +kernel), List.mem_of_getElem? (i := 477) (by decide +kernel)⟩
theorem lw_p12 : lw_okq (⟨"SendTheBox$Tape", "readSort", "(LSendTheBox$House;)Z"⟩, 5) := ⟨⟨by decide +kernel, by decide +kernel⟩, List.mem_of_getElem? (i := 94) (by decide +kernel), List.mem_of_getElem? (i := 496) (by decide +kernel), List.mem_of_getElem? (i := 497) (by decide +kernel)⟩
theorem lw_p13 : lw_okq (⟨"SendTheBox$Tape", "readSortNumber", "(LSendTheBox$House;II)Z"⟩, 5) := ⟨⟨by decide +kernel, by decide +kernel⟩, List.mem_of_getElem? (i := 94) (by decide +kernel), List.mem_of_getElem? (i := 507) (by decide +kernel), List.mem_of_getElem? (i := 508) (by decide +kernel)⟩
theorem lw_p14 : lw_okq (⟨"SendTheBox", "planOf", "(I)LSendTheBox$Plan;"⟩, 12) := ⟨⟨by decide +kernel, by decide +kernel⟩, List.mem_of_getElem? (i := 17) (by decide +kernel), List.mem_of_getElem? (i := 577) (by decide +kernel), List.mem_of_getElem? (i := 578) (by decide +kernel)⟩
theorem lw_p15 : lw_okq (⟨"SendTheBox$Plan", "workOut", "(I)V"⟩, 15) := ⟨⟨by decide +kernel, by decide +kernel⟩, List.mem_of_getElem? (i := 123) (by decide +kernel), List.mem_of_getElem? (i := 650) (by decide +kernel), List.mem_of_getElem? (i := 651) (by decide +kernel)⟩
def lw_privs_1 : List (MethodName × Nat) := [(⟨"SendTheBox", "refuse", "(I)I"⟩, 12), (⟨"SendTheBox", "putOnShelf", "(ILSendTheBox$Row;LSendTheBox$Rule;)V"⟩, 12), (⟨"SendTheBox", "rowAt", "(I)LSendTheBox$Row;"⟩, 12), (⟨"SendTheBox", "lackOnShelf", "(I)I"⟩, 12), (⟨"SendTheBox", "ruleAt", "(I)LSendTheBox$Rule;"⟩, 12), (⟨"SendTheBox$Row", "lowestBits", "(J)J"⟩, 2), (⟨"SendTheBox$Tape", "advance", "()V"⟩, 5), (⟨"SendTheBox$Tape", "byteAt", "(I)I"⟩, 5), (⟨"SendTheBox$Tape", "readStatement", "(LSendTheBox$House;)Z"⟩, 5), (⟨"SendTheBox$Tape", "isWord", "(Ljava/lang/String;)Z"⟩, 5), (⟨"SendTheBox$Tape", "readHouseNumber", "(LSendTheBox$House;I)Z"⟩, 5), (⟨"SendTheBox$Tape", "numberHere", "()I"⟩, 5), (⟨"SendTheBox$Tape", "readSort", "(LSendTheBox$House;)Z"⟩, 5), (⟨"SendTheBox$Tape", "readSortNumber", "(LSendTheBox$House;II)Z"⟩, 5), (⟨"SendTheBox", "planOf", "(I)LSendTheBox$Plan;"⟩, 12), (⟨"SendTheBox$Plan", "workOut", "(I)V"⟩, 15)]
theorem lw_r1 : ∀ q ∈ lw_privs_1, lw_okq q := List.forall_mem_cons.mpr ⟨lw_p0, List.forall_mem_cons.mpr ⟨lw_p1, List.forall_mem_cons.mpr ⟨lw_p2, List.forall_mem_cons.mpr ⟨lw_p3, List.forall_mem_cons.mpr ⟨lw_p4, List.forall_mem_cons.mpr ⟨lw_p5, List.forall_mem_cons.mpr ⟨lw_p6, List.forall_mem_cons.mpr ⟨lw_p7, List.forall_mem_cons.mpr ⟨lw_p8, List.forall_mem_cons.mpr ⟨lw_p9, List.forall_mem_cons.mpr ⟨lw_p10, List.forall_mem_cons.mpr ⟨lw_p11, List.forall_mem_cons.mpr ⟨lw_p12, List.forall_mem_cons.mpr ⟨lw_p13, List.forall_mem_cons.mpr ⟨lw_p14, List.forall_mem_cons.mpr ⟨lw_p15, fun _ h => absurd h List.not_mem_nil⟩⟩⟩⟩⟩⟩⟩⟩⟩⟩⟩⟩⟩⟩⟩⟩
theorem lw_p16 : lw_okq (⟨"SendTheBox$Plan", "startFromEnd", "()V"⟩, 15) := ⟨⟨by decide +kernel, by decide +kernel⟩, List.mem_of_getElem? (i := 123) (by decide +kernel), List.mem_of_getElem? (i := 655) (by decide +kernel), List.mem_of_getElem? (i := 656) (by decide +kernel)⟩
theorem lw_p17 : lw_okq (⟨"SendTheBox$Plan", "takeCosts", "(I)V"⟩, 15) := ⟨⟨by decide +kernel, by decide +kernel⟩, List.mem_of_getElem? (i := 123) (by decide +kernel), List.mem_of_getElem? (i := 662) (by decide +kernel), List.mem_of_getElem? (i := 663) (by decide +kernel)⟩
theorem lw_p18 : lw_okq (⟨"SendTheBox$Plan", "goBackToLoad", "(I)V"⟩, 15) := ⟨⟨by decide +kernel, by decide +kernel⟩, List.mem_of_getElem? (i := 123) (by decide +kernel), List.mem_of_getElem? (i := 670) (by decide +kernel), List.mem_of_getElem? (i := 671) (by decide +kernel)⟩
theorem lw_p19 : lw_okq (⟨"SendTheBox$Plan", "keepWork", "([JI)V"⟩, 15) := ⟨⟨by decide +kernel, by decide +kernel⟩, List.mem_of_getElem? (i := 123) (by decide +kernel), List.mem_of_getElem? (i := 679) (by decide +kernel), List.mem_of_getElem? (i := 680) (by decide +kernel)⟩
theorem lw_p20 : lw_okq (⟨"SendTheBox$Plan", "boxCost", "(I)J"⟩, 15) := ⟨⟨by decide +kernel, by decide +kernel⟩, List.mem_of_getElem? (i := 123) (by decide +kernel), List.mem_of_getElem? (i := 683) (by decide +kernel), List.mem_of_getElem? (i := 684) (by decide +kernel)⟩
theorem lw_p21 : lw_okq (⟨"SendTheBox$Plan", "unitOf", "(I)J"⟩, 15) := ⟨⟨by decide +kernel, by decide +kernel⟩, List.mem_of_getElem? (i := 123) (by decide +kernel), List.mem_of_getElem? (i := 688) (by decide +kernel), List.mem_of_getElem? (i := 689) (by decide +kernel)⟩
theorem lw_p22 : lw_okq (⟨"SendTheBox$Plan", "goBackBest", "(IJ)V"⟩, 15) := ⟨⟨by decide +kernel, by decide +kernel⟩, List.mem_of_getElem? (i := 123) (by decide +kernel), List.mem_of_getElem? (i := 693) (by decide +kernel), List.mem_of_getElem? (i := 694) (by decide +kernel)⟩
theorem lw_p23 : lw_okq (⟨"SendTheBox$Plan", "pick", "(IJZ)I"⟩, 15) := ⟨⟨by decide +kernel, by decide +kernel⟩, List.mem_of_getElem? (i := 123) (by decide +kernel), List.mem_of_getElem? (i := 697) (by decide +kernel), List.mem_of_getElem? (i := 698) (by decide +kernel)⟩
theorem lw_p24 : lw_okq (⟨"SendTheBox$Plan", "mix", "(IIJ)V"⟩, 15) := ⟨⟨by decide +kernel, by decide +kernel⟩, List.mem_of_getElem? (i := 123) (by decide +kernel), List.mem_of_getElem? (i := 701) (by decide +kernel), List.mem_of_getElem? (i := 702) (by decide +kernel)⟩
theorem lw_p25 : lw_okq (⟨"SendTheBox$Plan", "loadWorkedOut", "(II)I"⟩, 15) := ⟨⟨by decide +kernel, by decide +kernel⟩, List.mem_of_getElem? (i := 123) (by decide +kernel), List.mem_of_getElem? (i := 718) (by decide +kernel), List.mem_of_getElem? (i := 719) (by decide +kernel)⟩
theorem lw_p26 : lw_okq (⟨"SendTheBox$Plan", "goBackPromised", "(JZ)V"⟩, 15) := ⟨⟨by decide +kernel, by decide +kernel⟩, List.mem_of_getElem? (i := 123) (by decide +kernel), List.mem_of_getElem? (i := 759) (by decide +kernel), List.mem_of_getElem? (i := 760) (by decide +kernel)⟩
theorem lw_p27 : lw_okq (⟨"SendTheBox$Plan", "leastRoomSent", "(I)I"⟩, 15) := ⟨⟨by decide +kernel, by decide +kernel⟩, List.mem_of_getElem? (i := 123) (by decide +kernel), List.mem_of_getElem? (i := 771) (by decide +kernel), List.mem_of_getElem? (i := 772) (by decide +kernel)⟩
theorem lw_p28 : lw_okq (⟨"SendTheBox$Plan", "oddFrom", "(II)I"⟩, 15) := ⟨⟨by decide +kernel, by decide +kernel⟩, List.mem_of_getElem? (i := 123) (by decide +kernel), List.mem_of_getElem? (i := 776) (by decide +kernel), List.mem_of_getElem? (i := 777) (by decide +kernel)⟩
theorem lw_p29 : lw_okq (⟨"SendTheBox", "ruleFor", "(LSendTheBox$Plan;I)LSendTheBox$Rule;"⟩, 12) := ⟨⟨by decide +kernel, by decide +kernel⟩, List.mem_of_getElem? (i := 17) (by decide +kernel), List.mem_of_getElem? (i := 805) (by decide +kernel), List.mem_of_getElem? (i := 806) (by decide +kernel)⟩
theorem lw_p30 : lw_okq (⟨"SendTheBox$Rule", "isItsDay", "(I)Z"⟩, 4) := ⟨⟨by decide +kernel, by decide +kernel⟩, List.mem_of_getElem? (i := 317) (by decide +kernel), List.mem_of_getElem? (i := 821) (by decide +kernel), List.mem_of_getElem? (i := 822) (by decide +kernel)⟩
theorem lw_p31 : lw_okq (⟨"SendTheBox$Plan", "spread", "(LSendTheBox$Rule;I)V"⟩, 15) := ⟨⟨by decide +kernel, by decide +kernel⟩, List.mem_of_getElem? (i := 123) (by decide +kernel), List.mem_of_getElem? (i := 852) (by decide +kernel), List.mem_of_getElem? (i := 853) (by decide +kernel)⟩
def lw_privs_2 : List (MethodName × Nat) := [(⟨"SendTheBox$Plan", "startFromEnd", "()V"⟩, 15), (⟨"SendTheBox$Plan", "takeCosts", "(I)V"⟩, 15), (⟨"SendTheBox$Plan", "goBackToLoad", "(I)V"⟩, 15), (⟨"SendTheBox$Plan", "keepWork", "([JI)V"⟩, 15), (⟨"SendTheBox$Plan", "boxCost", "(I)J"⟩, 15), (⟨"SendTheBox$Plan", "unitOf", "(I)J"⟩, 15), (⟨"SendTheBox$Plan", "goBackBest", "(IJ)V"⟩, 15), (⟨"SendTheBox$Plan", "pick", "(IJZ)I"⟩, 15), (⟨"SendTheBox$Plan", "mix", "(IIJ)V"⟩, 15), (⟨"SendTheBox$Plan", "loadWorkedOut", "(II)I"⟩, 15), (⟨"SendTheBox$Plan", "goBackPromised", "(JZ)V"⟩, 15), (⟨"SendTheBox$Plan", "leastRoomSent", "(I)I"⟩, 15), (⟨"SendTheBox$Plan", "oddFrom", "(II)I"⟩, 15), (⟨"SendTheBox", "ruleFor", "(LSendTheBox$Plan;I)LSendTheBox$Rule;"⟩, 12), (⟨"SendTheBox$Rule", "isItsDay", "(I)Z"⟩, 4), (⟨"SendTheBox$Plan", "spread", "(LSendTheBox$Rule;I)V"⟩, 15)]
theorem lw_r2 : ∀ q ∈ lw_privs_2, lw_okq q := List.forall_mem_cons.mpr ⟨lw_p16, List.forall_mem_cons.mpr ⟨lw_p17, List.forall_mem_cons.mpr ⟨lw_p18, List.forall_mem_cons.mpr ⟨lw_p19, List.forall_mem_cons.mpr ⟨lw_p20, List.forall_mem_cons.mpr ⟨lw_p21, List.forall_mem_cons.mpr ⟨lw_p22, List.forall_mem_cons.mpr ⟨lw_p23, List.forall_mem_cons.mpr ⟨lw_p24, List.forall_mem_cons.mpr ⟨lw_p25, List.forall_mem_cons.mpr ⟨lw_p26, List.forall_mem_cons.mpr ⟨lw_p27, List.forall_mem_cons.mpr ⟨lw_p28, List.forall_mem_cons.mpr ⟨lw_p29, List.forall_mem_cons.mpr ⟨lw_p30, List.forall_mem_cons.mpr ⟨lw_p31, fun _ h => absurd h List.not_mem_nil⟩⟩⟩⟩⟩⟩⟩⟩⟩⟩⟩⟩⟩⟩⟩⟩
theorem lw_p32 : lw_okq (⟨"SendTheBox$Plan", "startSpread", "()V"⟩, 15) := ⟨⟨by decide +kernel, by decide +kernel⟩, List.mem_of_getElem? (i := 123) (by decide +kernel), List.mem_of_getElem? (i := 856) (by decide +kernel), List.mem_of_getElem? (i := 857) (by decide +kernel)⟩
theorem lw_p33 : lw_okq (⟨"SendTheBox$Plan", "spreadLoad", "(LSendTheBox$Rule;I)J"⟩, 15) := ⟨⟨by decide +kernel, by decide +kernel⟩, List.mem_of_getElem? (i := 123) (by decide +kernel), List.mem_of_getElem? (i := 860) (by decide +kernel), List.mem_of_getElem? (i := 861) (by decide +kernel)⟩
theorem lw_p34 : lw_okq (⟨"SendTheBox$Plan", "spreadWhatComes", "()V"⟩, 15) := ⟨⟨by decide +kernel, by decide +kernel⟩, List.mem_of_getElem? (i := 123) (by decide +kernel), List.mem_of_getElem? (i := 864) (by decide +kernel), List.mem_of_getElem? (i := 865) (by decide +kernel)⟩
theorem lw_p35 : lw_okq (⟨"SendTheBox$Plan", "isRoomOfSome", "(I)Z"⟩, 15) := ⟨⟨by decide +kernel, by decide +kernel⟩, List.mem_of_getElem? (i := 123) (by decide +kernel), List.mem_of_getElem? (i := 900) (by decide +kernel), List.mem_of_getElem? (i := 901) (by decide +kernel)⟩
theorem lw_p36 : lw_okq (⟨"SendTheBox", "passDays", "(LSendTheBox$Week;LSendTheBox$Plan;I)I"⟩, 12) := ⟨⟨by decide +kernel, by decide +kernel⟩, List.mem_of_getElem? (i := 17) (by decide +kernel), List.mem_of_getElem? (i := 967) (by decide +kernel), List.mem_of_getElem? (i := 968) (by decide +kernel)⟩
theorem lw_p37 : lw_okq (⟨"SendTheBox$Week", "send", "(I)I"⟩, 8) := ⟨⟨by decide +kernel, by decide +kernel⟩, List.mem_of_getElem? (i := 33) (by decide +kernel), List.mem_of_getElem? (i := 982) (by decide +kernel), List.mem_of_getElem? (i := 983) (by decide +kernel)⟩
theorem lw_p38 : lw_okq (⟨"SendTheBox$Week", "receive", "(I)I"⟩, 8) := ⟨⟨by decide +kernel, by decide +kernel⟩, List.mem_of_getElem? (i := 33) (by decide +kernel), List.mem_of_getElem? (i := 990) (by decide +kernel), List.mem_of_getElem? (i := 991) (by decide +kernel)⟩
theorem lw_p39 : lw_okq (⟨"SendTheBox", "shelvesInUse", "()I"⟩, 12) := ⟨⟨by decide +kernel, by decide +kernel⟩, List.mem_of_getElem? (i := 17) (by decide +kernel), List.mem_of_getElem? (i := 1027) (by decide +kernel), List.mem_of_getElem? (i := 1028) (by decide +kernel)⟩
theorem lw_p40 : lw_okq (⟨"SendTheBoxModel", "refuse", "(I)I"⟩, 46) := ⟨⟨by decide +kernel, by decide +kernel⟩, List.mem_of_getElem? (i := 1031) (by decide +kernel), List.mem_of_getElem? (i := 1190) (by decide +kernel), List.mem_of_getElem? (i := 1191) (by decide +kernel)⟩
theorem lw_p41 : lw_okq (⟨"SendTheBoxModel", "read", "([I)Z"⟩, 46) := ⟨⟨by decide +kernel, by decide +kernel⟩, List.mem_of_getElem? (i := 1031) (by decide +kernel), List.mem_of_getElem? (i := 1239) (by decide +kernel), List.mem_of_getElem? (i := 1240) (by decide +kernel)⟩
theorem lw_p42 : lw_okq (⟨"SendTheBoxModel", "look", "()V"⟩, 46) := ⟨⟨by decide +kernel, by decide +kernel⟩, List.mem_of_getElem? (i := 1031) (by decide +kernel), List.mem_of_getElem? (i := 1243) (by decide +kernel), List.mem_of_getElem? (i := 1244) (by decide +kernel)⟩
theorem lw_p43 : lw_okq (⟨"SendTheBoxModel", "statement", "([I)Z"⟩, 46) := ⟨⟨by decide +kernel, by decide +kernel⟩, List.mem_of_getElem? (i := 1031) (by decide +kernel), List.mem_of_getElem? (i := 1256) (by decide +kernel), List.mem_of_getElem? (i := 1257) (by decide +kernel)⟩
theorem lw_p44 : lw_okq (⟨"SendTheBoxModel", "isWord", "(Ljava/lang/String;)Z"⟩, 46) := ⟨⟨by decide +kernel, by decide +kernel⟩, List.mem_of_getElem? (i := 1031) (by decide +kernel), List.mem_of_getElem? (i := 1261) (by decide +kernel), List.mem_of_getElem? (i := 1262) (by decide +kernel)⟩
theorem lw_p45 : lw_okq (⟨"SendTheBoxModel", "told", "(Ljava/lang/String;[IIII)Z"⟩, 46) := ⟨⟨by decide +kernel, by decide +kernel⟩, List.mem_of_getElem? (i := 1031) (by decide +kernel), List.mem_of_getElem? (i := 1267) (by decide +kernel), List.mem_of_getElem? (i := 1268) (by decide +kernel)⟩
theorem lw_p46 : lw_okq (⟨"SendTheBoxModel", "wrong", "()Z"⟩, 46) := ⟨⟨by decide +kernel, by decide +kernel⟩, List.mem_of_getElem? (i := 1031) (by decide +kernel), List.mem_of_getElem? (i := 1271) (by decide +kernel), List.mem_of_getElem? (i := 1272) (by decide +kernel)⟩
theorem lw_p47 : lw_okq (⟨"SendTheBoxModel", "isHouse", "(I)Z"⟩, 46) := ⟨⟨by decide +kernel, by decide +kernel⟩, List.mem_of_getElem? (i := 1031) (by decide +kernel), List.mem_of_getElem? (i := 1287) (by decide +kernel), List.mem_of_getElem? (i := 1288) (by decide +kernel)⟩
def lw_privs_3 : List (MethodName × Nat) := [(⟨"SendTheBox$Plan", "startSpread", "()V"⟩, 15), (⟨"SendTheBox$Plan", "spreadLoad", "(LSendTheBox$Rule;I)J"⟩, 15), (⟨"SendTheBox$Plan", "spreadWhatComes", "()V"⟩, 15), (⟨"SendTheBox$Plan", "isRoomOfSome", "(I)Z"⟩, 15), (⟨"SendTheBox", "passDays", "(LSendTheBox$Week;LSendTheBox$Plan;I)I"⟩, 12), (⟨"SendTheBox$Week", "send", "(I)I"⟩, 8), (⟨"SendTheBox$Week", "receive", "(I)I"⟩, 8), (⟨"SendTheBox", "shelvesInUse", "()I"⟩, 12), (⟨"SendTheBoxModel", "refuse", "(I)I"⟩, 46), (⟨"SendTheBoxModel", "read", "([I)Z"⟩, 46), (⟨"SendTheBoxModel", "look", "()V"⟩, 46), (⟨"SendTheBoxModel", "statement", "([I)Z"⟩, 46), (⟨"SendTheBoxModel", "isWord", "(Ljava/lang/String;)Z"⟩, 46), (⟨"SendTheBoxModel", "told", "(Ljava/lang/String;[IIII)Z"⟩, 46), (⟨"SendTheBoxModel", "wrong", "()Z"⟩, 46), (⟨"SendTheBoxModel", "isHouse", "(I)Z"⟩, 46)]
theorem lw_r3 : ∀ q ∈ lw_privs_3, lw_okq q := List.forall_mem_cons.mpr ⟨lw_p32, List.forall_mem_cons.mpr ⟨lw_p33, List.forall_mem_cons.mpr ⟨lw_p34, List.forall_mem_cons.mpr ⟨lw_p35, List.forall_mem_cons.mpr ⟨lw_p36, List.forall_mem_cons.mpr ⟨lw_p37, List.forall_mem_cons.mpr ⟨lw_p38, List.forall_mem_cons.mpr ⟨lw_p39, List.forall_mem_cons.mpr ⟨lw_p40, List.forall_mem_cons.mpr ⟨lw_p41, List.forall_mem_cons.mpr ⟨lw_p42, List.forall_mem_cons.mpr ⟨lw_p43, List.forall_mem_cons.mpr ⟨lw_p44, List.forall_mem_cons.mpr ⟨lw_p45, List.forall_mem_cons.mpr ⟨lw_p46, List.forall_mem_cons.mpr ⟨lw_p47, fun _ h => absurd h List.not_mem_nil⟩⟩⟩⟩⟩⟩⟩⟩⟩⟩⟩⟩⟩⟩⟩⟩
theorem lw_p48 : lw_okq (⟨"SendTheBoxModel", "sorts", "(I)I"⟩, 46) := ⟨⟨by decide +kernel, by decide +kernel⟩, List.mem_of_getElem? (i := 1031) (by decide +kernel), List.mem_of_getElem? (i := 1295) (by decide +kernel), List.mem_of_getElem? (i := 1296) (by decide +kernel)⟩
theorem lw_p49 : lw_okq (⟨"SendTheBoxModel", "isState", "(II)Z"⟩, 46) := ⟨⟨by decide +kernel, by decide +kernel⟩, List.mem_of_getElem? (i := 1031) (by decide +kernel), List.mem_of_getElem? (i := 1326) (by decide +kernel), List.mem_of_getElem? (i := 1327) (by decide +kernel)⟩
theorem lw_p50 : lw_okq (⟨"SendTheBoxModel", "states", "(I)I"⟩, 46) := ⟨⟨by decide +kernel, by decide +kernel⟩, List.mem_of_getElem? (i := 1031) (by decide +kernel), List.mem_of_getElem? (i := 1330) (by decide +kernel), List.mem_of_getElem? (i := 1331) (by decide +kernel)⟩
theorem lw_p51 : lw_okq (⟨"SendTheBoxModel", "sum", "(III)I"⟩, 46) := ⟨⟨by decide +kernel, by decide +kernel⟩, List.mem_of_getElem? (i := 1031) (by decide +kernel), List.mem_of_getElem? (i := 1334) (by decide +kernel), List.mem_of_getElem? (i := 1335) (by decide +kernel)⟩
theorem lw_p52 : lw_okq (⟨"SendTheBoxModel", "numberOf", "(III)I"⟩, 46) := ⟨⟨by decide +kernel, by decide +kernel⟩, List.mem_of_getElem? (i := 1031) (by decide +kernel), List.mem_of_getElem? (i := 1338) (by decide +kernel), List.mem_of_getElem? (i := 1339) (by decide +kernel)⟩
theorem lw_p53 : lw_okq (⟨"SendTheBoxModel", "isLeft", "(II)Z"⟩, 46) := ⟨⟨by decide +kernel, by decide +kernel⟩, List.mem_of_getElem? (i := 1031) (by decide +kernel), List.mem_of_getElem? (i := 1346) (by decide +kernel), List.mem_of_getElem? (i := 1347) (by decide +kernel)⟩
theorem lw_p54 : lw_okq (⟨"SendTheBoxModel", "scaleOf", "(II)J"⟩, 46) := ⟨⟨by decide +kernel, by decide +kernel⟩, List.mem_of_getElem? (i := 1031) (by decide +kernel), List.mem_of_getElem? (i := 1350) (by decide +kernel), List.mem_of_getElem? (i := 1351) (by decide +kernel)⟩
theorem lw_p55 : lw_okq (⟨"SendTheBoxModel", "fillOf", "(II)I"⟩, 46) := ⟨⟨by decide +kernel, by decide +kernel⟩, List.mem_of_getElem? (i := 1031) (by decide +kernel), List.mem_of_getElem? (i := 1358) (by decide +kernel), List.mem_of_getElem? (i := 1359) (by decide +kernel)⟩
theorem lw_p56 : lw_okq (⟨"SendTheBoxModel", "findBest", "(I)V"⟩, 46) := ⟨⟨by decide +kernel, by decide +kernel⟩, List.mem_of_getElem? (i := 1031) (by decide +kernel), List.mem_of_getElem? (i := 1366) (by decide +kernel), List.mem_of_getElem? (i := 1367) (by decide +kernel)⟩
theorem lw_p57 : lw_okq (⟨"SendTheBoxModel", "findWays", "(I)V"⟩, 46) := ⟨⟨by decide +kernel, by decide +kernel⟩, List.mem_of_getElem? (i := 1031) (by decide +kernel), List.mem_of_getElem? (i := 1370) (by decide +kernel), List.mem_of_getElem? (i := 1371) (by decide +kernel)⟩
theorem lw_p58 : lw_okq (⟨"SendTheBoxModel", "behind", "(III[J)J"⟩, 46) := ⟨⟨by decide +kernel, by decide +kernel⟩, List.mem_of_getElem? (i := 1031) (by decide +kernel), List.mem_of_getElem? (i := 1374) (by decide +kernel), List.mem_of_getElem? (i := 1375) (by decide +kernel)⟩
theorem lw_p59 : lw_okq (⟨"SendTheBoxModel", "isLoad", "(III)Z"⟩, 46) := ⟨⟨by decide +kernel, by decide +kernel⟩, List.mem_of_getElem? (i := 1031) (by decide +kernel), List.mem_of_getElem? (i := 1378) (by decide +kernel), List.mem_of_getElem? (i := 1379) (by decide +kernel)⟩
theorem lw_p60 : lw_okq (⟨"SendTheBoxModel", "boxOf", "(II)J"⟩, 46) := ⟨⟨by decide +kernel, by decide +kernel⟩, List.mem_of_getElem? (i := 1031) (by decide +kernel), List.mem_of_getElem? (i := 1382) (by decide +kernel), List.mem_of_getElem? (i := 1383) (by decide +kernel)⟩
theorem lw_p61 : lw_okq (⟨"SendTheBoxModel", "noRule", "(I)I"⟩, 46) := ⟨⟨by decide +kernel, by decide +kernel⟩, List.mem_of_getElem? (i := 1031) (by decide +kernel), List.mem_of_getElem? (i := 1394) (by decide +kernel), List.mem_of_getElem? (i := 1395) (by decide +kernel)⟩
theorem lw_p62 : lw_okq (⟨"SendTheBoxModel", "loadBy", "(IIII)I"⟩, 46) := ⟨⟨by decide +kernel, by decide +kernel⟩, List.mem_of_getElem? (i := 1031) (by decide +kernel), List.mem_of_getElem? (i := 1398) (by decide +kernel), List.mem_of_getElem? (i := 1399) (by decide +kernel)⟩
theorem lw_p63 : lw_okq (⟨"SendTheBoxModel", "fillsBy", "(IIII)Z"⟩, 46) := ⟨⟨by decide +kernel, by decide +kernel⟩, List.mem_of_getElem? (i := 1031) (by decide +kernel), List.mem_of_getElem? (i := 1402) (by decide +kernel), List.mem_of_getElem? (i := 1403) (by decide +kernel)⟩
def lw_privs_4 : List (MethodName × Nat) := [(⟨"SendTheBoxModel", "sorts", "(I)I"⟩, 46), (⟨"SendTheBoxModel", "isState", "(II)Z"⟩, 46), (⟨"SendTheBoxModel", "states", "(I)I"⟩, 46), (⟨"SendTheBoxModel", "sum", "(III)I"⟩, 46), (⟨"SendTheBoxModel", "numberOf", "(III)I"⟩, 46), (⟨"SendTheBoxModel", "isLeft", "(II)Z"⟩, 46), (⟨"SendTheBoxModel", "scaleOf", "(II)J"⟩, 46), (⟨"SendTheBoxModel", "fillOf", "(II)I"⟩, 46), (⟨"SendTheBoxModel", "findBest", "(I)V"⟩, 46), (⟨"SendTheBoxModel", "findWays", "(I)V"⟩, 46), (⟨"SendTheBoxModel", "behind", "(III[J)J"⟩, 46), (⟨"SendTheBoxModel", "isLoad", "(III)Z"⟩, 46), (⟨"SendTheBoxModel", "boxOf", "(II)J"⟩, 46), (⟨"SendTheBoxModel", "noRule", "(I)I"⟩, 46), (⟨"SendTheBoxModel", "loadBy", "(IIII)I"⟩, 46), (⟨"SendTheBoxModel", "fillsBy", "(IIII)Z"⟩, 46)]
theorem lw_r4 : ∀ q ∈ lw_privs_4, lw_okq q := List.forall_mem_cons.mpr ⟨lw_p48, List.forall_mem_cons.mpr ⟨lw_p49, List.forall_mem_cons.mpr ⟨lw_p50, List.forall_mem_cons.mpr ⟨lw_p51, List.forall_mem_cons.mpr ⟨lw_p52, List.forall_mem_cons.mpr ⟨lw_p53, List.forall_mem_cons.mpr ⟨lw_p54, List.forall_mem_cons.mpr ⟨lw_p55, List.forall_mem_cons.mpr ⟨lw_p56, List.forall_mem_cons.mpr ⟨lw_p57, List.forall_mem_cons.mpr ⟨lw_p58, List.forall_mem_cons.mpr ⟨lw_p59, List.forall_mem_cons.mpr ⟨lw_p60, List.forall_mem_cons.mpr ⟨lw_p61, List.forall_mem_cons.mpr ⟨lw_p62, List.forall_mem_cons.mpr ⟨lw_p63, fun _ h => absurd h List.not_mem_nil⟩⟩⟩⟩⟩⟩⟩⟩⟩⟩⟩⟩⟩⟩⟩⟩
theorem lw_p64 : lw_okq (⟨"SendTheBoxModel", "byShelf", "(IIIIZ)J"⟩, 46) := ⟨⟨by decide +kernel, by decide +kernel⟩, List.mem_of_getElem? (i := 1031) (by decide +kernel), List.mem_of_getElem? (i := 1410) (by decide +kernel), List.mem_of_getElem? (i := 1411) (by decide +kernel)⟩
theorem lw_p65 : lw_okq (⟨"SendTheBoxModel", "findByRule", "(II)V"⟩, 46) := ⟨⟨by decide +kernel, by decide +kernel⟩, List.mem_of_getElem? (i := 1031) (by decide +kernel), List.mem_of_getElem? (i := 1414) (by decide +kernel), List.mem_of_getElem? (i := 1415) (by decide +kernel)⟩
theorem lw_p66 : lw_okq (⟨"SendTheBoxModel", "goesByRule", "(II)V"⟩, 46) := ⟨⟨by decide +kernel, by decide +kernel⟩, List.mem_of_getElem? (i := 1031) (by decide +kernel), List.mem_of_getElem? (i := 1418) (by decide +kernel), List.mem_of_getElem? (i := 1419) (by decide +kernel)⟩
theorem lw_p67 : lw_okq (⟨"SendTheBoxModel", "withLoad", "(IIII[J)J"⟩, 46) := ⟨⟨by decide +kernel, by decide +kernel⟩, List.mem_of_getElem? (i := 1031) (by decide +kernel), List.mem_of_getElem? (i := 1438) (by decide +kernel), List.mem_of_getElem? (i := 1439) (by decide +kernel)⟩
theorem lw_p68 : lw_okq (⟨"SendTheBoxModel", "findChances", "(II)V"⟩, 46) := ⟨⟨by decide +kernel, by decide +kernel⟩, List.mem_of_getElem? (i := 1031) (by decide +kernel), List.mem_of_getElem? (i := 1446) (by decide +kernel), List.mem_of_getElem? (i := 1447) (by decide +kernel)⟩
theorem lw_p69 : lw_okq (⟨"SendTheBoxModel", "goesOn", "(IIJ[J)V"⟩, 46) := ⟨⟨by decide +kernel, by decide +kernel⟩, List.mem_of_getElem? (i := 1031) (by decide +kernel), List.mem_of_getElem? (i := 1450) (by decide +kernel), List.mem_of_getElem? (i := 1451) (by decide +kernel)⟩
theorem lw_p70 : lw_okq (⟨"SendTheBoxModel", "meanOf", "(III)J"⟩, 46) := ⟨⟨by decide +kernel, by decide +kernel⟩, List.mem_of_getElem? (i := 1031) (by decide +kernel), List.mem_of_getElem? (i := 1462) (by decide +kernel), List.mem_of_getElem? (i := 1463) (by decide +kernel)⟩
theorem lw_p71 : lw_okq (⟨"SendTheBoxModel", "leastOf", "(IIII)I"⟩, 46) := ⟨⟨by decide +kernel, by decide +kernel⟩, List.mem_of_getElem? (i := 1031) (by decide +kernel), List.mem_of_getElem? (i := 1474) (by decide +kernel), List.mem_of_getElem? (i := 1475) (by decide +kernel)⟩
theorem lw_p72 : lw_okq (⟨"SendTheBoxModel", "hasRoom", "(II)Z"⟩, 46) := ⟨⟨by decide +kernel, by decide +kernel⟩, List.mem_of_getElem? (i := 1031) (by decide +kernel), List.mem_of_getElem? (i := 1478) (by decide +kernel), List.mem_of_getElem? (i := 1479) (by decide +kernel)⟩
theorem lw_p73 : lw_okq (⟨"SendTheBoxModel", "findRooms", "(II)Z"⟩, 46) := ⟨⟨by decide +kernel, by decide +kernel⟩, List.mem_of_getElem? (i := 1031) (by decide +kernel), List.mem_of_getElem? (i := 1498) (by decide +kernel), List.mem_of_getElem? (i := 1499) (by decide +kernel)⟩
theorem lw_p74 : lw_okq (⟨"SendTheBoxModel", "mayJoin", "(II)Z"⟩, 46) := ⟨⟨by decide +kernel, by decide +kernel⟩, List.mem_of_getElem? (i := 1031) (by decide +kernel), List.mem_of_getElem? (i := 1514) (by decide +kernel), List.mem_of_getElem? (i := 1515) (by decide +kernel)⟩
theorem lw_p75 : lw_okq (⟨"SendTheBoxModel", "joinTo", "(III)V"⟩, 46) := ⟨⟨by decide +kernel, by decide +kernel⟩, List.mem_of_getElem? (i := 1031) (by decide +kernel), List.mem_of_getElem? (i := 1518) (by decide +kernel), List.mem_of_getElem? (i := 1519) (by decide +kernel)⟩
theorem lw_p76 : lw_okq (⟨"SendTheBoxModel", "wholeCost", "(I)J"⟩, 46) := ⟨⟨by decide +kernel, by decide +kernel⟩, List.mem_of_getElem? (i := 1031) (by decide +kernel), List.mem_of_getElem? (i := 1526) (by decide +kernel), List.mem_of_getElem? (i := 1527) (by decide +kernel)⟩
theorem lw_p77 : lw_okq (⟨"SendTheBoxModel", "day", "(IIII)I"⟩, 46) := ⟨⟨by decide +kernel, by decide +kernel⟩, List.mem_of_getElem? (i := 1031) (by decide +kernel), List.mem_of_getElem? (i := 1542) (by decide +kernel), List.mem_of_getElem? (i := 1543) (by decide +kernel)⟩
theorem lw_p78 : lw_okq (⟨"SendTheBoxModel", "draw", "()I"⟩, 46) := ⟨⟨by decide +kernel, by decide +kernel⟩, List.mem_of_getElem? (i := 1031) (by decide +kernel), List.mem_of_getElem? (i := 1546) (by decide +kernel), List.mem_of_getElem? (i := 1547) (by decide +kernel)⟩
theorem lw_p79 : lw_okq (⟨"SendTheBoxModel", "takeFrom", "(LSendTheBoxModel;)V"⟩, 46) := ⟨⟨by decide +kernel, by decide +kernel⟩, List.mem_of_getElem? (i := 1031) (by decide +kernel), List.mem_of_getElem? (i := 1566) (by decide +kernel), List.mem_of_getElem? (i := 1567) (by decide +kernel)⟩
def lw_privs_5 : List (MethodName × Nat) := [(⟨"SendTheBoxModel", "byShelf", "(IIIIZ)J"⟩, 46), (⟨"SendTheBoxModel", "findByRule", "(II)V"⟩, 46), (⟨"SendTheBoxModel", "goesByRule", "(II)V"⟩, 46), (⟨"SendTheBoxModel", "withLoad", "(IIII[J)J"⟩, 46), (⟨"SendTheBoxModel", "findChances", "(II)V"⟩, 46), (⟨"SendTheBoxModel", "goesOn", "(IIJ[J)V"⟩, 46), (⟨"SendTheBoxModel", "meanOf", "(III)J"⟩, 46), (⟨"SendTheBoxModel", "leastOf", "(IIII)I"⟩, 46), (⟨"SendTheBoxModel", "hasRoom", "(II)Z"⟩, 46), (⟨"SendTheBoxModel", "findRooms", "(II)Z"⟩, 46), (⟨"SendTheBoxModel", "mayJoin", "(II)Z"⟩, 46), (⟨"SendTheBoxModel", "joinTo", "(III)V"⟩, 46), (⟨"SendTheBoxModel", "wholeCost", "(I)J"⟩, 46), (⟨"SendTheBoxModel", "day", "(IIII)I"⟩, 46), (⟨"SendTheBoxModel", "draw", "()I"⟩, 46), (⟨"SendTheBoxModel", "takeFrom", "(LSendTheBoxModel;)V"⟩, 46)]
theorem lw_r5 : ∀ q ∈ lw_privs_5, lw_okq q := List.forall_mem_cons.mpr ⟨lw_p64, List.forall_mem_cons.mpr ⟨lw_p65, List.forall_mem_cons.mpr ⟨lw_p66, List.forall_mem_cons.mpr ⟨lw_p67, List.forall_mem_cons.mpr ⟨lw_p68, List.forall_mem_cons.mpr ⟨lw_p69, List.forall_mem_cons.mpr ⟨lw_p70, List.forall_mem_cons.mpr ⟨lw_p71, List.forall_mem_cons.mpr ⟨lw_p72, List.forall_mem_cons.mpr ⟨lw_p73, List.forall_mem_cons.mpr ⟨lw_p74, List.forall_mem_cons.mpr ⟨lw_p75, List.forall_mem_cons.mpr ⟨lw_p76, List.forall_mem_cons.mpr ⟨lw_p77, List.forall_mem_cons.mpr ⟨lw_p78, List.forall_mem_cons.mpr ⟨lw_p79, fun _ h => absurd h List.not_mem_nil⟩⟩⟩⟩⟩⟩⟩⟩⟩⟩⟩⟩⟩⟩⟩⟩
def lw_privs : List (MethodName × Nat) := lw_privs_1 ++ (lw_privs_2 ++ (lw_privs_3 ++ (lw_privs_4 ++ (lw_privs_5))))
def lw_tbl : List Cond := k2_sels lw_privs ++ tables_1
theorem lw_privs_ok : ∀ q ∈ lw_privs, lw_okq q := by
  show ∀ q ∈ lw_privs_1 ++ (lw_privs_2 ++ (lw_privs_3 ++ (lw_privs_4 ++ (lw_privs_5)))), lw_okq q
  exact List.forall_mem_append.mpr ⟨lw_r1, List.forall_mem_append.mpr ⟨lw_r2, List.forall_mem_append.mpr ⟨lw_r3, List.forall_mem_append.mpr ⟨lw_r4, lw_r5⟩⟩⟩⟩
def RX0 : String := "SendTheBox$House"
def TX0 : u_T := fun k => match k with
  | _ => ("SendTheBox$House", "numbers", "[I", true)
def tyX0 : Nat → FieldType := fun k => match k with
  | _ => .array .int
abbrev wsX00 : List Cond := u_ws RX0 TX0 1
theorem nmX0 : ∀ a, a < 1 → ∀ b, b < 1 → a ≠ b → (TX0 a).2.1 ≠ (TX0 b).2.1 := by decide +kernel
theorem tyX0_ok : ∀ k, k < 1 → parseFieldDescriptor (TX0 k).2.2.1 = some (tyX0 k) := by decide +kernel
abbrev cX0_init : ByteArray := prog_2_method_1_code
def yX0_init : MethodName := ⟨RX0, "<init>", "()V"⟩
abbrev cX0_clear : ByteArray := prog_2_method_2_code
def yX0_clear : MethodName := ⟨RX0, "clear", "()V"⟩
abbrev cX0_become : ByteArray := prog_2_method_3_code
def yX0_become : MethodName := ⟨RX0, "become", "(LSendTheBox$House;)V"⟩
abbrev cX0_isLike : ByteArray := prog_2_method_4_code
def yX0_isLike : MethodName := ⟨RX0, "isLike", "(LSendTheBox$House;)Z"⟩
abbrev cX0_mayBe : ByteArray := prog_2_method_5_code
def yX0_mayBe : MethodName := ⟨RX0, "mayBe", "(II)Z"⟩
abbrev cX0_mayBeOfSort : ByteArray := prog_2_method_6_code
def yX0_mayBeOfSort : MethodName := ⟨RX0, "mayBeOfSort", "(II)Z"⟩
abbrev cX0_number : ByteArray := prog_2_method_7_code
def yX0_number : MethodName := ⟨RX0, "number", "(I)I"⟩
abbrev cX0_putNumber : ByteArray := prog_2_method_8_code
def yX0_putNumber : MethodName := ⟨RX0, "putNumber", "(II)V"⟩
abbrev cX0_placeOf : ByteArray := prog_2_method_9_code
def yX0_placeOf : MethodName := ⟨RX0, "placeOf", "(II)I"⟩
abbrev cX0_sortNumber : ByteArray := prog_2_method_10_code
def yX0_sortNumber : MethodName := ⟨RX0, "sortNumber", "(II)I"⟩
abbrev cX0_putSortNumber : ByteArray := prog_2_method_11_code
def yX0_putSortNumber : MethodName := ⟨RX0, "putSortNumber", "(III)V"⟩
abbrev cX0_days : ByteArray := prog_2_method_12_code
def yX0_days : MethodName := ⟨RX0, "days", "()I"⟩
abbrev cX0_sorts : ByteArray := prog_2_method_13_code
def yX0_sorts : MethodName := ⟨RX0, "sorts", "()I"⟩
abbrev cX0_hasSort : ByteArray := prog_2_method_14_code
def yX0_hasSort : MethodName := ⟨RX0, "hasSort", "(I)Z"⟩
abbrev cX0_states : ByteArray := prog_2_method_15_code
def yX0_states : MethodName := ⟨RX0, "states", "()I"⟩
abbrev cX0_sumOf : ByteArray := prog_2_method_16_code
def yX0_sumOf : MethodName := ⟨RX0, "sumOf", "(II)I"⟩
abbrev cX0_goesWith : ByteArray := prog_2_method_17_code
def yX0_goesWith : MethodName := ⟨RX0, "goesWith", "(LSendTheBox$House;)Z"⟩
abbrev cX0_addSortsOf : ByteArray := prog_2_method_18_code
def yX0_addSortsOf : MethodName := ⟨RX0, "addSortsOf", "(LSendTheBox$House;)V"⟩
abbrev cX0_fillFor : ByteArray := prog_2_method_19_code
def yX0_fillFor : MethodName := ⟨RX0, "fillFor", "(I)I"⟩
def RX1 : String := "SendTheBox$Plan"
def TX1 : u_T := fun k => match k with
  | 0 => ("SendTheBox$Plan", "house", "LSendTheBox$House;", true)
  | 1 => ("SendTheBox$Plan", "days", "I", false)
  | 2 => ("SendTheBox$Plan", "sorts", "I", false)
  | 3 => ("SendTheBox$Plan", "states", "I", false)
  | 4 => ("SendTheBox$Plan", "rooms", "[I", true)
  | 5 => ("SendTheBox$Plan", "holds", "[I", true)
  | 6 => ("SendTheBox$Plan", "leavings", "[I", true)
  | 7 => ("SendTheBox$Plan", "fills", "[I", true)
  | 8 => ("SendTheBox$Plan", "loads", "[I", true)
  | 9 => ("SendTheBox$Plan", "costs", "[J", true)
  | 10 => ("SendTheBox$Plan", "afters", "[J", true)
  | 11 => ("SendTheBox$Plan", "work", "[J", true)
  | 12 => ("SendTheBox$Plan", "chances", "[J", true)
  | 13 => ("SendTheBox$Plan", "daysKnown", "I", false)
  | _ => ("SendTheBox$Plan", "fullKnown", "I", false)
def tyX1 : Nat → FieldType := fun k => match k with
  | 0 => .object "SendTheBox$House"
  | 1 => .int
  | 2 => .int
  | 3 => .int
  | 4 => .array .int
  | 5 => .array .int
  | 6 => .array .int
  | 7 => .array .int
  | 8 => .array .int
  | 9 => .array .long
  | 10 => .array .long
  | 11 => .array .long
  | 12 => .array .long
  | 13 => .int
  | _ => .int
abbrev wsX10 : List Cond := u_ws RX1 TX1 15
theorem nmX1 : ∀ a, a < 15 → ∀ b, b < 15 → a ≠ b → (TX1 a).2.1 ≠ (TX1 b).2.1 := by decide +kernel
theorem tyX1_ok : ∀ k, k < 15 → parseFieldDescriptor (TX1 k).2.2.1 = some (tyX1 k) := by decide +kernel
abbrev cX1_init : ByteArray := prog_3_method_1_code
def yX1_init : MethodName := ⟨RX1, "<init>", "()V"⟩
abbrev cX1_turnTo : ByteArray := prog_3_method_2_code
def yX1_turnTo : MethodName := ⟨RX1, "turnTo", "(LSendTheBox$House;)V"⟩
abbrev cX1_hasSort : ByteArray := prog_3_method_3_code
def yX1_hasSort : MethodName := ⟨RX1, "hasSort", "(I)Z"⟩
abbrev cX1_hasState : ByteArray := prog_3_method_4_code
def yX1_hasState : MethodName := ⟨RX1, "hasState", "(I)Z"⟩
abbrev cX1_hasPlace : ByteArray := prog_3_method_5_code
def yX1_hasPlace : MethodName := ⟨RX1, "hasPlace", "(II)Z"⟩
abbrev cX1_hasDay : ByteArray := prog_3_method_6_code
def yX1_hasDay : MethodName := ⟨RX1, "hasDay", "(II)Z"⟩
abbrev cX1_roomOf : ByteArray := prog_3_method_7_code
def yX1_roomOf : MethodName := ⟨RX1, "roomOf", "(I)I"⟩
abbrev cX1_fillOf : ByteArray := prog_3_method_8_code
def yX1_fillOf : MethodName := ⟨RX1, "fillOf", "(I)I"⟩
abbrev cX1_placeOf : ByteArray := prog_3_method_9_code
def yX1_placeOf : MethodName := ⟨RX1, "placeOf", "(II)I"⟩
abbrev cX1_leastCost : ByteArray := prog_3_method_10_code
def yX1_leastCost : MethodName := ⟨RX1, "leastCost", "(II)J"⟩
abbrev cX1_bestLoad : ByteArray := prog_3_method_11_code
def yX1_bestLoad : MethodName := ⟨RX1, "bestLoad", "(II)I"⟩
abbrev cX1_loadWorkedOut : ByteArray := prog_3_method_12_code
def yX1_loadWorkedOut : MethodName := ⟨RX1, "loadWorkedOut", "(II)I"⟩
abbrev cX1_getReadyFor : ByteArray := prog_3_method_13_code
def yX1_getReadyFor : MethodName := ⟨RX1, "getReadyFor", "(LSendTheBox$Rule;)V"⟩
abbrev cX1_costWith : ByteArray := prog_3_method_14_code
def yX1_costWith : MethodName := ⟨RX1, "costWith", "(III)J"⟩
abbrev cX1_workOut : ByteArray := prog_3_method_15_code
def yX1_workOut : MethodName := ⟨RX1, "workOut", "(I)V"⟩
abbrev cX1_keepWork : ByteArray := prog_3_method_16_code
def yX1_keepWork : MethodName := ⟨RX1, "keepWork", "([JI)V"⟩
abbrev cX1_startFromEnd : ByteArray := prog_3_method_17_code
def yX1_startFromEnd : MethodName := ⟨RX1, "startFromEnd", "()V"⟩
abbrev cX1_takeCosts : ByteArray := prog_3_method_18_code
def yX1_takeCosts : MethodName := ⟨RX1, "takeCosts", "(I)V"⟩
abbrev cX1_unitOf : ByteArray := prog_3_method_19_code
def yX1_unitOf : MethodName := ⟨RX1, "unitOf", "(I)J"⟩
abbrev cX1_boxCost : ByteArray := prog_3_method_20_code
def yX1_boxCost : MethodName := ⟨RX1, "boxCost", "(I)J"⟩
abbrev cX1_goBackToLoad : ByteArray := prog_3_method_21_code
def yX1_goBackToLoad : MethodName := ⟨RX1, "goBackToLoad", "(I)V"⟩
abbrev cX1_goBackBest : ByteArray := prog_3_method_22_code
def yX1_goBackBest : MethodName := ⟨RX1, "goBackBest", "(IJ)V"⟩
abbrev cX1_goBackPromised : ByteArray := prog_3_method_23_code
def yX1_goBackPromised : MethodName := ⟨RX1, "goBackPromised", "(JZ)V"⟩
abbrev cX1_mix : ByteArray := prog_3_method_24_code
def yX1_mix : MethodName := ⟨RX1, "mix", "(IIJ)V"⟩
abbrev cX1_pick : ByteArray := prog_3_method_25_code
def yX1_pick : MethodName := ⟨RX1, "pick", "(IJZ)I"⟩
abbrev cX1_loadBy : ByteArray := prog_3_method_26_code
def yX1_loadBy : MethodName := ⟨RX1, "loadBy", "(LSendTheBox$Rule;II)I"⟩
abbrev cX1_costBy : ByteArray := prog_3_method_27_code
def yX1_costBy : MethodName := ⟨RX1, "costBy", "(LSendTheBox$Rule;II)J"⟩
abbrev cX1_costOfPromise : ByteArray := prog_3_method_28_code
def yX1_costOfPromise : MethodName := ⟨RX1, "costOfPromise", "(I)J"⟩
abbrev cX1_bestFullRule : ByteArray := prog_3_method_29_code
def yX1_bestFullRule : MethodName := ⟨RX1, "bestFullRule", "()I"⟩
abbrev cX1_isRoomOfSome : ByteArray := prog_3_method_30_code
def yX1_isRoomOfSome : MethodName := ⟨RX1, "isRoomOfSome", "(I)Z"⟩
abbrev cX1_bestDayRule : ByteArray := prog_3_method_31_code
def yX1_bestDayRule : MethodName := ⟨RX1, "bestDayRule", "()I"⟩
abbrev cX1_bar : ByteArray := prog_3_method_32_code
def yX1_bar : MethodName := ⟨RX1, "bar", "(I)I"⟩
abbrev cX1_oddState : ByteArray := prog_3_method_33_code
def yX1_oddState : MethodName := ⟨RX1, "oddState", "(I)I"⟩
abbrev cX1_leastRoomSent : ByteArray := prog_3_method_34_code
def yX1_leastRoomSent : MethodName := ⟨RX1, "leastRoomSent", "(I)I"⟩
abbrev cX1_oddFrom : ByteArray := prog_3_method_35_code
def yX1_oddFrom : MethodName := ⟨RX1, "oddFrom", "(II)I"⟩
abbrev cX1_judgeOf : ByteArray := prog_3_method_36_code
def yX1_judgeOf : MethodName := ⟨RX1, "judgeOf", "(LSendTheBox$Row;I)I"⟩
abbrev cX1_chanceBy : ByteArray := prog_3_method_37_code
def yX1_chanceBy : MethodName := ⟨RX1, "chanceBy", "(LSendTheBox$Rule;II)J"⟩
abbrev cX1_statesBy : ByteArray := prog_3_method_38_code
def yX1_statesBy : MethodName := ⟨RX1, "statesBy", "(LSendTheBox$Rule;I)I"⟩
abbrev cX1_spread : ByteArray := prog_3_method_39_code
def yX1_spread : MethodName := ⟨RX1, "spread", "(LSendTheBox$Rule;I)V"⟩
abbrev cX1_heldBy : ByteArray := prog_3_method_40_code
def yX1_heldBy : MethodName := ⟨RX1, "heldBy", "(LSendTheBox$Rule;I)J"⟩
abbrev cX1_boxesBy : ByteArray := prog_3_method_41_code
def yX1_boxesBy : MethodName := ⟨RX1, "boxesBy", "(LSendTheBox$Rule;)J"⟩
abbrev cX1_startSpread : ByteArray := prog_3_method_42_code
def yX1_startSpread : MethodName := ⟨RX1, "startSpread", "()V"⟩
abbrev cX1_spreadLoad : ByteArray := prog_3_method_43_code
def yX1_spreadLoad : MethodName := ⟨RX1, "spreadLoad", "(LSendTheBox$Rule;I)J"⟩
abbrev cX1_spreadWhatComes : ByteArray := prog_3_method_44_code
def yX1_spreadWhatComes : MethodName := ⟨RX1, "spreadWhatComes", "()V"⟩
def RX2 : String := "SendTheBox$Row"
def TX2 : u_T := fun k => match k with
  | 0 => ("SendTheBox$Row", "sort", "I", true)
  | _ => ("SendTheBox$Row", "values", "[J", true)
def tyX2 : Nat → FieldType := fun k => match k with
  | 0 => .int
  | _ => .array .long
abbrev wsX20 : List Cond := u_ws RX2 TX2 2
theorem nmX2 : ∀ a, a < 2 → ∀ b, b < 2 → a ≠ b → (TX2 a).2.1 ≠ (TX2 b).2.1 := by decide +kernel
theorem tyX2_ok : ∀ k, k < 2 → parseFieldDescriptor (TX2 k).2.2.1 = some (tyX2 k) := by decide +kernel
abbrev cX2_init : ByteArray := prog_4_method_1_code
def yX2_init : MethodName := ⟨RX2, "<init>", "(II)V"⟩
abbrev cX2_size : ByteArray := prog_4_method_2_code
def yX2_size : MethodName := ⟨RX2, "size", "()I"⟩
abbrev cX2_hasPlace : ByteArray := prog_4_method_3_code
def yX2_hasPlace : MethodName := ⟨RX2, "hasPlace", "(I)Z"⟩
abbrev cX2_hasRange : ByteArray := prog_4_method_4_code
def yX2_hasRange : MethodName := ⟨RX2, "hasRange", "(II)Z"⟩
abbrev cX2_valueAt : ByteArray := prog_4_method_5_code
def yX2_valueAt : MethodName := ⟨RX2, "valueAt", "(I)J"⟩
abbrev cX2_put : ByteArray := prog_4_method_6_code
def yX2_put : MethodName := ⟨RX2, "put", "(IJ)V"⟩
abbrev cX2_lowestBits : ByteArray := prog_4_method_7_code
def yX2_lowestBits : MethodName := ⟨RX2, "lowestBits", "(J)J"⟩
abbrev cX2_take : ByteArray := prog_4_method_8_code
def yX2_take : MethodName := ⟨RX2, "take", "(LSendTheBox$Row;III)V"⟩
abbrev cX2_twin : ByteArray := prog_4_method_9_code
def yX2_twin : MethodName := ⟨RX2, "twin", "()LSendTheBox$Row;"⟩
def RX3 : String := "SendTheBox$Rule"
def TX3 : u_T := fun k => match k with
  | 0 => ("SendTheBox$Rule", "kind", "I", true)
  | 1 => ("SendTheBox$Rule", "room", "I", true)
  | 2 => ("SendTheBox$Rule", "days", "I", true)
  | _ => ("SendTheBox$Rule", "told", "LSendTheBox$Row;", true)
def tyX3 : Nat → FieldType := fun k => match k with
  | 0 => .int
  | 1 => .int
  | 2 => .int
  | _ => .object "SendTheBox$Row"
abbrev wsX30 : List Cond := u_ws RX3 TX3 4
theorem nmX3 : ∀ a, a < 4 → ∀ b, b < 4 → a ≠ b → (TX3 a).2.1 ≠ (TX3 b).2.1 := by decide +kernel
theorem tyX3_ok : ∀ k, k < 4 → parseFieldDescriptor (TX3 k).2.2.1 = some (tyX3 k) := by decide +kernel
abbrev cX3_init : ByteArray := prog_5_method_1_code
def yX3_init : MethodName := ⟨RX3, "<init>", "(IILSendTheBox$Row;)V"⟩
abbrev cX3_mayBe : ByteArray := prog_5_method_2_code
def yX3_mayBe : MethodName := ⟨RX3, "mayBe", "(II)Z"⟩
abbrev cX3_isOfKind : ByteArray := prog_5_method_3_code
def yX3_isOfKind : MethodName := ⟨RX3, "isOfKind", "(I)Z"⟩
abbrev cX3_numberAs : ByteArray := prog_5_method_4_code
def yX3_numberAs : MethodName := ⟨RX3, "numberAs", "(I)I"⟩
abbrev cX3_fills : ByteArray := prog_5_method_5_code
def yX3_fills : MethodName := ⟨RX3, "fills", "(III)Z"⟩
abbrev cX3_isItsDay : ByteArray := prog_5_method_6_code
def yX3_isItsDay : MethodName := ⟨RX3, "isItsDay", "(I)Z"⟩
def RX4 : String := "SendTheBox$Tape"
def TX4 : u_T := fun k => match k with
  | 0 => ("SendTheBox$Tape", "bytes", "[B", true)
  | 1 => ("SendTheBox$Tape", "size", "I", false)
  | 2 => ("SendTheBox$Tape", "kind", "I", false)
  | 3 => ("SendTheBox$Tape", "from", "I", false)
  | _ => ("SendTheBox$Tape", "to", "I", false)
def tyX4 : Nat → FieldType := fun k => match k with
  | 0 => .array .byte
  | 1 => .int
  | 2 => .int
  | 3 => .int
  | _ => .int
abbrev wsX40 : List Cond := u_ws RX4 TX4 5
theorem nmX4 : ∀ a, a < 5 → ∀ b, b < 5 → a ≠ b → (TX4 a).2.1 ≠ (TX4 b).2.1 := by decide +kernel
theorem tyX4_ok : ∀ k, k < 5 → parseFieldDescriptor (TX4 k).2.2.1 = some (tyX4 k) := by decide +kernel
abbrev cX4_init : ByteArray := prog_6_method_1_code
def yX4_init : MethodName := ⟨RX4, "<init>", "()V"⟩
abbrev cX4_hasPlaceFor : ByteArray := prog_6_method_2_code
def yX4_hasPlaceFor : MethodName := ⟨RX4, "hasPlaceFor", "(I)Z"⟩
abbrev cX4_append : ByteArray := prog_6_method_3_code
def yX4_append : MethodName := ⟨RX4, "append", "(II)I"⟩
abbrev cX4_clear : ByteArray := prog_6_method_4_code
def yX4_clear : MethodName := ⟨RX4, "clear", "()I"⟩
abbrev cX4_readInto : ByteArray := prog_6_method_5_code
def yX4_readInto : MethodName := ⟨RX4, "readInto", "(LSendTheBox$House;)I"⟩
abbrev cX4_readStatement : ByteArray := prog_6_method_6_code
def yX4_readStatement : MethodName := ⟨RX4, "readStatement", "(LSendTheBox$House;)Z"⟩
abbrev cX4_readHouseNumber : ByteArray := prog_6_method_7_code
def yX4_readHouseNumber : MethodName := ⟨RX4, "readHouseNumber", "(LSendTheBox$House;I)Z"⟩
abbrev cX4_readSort : ByteArray := prog_6_method_8_code
def yX4_readSort : MethodName := ⟨RX4, "readSort", "(LSendTheBox$House;)Z"⟩
abbrev cX4_readSortNumber : ByteArray := prog_6_method_9_code
def yX4_readSortNumber : MethodName := ⟨RX4, "readSortNumber", "(LSendTheBox$House;II)Z"⟩
abbrev cX4_sortWord : ByteArray := prog_6_method_10_code
def yX4_sortWord : MethodName := ⟨RX4, "sortWord", "(I)Ljava/lang/String;"⟩
abbrev cX4_byteAt : ByteArray := prog_6_method_11_code
def yX4_byteAt : MethodName := ⟨RX4, "byteAt", "(I)I"⟩
abbrev cX4_kindOf : ByteArray := prog_6_method_12_code
def yX4_kindOf : MethodName := ⟨RX4, "kindOf", "(I)I"⟩
abbrev cX4_advance : ByteArray := prog_6_method_13_code
def yX4_advance : MethodName := ⟨RX4, "advance", "()V"⟩
abbrev cX4_isWord : ByteArray := prog_6_method_14_code
def yX4_isWord : MethodName := ⟨RX4, "isWord", "(Ljava/lang/String;)Z"⟩
abbrev cX4_numberHere : ByteArray := prog_6_method_15_code
def yX4_numberHere : MethodName := ⟨RX4, "numberHere", "()I"⟩
def RX5 : String := "SendTheBox$Week"
def TX5 : u_T := fun k => match k with
  | 0 => ("SendTheBox$Week", "house", "LSendTheBox$House;", true)
  | 1 => ("SendTheBox$Week", "rule", "LSendTheBox$Rule;", false)
  | 2 => ("SendTheBox$Week", "left", "I", false)
  | 3 => ("SendTheBox$Week", "state", "I", false)
  | 4 => ("SendTheBox$Week", "coins", "I", false)
  | 5 => ("SendTheBox$Week", "boxesSent", "I", false)
  | 6 => ("SendTheBox$Week", "parcelsSent", "I", false)
  | _ => ("SendTheBox$Week", "parcelsRefused", "I", false)
def tyX5 : Nat → FieldType := fun k => match k with
  | 0 => .object "SendTheBox$House"
  | 1 => .object "SendTheBox$Rule"
  | 2 => .int
  | 3 => .int
  | 4 => .int
  | 5 => .int
  | 6 => .int
  | _ => .int
abbrev wsX50 : List Cond := u_ws RX5 TX5 8
theorem nmX5 : ∀ a, a < 8 → ∀ b, b < 8 → a ≠ b → (TX5 a).2.1 ≠ (TX5 b).2.1 := by decide +kernel
theorem tyX5_ok : ∀ k, k < 8 → parseFieldDescriptor (TX5 k).2.2.1 = some (tyX5 k) := by decide +kernel
abbrev cX5_init : ByteArray := prog_7_method_1_code
def yX5_init : MethodName := ⟨RX5, "<init>", "()V"⟩
abbrev cX5_start : ByteArray := prog_7_method_2_code
def yX5_start : MethodName := ⟨RX5, "start", "(LSendTheBox$House;LSendTheBox$Rule;)V"⟩
abbrev cX5_become : ByteArray := prog_7_method_3_code
def yX5_become : MethodName := ⟨RX5, "become", "(LSendTheBox$Week;)V"⟩
abbrev cX5_isUnderWay : ByteArray := prog_7_method_4_code
def yX5_isUnderWay : MethodName := ⟨RX5, "isUnderWay", "()Z"⟩
abbrev cX5_daysLeft : ByteArray := prog_7_method_5_code
def yX5_daysLeft : MethodName := ⟨RX5, "daysLeft", "()I"⟩
abbrev cX5_number : ByteArray := prog_7_method_6_code
def yX5_number : MethodName := ⟨RX5, "number", "(I)I"⟩
abbrev cX5_passDay : ByteArray := prog_7_method_7_code
def yX5_passDay : MethodName := ⟨RX5, "passDay", "(LSendTheBox$World;LSendTheBox$Plan;)I"⟩
abbrev cX5_send : ByteArray := prog_7_method_8_code
def yX5_send : MethodName := ⟨RX5, "send", "(I)I"⟩
abbrev cX5_receive : ByteArray := prog_7_method_9_code
def yX5_receive : MethodName := ⟨RX5, "receive", "(I)I"⟩
def RX6 : String := "SendTheBox$World"
def TX6 : u_T := fun k => match k with
  | 0 => ("SendTheBox$World", "houses", "[LSendTheBox$House;", true)
  | 1 => ("SendTheBox$World", "count", "I", false)
  | 2 => ("SendTheBox$World", "draws", "I", false)
  | _ => ("SendTheBox$World", "current", "LSendTheBox$Week;", true)
def tyX6 : Nat → FieldType := fun k => match k with
  | 0 => .array (.object "SendTheBox$House")
  | 1 => .int
  | 2 => .int
  | _ => .object "SendTheBox$Week"
abbrev wsX60 : List Cond := u_ws RX6 TX6 4
theorem nmX6 : ∀ a, a < 4 → ∀ b, b < 4 → a ≠ b → (TX6 a).2.1 ≠ (TX6 b).2.1 := by decide +kernel
theorem tyX6_ok : ∀ k, k < 4 → parseFieldDescriptor (TX6 k).2.2.1 = some (tyX6 k) := by decide +kernel
abbrev cX6_init : ByteArray := prog_8_method_1_code
def yX6_init : MethodName := ⟨RX6, "<init>", "()V"⟩
abbrev cX6_become : ByteArray := prog_8_method_2_code
def yX6_become : MethodName := ⟨RX6, "become", "(LSendTheBox$World;)V"⟩
abbrev cX6_houseAt : ByteArray := prog_8_method_3_code
def yX6_houseAt : MethodName := ⟨RX6, "houseAt", "(I)LSendTheBox$House;"⟩
abbrev cX6_isFull : ByteArray := prog_8_method_4_code
def yX6_isFull : MethodName := ⟨RX6, "isFull", "()Z"⟩
abbrev cX6_add : ByteArray := prog_8_method_5_code
def yX6_add : MethodName := ⟨RX6, "add", "(LSendTheBox$House;)I"⟩
abbrev cX6_changeSeed : ByteArray := prog_8_method_6_code
def yX6_changeSeed : MethodName := ⟨RX6, "changeSeed", "(I)I"⟩
abbrev cX6_draw : ByteArray := prog_8_method_7_code
def yX6_draw : MethodName := ⟨RX6, "draw", "(I)I"⟩
def RX7 : String := "SendTheBox"
def TX7 : u_T := fun k => match k with
  | 0 => ("SendTheBox", "world", "LSendTheBox$World;", true)
  | 1 => ("SendTheBox", "kept", "LSendTheBox$World;", true)
  | 2 => ("SendTheBox", "hasKept", "Z", false)
  | 3 => ("SendTheBox", "tape", "LSendTheBox$Tape;", true)
  | 4 => ("SendTheBox", "rows", "[LSendTheBox$Row;", true)
  | 5 => ("SendTheBox", "rules", "[LSendTheBox$Rule;", true)
  | 6 => ("SendTheBox", "refusals", "[I", true)
  | 7 => ("SendTheBox", "plans", "[LSendTheBox$Plan;", true)
  | 8 => ("SendTheBox", "weekPlan", "LSendTheBox$Plan;", true)
  | 9 => ("SendTheBox", "joinedPlan", "LSendTheBox$Plan;", true)
  | 10 => ("SendTheBox", "draft", "LSendTheBox$House;", true)
  | _ => ("SendTheBox", "spareWeek", "LSendTheBox$Week;", true)
def tyX7 : Nat → FieldType := fun k => match k with
  | 0 => .object "SendTheBox$World"
  | 1 => .object "SendTheBox$World"
  | 2 => .boolean
  | 3 => .object "SendTheBox$Tape"
  | 4 => .array (.object "SendTheBox$Row")
  | 5 => .array (.object "SendTheBox$Rule")
  | 6 => .array .int
  | 7 => .array (.object "SendTheBox$Plan")
  | 8 => .object "SendTheBox$Plan"
  | 9 => .object "SendTheBox$Plan"
  | 10 => .object "SendTheBox$House"
  | _ => .object "SendTheBox$Week"
abbrev wsX70 : List Cond := u_ws RX7 TX7 12
theorem nmX7 : ∀ a, a < 12 → ∀ b, b < 12 → a ≠ b → (TX7 a).2.1 ≠ (TX7 b).2.1 := by decide +kernel
theorem tyX7_ok : ∀ k, k < 12 → parseFieldDescriptor (TX7 k).2.2.1 = some (tyX7 k) := by decide +kernel
abbrev cX7_init : ByteArray := prog_1_method_1_code
def yX7_init : MethodName := ⟨RX7, "<init>", "()V"⟩
abbrev cX7_row : ByteArray := prog_1_method_2_code
def yX7_row : MethodName := ⟨RX7, "row", "(III)I"⟩
abbrev cX7_set : ByteArray := prog_1_method_3_code
def yX7_set : MethodName := ⟨RX7, "set", "(IIJ)I"⟩
abbrev cX7_copy : ByteArray := prog_1_method_4_code
def yX7_copy : MethodName := ⟨RX7, "copy", "(IIIII)I"⟩
abbrev cX7_element : ByteArray := prog_1_method_5_code
def yX7_element : MethodName := ⟨RX7, "element", "(II)J"⟩
abbrev cX7_holds : ByteArray := prog_1_method_6_code
def yX7_holds : MethodName := ⟨RX7, "holds", "(I)I"⟩
abbrev cX7_rule : ByteArray := prog_1_method_7_code
def yX7_rule : MethodName := ⟨RX7, "rule", "(III)I"⟩
abbrev cX7_says : ByteArray := prog_1_method_8_code
def yX7_says : MethodName := ⟨RX7, "says", "(II)I"⟩
abbrev cX7_feed : ByteArray := prog_1_method_9_code
def yX7_feed : MethodName := ⟨RX7, "feed", "(II)I"⟩
abbrev cX7_wipe : ByteArray := prog_1_method_10_code
def yX7_wipe : MethodName := ⟨RX7, "wipe", "()I"⟩
abbrev cX7_house : ByteArray := prog_1_method_11_code
def yX7_house : MethodName := ⟨RX7, "house", "()I"⟩
abbrev cX7_houseOf : ByteArray := prog_1_method_12_code
def yX7_houseOf : MethodName := ⟨RX7, "houseOf", "(II)I"⟩
abbrev cX7_sortOf : ByteArray := prog_1_method_13_code
def yX7_sortOf : MethodName := ⟨RX7, "sortOf", "(III)I"⟩
abbrev cX7_alter : ByteArray := prog_1_method_14_code
def yX7_alter : MethodName := ⟨RX7, "alter", "(III)I"⟩
abbrev cX7_change : ByteArray := prog_1_method_15_code
def yX7_change : MethodName := ⟨RX7, "change", "(IIII)I"⟩
abbrev cX7_of : ByteArray := prog_1_method_16_code
def yX7_of : MethodName := ⟨RX7, "of", "(II)I"⟩
abbrev cX7_space : ByteArray := prog_1_method_17_code
def yX7_space : MethodName := ⟨RX7, "space", "(II)I"⟩
abbrev cX7_scale : ByteArray := prog_1_method_18_code
def yX7_scale : MethodName := ⟨RX7, "scale", "(II)J"⟩
abbrev cX7_cost : ByteArray := prog_1_method_19_code
def yX7_cost : MethodName := ⟨RX7, "cost", "(III)J"⟩
abbrev cX7_best : ByteArray := prog_1_method_20_code
def yX7_best : MethodName := ⟨RX7, "best", "(III)I"⟩
abbrev cX7_fill : ByteArray := prog_1_method_21_code
def yX7_fill : MethodName := ⟨RX7, "fill", "(II)I"⟩
abbrev cX7_waits : ByteArray := prog_1_method_22_code
def yX7_waits : MethodName := ⟨RX7, "waits", "(III)J"⟩
abbrev cX7_once : ByteArray := prog_1_method_23_code
def yX7_once : MethodName := ⟨RX7, "once", "(III)J"⟩
abbrev cX7_dear : ByteArray := prog_1_method_24_code
def yX7_dear : MethodName := ⟨RX7, "dear", "(IIII)J"⟩
abbrev cX7_promise : ByteArray := prog_1_method_25_code
def yX7_promise : MethodName := ⟨RX7, "promise", "(II)J"⟩
abbrev cX7_shape : ByteArray := prog_1_method_26_code
def yX7_shape : MethodName := ⟨RX7, "shape", "(II)I"⟩
abbrev cX7_odd : ByteArray := prog_1_method_27_code
def yX7_odd : MethodName := ⟨RX7, "odd", "(II)I"⟩
abbrev cX7_judge : ByteArray := prog_1_method_28_code
def yX7_judge : MethodName := ⟨RX7, "judge", "(III)I"⟩
abbrev cX7_load : ByteArray := prog_1_method_29_code
def yX7_load : MethodName := ⟨RX7, "load", "(IIII)I"⟩
abbrev cX7_mean : ByteArray := prog_1_method_30_code
def yX7_mean : MethodName := ⟨RX7, "mean", "(IIII)J"⟩
abbrev cX7_lose : ByteArray := prog_1_method_31_code
def yX7_lose : MethodName := ⟨RX7, "lose", "(IIII)J"⟩
abbrev cX7_boy : ByteArray := prog_1_method_32_code
def yX7_boy : MethodName := ⟨RX7, "boy", "(I)I"⟩
abbrev cX7_chance : ByteArray := prog_1_method_33_code
def yX7_chance : MethodName := ⟨RX7, "chance", "(IIII)J"⟩
abbrev cX7_reach : ByteArray := prog_1_method_34_code
def yX7_reach : MethodName := ⟨RX7, "reach", "(III)I"⟩
abbrev cX7_held : ByteArray := prog_1_method_35_code
def yX7_held : MethodName := ⟨RX7, "held", "(III)J"⟩
abbrev cX7_boxes : ByteArray := prog_1_method_36_code
def yX7_boxes : MethodName := ⟨RX7, "boxes", "(II)J"⟩
abbrev cX7_plain : ByteArray := prog_1_method_37_code
def yX7_plain : MethodName := ⟨RX7, "plain", "(I)I"⟩
abbrev cX7_every : ByteArray := prog_1_method_38_code
def yX7_every : MethodName := ⟨RX7, "every", "(I)I"⟩
abbrev cX7_join : ByteArray := prog_1_method_39_code
def yX7_join : MethodName := ⟨RX7, "join", "(II)I"⟩
abbrev cX7_saved : ByteArray := prog_1_method_40_code
def yX7_saved : MethodName := ⟨RX7, "saved", "(II)J"⟩
abbrev cX7_seed : ByteArray := prog_1_method_41_code
def yX7_seed : MethodName := ⟨RX7, "seed", "(I)I"⟩
abbrev cX7_begin : ByteArray := prog_1_method_42_code
def yX7_begin : MethodName := ⟨RX7, "begin", "(II)I"⟩
abbrev cX7_step : ByteArray := prog_1_method_43_code
def yX7_step : MethodName := ⟨RX7, "step", "(I)I"⟩
abbrev cX7_week : ByteArray := prog_1_method_44_code
def yX7_week : MethodName := ⟨RX7, "week", "(I)I"⟩
abbrev cX7_weeks : ByteArray := prog_1_method_45_code
def yX7_weeks : MethodName := ⟨RX7, "weeks", "(III)I"⟩
abbrev cX7_passDays : ByteArray := prog_1_method_46_code
def yX7_passDays : MethodName := ⟨RX7, "passDays", "(LSendTheBox$Week;LSendTheBox$Plan;I)I"⟩
abbrev cX7_image : ByteArray := prog_1_method_47_code
def yX7_image : MethodName := ⟨RX7, "image", "()I"⟩
abbrev cX7_back : ByteArray := prog_1_method_48_code
def yX7_back : MethodName := ⟨RX7, "back", "()I"⟩
abbrev cX7_status : ByteArray := prog_1_method_49_code
def yX7_status : MethodName := ⟨RX7, "status", "(I)I"⟩
abbrev cX7_refuse : ByteArray := prog_1_method_50_code
def yX7_refuse : MethodName := ⟨RX7, "refuse", "(I)I"⟩
abbrev cX7_isShelf : ByteArray := prog_1_method_51_code
def yX7_isShelf : MethodName := ⟨RX7, "isShelf", "(I)Z"⟩
abbrev cX7_rowAt : ByteArray := prog_1_method_52_code
def yX7_rowAt : MethodName := ⟨RX7, "rowAt", "(I)LSendTheBox$Row;"⟩
abbrev cX7_ruleAt : ByteArray := prog_1_method_53_code
def yX7_ruleAt : MethodName := ⟨RX7, "ruleAt", "(I)LSendTheBox$Rule;"⟩
abbrev cX7_ruleFor : ByteArray := prog_1_method_54_code
def yX7_ruleFor : MethodName := ⟨RX7, "ruleFor", "(LSendTheBox$Plan;I)LSendTheBox$Rule;"⟩
abbrev cX7_lackOnShelf : ByteArray := prog_1_method_55_code
def yX7_lackOnShelf : MethodName := ⟨RX7, "lackOnShelf", "(I)I"⟩
abbrev cX7_putOnShelf : ByteArray := prog_1_method_56_code
def yX7_putOnShelf : MethodName := ⟨RX7, "putOnShelf", "(ILSendTheBox$Row;LSendTheBox$Rule;)V"⟩
abbrev cX7_shelvesInUse : ByteArray := prog_1_method_57_code
def yX7_shelvesInUse : MethodName := ⟨RX7, "shelvesInUse", "()I"⟩
abbrev cX7_planOf : ByteArray := prog_1_method_58_code
def yX7_planOf : MethodName := ⟨RX7, "planOf", "(I)LSendTheBox$Plan;"⟩
abbrev cX7_standing : ByteArray := prog_1_method_59_code
def yX7_standing : MethodName := ⟨RX7, "standing", "(II)I"⟩
abbrev cX7_oneOf : ByteArray := prog_1_method_60_code
def yX7_oneOf : MethodName := ⟨RX7, "oneOf", "(I)I"⟩
abbrev cX7_timesOf : ByteArray := prog_1_method_61_code
def yX7_timesOf : MethodName := ⟨RX7, "timesOf", "(I)J"⟩
abbrev cX7_scaleOf : ByteArray := prog_1_method_62_code
def yX7_scaleOf : MethodName := ⟨RX7, "scaleOf", "(II)J"⟩
abbrev cX7_at : ByteArray := prog_1_method_63_code
def yX7_at : MethodName := ⟨RX7, "at", "([II)I"⟩
abbrev cX7_at_ : ByteArray := prog_1_method_64_code
def yX7_at_ : MethodName := ⟨RX7, "at", "([JI)J"⟩
abbrev cX7_put : ByteArray := prog_1_method_65_code
def yX7_put : MethodName := ⟨RX7, "put", "([III)V"⟩
abbrev cX7_put_ : ByteArray := prog_1_method_66_code
def yX7_put_ : MethodName := ⟨RX7, "put", "([JIJ)V"⟩
def RX8 : String := "SendTheBoxModel"
def TX8 : u_T := fun k => match k with
  | 0 => ("SendTheBoxModel", "shelf", "[I", true)
  | 1 => ("SendTheBoxModel", "rowSort", "[I", true)
  | 2 => ("SendTheBoxModel", "rowSize", "[I", true)
  | 3 => ("SendTheBoxModel", "rows", "[[J", true)
  | 4 => ("SendTheBoxModel", "moved", "[J", true)
  | 5 => ("SendTheBoxModel", "ruleKind", "[I", true)
  | 6 => ("SendTheBoxModel", "ruleBy", "[I", true)
  | 7 => ("SendTheBoxModel", "ruleTold", "[[I", true)
  | 8 => ("SendTheBoxModel", "tape", "[I", true)
  | 9 => ("SendTheBoxModel", "tapeSize", "I", false)
  | 10 => ("SendTheBoxModel", "refused", "[I", true)
  | 11 => ("SendTheBoxModel", "houses", "I", false)
  | 12 => ("SendTheBoxModel", "house", "[[I", true)
  | 13 => ("SendTheBoxModel", "seed", "I", false)
  | 14 => ("SendTheBoxModel", "under", "I", false)
  | 15 => ("SendTheBoxModel", "underLeft", "I", false)
  | 16 => ("SendTheBoxModel", "underState", "I", false)
  | 17 => ("SendTheBoxModel", "underCoins", "I", false)
  | 18 => ("SendTheBoxModel", "underBoxes", "I", false)
  | 19 => ("SendTheBoxModel", "underSent", "I", false)
  | 20 => ("SendTheBoxModel", "underRefused", "I", false)
  | 21 => ("SendTheBoxModel", "kept", "LSendTheBoxModel;", false)
  | 22 => ("SendTheBoxModel", "ruleSize", "[I", true)
  | 23 => ("SendTheBoxModel", "at", "I", false)
  | 24 => ("SendTheBoxModel", "token", "I", false)
  | 25 => ("SendTheBoxModel", "from", "I", false)
  | 26 => ("SendTheBoxModel", "figures", "J", false)
  | 27 => ("SendTheBoxModel", "fault", "I", false)
  | 28 => ("SendTheBoxModel", "costs", "[[J", true)
  | 29 => ("SendTheBoxModel", "loads", "[[I", true)
  | 30 => ("SendTheBoxModel", "byRule", "[[J", true)
  | 31 => ("SendTheBoxModel", "weights", "[J", true)
  | 32 => ("SendTheBoxModel", "thens", "[[I", true)
  | 33 => ("SendTheBoxModel", "refusedBy", "[[I", true)
  | 34 => ("SendTheBoxModel", "filled", "[I", true)
  | 35 => ("SendTheBoxModel", "roomOf", "[I", true)
  | 36 => ("SendTheBoxModel", "holdOf", "[I", true)
  | 37 => ("SendTheBoxModel", "waited", "[J", true)
  | 38 => ("SendTheBoxModel", "chances", "[[J", true)
  | 39 => ("SendTheBoxModel", "must", "I", false)
  | 40 => ("SendTheBoxModel", "leastRoom", "I", false)
  | 41 => ("SendTheBoxModel", "mostRoom", "I", false)
  | 42 => ("SendTheBoxModel", "boxes", "I", false)
  | 43 => ("SendTheBoxModel", "sent", "I", false)
  | 44 => ("SendTheBoxModel", "notTaken", "I", false)
  | _ => ("SendTheBoxModel", "stands", "I", false)
def tyX8 : Nat → FieldType := fun k => match k with
  | 0 => .array .int
  | 1 => .array .int
  | 2 => .array .int
  | 3 => .array (.array .long)
  | 4 => .array .long
  | 5 => .array .int
  | 6 => .array .int
  | 7 => .array (.array .int)
  | 8 => .array .int
  | 9 => .int
  | 10 => .array .int
  | 11 => .int
  | 12 => .array (.array .int)
  | 13 => .int
  | 14 => .int
  | 15 => .int
  | 16 => .int
  | 17 => .int
  | 18 => .int
  | 19 => .int
  | 20 => .int
  | 21 => .object "SendTheBoxModel"
  | 22 => .array .int
  | 23 => .int
  | 24 => .int
  | 25 => .int
  | 26 => .long
  | 27 => .int
  | 28 => .array (.array .long)
  | 29 => .array (.array .int)
  | 30 => .array (.array .long)
  | 31 => .array .long
  | 32 => .array (.array .int)
  | 33 => .array (.array .int)
  | 34 => .array .int
  | 35 => .array .int
  | 36 => .array .int
  | 37 => .array .long
  | 38 => .array (.array .long)
  | 39 => .int
  | 40 => .int
  | 41 => .int
  | 42 => .int
  | 43 => .int
  | 44 => .int
  | _ => .int
abbrev wsX80 : List Cond := u_ws RX8 TX8 46
theorem nmX8 : ∀ a, a < 46 → ∀ b, b < 46 → a ≠ b → (TX8 a).2.1 ≠ (TX8 b).2.1 := by decide +kernel
theorem tyX8_ok : ∀ k, k < 46 → parseFieldDescriptor (TX8 k).2.2.1 = some (tyX8 k) := by decide +kernel
abbrev cX8_init : ByteArray := prog_10_method_1_code
def yX8_init : MethodName := ⟨RX8, "<init>", "()V"⟩
abbrev cX8_refuse : ByteArray := prog_10_method_2_code
def yX8_refuse : MethodName := ⟨RX8, "refuse", "(I)I"⟩
abbrev cX8_in : ByteArray := prog_10_method_3_code
def yX8_in : MethodName := ⟨RX8, "in", "(JJJ)Z"⟩
abbrev cX8_isHouse : ByteArray := prog_10_method_4_code
def yX8_isHouse : MethodName := ⟨RX8, "isHouse", "(I)Z"⟩
abbrev cX8_power : ByteArray := prog_10_method_5_code
def yX8_power : MethodName := ⟨RX8, "power", "(II)I"⟩
abbrev cX8_sorts : ByteArray := prog_10_method_6_code
def yX8_sorts : MethodName := ⟨RX8, "sorts", "(I)I"⟩
abbrev cX8_states : ByteArray := prog_10_method_7_code
def yX8_states : MethodName := ⟨RX8, "states", "(I)I"⟩
abbrev cX8_isState : ByteArray := prog_10_method_8_code
def yX8_isState : MethodName := ⟨RX8, "isState", "(II)Z"⟩
abbrev cX8_isLeft : ByteArray := prog_10_method_9_code
def yX8_isLeft : MethodName := ⟨RX8, "isLeft", "(II)Z"⟩
abbrev cX8_row : ByteArray := prog_10_method_10_code
def yX8_row : MethodName := ⟨RX8, "row", "(III)I"⟩
abbrev cX8_fit : ByteArray := prog_10_method_11_code
def yX8_fit : MethodName := ⟨RX8, "fit", "(IJ)J"⟩
abbrev cX8_set : ByteArray := prog_10_method_12_code
def yX8_set : MethodName := ⟨RX8, "set", "(IIJ)I"⟩
abbrev cX8_copy : ByteArray := prog_10_method_13_code
def yX8_copy : MethodName := ⟨RX8, "copy", "(IIIII)I"⟩
abbrev cX8_element : ByteArray := prog_10_method_14_code
def yX8_element : MethodName := ⟨RX8, "element", "(II)J"⟩
abbrev cX8_holds : ByteArray := prog_10_method_15_code
def yX8_holds : MethodName := ⟨RX8, "holds", "(I)I"⟩
abbrev cX8_mayBy : ByteArray := prog_10_method_16_code
def yX8_mayBy : MethodName := ⟨RX8, "mayBy", "(II)Z"⟩
abbrev cX8_rule : ByteArray := prog_10_method_17_code
def yX8_rule : MethodName := ⟨RX8, "rule", "(III)I"⟩
abbrev cX8_says : ByteArray := prog_10_method_18_code
def yX8_says : MethodName := ⟨RX8, "says", "(II)I"⟩
abbrev cX8_feed : ByteArray := prog_10_method_19_code
def yX8_feed : MethodName := ⟨RX8, "feed", "(II)I"⟩
abbrev cX8_wipe : ByteArray := prog_10_method_20_code
def yX8_wipe : MethodName := ⟨RX8, "wipe", "()I"⟩
abbrev cX8_isLetter : ByteArray := prog_10_method_21_code
def yX8_isLetter : MethodName := ⟨RX8, "isLetter", "(I)Z"⟩
abbrev cX8_isDigit : ByteArray := prog_10_method_22_code
def yX8_isDigit : MethodName := ⟨RX8, "isDigit", "(I)Z"⟩
abbrev cX8_look : ByteArray := prog_10_method_23_code
def yX8_look : MethodName := ⟨RX8, "look", "()V"⟩
abbrev cX8_wrong : ByteArray := prog_10_method_24_code
def yX8_wrong : MethodName := ⟨RX8, "wrong", "()Z"⟩
abbrev cX8_isWord : ByteArray := prog_10_method_25_code
def yX8_isWord : MethodName := ⟨RX8, "isWord", "(Ljava/lang/String;)Z"⟩
abbrev cX8_told : ByteArray := prog_10_method_26_code
def yX8_told : MethodName := ⟨RX8, "told", "(Ljava/lang/String;[IIII)Z"⟩
abbrev cX8_statement : ByteArray := prog_10_method_27_code
def yX8_statement : MethodName := ⟨RX8, "statement", "([I)Z"⟩
abbrev cX8_read : ByteArray := prog_10_method_28_code
def yX8_read : MethodName := ⟨RX8, "read", "([I)Z"⟩
abbrev cX8_house : ByteArray := prog_10_method_29_code
def yX8_house : MethodName := ⟨RX8, "house", "()I"⟩
abbrev cX8_houseOf : ByteArray := prog_10_method_30_code
def yX8_houseOf : MethodName := ⟨RX8, "houseOf", "(II)I"⟩
abbrev cX8_sortOf : ByteArray := prog_10_method_31_code
def yX8_sortOf : MethodName := ⟨RX8, "sortOf", "(III)I"⟩
abbrev cX8_alter : ByteArray := prog_10_method_32_code
def yX8_alter : MethodName := ⟨RX8, "alter", "(III)I"⟩
abbrev cX8_change : ByteArray := prog_10_method_33_code
def yX8_change : MethodName := ⟨RX8, "change", "(IIII)I"⟩
abbrev cX8_ofState : ByteArray := prog_10_method_34_code
def yX8_ofState : MethodName := ⟨RX8, "ofState", "(II)I"⟩
abbrev cX8_of : ByteArray := prog_10_method_35_code
def yX8_of : MethodName := ⟨RX8, "of", "(II)I"⟩
abbrev cX8_numberOf : ByteArray := prog_10_method_36_code
def yX8_numberOf : MethodName := ⟨RX8, "numberOf", "(III)I"⟩
abbrev cX8_sum : ByteArray := prog_10_method_37_code
def yX8_sum : MethodName := ⟨RX8, "sum", "(III)I"⟩
abbrev cX8_space : ByteArray := prog_10_method_38_code
def yX8_space : MethodName := ⟨RX8, "space", "(II)I"⟩
abbrev cX8_scaleOf : ByteArray := prog_10_method_39_code
def yX8_scaleOf : MethodName := ⟨RX8, "scaleOf", "(II)J"⟩
abbrev cX8_scale : ByteArray := prog_10_method_40_code
def yX8_scale : MethodName := ⟨RX8, "scale", "(II)J"⟩
abbrev cX8_isLoad : ByteArray := prog_10_method_41_code
def yX8_isLoad : MethodName := ⟨RX8, "isLoad", "(III)Z"⟩
abbrev cX8_fillOf : ByteArray := prog_10_method_42_code
def yX8_fillOf : MethodName := ⟨RX8, "fillOf", "(II)I"⟩
abbrev cX8_fill : ByteArray := prog_10_method_43_code
def yX8_fill : MethodName := ⟨RX8, "fill", "(II)I"⟩
abbrev cX8_findWays : ByteArray := prog_10_method_44_code
def yX8_findWays : MethodName := ⟨RX8, "findWays", "(I)V"⟩
abbrev cX8_behind : ByteArray := prog_10_method_45_code
def yX8_behind : MethodName := ⟨RX8, "behind", "(III[J)J"⟩
abbrev cX8_boxOf : ByteArray := prog_10_method_46_code
def yX8_boxOf : MethodName := ⟨RX8, "boxOf", "(II)J"⟩
abbrev cX8_findBest : ByteArray := prog_10_method_47_code
def yX8_findBest : MethodName := ⟨RX8, "findBest", "(I)V"⟩
abbrev cX8_withLoad : ByteArray := prog_10_method_48_code
def yX8_withLoad : MethodName := ⟨RX8, "withLoad", "(IIII[J)J"⟩
abbrev cX8_cost : ByteArray := prog_10_method_49_code
def yX8_cost : MethodName := ⟨RX8, "cost", "(III)J"⟩
abbrev cX8_best : ByteArray := prog_10_method_50_code
def yX8_best : MethodName := ⟨RX8, "best", "(III)I"⟩
abbrev cX8_loadBy : ByteArray := prog_10_method_51_code
def yX8_loadBy : MethodName := ⟨RX8, "loadBy", "(IIII)I"⟩
abbrev cX8_fillsBy : ByteArray := prog_10_method_52_code
def yX8_fillsBy : MethodName := ⟨RX8, "fillsBy", "(IIII)Z"⟩
abbrev cX8_noRule : ByteArray := prog_10_method_53_code
def yX8_noRule : MethodName := ⟨RX8, "noRule", "(I)I"⟩
abbrev cX8_load : ByteArray := prog_10_method_54_code
def yX8_load : MethodName := ⟨RX8, "load", "(IIII)I"⟩
abbrev cX8_findByRule : ByteArray := prog_10_method_55_code
def yX8_findByRule : MethodName := ⟨RX8, "findByRule", "(II)V"⟩
abbrev cX8_goesByRule : ByteArray := prog_10_method_56_code
def yX8_goesByRule : MethodName := ⟨RX8, "goesByRule", "(II)V"⟩
abbrev cX8_byShelf : ByteArray := prog_10_method_57_code
def yX8_byShelf : MethodName := ⟨RX8, "byShelf", "(IIIIZ)J"⟩
abbrev cX8_mean : ByteArray := prog_10_method_58_code
def yX8_mean : MethodName := ⟨RX8, "mean", "(IIII)J"⟩
abbrev cX8_lose : ByteArray := prog_10_method_59_code
def yX8_lose : MethodName := ⟨RX8, "lose", "(IIII)J"⟩
abbrev cX8_boy : ByteArray := prog_10_method_60_code
def yX8_boy : MethodName := ⟨RX8, "boy", "(I)I"⟩
abbrev cX8_waits : ByteArray := prog_10_method_61_code
def yX8_waits : MethodName := ⟨RX8, "waits", "(III)J"⟩
abbrev cX8_once : ByteArray := prog_10_method_62_code
def yX8_once : MethodName := ⟨RX8, "once", "(III)J"⟩
abbrev cX8_goesOn : ByteArray := prog_10_method_63_code
def yX8_goesOn : MethodName := ⟨RX8, "goesOn", "(IIJ[J)V"⟩
abbrev cX8_findChances : ByteArray := prog_10_method_64_code
def yX8_findChances : MethodName := ⟨RX8, "findChances", "(II)V"⟩
abbrev cX8_chance : ByteArray := prog_10_method_65_code
def yX8_chance : MethodName := ⟨RX8, "chance", "(IIII)J"⟩
abbrev cX8_reach : ByteArray := prog_10_method_66_code
def yX8_reach : MethodName := ⟨RX8, "reach", "(III)I"⟩
abbrev cX8_meanOf : ByteArray := prog_10_method_67_code
def yX8_meanOf : MethodName := ⟨RX8, "meanOf", "(III)J"⟩
abbrev cX8_held : ByteArray := prog_10_method_68_code
def yX8_held : MethodName := ⟨RX8, "held", "(III)J"⟩
abbrev cX8_boxes : ByteArray := prog_10_method_69_code
def yX8_boxes : MethodName := ⟨RX8, "boxes", "(II)J"⟩
abbrev cX8_leastOf : ByteArray := prog_10_method_70_code
def yX8_leastOf : MethodName := ⟨RX8, "leastOf", "(IIII)I"⟩
abbrev cX8_hasRoom : ByteArray := prog_10_method_71_code
def yX8_hasRoom : MethodName := ⟨RX8, "hasRoom", "(II)Z"⟩
abbrev cX8_plain : ByteArray := prog_10_method_72_code
def yX8_plain : MethodName := ⟨RX8, "plain", "(I)I"⟩
abbrev cX8_every : ByteArray := prog_10_method_73_code
def yX8_every : MethodName := ⟨RX8, "every", "(I)I"⟩
abbrev cX8_promise : ByteArray := prog_10_method_74_code
def yX8_promise : MethodName := ⟨RX8, "promise", "(II)J"⟩
abbrev cX8_dear : ByteArray := prog_10_method_75_code
def yX8_dear : MethodName := ⟨RX8, "dear", "(IIII)J"⟩
abbrev cX8_findRooms : ByteArray := prog_10_method_76_code
def yX8_findRooms : MethodName := ⟨RX8, "findRooms", "(II)Z"⟩
abbrev cX8_shape : ByteArray := prog_10_method_77_code
def yX8_shape : MethodName := ⟨RX8, "shape", "(II)I"⟩
abbrev cX8_odd : ByteArray := prog_10_method_78_code
def yX8_odd : MethodName := ⟨RX8, "odd", "(II)I"⟩
abbrev cX8_judge : ByteArray := prog_10_method_79_code
def yX8_judge : MethodName := ⟨RX8, "judge", "(III)I"⟩
abbrev cX8_mayJoin : ByteArray := prog_10_method_80_code
def yX8_mayJoin : MethodName := ⟨RX8, "mayJoin", "(II)Z"⟩
abbrev cX8_joinTo : ByteArray := prog_10_method_81_code
def yX8_joinTo : MethodName := ⟨RX8, "joinTo", "(III)V"⟩
abbrev cX8_join : ByteArray := prog_10_method_82_code
def yX8_join : MethodName := ⟨RX8, "join", "(II)I"⟩
abbrev cX8_wholeCost : ByteArray := prog_10_method_83_code
def yX8_wholeCost : MethodName := ⟨RX8, "wholeCost", "(I)J"⟩
abbrev cX8_saved : ByteArray := prog_10_method_84_code
def yX8_saved : MethodName := ⟨RX8, "saved", "(II)J"⟩
abbrev cX8_seed : ByteArray := prog_10_method_85_code
def yX8_seed : MethodName := ⟨RX8, "seed", "(I)I"⟩
abbrev cX8_draw : ByteArray := prog_10_method_86_code
def yX8_draw : MethodName := ⟨RX8, "draw", "()I"⟩
abbrev cX8_day : ByteArray := prog_10_method_87_code
def yX8_day : MethodName := ⟨RX8, "day", "(IIII)I"⟩
abbrev cX8_begin : ByteArray := prog_10_method_88_code
def yX8_begin : MethodName := ⟨RX8, "begin", "(II)I"⟩
abbrev cX8_step : ByteArray := prog_10_method_89_code
def yX8_step : MethodName := ⟨RX8, "step", "(I)I"⟩
abbrev cX8_week : ByteArray := prog_10_method_90_code
def yX8_week : MethodName := ⟨RX8, "week", "(I)I"⟩
abbrev cX8_weeks : ByteArray := prog_10_method_91_code
def yX8_weeks : MethodName := ⟨RX8, "weeks", "(III)I"⟩
abbrev cX8_takeFrom : ByteArray := prog_10_method_92_code
def yX8_takeFrom : MethodName := ⟨RX8, "takeFrom", "(LSendTheBoxModel;)V"⟩
abbrev cX8_image : ByteArray := prog_10_method_93_code
def yX8_image : MethodName := ⟨RX8, "image", "()I"⟩
abbrev cX8_back : ByteArray := prog_10_method_94_code
def yX8_back : MethodName := ⟨RX8, "back", "()I"⟩
abbrev cX8_status : ByteArray := prog_10_method_95_code
def yX8_status : MethodName := ⟨RX8, "status", "(I)I"⟩
def RJ9 : String := "java/lang/Math"
abbrev cJ9_max_7cf53 : ByteArray := prog_11_method_65_code
def yJ9_max_7cf53 : MethodName := ⟨RJ9, "max", "(II)I"⟩
abbrev cJ9_max_f86c9 : ByteArray := prog_11_method_66_code
def yJ9_max_f86c9 : MethodName := ⟨RJ9, "max", "(JJ)J"⟩
abbrev cJ9_min_7cf53 : ByteArray := prog_11_method_69_code
def yJ9_min_7cf53 : MethodName := ⟨RJ9, "min", "(II)I"⟩
def RJ0 : String := "java/lang/String"
abbrev cJ0_length_8abf5 : ByteArray := prog_12_method_54_code
def yJ0_length_8abf5 : MethodName := ⟨RJ0, "length", "()I"⟩
abbrev cJ0_charAt_5068e : ByteArray := prog_12_method_56_code
def yJ0_charAt_5068e : MethodName := ⟨RJ0, "charAt", "(I)C"⟩
abbrev cJ0_coder_7d493 : ByteArray := prog_12_method_152_code
def yJ0_coder_7d493 : MethodName := ⟨RJ0, "coder", "()B"⟩
abbrev cJ0_isLatin1_aae02 : ByteArray := prog_12_method_154_code
def yJ0_isLatin1_aae02 : MethodName := ⟨RJ0, "isLatin1", "()Z"⟩
abbrev cJ0_checkIndex_df160 : ByteArray := prog_12_method_155_code
def yJ0_checkIndex_df160 : MethodName := ⟨RJ0, "checkIndex", "(II)V"⟩
def RJ1 : String := "java/lang/StringLatin1"
abbrev cJ1_charAt_3b067 : ByteArray := prog_13_method_2_code
def yJ1_charAt_3b067 : MethodName := ⟨RJ1, "charAt", "([BI)C"⟩
def RJ2 : String := "java/lang/StringUTF16"
abbrev cJ2_getChar_3b067 : ByteArray := prog_14_method_5_code
def yJ2_getChar_3b067 : MethodName := ⟨RJ2, "getChar", "([BI)C"⟩
abbrev cJ2_length_9d52b : ByteArray := prog_14_method_6_code
def yJ2_length_9d52b : MethodName := ⟨RJ2, "length", "([B)I"⟩
abbrev cJ2_charAt_3b067 : ByteArray := prog_14_method_83_code
def yJ2_charAt_3b067 : MethodName := ⟨RJ2, "charAt", "([BI)C"⟩
abbrev cJ2_checkIndex_2214a : ByteArray := prog_14_method_91_code
def yJ2_checkIndex_2214a : MethodName := ⟨RJ2, "checkIndex", "(I[B)V"⟩
def RJ10 : String := "java/lang/System"
def RJ3 : String := "jdk/internal/util/Preconditions"
abbrev cJ3_checkIndex_8e157 : ByteArray := prog_16_method_11_code
def yJ3_checkIndex_8e157 : MethodName := ⟨RJ3, "checkIndex", "(IILjava/util/function/BiFunction;)I"⟩
def RL : String := "SendTheBoxLaw"
abbrev cL_law : ByteArray := code
def yL_law : MethodName := ⟨RL, "law", "([I)Z"⟩
abbrev vwCl : List vw_C := [(RX0, TX0, 1), (RX1, TX1, 15), (RX2, TX2, 2), (RX3, TX3, 4), (RX4, TX4, 5), (RX5, TX5, 8), (RX6, TX6, 4), (RX7, TX7, 12), (RX8, TX8, 46)]
end
section
/-! THE FLAT MEMORY. Every object and array that the run makes lies at an address from 'lo' on; what it is (class, or element type and length) and which cells it names is the geometry G; the numbers in it are the values V. -/
/-- first own address; class and slot numbers; the array classes; the heap below the first own address -/
abbrev zP : Type := Nat × va_G × (Nat → ClassId) × (Nat → Option Cell)
/-- one past the last address; kind and length of each; reference fields (field, address); elements of arrays of references (address, place) -/
abbrev zG : Type := Nat × (Nat → Nat × Nat) × (Nat → Nat → Option Nat) × (Nat → Nat → Option Nat)
/-- int fields; long fields (field, address); elements of int and byte arrays; of long arrays (address, place) -/
abbrev zV : Type := (Nat → Nat → Int32) × (Nat → Nat → Int64) × (Nat → Nat → Int32) × (Nat → Nat → Int64)
/-- how a field is kept: 0 int or boolean, 1 long, 2 reference -/
def fTags : List (List Nat) := [[2], [2, 0, 0, 0, 2, 2, 2, 2, 2, 2, 2, 2, 2, 0, 0], [0, 2], [0, 0, 0, 2], [2, 0, 0, 0, 0], [2, 2, 0, 0, 0, 0, 0, 0], [2, 0, 0, 2], [2, 2, 0, 2, 2, 2, 2, 2, 2, 2, 2, 2],
  [2, 2, 2, 2, 2, 2, 2, 2, 2, 0, 2, 0, 2, 0, 0, 0, 0, 0, 0, 0, 0, 2, 2, 0, 0, 0, 1, 0, 2, 2, 2, 2, 2, 2, 2, 2, 2, 2, 2, 0, 0, 0, 0, 0, 0, 0]]
def fTag (c k : Nat) : Nat := (fTags.getD c []).getD k 0
def fN (c : Nat) : Nat := (fTags.getD c []).length
def zTy : Nat → FieldType := fun t => match t with
  | 0 => .byte
  | 1 => .int
  | 2 => .long
  | 3 => .object "SendTheBox$House"
  | 4 => .object "SendTheBox$Plan"
  | 5 => .object "SendTheBox$Row"
  | 6 => .object "SendTheBox$Rule"
  | 7 => .array .int
  | _ => .array .long
def fV (G : zG) (V : zV) (c k a : Nat) : Value := match fTag c k with
  | 0 => .int (V.1 (50 * c + k) a)
  | 1 => .long (V.2.1 (50 * c + k) a)
  | _ => va_rf (G.2.2.1 (50 * c + k) a)
def aV (G : zG) (V : zV) (t a j : Nat) : Value := match t with
  | 0 => .int (V.2.2.1 a j)
  | 1 => .int (V.2.2.1 a j)
  | 2 => .long (V.2.2.2 a j)
  | _ => va_rf (G.2.2.2 a j)
def cOK (Z : zP) (G : zG) (V : zV) (H : Heap) (a : Nat) : Prop :=
  ((G.2.1 a).1 < 9 → t_OB a (Z.2.1.1 (G.2.1 a).1) (fN (G.2.1 a).1) (Z.2.1.2 (G.2.1 a).1) H (fun k => fV G V (G.2.1 a).1 k a)) ∧
  (¬ (G.2.1 a).1 < 9 → H[a]? = some (arrV (Z.2.2.1 ((G.2.1 a).1 - 9)) (G.2.1 a).2 (fun j => aV G V ((G.2.1 a).1 - 9) a j)))
/-- nothing is kept at an address that is not made yet -/
def zFr (G : zG) (V : zV) : Prop := ∀ a f : Nat, G.1 ≤ a → V.1 f a = 0 ∧ V.2.1 f a = 0 ∧ G.2.2.1 f a = none ∧ V.2.2.1 a f = 0 ∧ V.2.2.2 a f = 0 ∧ G.2.2.2 a f = none
def MemOK (Z : zP) (G : zG) (V : zV) (H : Heap) : Prop := H.size = G.1 ∧ Z.1 ≤ G.1 ∧ (∀ a : Nat, Z.1 ≤ a → a < G.1 → cOK Z G V H a) ∧ zFr G V ∧ ∀ a : Nat, a < Z.1 → H[a]? = Z.2.2.2 a
/-- an object of class c -/
def isK (Z : zP) (G : zG) (a c : Nat) : Prop := Z.1 ≤ a ∧ a < G.1 ∧ (G.2.1 a).1 = c
/-- an array with elements of type t, of length n -/
def isA (Z : zP) (G : zG) (a t n : Nat) : Prop := Z.1 ≤ a ∧ a < G.1 ∧ G.2.1 a = (9 + t, n)
def u2 {α : Type} (f : Nat → Nat → α) (i j : Nat) (v : α) : Nat → Nat → α := fun x y => if x = i ∧ y = j then v else f x y
def sI (V : zV) (f a : Nat) (v : Int32) : zV := (u2 V.1 f a v, V.2)
def sL (V : zV) (f a : Nat) (v : Int64) : zV := (V.1, u2 V.2.1 f a v, V.2.2)
def sAI (V : zV) (a i : Nat) (v : Int32) : zV := (V.1, V.2.1, u2 V.2.2.1 a i v, V.2.2.2)
def sAJ (V : zV) (a i : Nat) (v : Int64) : zV := (V.1, V.2.1, V.2.2.1, u2 V.2.2.2 a i v)
def sR (G : zG) (f a : Nat) (v : Option Nat) : zG := (G.1, G.2.1, u2 G.2.2.1 f a v, G.2.2.2)
def sAR (G : zG) (a i : Nat) (v : Option Nat) : zG := (G.1, G.2.1, G.2.2.1, u2 G.2.2.2 a i v)
/-- one cell more, of kind t (9 and more: an array of n elements) -/
def nG (G : zG) (t n : Nat) : zG := (G.1 + 1, va_up G.2.1 G.1 (t, n), G.2.2)
def zTys (Z : zP) : List (ClassId × FieldType) := (List.range 9).map (fun t => (Z.2.2.1 t, zTy t))
theorem zTys_at (Z : zP) {t : Nat} (h : t < 9) : (zTys Z)[t]? = some (Z.2.2.1 t, zTy t) := by
  unfold zTys
  rw [List.getElem?_map, List.getElem?_range h]
  rfl
/-- the words that every contract takes -/
def WA : List Cond := lw_tbl.filter goodWord
theorem WA_in {w : Cond} (h : w ∈ lw_tbl) (h2 : goodWord w = true) : w ∈ WA := List.mem_filter.mpr ⟨h, h2⟩
theorem WA_tbl {w : Cond} (h : w ∈ WA) : w ∈ lw_tbl := (List.mem_filter.mp h).1
theorem WA_good : GoodIn WA WA := fun w h => ⟨h, good_of_word (List.mem_filter.mp h).2⟩
def nestW : Cond → Bool
  | .fieldLinkNest .. => true
  | .methodLinkNest .. => true
  | _ => false
def WN : List Cond := tables_1.filter nestW
def WO : List FieldType := [.object "SendTheBox$House", .object "SendTheBox$Plan", .object "SendTheBox$Row", .object "SendTheBox$Rule"]
def WO2 : List FieldType := [.array .int, .array .long]
/-- what holds of the machine's tables at every method's start, beside the words -/
def Amb (Z : zP) (U : State) : Prop := va_K Z.2.1 vwCl (zTys Z) U ∧ (∀ w ∈ WN, va_Nw w U) ∧ (∀ C : String, FieldType.object C ∈ WO → va_AO C U) ∧ ∀ t : FieldType, .array t ∈ WO2 → ∀ (a : Array Value), (Cond.arrayOver (.array t)).before a U = true
theorem nestW_moved {w : Cond} (h : nestW w = true) {s U : State} (hW : s.WarmedH U.vm) (hZ : va_Nw w s) : va_Nw w U := by
  cases w <;> first | exact va_Nw.warmF hW hZ | exact va_Nw.warmM hW hZ | simp [nestW] at h
theorem Amb.moved {Z : zP} {s U : State} (hW : s.WarmedH U.vm) (h : Amb Z s) : Amb Z U :=
  ⟨va_K.moved hW.alike h.1, fun w hw => nestW_moved (List.mem_filter.mp hw).2 hW (h.2.1 w hw), fun C hC => va_AO.moved hW.alike (h.2.2.1 C hC), fun t ht a => arrayOver_alikeB hW.alike (h.2.2.2 t ht #[])⟩
theorem Amb.same {Z : zP} {s U : State} (hv : s.vm = U.vm) (h : Amb Z s) : Amb Z U :=
  ⟨va_K.moved (hv ▸ Vm.Alike.refl s.vm) h.1, fun w hw => va_Nw.same (by cases w <;> first | rfl | (have := (List.mem_filter.mp hw).2; simp [nestW] at this)) hv (h.2.1 w hw), fun C hC => va_AO.moved (hv ▸ Vm.Alike.refl s.vm) (h.2.2.1 C hC), fun t ht a => arrayOver_alikeB (hv ▸ Vm.Alike.refl s.vm) (h.2.2.2 t ht #[])⟩
/-- the machine at a method: program, launch, environment, room, state at its start, the method, its arguments, the frames below, the method's tables, its code -/
abbrev xP : Type := Program × Launch × Env × Room × State × MethodId × Array Value × List Frame × Method × Code
def xW (X : xP) (H : Heap) (locs : List Loc) (k n : Nat) (Q : State → Prop) (g : JFrame) : Prop := W X.1 X.2.1 X.2.2.1 X.2.2.2.1 X.2.2.2.2.1 X.2.2.2.2.2.1 X.2.2.2.2.2.2.1 X.2.2.2.2.2.2.2.1 X.2.2.2.2.2.2.2.2.1 X.2.2.2.2.2.2.2.2.2 H locs k n Q g
/-- locals: the first entry of a slot holds; none: nothing is known of it -/
def lk : List (Nat × Option Value) → Nat → Option Value
  | [], _ => none
  | q :: t, i => match Nat.beq q.1 i with
    | true => q.2
    | false => lk t i
def lwOK (lw : List (Nat × Option Value)) (nL : Nat) (ls : Array Slot) : Prop := ls.size = nL ∧ lv_wf ls ∧ ∀ (i : Nat) (v : Value), lk lw i = some v → ls[i]? = some (.val v)
/-- what is known of a method while it runs: code, size of locals, class, name, what it returns, how deep, how many cells and slots it may make -/
def Cx (Z : zP) (X : xP) (own nm : String) (cc : ByteArray) (nL : Nat) (ret : Option FieldType) (D mc ms : Nat) : Prop :=
  X.1.tables.exec = Jvm.exec ∧ X.2.2.2.2.2.2.2.2.2.code = cc ∧ X.2.2.2.2.2.2.2.2.2.maxLocals = nL ∧ X.2.2.2.2.1.vm.findClass own = some X.2.2.2.2.2.1.cls ∧ (∀ w ∈ WA, w.before X.2.2.2.2.2.2.1 X.2.2.2.2.1 = true) ∧ Amb Z X.2.2.2.2.1 ∧
  X.2.2.2.2.2.2.2.2.1.locks = false ∧ X.2.2.2.2.2.2.2.2.1.sig.returnType = ret ∧ X.2.2.2.2.2.2.2.2.1.name = nm ∧ D ≤ X.2.2.2.1.frames ∧ 36 * D ≤ X.2.2.2.1.locals ∧ mc ≤ X.2.2.2.1.cells ∧ ms ≤ X.2.2.2.1.slots ∧ Z.1 ≤ X.2.2.2.2.1.heap.size
/-- the weakest start: from the frame at pc with these locals and this stack, with the memory G V, k cells of n slots made so far, the machine comes to Q -/
def Wm (Z : zP) (X : xP) (nL : Nat) (G : zG) (V : zV) (k n : Nat) (Q : State → Prop) (pc : Nat) (lw : List (Nat × Option Value)) (st : List Value) : Prop :=
  ∀ (H : Heap) (locs : List Loc) (ls : Array Slot), MemOK Z G V H → va_S (fun q => Z.1 ≤ q) X.2.2.2.2.1.heap H locs → lwOK lw nL ls → xW X H locs k n Q (F0 X.2.2.2.2.2.1 pc ls st)
/-- a method's end -/
def zQ (Z : zP) (Post : Option Value → zG → zV → Prop) : Array Value → State → Outcome → State → Prop := fun _ st oc t => (∃ (r : Option Value) (G : zG) (V : zV), oc = .returned r ∧ Post r G V ∧ MemOK Z G V t.heap) ∧ va_F (fun q => Z.1 ≤ q) st t
def rQ (Z : zP) (X : xP) (mc ms : Nat) (Post : Option Value → zG → zV → Prop) : State → Prop := MQ X.2.2.2.2.2.2.2.1 (zQ Z Post) X.2.2.2.2.2.2.1 X.2.2.2.2.1 mc ms (fun q => Z.1 ≤ q)
/-- A CONTRACT: from the memory G V, with these arguments, the method returns, and Post holds of its answer and of the memory behind it; d frames deep, at most mc cells of ms slots -/
def CT (l : Launch) (Z : zP) (y : MethodName) (cc : ByteArray) (nL : Nat) (ret : Option FieldType) (D mc ms : Nat) (av : List Value) (G : zG) (V : zV) (Post : Option Value → zG → zV → Prop) : Prop :=
  Met l y (.code y cc nL ret :: WA) { frames := D, cells := mc, slots := ms, locals := 36 * D } (va_Pc av (fun U => MemOK Z G V U.heap ∧ Amb Z U)) (zQ Z Post) mc ms (fun q => Z.1 ≤ q)
def pI (x : Int32) (G : zG) (V : zV) : Option Value → zG → zV → Prop := fun r G' V' => r = some (.int x) ∧ G' = G ∧ V' = V
def pJ (x : Int64) (G : zG) (V : zV) : Option Value → zG → zV → Prop := fun r G' V' => r = some (.long x) ∧ G' = G ∧ V' = V
def pV (G : zG) (V : zV) : Option Value → zG → zV → Prop := fun r G' V' => r = none ∧ G' = G ∧ V' = V
def pR (o : Option Nat) (G : zG) (V : zV) : Option Value → zG → zV → Prop := fun r G' V' => r = some (va_rf o) ∧ G' = G ∧ V' = V
end
section
section XR
variable {Z : zP} {X : xP} {nL : Nat} {G : zG} {V : zV} {k n : Nat} {Q : State → Prop} {pc : Nat} {lw : List (Nat × Option Value)} {st : List Value} {own nm : String} {cc : ByteArray} {ret : Option FieldType} {D mc ms : Nat}
abbrev okS (lw : List (Nat × Option Value)) : Nat → Bool
  | 0 => true
  | i + 1 => match lk lw i with
    | some v => !(v.category == 2)
    | none => true
theorem lk_cons {q : Nat × Option Value} {t : List (Nat × Option Value)} {i : Nat} {v : Value} (h : lk (q :: t) i = some v) : (q.1 = i ∧ q.2 = some v) ∨ (q.1 ≠ i ∧ lk t i = some v) := by
  unfold lk at h
  cases hb : Nat.beq q.1 i with
  | true => rw [hb] at h; exact Or.inl ⟨Nat.eq_of_beq_eq_true hb, h⟩
  | false => rw [hb] at h; exact Or.inr ⟨Nat.ne_of_beq_eq_false hb, h⟩
theorem okS_ne {i j : Nat} {w : Value} (ho : okS lw i = true) (hj : lk lw j = some w) : ¬ (j + 1 = i ∧ w.category = 2) := by
  rintro ⟨rfl, hc⟩
  have ho : (match lk lw j with | some v => !(v.category == 2) | none => true) = true := ho
  rw [hj] at ho
  simp [hc] at ho
theorem lw_store1 {ls : Array Slot} {i : Nat} {v : Value} (h : lwOK lw nL ls) (hi : i < nL) (hc : v.category = 1) (ho : okS lw i = true) : ∃ ls', storeLocals ls i v = some ls' ∧ lwOK ((i, some v) :: lw) nL ls' := by
  obtain ⟨ls', e, hs, hw, hl⟩ := lv_store1 (l := []) ⟨h.1, h.2.1, fun q hq => by cases hq⟩ hi hc
  refine ⟨ls', e, hs, hw, fun j w hj => ?_⟩
  rcases lk_cons hj with ⟨h1, h2⟩ | ⟨h1, h2⟩
  · dsimp only at h1 h2
    subst h1
    cases h2
    exact hl (i, v) List.mem_cons_self
  · dsimp only at h1
    obtain ⟨ls2, e2, -, -, hl2⟩ := lv_store1 (l := [(j, w)]) ⟨h.1, h.2.1, fun q hq => by rw [List.mem_singleton.mp hq]; exact h.2.2 j w h2⟩ hi hc
    have he : ls' = ls2 := Option.some.inj (e.symm.trans e2)
    subst he
    refine hl2 (j, w) (List.mem_cons_of_mem _ (List.mem_filter.mpr ⟨List.mem_singleton.mpr rfl, ?_⟩))
    have := okS_ne ho h2
    simp [Ne.symm h1]
    omega
theorem lw_store2 {ls : Array Slot} {i : Nat} {v : Value} (h : lwOK lw nL ls) (hi : i + 1 < nL) (hc : v.category = 2) (ho : okS lw i = true) : ∃ ls', storeLocals ls i v = some ls' ∧ lwOK ((i, some v) :: (i + 1, none) :: lw) nL ls' := by
  obtain ⟨ls', e, hs, hw, hl⟩ := lv_store2 (l := []) ⟨h.1, h.2.1, fun q hq => by cases hq⟩ hi hc
  refine ⟨ls', e, hs, hw, fun j w hj => ?_⟩
  rcases lk_cons hj with ⟨h1, h2⟩ | ⟨h1, h2⟩
  · dsimp only at h1 h2
    subst h1
    cases h2
    exact hl (i, v) List.mem_cons_self
  · rcases lk_cons h2 with ⟨h3, h4⟩ | ⟨h3, h4⟩
    · cases h4
    · dsimp only at h1 h3
      obtain ⟨ls2, e2, -, -, hl2⟩ := lv_store2 (l := [(j, w)]) ⟨h.1, h.2.1, fun q hq => by rw [List.mem_singleton.mp hq]; exact h.2.2 j w h4⟩ hi hc
      have he : ls' = ls2 := Option.some.inj (e.symm.trans e2)
      subst he
      refine hl2 (j, w) (List.mem_cons_of_mem _ (List.mem_filter.mpr ⟨List.mem_singleton.mpr rfl, ?_⟩))
      have := okS_ne ho h4
      simp [Ne.symm h1, Ne.symm h3]
      omega
/-- fewer locals -/
def lwLe : List (Nat × Option Value) → List (Nat × Option Value) → Prop
  | [], _ => True
  | q :: t, lw => (q.2 = none ∨ lk lw q.1 = q.2) ∧ lwLe t lw
theorem lwLe_lk {l1 : List (Nat × Option Value)} : ∀ {l2 : List (Nat × Option Value)}, lwLe l1 l2 → ∀ (i : Nat) (v : Value), lk l1 i = some v → lk l2 i = some v := by
  induction l1 with
  | nil => intro l2 _ i v h; cases h
  | cons q t ih =>
    intro l2 h i v hv
    rcases lk_cons hv with ⟨h1, h2⟩ | ⟨h1, h2⟩
    · rcases h.1 with h3 | h3
      · rw [h2] at h3; cases h3
      · rw [← h1, h3, h2]
    · exact ih h.2 i v h2
theorem x_sub {lw' : List (Nat × Option Value)} (h : lwLe lw' lw) (kk : Wm Z X nL G V k n Q pc lw' st) : Wm Z X nL G V k n Q pc lw st :=
  fun H locs ls hM hS hl => kk H locs ls hM hS ⟨hl.1, hl.2.1, fun i v hv => hl.2.2 i v (lwLe_lk h i v hv)⟩
theorem x_widen {k' n' : Nat} (h1 : k ≤ k') (h2 : n ≤ n') (kk : Wm Z X nL G V k' n' Q pc lw st) : Wm Z X nL G V k n Q pc lw st :=
  fun H locs ls hM hS hl => W.widen h1 h2 (kk H locs ls hM hS hl)
theorem x_pc {pc' : Nat} (h : pc = pc') (kk : Wm Z X nL G V k n Q pc' lw st) : Wm Z X nL G V k n Q pc lw st := h ▸ kk
theorem x_iconst {z : Int} {v : Int32} (cx : Cx Z X own nm cc nL ret D mc ms) (d : decode cc pc = .ok (.iconst z, 1)) (hv : Int32.ofInt z = v) (kk : Wm Z X nL G V k n Q (pc + 1) (lw) (.int v :: st)) : Wm Z X nL G V k n Q pc lw (st) :=
  fun H locs ls hM hS hl => lv_iconst cx.1 cx.2.1 d hv (kk H locs ls hM hS hl)
theorem x_bipush {z : Int} {v : Int32} (cx : Cx Z X own nm cc nL ret D mc ms) (d : decode cc pc = .ok (.bipush z, 2)) (hv : (Int8.ofInt z).toInt32 = v) (kk : Wm Z X nL G V k n Q (pc + 2) (lw) (.int v :: st)) : Wm Z X nL G V k n Q pc lw (st) :=
  fun H locs ls hM hS hl => lv_bipush cx.1 cx.2.1 d hv (kk H locs ls hM hS hl)
theorem x_sipush {z : Int} {v : Int32} (cx : Cx Z X own nm cc nL ret D mc ms) (d : decode cc pc = .ok (.sipush z, 3)) (hv : (Int16.ofInt z).toInt32 = v) (kk : Wm Z X nL G V k n Q (pc + 3) (lw) (.int v :: st)) : Wm Z X nL G V k n Q pc lw (st) :=
  fun H locs ls hM hS hl => lv_sipush cx.1 cx.2.1 d hv (kk H locs ls hM hS hl)
theorem x_lconst {z : Fin 2} {v : Int64} (cx : Cx Z X own nm cc nL ret D mc ms) (d : decode cc pc = .ok (.lconst z, 1)) (hv : Int64.ofNat (z : Nat) = v) (kk : Wm Z X nL G V k n Q (pc + 1) (lw) (.long v :: st)) : Wm Z X nL G V k n Q pc lw (st) :=
  fun H locs ls hM hS hl => lv_lconst cx.1 cx.2.1 d hv (kk H locs ls hM hS hl)
theorem x_null (cx : Cx Z X own nm cc nL ret D mc ms) (d : decode cc pc = .ok (.aconst_null, 1)) (kk : Wm Z X nL G V k n Q (pc + 1) (lw) (.null :: st)) : Wm Z X nL G V k n Q pc lw (st) :=
  fun H locs ls hM hS hl => lv_null cx.1 cx.2.1 d (kk H locs ls hM hS hl)
theorem x_ldc {idx : Nat} {v : Int32} (cx : Cx Z X own nm cc nL ret D mc ms) (hw : Cond.constant own idx v ∈ WA) (d : decode cc pc = .ok (.ldc idx, 2)) (kk : Wm Z X nL G V k n Q (pc + 2) (lw) (.int v :: st)) : Wm Z X nL G V k n Q pc lw (st) :=
  fun H locs ls hM hS hl => lv_ldc cx.1 cx.2.1 cx.2.2.2.1 (cx.2.2.2.2.1 _ hw) d (kk H locs ls hM hS hl)
theorem x_ldc_w {idx : Nat} {v : Int32} (cx : Cx Z X own nm cc nL ret D mc ms) (hw : Cond.constant own idx v ∈ WA) (d : decode cc pc = .ok (.ldc_w idx, 3)) (kk : Wm Z X nL G V k n Q (pc + 3) (lw) (.int v :: st)) : Wm Z X nL G V k n Q pc lw (st) :=
  fun H locs ls hM hS hl => lv_ldcw cx.1 cx.2.1 cx.2.2.2.1 (cx.2.2.2.2.1 _ hw) d (kk H locs ls hM hS hl)
theorem x_ldc2 {idx : Nat} {v : Int64} (cx : Cx Z X own nm cc nL ret D mc ms) (hw : Cond.constantLong own idx v ∈ WA) (d : decode cc pc = .ok (.ldc2_w idx, 3)) (kk : Wm Z X nL G V k n Q (pc + 3) (lw) (.long v :: st)) : Wm Z X nL G V k n Q pc lw (st) :=
  fun H locs ls hM hS hl => lv_ldc2 cx.1 cx.2.1 cx.2.2.2.1 (cx.2.2.2.2.1 _ hw) d (kk H locs ls hM hS hl)
theorem x_iload_n {i : Fin 4} {x : Int32} (cx : Cx Z X own nm cc nL ret D mc ms) (d : decode cc pc = .ok (.iload_n i, 1)) (h : lk lw (i : Nat) = some (.int x)) (kk : Wm Z X nL G V k n Q (pc + 1) (lw) (.int x :: st)) : Wm Z X nL G V k n Q pc lw (st) :=
  fun H locs ls hM hS hl => lv_iload_n cx.1 cx.2.1 d rfl (hl.2.2 _ _ h) (kk H locs ls hM hS hl)
theorem x_iload {i : Nat} {x : Int32} (cx : Cx Z X own nm cc nL ret D mc ms) (d : decode cc pc = .ok (.iload i, 2)) (h : lk lw i = some (.int x)) (kk : Wm Z X nL G V k n Q (pc + 2) (lw) (.int x :: st)) : Wm Z X nL G V k n Q pc lw (st) :=
  fun H locs ls hM hS hl => lv_iload cx.1 cx.2.1 d (hl.2.2 _ _ h) (kk H locs ls hM hS hl)
theorem x_lload_n {i : Fin 4} {x : Int64} (cx : Cx Z X own nm cc nL ret D mc ms) (d : decode cc pc = .ok (.lload_n i, 1)) (h : lk lw (i : Nat) = some (.long x)) (kk : Wm Z X nL G V k n Q (pc + 1) (lw) (.long x :: st)) : Wm Z X nL G V k n Q pc lw (st) :=
  fun H locs ls hM hS hl => lv_lload_n cx.1 cx.2.1 d rfl (hl.2.2 _ _ h) (kk H locs ls hM hS hl)
theorem x_lload {i : Nat} {x : Int64} (cx : Cx Z X own nm cc nL ret D mc ms) (d : decode cc pc = .ok (.lload i, 2)) (h : lk lw i = some (.long x)) (kk : Wm Z X nL G V k n Q (pc + 2) (lw) (.long x :: st)) : Wm Z X nL G V k n Q pc lw (st) :=
  fun H locs ls hM hS hl => lv_lload cx.1 cx.2.1 d (hl.2.2 _ _ h) (kk H locs ls hM hS hl)
theorem x_aload_n {i : Fin 4} {x : Nat} (cx : Cx Z X own nm cc nL ret D mc ms) (d : decode cc pc = .ok (.aload_n i, 1)) (h : lk lw (i : Nat) = some (.ref x)) (kk : Wm Z X nL G V k n Q (pc + 1) (lw) (.ref x :: st)) : Wm Z X nL G V k n Q pc lw (st) :=
  fun H locs ls hM hS hl => lv_aload_n cx.1 cx.2.1 d rfl (hl.2.2 _ _ h) (kk H locs ls hM hS hl)
theorem x_aload {i : Nat} {x : Nat} (cx : Cx Z X own nm cc nL ret D mc ms) (d : decode cc pc = .ok (.aload i, 2)) (h : lk lw i = some (.ref x)) (kk : Wm Z X nL G V k n Q (pc + 2) (lw) (.ref x :: st)) : Wm Z X nL G V k n Q pc lw (st) :=
  fun H locs ls hM hS hl => lv_aload cx.1 cx.2.1 d (hl.2.2 _ _ h) (kk H locs ls hM hS hl)
theorem x_aload_nN {i : Fin 4} (cx : Cx Z X own nm cc nL ret D mc ms) (d : decode cc pc = .ok (.aload_n i, 1)) (h : lk lw (i : Nat) = some .null) (kk : Wm Z X nL G V k n Q (pc + 1) (lw) (.null :: st)) : Wm Z X nL G V k n Q pc lw (st) :=
  fun H locs ls hM hS hl => lv_aload_nN cx.1 cx.2.1 d rfl (hl.2.2 _ _ h) (kk H locs ls hM hS hl)
theorem x_aloadN {i : Nat} (cx : Cx Z X own nm cc nL ret D mc ms) (d : decode cc pc = .ok (.aload i, 2)) (h : lk lw i = some .null) (kk : Wm Z X nL G V k n Q (pc + 2) (lw) (.null :: st)) : Wm Z X nL G V k n Q pc lw (st) :=
  fun H locs ls hM hS hl => lv_aloadN cx.1 cx.2.1 d (hl.2.2 _ _ h) (kk H locs ls hM hS hl)
theorem x_aload_nR {i : Fin 4} {o : Option Nat} (cx : Cx Z X own nm cc nL ret D mc ms) (d : decode cc pc = .ok (.aload_n i, 1)) (h : lk lw (i : Nat) = some (va_rf o)) (kk : Wm Z X nL G V k n Q (pc + 1) (lw) (va_rf o :: st)) : Wm Z X nL G V k n Q pc lw st := by
  cases o with
  | none => exact x_aload_nN cx d h kk
  | some a => exact x_aload_n cx d h kk
theorem x_aloadR {i : Nat} {o : Option Nat} (cx : Cx Z X own nm cc nL ret D mc ms) (d : decode cc pc = .ok (.aload i, 2)) (h : lk lw i = some (va_rf o)) (kk : Wm Z X nL G V k n Q (pc + 2) (lw) (va_rf o :: st)) : Wm Z X nL G V k n Q pc lw st := by
  cases o with
  | none => exact x_aloadN cx d h kk
  | some a => exact x_aload cx d h kk
theorem x_istore_n {i : Fin 4} {x : Int32} (cx : Cx Z X own nm cc nL ret D mc ms) (d : decode cc pc = .ok (.istore_n i, 1)) (hi : (i : Nat) < nL) (ho : okS lw (i : Nat) = true) (kk : Wm Z X nL G V k n Q (pc + 1) (((i : Nat), some (.int x)) :: lw) (st)) : Wm Z X nL G V k n Q pc lw (.int x :: st) := by
  intro H locs ls hM hS hl
  obtain ⟨ls', e', h'⟩ := lw_store1 (v := .int x) hl hi rfl ho
  intro T hT Xs
  obtain ⟨t, a, b⟩ := kk H locs ls' hM hS h' T hT Xs
  refine ⟨t, ?_, b⟩
  have hx := cx.1
  have hb := cx.2.1
  jvm_step Xs.here [Xs.here.top, ↓top_set Xs.here.top, hx, hb, d, e']
  first | exact a | exact ⟨rfl, a⟩
theorem x_istore {i : Nat} {x : Int32} (cx : Cx Z X own nm cc nL ret D mc ms) (d : decode cc pc = .ok (.istore i, 2)) (hi : i < nL) (ho : okS lw i = true) (kk : Wm Z X nL G V k n Q (pc + 2) ((i, some (.int x)) :: lw) (st)) : Wm Z X nL G V k n Q pc lw (.int x :: st) := by
  intro H locs ls hM hS hl
  obtain ⟨ls', e', h'⟩ := lw_store1 (v := .int x) hl hi rfl ho
  intro T hT Xs
  obtain ⟨t, a, b⟩ := kk H locs ls' hM hS h' T hT Xs
  refine ⟨t, ?_, b⟩
  have hx := cx.1
  have hb := cx.2.1
  jvm_step Xs.here [Xs.here.top, ↓top_set Xs.here.top, hx, hb, d, e']
  first | exact a | exact ⟨rfl, a⟩
theorem x_lstore_n {i : Fin 4} {x : Int64} (cx : Cx Z X own nm cc nL ret D mc ms) (d : decode cc pc = .ok (.lstore_n i, 1)) (hi : (i : Nat) + 1 < nL) (ho : okS lw (i : Nat) = true) (kk : Wm Z X nL G V k n Q (pc + 1) (((i : Nat), some (.long x)) :: ((i : Nat) + 1, none) :: lw) (st)) : Wm Z X nL G V k n Q pc lw (.long x :: st) := by
  intro H locs ls hM hS hl
  obtain ⟨ls', e', h'⟩ := lw_store2 (v := .long x) hl hi rfl ho
  intro T hT Xs
  obtain ⟨t, a, b⟩ := kk H locs ls' hM hS h' T hT Xs
  refine ⟨t, ?_, b⟩
  have hx := cx.1
  have hb := cx.2.1
  jvm_step Xs.here [Xs.here.top, ↓top_set Xs.here.top, hx, hb, d, e']
  first | exact a | exact ⟨rfl, a⟩
theorem x_lstore {i : Nat} {x : Int64} (cx : Cx Z X own nm cc nL ret D mc ms) (d : decode cc pc = .ok (.lstore i, 2)) (hi : i + 1 < nL) (ho : okS lw i = true) (kk : Wm Z X nL G V k n Q (pc + 2) ((i, some (.long x)) :: (i + 1, none) :: lw) (st)) : Wm Z X nL G V k n Q pc lw (.long x :: st) := by
  intro H locs ls hM hS hl
  obtain ⟨ls', e', h'⟩ := lw_store2 (v := .long x) hl hi rfl ho
  intro T hT Xs
  obtain ⟨t, a, b⟩ := kk H locs ls' hM hS h' T hT Xs
  refine ⟨t, ?_, b⟩
  have hx := cx.1
  have hb := cx.2.1
  jvm_step Xs.here [Xs.here.top, ↓top_set Xs.here.top, hx, hb, d, e']
  first | exact a | exact ⟨rfl, a⟩
theorem x_astore_n {i : Fin 4} {x : Nat} (cx : Cx Z X own nm cc nL ret D mc ms) (d : decode cc pc = .ok (.astore_n i, 1)) (hi : (i : Nat) < nL) (ho : okS lw (i : Nat) = true) (kk : Wm Z X nL G V k n Q (pc + 1) (((i : Nat), some (.ref x)) :: lw) (st)) : Wm Z X nL G V k n Q pc lw (.ref x :: st) := by
  intro H locs ls hM hS hl
  obtain ⟨ls', e', h'⟩ := lw_store1 (v := .ref x) hl hi rfl ho
  intro T hT Xs
  obtain ⟨t, a, b⟩ := kk H locs ls' hM hS h' T hT Xs
  refine ⟨t, ?_, b⟩
  have hx := cx.1
  have hb := cx.2.1
  jvm_step Xs.here [Xs.here.top, ↓top_set Xs.here.top, hx, hb, d, e']
  first | exact a | exact ⟨rfl, a⟩
theorem x_astore {i : Nat} {x : Nat} (cx : Cx Z X own nm cc nL ret D mc ms) (d : decode cc pc = .ok (.astore i, 2)) (hi : i < nL) (ho : okS lw i = true) (kk : Wm Z X nL G V k n Q (pc + 2) ((i, some (.ref x)) :: lw) (st)) : Wm Z X nL G V k n Q pc lw (.ref x :: st) := by
  intro H locs ls hM hS hl
  obtain ⟨ls', e', h'⟩ := lw_store1 (v := .ref x) hl hi rfl ho
  intro T hT Xs
  obtain ⟨t, a, b⟩ := kk H locs ls' hM hS h' T hT Xs
  refine ⟨t, ?_, b⟩
  have hx := cx.1
  have hb := cx.2.1
  jvm_step Xs.here [Xs.here.top, ↓top_set Xs.here.top, hx, hb, d, e']
  first | exact a | exact ⟨rfl, a⟩
theorem x_astore_nN {i : Fin 4} (cx : Cx Z X own nm cc nL ret D mc ms) (d : decode cc pc = .ok (.astore_n i, 1)) (hi : (i : Nat) < nL) (ho : okS lw (i : Nat) = true) (kk : Wm Z X nL G V k n Q (pc + 1) (((i : Nat), some (.null)) :: lw) (st)) : Wm Z X nL G V k n Q pc lw (.null :: st) := by
  intro H locs ls hM hS hl
  obtain ⟨ls', e', h'⟩ := lw_store1 (v := .null) hl hi rfl ho
  intro T hT Xs
  obtain ⟨t, a, b⟩ := kk H locs ls' hM hS h' T hT Xs
  refine ⟨t, ?_, b⟩
  have hx := cx.1
  have hb := cx.2.1
  jvm_step Xs.here [Xs.here.top, ↓top_set Xs.here.top, hx, hb, d, e']
  first | exact a | exact ⟨rfl, a⟩
theorem x_astoreN {i : Nat} (cx : Cx Z X own nm cc nL ret D mc ms) (d : decode cc pc = .ok (.astore i, 2)) (hi : i < nL) (ho : okS lw i = true) (kk : Wm Z X nL G V k n Q (pc + 2) ((i, some (.null)) :: lw) (st)) : Wm Z X nL G V k n Q pc lw (.null :: st) := by
  intro H locs ls hM hS hl
  obtain ⟨ls', e', h'⟩ := lw_store1 (v := .null) hl hi rfl ho
  intro T hT Xs
  obtain ⟨t, a, b⟩ := kk H locs ls' hM hS h' T hT Xs
  refine ⟨t, ?_, b⟩
  have hx := cx.1
  have hb := cx.2.1
  jvm_step Xs.here [Xs.here.top, ↓top_set Xs.here.top, hx, hb, d, e']
  first | exact a | exact ⟨rfl, a⟩
theorem x_astore_nR {i : Fin 4} {o : Option Nat} (cx : Cx Z X own nm cc nL ret D mc ms) (d : decode cc pc = .ok (.astore_n i, 1)) (hi : (i : Nat) < nL) (ho : okS lw (i : Nat) = true) (kk : Wm Z X nL G V k n Q (pc + 1) (((i : Nat), some (va_rf o)) :: lw) (st)) : Wm Z X nL G V k n Q pc lw (va_rf o :: st) := by
  cases o with
  | none => exact x_astore_nN cx d hi ho kk
  | some a => exact x_astore_n cx d hi ho kk
theorem x_astoreR {i : Nat} {o : Option Nat} (cx : Cx Z X own nm cc nL ret D mc ms) (d : decode cc pc = .ok (.astore i, 2)) (hi : i < nL) (ho : okS lw i = true) (kk : Wm Z X nL G V k n Q (pc + 2) ((i, some (va_rf o)) :: lw) (st)) : Wm Z X nL G V k n Q pc lw (va_rf o :: st) := by
  cases o with
  | none => exact x_astoreN cx d hi ho kk
  | some a => exact x_astore cx d hi ho kk
theorem x_iinc {i : Nat} {z : Int} {x v : Int32} (cx : Cx Z X own nm cc nL ret D mc ms) (d : decode cc pc = .ok (.iinc i z, 3)) (h : lk lw i = some (.int x)) (hv : x + Int32.ofInt z = v) (hi : i < nL) (ho : okS lw i = true) (kk : Wm Z X nL G V k n Q (pc + 3) ((i, some (.int v)) :: lw) (st)) : Wm Z X nL G V k n Q pc lw st := by
  intro H locs ls hM hS hl
  obtain ⟨ls', e', h'⟩ := lw_store1 (v := .int v) hl hi rfl ho
  have hg := hl.2.2 _ _ h
  subst hv
  intro T hT Xs
  obtain ⟨t, a, b⟩ := kk H locs ls' hM hS h' T hT Xs
  refine ⟨t, ?_, b⟩
  have hx := cx.1
  have hb := cx.2.1
  jvm_step Xs.here [Xs.here.top, ↓top_set Xs.here.top, hx, hb, d, hg, e']
  exact a
theorem x_iadd {x y : Int32} (cx : Cx Z X own nm cc nL ret D mc ms) (d : decode cc pc = .ok (.iadd, 1)) (kk : Wm Z X nL G V k n Q (pc + 1) (lw) (.int (x + y) :: st)) : Wm Z X nL G V k n Q pc lw (.int y :: .int x :: st) :=
  fun H locs ls hM hS hl => lv_iadd cx.1 cx.2.1 d (kk H locs ls hM hS hl)
theorem x_isub {x y : Int32} (cx : Cx Z X own nm cc nL ret D mc ms) (d : decode cc pc = .ok (.isub, 1)) (kk : Wm Z X nL G V k n Q (pc + 1) (lw) (.int (x - y) :: st)) : Wm Z X nL G V k n Q pc lw (.int y :: .int x :: st) :=
  fun H locs ls hM hS hl => lv_isub cx.1 cx.2.1 d (kk H locs ls hM hS hl)
theorem x_imul {x y : Int32} (cx : Cx Z X own nm cc nL ret D mc ms) (d : decode cc pc = .ok (.imul, 1)) (kk : Wm Z X nL G V k n Q (pc + 1) (lw) (.int (x * y) :: st)) : Wm Z X nL G V k n Q pc lw (.int y :: .int x :: st) :=
  fun H locs ls hM hS hl => lv_imul cx.1 cx.2.1 d (kk H locs ls hM hS hl)
theorem x_iand {x y : Int32} (cx : Cx Z X own nm cc nL ret D mc ms) (d : decode cc pc = .ok (.iand, 1)) (kk : Wm Z X nL G V k n Q (pc + 1) (lw) (.int (x &&& y) :: st)) : Wm Z X nL G V k n Q pc lw (.int y :: .int x :: st) :=
  fun H locs ls hM hS hl => lv_iand cx.1 cx.2.1 d (kk H locs ls hM hS hl)
theorem x_ior {x y : Int32} (cx : Cx Z X own nm cc nL ret D mc ms) (d : decode cc pc = .ok (.ior, 1)) (kk : Wm Z X nL G V k n Q (pc + 1) (lw) (.int (x ||| y) :: st)) : Wm Z X nL G V k n Q pc lw (.int y :: .int x :: st) :=
  fun H locs ls hM hS hl => lv_ior cx.1 cx.2.1 d (kk H locs ls hM hS hl)
theorem x_idiv {x y : Int32} (cx : Cx Z X own nm cc nL ret D mc ms) (hne : ¬ y = 0) (d : decode cc pc = .ok (.idiv, 1)) (kk : Wm Z X nL G V k n Q (pc + 1) (lw) (.int (x / y) :: st)) : Wm Z X nL G V k n Q pc lw (.int y :: .int x :: st) :=
  fun H locs ls hM hS hl => lv_idiv cx.1 cx.2.1 d hne (kk H locs ls hM hS hl)
theorem x_irem {x y : Int32} (cx : Cx Z X own nm cc nL ret D mc ms) (hne : ¬ y = 0) (d : decode cc pc = .ok (.irem, 1)) (kk : Wm Z X nL G V k n Q (pc + 1) (lw) (.int (x - x / y * y) :: st)) : Wm Z X nL G V k n Q pc lw (.int y :: .int x :: st) :=
  fun H locs ls hM hS hl => lv_irem cx.1 cx.2.1 d hne (kk H locs ls hM hS hl)
theorem x_ladd {x y : Int64} (cx : Cx Z X own nm cc nL ret D mc ms) (d : decode cc pc = .ok (.ladd, 1)) (kk : Wm Z X nL G V k n Q (pc + 1) (lw) (.long (x + y) :: st)) : Wm Z X nL G V k n Q pc lw (.long y :: .long x :: st) :=
  fun H locs ls hM hS hl => lv_ladd cx.1 cx.2.1 d (kk H locs ls hM hS hl)
theorem x_lsub {x y : Int64} (cx : Cx Z X own nm cc nL ret D mc ms) (d : decode cc pc = .ok (.lsub, 1)) (kk : Wm Z X nL G V k n Q (pc + 1) (lw) (.long (x - y) :: st)) : Wm Z X nL G V k n Q pc lw (.long y :: .long x :: st) :=
  fun H locs ls hM hS hl => lv_lsub cx.1 cx.2.1 d (kk H locs ls hM hS hl)
theorem x_lmul {x y : Int64} (cx : Cx Z X own nm cc nL ret D mc ms) (d : decode cc pc = .ok (.lmul, 1)) (kk : Wm Z X nL G V k n Q (pc + 1) (lw) (.long (x * y) :: st)) : Wm Z X nL G V k n Q pc lw (.long y :: .long x :: st) :=
  fun H locs ls hM hS hl => lv_lmul cx.1 cx.2.1 d (kk H locs ls hM hS hl)
theorem x_land {x y : Int64} (cx : Cx Z X own nm cc nL ret D mc ms) (d : decode cc pc = .ok (.land, 1)) (kk : Wm Z X nL G V k n Q (pc + 1) (lw) (.long (x &&& y) :: st)) : Wm Z X nL G V k n Q pc lw (.long y :: .long x :: st) :=
  fun H locs ls hM hS hl => lv_land cx.1 cx.2.1 d (kk H locs ls hM hS hl)
theorem x_lor {x y : Int64} (cx : Cx Z X own nm cc nL ret D mc ms) (d : decode cc pc = .ok (.lor, 1)) (kk : Wm Z X nL G V k n Q (pc + 1) (lw) (.long (x ||| y) :: st)) : Wm Z X nL G V k n Q pc lw (.long y :: .long x :: st) :=
  fun H locs ls hM hS hl => lv_lor cx.1 cx.2.1 d (kk H locs ls hM hS hl)
theorem x_ldiv {x y : Int64} (cx : Cx Z X own nm cc nL ret D mc ms) (hne : ¬ y = 0) (d : decode cc pc = .ok (.ldiv, 1)) (kk : Wm Z X nL G V k n Q (pc + 1) (lw) (.long (x / y) :: st)) : Wm Z X nL G V k n Q pc lw (.long y :: .long x :: st) :=
  fun H locs ls hM hS hl => lv_ldiv cx.1 cx.2.1 d hne (kk H locs ls hM hS hl)
theorem x_ishl {x y : Int32} (cx : Cx Z X own nm cc nL ret D mc ms) (d : decode cc pc = .ok (.ishl, 1)) (kk : Wm Z X nL G V k n Q (pc + 1) (lw) (.int (x <<< (y &&& 31)) :: st)) : Wm Z X nL G V k n Q pc lw (.int y :: .int x :: st) :=
  fun H locs ls hM hS hl => lv_ishl cx.1 cx.2.1 d (kk H locs ls hM hS hl)
theorem x_ishr {x y : Int32} (cx : Cx Z X own nm cc nL ret D mc ms) (d : decode cc pc = .ok (.ishr, 1)) (kk : Wm Z X nL G V k n Q (pc + 1) (lw) (.int (x >>> (y &&& 31)) :: st)) : Wm Z X nL G V k n Q pc lw (.int y :: .int x :: st) :=
  fun H locs ls hM hS hl => lv_ishr cx.1 cx.2.1 d (kk H locs ls hM hS hl)
theorem x_iushr {x y : Int32} (cx : Cx Z X own nm cc nL ret D mc ms) (d : decode cc pc = .ok (.iushr, 1)) (kk : Wm Z X nL G V k n Q (pc + 1) (lw) (.int ((x.toUInt32 >>> (y.toUInt32 &&& Int32.toUInt32 31)).toInt32) :: st)) : Wm Z X nL G V k n Q pc lw (.int y :: .int x :: st) :=
  fun H locs ls hM hS hl => lv_iushr cx.1 cx.2.1 d rfl (kk H locs ls hM hS hl)
theorem x_lshl {x : Int64} {y : Int32} (cx : Cx Z X own nm cc nL ret D mc ms) (d : decode cc pc = .ok (.lshl, 1)) (kk : Wm Z X nL G V k n Q (pc + 1) (lw) (.long (x <<< (y.toInt64 &&& 63)) :: st)) : Wm Z X nL G V k n Q pc lw (.int y :: .long x :: st) :=
  fun H locs ls hM hS hl => lv_lshl cx.1 cx.2.1 d rfl (kk H locs ls hM hS hl)
theorem x_ineg {x : Int32} (cx : Cx Z X own nm cc nL ret D mc ms) (d : decode cc pc = .ok (.ineg, 1)) (kk : Wm Z X nL G V k n Q (pc + 1) (lw) (.int (-x) :: st)) : Wm Z X nL G V k n Q pc lw (.int x :: st) :=
  fun H locs ls hM hS hl => lv_ineg cx.1 cx.2.1 d (kk H locs ls hM hS hl)
theorem x_i2l {x : Int32} (cx : Cx Z X own nm cc nL ret D mc ms) (d : decode cc pc = .ok (.i2l, 1)) (kk : Wm Z X nL G V k n Q (pc + 1) (lw) (.long x.toInt64 :: st)) : Wm Z X nL G V k n Q pc lw (.int x :: st) :=
  fun H locs ls hM hS hl => lv_i2l cx.1 cx.2.1 d rfl (kk H locs ls hM hS hl)
theorem x_l2i {x : Int64} (cx : Cx Z X own nm cc nL ret D mc ms) (d : decode cc pc = .ok (.l2i, 1)) (kk : Wm Z X nL G V k n Q (pc + 1) (lw) (.int x.toInt32 :: st)) : Wm Z X nL G V k n Q pc lw (.long x :: st) :=
  fun H locs ls hM hS hl => lv_l2i cx.1 cx.2.1 d rfl (kk H locs ls hM hS hl)
theorem x_i2b {x : Int32} (cx : Cx Z X own nm cc nL ret D mc ms) (d : decode cc pc = .ok (.i2b, 1)) (kk : Wm Z X nL G V k n Q (pc + 1) (lw) (.int x.toInt8.toInt32 :: st)) : Wm Z X nL G V k n Q pc lw (.int x :: st) :=
  fun H locs ls hM hS hl => lv_i2b cx.1 cx.2.1 d rfl (kk H locs ls hM hS hl)
theorem x_i2s {x : Int32} (cx : Cx Z X own nm cc nL ret D mc ms) (d : decode cc pc = .ok (.i2s, 1)) (kk : Wm Z X nL G V k n Q (pc + 1) (lw) (.int x.toInt16.toInt32 :: st)) : Wm Z X nL G V k n Q pc lw (.int x :: st) :=
  fun H locs ls hM hS hl => lv_i2s cx.1 cx.2.1 d rfl (kk H locs ls hM hS hl)
theorem x_dup {v : Value} (cx : Cx Z X own nm cc nL ret D mc ms) (hv : v.category = 1) (d : decode cc pc = .ok (.dup, 1)) (kk : Wm Z X nL G V k n Q (pc + 1) (lw) (v :: v :: st)) : Wm Z X nL G V k n Q pc lw (v :: st) :=
  fun H locs ls hM hS hl => lv_dup cx.1 cx.2.1 d hv (kk H locs ls hM hS hl)
theorem x_pop {v : Value} (cx : Cx Z X own nm cc nL ret D mc ms) (hv : v.category = 1) (d : decode cc pc = .ok (.pop, 1)) (kk : Wm Z X nL G V k n Q (pc + 1) (lw) (st)) : Wm Z X nL G V k n Q pc lw (v :: st) :=
  fun H locs ls hM hS hl => lv_pop cx.1 cx.2.1 d hv (kk H locs ls hM hS hl)
theorem x_dup_x1 {v w : Value} (cx : Cx Z X own nm cc nL ret D mc ms) (hv : v.category = 1) (hw : w.category = 1) (d : decode cc pc = .ok (.dup_x1, 1)) (kk : Wm Z X nL G V k n Q (pc + 1) (lw) (v :: w :: v :: st)) : Wm Z X nL G V k n Q pc lw (v :: w :: st) :=
  fun H locs ls hM hS hl => lv_dup_x1 cx.1 cx.2.1 d hv hw (kk H locs ls hM hS hl)
theorem x_dup2 {v w : Value} (cx : Cx Z X own nm cc nL ret D mc ms) (hv : v.category = 1) (hw : w.category = 1) (d : decode cc pc = .ok (.dup2, 1)) (kk : Wm Z X nL G V k n Q (pc + 1) (lw) (v :: w :: v :: w :: st)) : Wm Z X nL G V k n Q pc lw (v :: w :: st) :=
  fun H locs ls hM hS hl => lv_dup2_11 cx.1 cx.2.1 d hv hw (kk H locs ls hM hS hl)
theorem x_dup2L {x : Int64} (cx : Cx Z X own nm cc nL ret D mc ms) (d : decode cc pc = .ok (.dup2, 1)) (kk : Wm Z X nL G V k n Q (pc + 1) (lw) (.long x :: .long x :: st)) : Wm Z X nL G V k n Q pc lw (.long x :: st) :=
  fun H locs ls hM hS hl => lv_dup2_2 cx.1 cx.2.1 d rfl (kk H locs ls hM hS hl)
theorem x_pop2L {x : Int64} (cx : Cx Z X own nm cc nL ret D mc ms) (d : decode cc pc = .ok (.pop2, 1)) (kk : Wm Z X nL G V k n Q (pc + 1) (lw) (st)) : Wm Z X nL G V k n Q pc lw (.long x :: st) :=
  fun H locs ls hM hS hl => lv_pop2_2 cx.1 cx.2.1 d rfl (kk H locs ls hM hS hl)
theorem x_lcmp {x y : Int64} (cx : Cx Z X own nm cc nL ret D mc ms) (d : decode cc pc = .ok (.lcmp, 1)) (kk : Wm Z X nL G V k n Q (pc + 1) (lw) (.int (lg_cmp x y) :: st)) : Wm Z X nL G V k n Q pc lw (.long y :: .long x :: st) :=
  fun H locs ls hM hS hl => W.lcmp cx.1 cx.2.1 d (kk H locs ls hM hS hl)
theorem x_if_eq {off : Int} {tgt : Nat} {x : Int32} (cx : Cx Z X own nm cc nL ret D mc ms) (d : decode cc pc = .ok (.ifCond .eq off, 3)) (ht : (pc : Int) + off = (tgt : Int)) (kt : x = 0 → Wm Z X nL G V k n Q (tgt) (lw) (st)) (kf : ¬ x = 0 → Wm Z X nL G V k n Q (pc + 3) (lw) (st)) : Wm Z X nL G V k n Q pc lw (.int x :: st) :=
  fun H locs ls hM hS hl => lv_if_eq cx.1 cx.2.1 d ht (fun h => kt h H locs ls hM hS hl) (fun h => kf h H locs ls hM hS hl)
theorem x_if_ne {off : Int} {tgt : Nat} {x : Int32} (cx : Cx Z X own nm cc nL ret D mc ms) (d : decode cc pc = .ok (.ifCond .ne off, 3)) (ht : (pc : Int) + off = (tgt : Int)) (kt : ¬ x = 0 → Wm Z X nL G V k n Q (tgt) (lw) (st)) (kf : x = 0 → Wm Z X nL G V k n Q (pc + 3) (lw) (st)) : Wm Z X nL G V k n Q pc lw (.int x :: st) :=
  fun H locs ls hM hS hl => lv_if_ne cx.1 cx.2.1 d ht (fun h => kt h H locs ls hM hS hl) (fun h => kf h H locs ls hM hS hl)
theorem x_if_lt {off : Int} {tgt : Nat} {x : Int32} (cx : Cx Z X own nm cc nL ret D mc ms) (d : decode cc pc = .ok (.ifCond .lt off, 3)) (ht : (pc : Int) + off = (tgt : Int)) (kt : x < 0 → Wm Z X nL G V k n Q (tgt) (lw) (st)) (kf : ¬ x < 0 → Wm Z X nL G V k n Q (pc + 3) (lw) (st)) : Wm Z X nL G V k n Q pc lw (.int x :: st) :=
  fun H locs ls hM hS hl => lv_if_lt cx.1 cx.2.1 d ht (fun h => kt h H locs ls hM hS hl) (fun h => kf h H locs ls hM hS hl)
theorem x_if_ge {off : Int} {tgt : Nat} {x : Int32} (cx : Cx Z X own nm cc nL ret D mc ms) (d : decode cc pc = .ok (.ifCond .ge off, 3)) (ht : (pc : Int) + off = (tgt : Int)) (kt : 0 ≤ x → Wm Z X nL G V k n Q (tgt) (lw) (st)) (kf : ¬ 0 ≤ x → Wm Z X nL G V k n Q (pc + 3) (lw) (st)) : Wm Z X nL G V k n Q pc lw (.int x :: st) :=
  fun H locs ls hM hS hl => lv_if_ge cx.1 cx.2.1 d ht (fun h => kt h H locs ls hM hS hl) (fun h => kf h H locs ls hM hS hl)
theorem x_if_gt {off : Int} {tgt : Nat} {x : Int32} (cx : Cx Z X own nm cc nL ret D mc ms) (d : decode cc pc = .ok (.ifCond .gt off, 3)) (ht : (pc : Int) + off = (tgt : Int)) (kt : 0 < x → Wm Z X nL G V k n Q (tgt) (lw) (st)) (kf : ¬ 0 < x → Wm Z X nL G V k n Q (pc + 3) (lw) (st)) : Wm Z X nL G V k n Q pc lw (.int x :: st) :=
  fun H locs ls hM hS hl => lv_if_gt cx.1 cx.2.1 d ht (fun h => kt h H locs ls hM hS hl) (fun h => kf h H locs ls hM hS hl)
theorem x_if_le {off : Int} {tgt : Nat} {x : Int32} (cx : Cx Z X own nm cc nL ret D mc ms) (d : decode cc pc = .ok (.ifCond .le off, 3)) (ht : (pc : Int) + off = (tgt : Int)) (kt : x ≤ 0 → Wm Z X nL G V k n Q (tgt) (lw) (st)) (kf : ¬ x ≤ 0 → Wm Z X nL G V k n Q (pc + 3) (lw) (st)) : Wm Z X nL G V k n Q pc lw (.int x :: st) :=
  fun H locs ls hM hS hl => lv_if_le cx.1 cx.2.1 d ht (fun h => kt h H locs ls hM hS hl) (fun h => kf h H locs ls hM hS hl)
theorem x_icmp_eq {off : Int} {tgt : Nat} {x y : Int32} (cx : Cx Z X own nm cc nL ret D mc ms) (d : decode cc pc = .ok (.if_icmp .eq off, 3)) (ht : (pc : Int) + off = (tgt : Int)) (kt : x = y → Wm Z X nL G V k n Q (tgt) (lw) (st)) (kf : ¬ x = y → Wm Z X nL G V k n Q (pc + 3) (lw) (st)) : Wm Z X nL G V k n Q pc lw (.int y :: .int x :: st) :=
  fun H locs ls hM hS hl => lv_icmp_eq cx.1 cx.2.1 d ht (fun h => kt h H locs ls hM hS hl) (fun h => kf h H locs ls hM hS hl)
theorem x_icmp_ne {off : Int} {tgt : Nat} {x y : Int32} (cx : Cx Z X own nm cc nL ret D mc ms) (d : decode cc pc = .ok (.if_icmp .ne off, 3)) (ht : (pc : Int) + off = (tgt : Int)) (kt : ¬ x = y → Wm Z X nL G V k n Q (tgt) (lw) (st)) (kf : x = y → Wm Z X nL G V k n Q (pc + 3) (lw) (st)) : Wm Z X nL G V k n Q pc lw (.int y :: .int x :: st) :=
  fun H locs ls hM hS hl => lv_icmp_ne cx.1 cx.2.1 d ht (fun h => kt h H locs ls hM hS hl) (fun h => kf h H locs ls hM hS hl)
theorem x_icmp_lt {off : Int} {tgt : Nat} {x y : Int32} (cx : Cx Z X own nm cc nL ret D mc ms) (d : decode cc pc = .ok (.if_icmp .lt off, 3)) (ht : (pc : Int) + off = (tgt : Int)) (kt : x < y → Wm Z X nL G V k n Q (tgt) (lw) (st)) (kf : ¬ x < y → Wm Z X nL G V k n Q (pc + 3) (lw) (st)) : Wm Z X nL G V k n Q pc lw (.int y :: .int x :: st) :=
  fun H locs ls hM hS hl => lv_icmp_lt cx.1 cx.2.1 d ht (fun h => kt h H locs ls hM hS hl) (fun h => kf h H locs ls hM hS hl)
theorem x_icmp_ge {off : Int} {tgt : Nat} {x y : Int32} (cx : Cx Z X own nm cc nL ret D mc ms) (d : decode cc pc = .ok (.if_icmp .ge off, 3)) (ht : (pc : Int) + off = (tgt : Int)) (kt : y ≤ x → Wm Z X nL G V k n Q (tgt) (lw) (st)) (kf : ¬ y ≤ x → Wm Z X nL G V k n Q (pc + 3) (lw) (st)) : Wm Z X nL G V k n Q pc lw (.int y :: .int x :: st) :=
  fun H locs ls hM hS hl => lv_icmp_ge cx.1 cx.2.1 d ht (fun h => kt h H locs ls hM hS hl) (fun h => kf h H locs ls hM hS hl)
theorem x_icmp_gt {off : Int} {tgt : Nat} {x y : Int32} (cx : Cx Z X own nm cc nL ret D mc ms) (d : decode cc pc = .ok (.if_icmp .gt off, 3)) (ht : (pc : Int) + off = (tgt : Int)) (kt : y < x → Wm Z X nL G V k n Q (tgt) (lw) (st)) (kf : ¬ y < x → Wm Z X nL G V k n Q (pc + 3) (lw) (st)) : Wm Z X nL G V k n Q pc lw (.int y :: .int x :: st) :=
  fun H locs ls hM hS hl => lv_icmp_gt cx.1 cx.2.1 d ht (fun h => kt h H locs ls hM hS hl) (fun h => kf h H locs ls hM hS hl)
theorem x_icmp_le {off : Int} {tgt : Nat} {x y : Int32} (cx : Cx Z X own nm cc nL ret D mc ms) (d : decode cc pc = .ok (.if_icmp .le off, 3)) (ht : (pc : Int) + off = (tgt : Int)) (kt : x ≤ y → Wm Z X nL G V k n Q (tgt) (lw) (st)) (kf : ¬ x ≤ y → Wm Z X nL G V k n Q (pc + 3) (lw) (st)) : Wm Z X nL G V k n Q pc lw (.int y :: .int x :: st) :=
  fun H locs ls hM hS hl => lv_icmp_le cx.1 cx.2.1 d ht (fun h => kt h H locs ls hM hS hl) (fun h => kf h H locs ls hM hS hl)
theorem x_lc_eq {off : Int} {tgt : Nat} {x y : Int64} (cx : Cx Z X own nm cc nL ret D mc ms) (d : decode cc pc = .ok (.lcmp, 1)) (d2 : decode cc (pc + 1) = .ok (.ifCond .eq off, 3)) (ht : ((pc + 1 : Nat) : Int) + off = (tgt : Int)) (kt : x = y → Wm Z X nL G V k n Q (tgt) (lw) (st)) (kf : ¬ x = y → Wm Z X nL G V k n Q (pc + 1 + 3) (lw) (st)) : Wm Z X nL G V k n Q pc lw (.long y :: .long x :: st) :=
  x_lcmp cx d (x_if_eq cx d2 ht (fun h => kt ((lg_cmp_eq x y).mp h)) (fun h => kf (fun q => h ((lg_cmp_eq x y).mpr q))))
theorem x_lc_ne {off : Int} {tgt : Nat} {x y : Int64} (cx : Cx Z X own nm cc nL ret D mc ms) (d : decode cc pc = .ok (.lcmp, 1)) (d2 : decode cc (pc + 1) = .ok (.ifCond .ne off, 3)) (ht : ((pc + 1 : Nat) : Int) + off = (tgt : Int)) (kt : ¬ x = y → Wm Z X nL G V k n Q (tgt) (lw) (st)) (kf : x = y → Wm Z X nL G V k n Q (pc + 1 + 3) (lw) (st)) : Wm Z X nL G V k n Q pc lw (.long y :: .long x :: st) :=
  x_lcmp cx d (x_if_ne cx d2 ht (fun h => kt (fun q => h ((lg_cmp_eq x y).mpr q))) (fun h => kf ((lg_cmp_eq x y).mp h)))
theorem x_lc_lt {off : Int} {tgt : Nat} {x y : Int64} (cx : Cx Z X own nm cc nL ret D mc ms) (d : decode cc pc = .ok (.lcmp, 1)) (d2 : decode cc (pc + 1) = .ok (.ifCond .lt off, 3)) (ht : ((pc + 1 : Nat) : Int) + off = (tgt : Int)) (kt : x < y → Wm Z X nL G V k n Q (tgt) (lw) (st)) (kf : ¬ x < y → Wm Z X nL G V k n Q (pc + 1 + 3) (lw) (st)) : Wm Z X nL G V k n Q pc lw (.long y :: .long x :: st) :=
  x_lcmp cx d (x_if_lt cx d2 ht (fun h => kt ((lg_cmp_lt x y).mp h)) (fun h => kf (fun q => h ((lg_cmp_lt x y).mpr q))))
theorem x_lc_ge {off : Int} {tgt : Nat} {x y : Int64} (cx : Cx Z X own nm cc nL ret D mc ms) (d : decode cc pc = .ok (.lcmp, 1)) (d2 : decode cc (pc + 1) = .ok (.ifCond .ge off, 3)) (ht : ((pc + 1 : Nat) : Int) + off = (tgt : Int)) (kt : y ≤ x → Wm Z X nL G V k n Q (tgt) (lw) (st)) (kf : ¬ y ≤ x → Wm Z X nL G V k n Q (pc + 1 + 3) (lw) (st)) : Wm Z X nL G V k n Q pc lw (.long y :: .long x :: st) :=
  x_lcmp cx d (x_if_ge cx d2 ht (fun h => kt ((lg_cmp_ge x y).mp h)) (fun h => kf (fun q => h ((lg_cmp_ge x y).mpr q))))
theorem x_lc_gt {off : Int} {tgt : Nat} {x y : Int64} (cx : Cx Z X own nm cc nL ret D mc ms) (d : decode cc pc = .ok (.lcmp, 1)) (d2 : decode cc (pc + 1) = .ok (.ifCond .gt off, 3)) (ht : ((pc + 1 : Nat) : Int) + off = (tgt : Int)) (kt : y < x → Wm Z X nL G V k n Q (tgt) (lw) (st)) (kf : ¬ y < x → Wm Z X nL G V k n Q (pc + 1 + 3) (lw) (st)) : Wm Z X nL G V k n Q pc lw (.long y :: .long x :: st) :=
  x_lcmp cx d (x_if_gt cx d2 ht (fun h => kt ((lg_cmp_gt x y).mp h)) (fun h => kf (fun q => h ((lg_cmp_gt x y).mpr q))))
theorem x_lc_le {off : Int} {tgt : Nat} {x y : Int64} (cx : Cx Z X own nm cc nL ret D mc ms) (d : decode cc pc = .ok (.lcmp, 1)) (d2 : decode cc (pc + 1) = .ok (.ifCond .le off, 3)) (ht : ((pc + 1 : Nat) : Int) + off = (tgt : Int)) (kt : x ≤ y → Wm Z X nL G V k n Q (tgt) (lw) (st)) (kf : ¬ x ≤ y → Wm Z X nL G V k n Q (pc + 1 + 3) (lw) (st)) : Wm Z X nL G V k n Q pc lw (.long y :: .long x :: st) :=
  x_lcmp cx d (x_if_le cx d2 ht (fun h => kt ((lg_cmp_le x y).mp h)) (fun h => kf (fun q => h ((lg_cmp_le x y).mpr q))))
theorem x_goto {off : Int} {tgt : Nat} (cx : Cx Z X own nm cc nL ret D mc ms) (d : decode cc pc = .ok (.goto off, 3)) (ht : (pc : Int) + off = (tgt : Int)) (kk : Wm Z X nL G V k n Q (tgt) (lw) (st)) : Wm Z X nL G V k n Q pc lw (st) :=
  fun H locs ls hM hS hl => lv_goto cx.1 cx.2.1 d ht (kk H locs ls hM hS hl)
theorem x_ifnull_s {off : Int} {a : Nat} (cx : Cx Z X own nm cc nL ret D mc ms) (d : decode cc pc = .ok (.ifnull off, 3)) (kk : Wm Z X nL G V k n Q (pc + 3) (lw) (st)) : Wm Z X nL G V k n Q pc lw (.ref a :: st) :=
  fun H locs ls hM hS hl => lv_ifnull cx.1 cx.2.1 d (kk H locs ls hM hS hl)
theorem x_ifnull_n {off : Int} {tgt : Nat} (cx : Cx Z X own nm cc nL ret D mc ms) (d : decode cc pc = .ok (.ifnull off, 3)) (ht : (pc : Int) + off = (tgt : Int)) (kk : Wm Z X nL G V k n Q (tgt) (lw) (st)) : Wm Z X nL G V k n Q pc lw (.null :: st) :=
  fun H locs ls hM hS hl => lv_ifnullN cx.1 cx.2.1 d ht (kk H locs ls hM hS hl)
theorem x_ifnonnull_s {off : Int} {tgt : Nat} {a : Nat} (cx : Cx Z X own nm cc nL ret D mc ms) (d : decode cc pc = .ok (.ifnonnull off, 3)) (ht : (pc : Int) + off = (tgt : Int)) (kk : Wm Z X nL G V k n Q (tgt) (lw) (st)) : Wm Z X nL G V k n Q pc lw (.ref a :: st) :=
  fun H locs ls hM hS hl => lv_ifnonnull cx.1 cx.2.1 d ht (kk H locs ls hM hS hl)
theorem x_ifnonnull_n {off : Int} (cx : Cx Z X own nm cc nL ret D mc ms) (d : decode cc pc = .ok (.ifnonnull off, 3)) (kk : Wm Z X nL G V k n Q (pc + 3) (lw) (st)) : Wm Z X nL G V k n Q pc lw (.null :: st) :=
  fun H locs ls hM hS hl => lv_ifnonnullN cx.1 cx.2.1 d (kk H locs ls hM hS hl)
theorem x_ifnull {off : Int} {tgt : Nat} {p : Option Nat} (cx : Cx Z X own nm cc nL ret D mc ms) (d : decode cc pc = .ok (.ifnull off, 3)) (ht : (pc : Int) + off = (tgt : Int)) (kt : p = none → Wm Z X nL G V k n Q (tgt) (lw) (st)) (kf : ∀ a : Nat, p = some a → Wm Z X nL G V k n Q (pc + 3) (lw) (st)) : Wm Z X nL G V k n Q pc lw (va_rf p :: st) := by
  cases p with
  | none => exact x_ifnull_n cx d ht (kt rfl)
  | some a => exact x_ifnull_s cx d (kf a rfl)
theorem x_ifnonnull {off : Int} {tgt : Nat} {p : Option Nat} (cx : Cx Z X own nm cc nL ret D mc ms) (d : decode cc pc = .ok (.ifnonnull off, 3)) (ht : (pc : Int) + off = (tgt : Int)) (kt : ∀ a : Nat, p = some a → Wm Z X nL G V k n Q (tgt) (lw) (st)) (kf : p = none → Wm Z X nL G V k n Q (pc + 3) (lw) (st)) : Wm Z X nL G V k n Q pc lw (va_rf p :: st) := by
  cases p with
  | none => exact x_ifnonnull_n cx d (kf rfl)
  | some a => exact x_ifnonnull_s cx d ht (kt a rfl)
theorem x_tabOut {dflt lo hi : Int} {offs : Array Int} {len : Nat} {x : Int32} {tgt : Nat} (cx : Cx Z X own nm cc nL ret D mc ms) (d : decode cc pc = .ok (.tableswitch dflt lo hi offs, len)) (h : x.toInt < lo ∨ hi < x.toInt) (ht : (pc : Int) + dflt = (tgt : Int)) (kk : Wm Z X nL G V k n Q (tgt) (lw) (st)) : Wm Z X nL G V k n Q pc lw (.int x :: st) :=
  fun H locs ls hM hS hl => lv_tableOut cx.1 cx.2.1 d h ht (kk H locs ls hM hS hl)
theorem x_tabIn {dflt lo hi off v : Int} {offs : Array Int} {len : Nat} {x : Int32} {tgt : Nat} (cx : Cx Z X own nm cc nL ret D mc ms) (d : decode cc pc = .ok (.tableswitch dflt lo hi offs, len)) (hx : x.toInt = v) (h1 : ¬ v < lo) (h2 : ¬ hi < v) (ho : offs[(v - lo).toNat]? = some off) (ht : (pc : Int) + off = (tgt : Int)) (kk : Wm Z X nL G V k n Q (tgt) (lw) (st)) : Wm Z X nL G V k n Q pc lw (.int x :: st) :=
  fun H locs ls hM hS hl => lv_tableIn cx.1 cx.2.1 d (by rw [hx]; exact h1) (by rw [hx]; exact h2) (by rw [hx]; exact ho) ht (kk H locs ls hM hS hl)
end XR
end
section
section XH
variable {Z : zP} {X : xP} {nL : Nat} {G : zG} {V : zV} {k n : Nat} {Q : State → Prop} {pc : Nat} {lw : List (Nat × Option Value)} {st : List Value} {own nm : String} {cc : ByteArray} {ret : Option FieldType} {D mc ms : Nat}
theorem u2_same {α : Type} (f : Nat → Nat → α) (i j : Nat) (v : α) : u2 f i j v i j = v := by simp [u2]
theorem u2_fst {α : Type} (f : Nat → Nat → α) {i j x y : Nat} (v : α) (h : x ≠ i) : u2 f i j v x y = f x y := by simp [u2, h]
theorem u2_snd {α : Type} (f : Nat → Nat → α) {i j x y : Nat} (v : α) (h : y ≠ j) : u2 f i j v x y = f x y := by simp [u2, h]
theorem MemOK.obj {H : Heap} {a c : Nat} (hM : MemOK Z G V H) (ha : isK Z G a c) (hc : c < 9) : t_OB a (Z.2.1.1 c) (fN c) (Z.2.1.2 c) H (fun k => fV G V c k a) := by
  obtain ⟨h1, h2, rfl⟩ := ha
  exact (hM.2.2.1 a h1 h2).1 hc
theorem MemOK.arr {H : Heap} {a t m : Nat} (hM : MemOK Z G V H) (ha : isA Z G a t m) : H[a]? = some (arrV (Z.2.2.1 t) m (fun j => aV G V t a j)) := by
  obtain ⟨h1, h2, h3⟩ := ha
  have h := (hM.2.2.1 a h1 h2).2
  rw [h3] at h
  simpa using h
theorem MemOK.one {H : Heap} {a c N : Nat} {C : String} {T : u_T} (hM : MemOK Z G V H) (ha : isK Z G a c) (hc9 : c < 9) (hc : vwCl[c]? = some (C, T, N)) (hN : fN c = N) : va_P Z.2.1 vwCl [(a, .inr (c, (List.range N).map (fun k => fV G V c k a)))] H := by
  intro i q hq
  have hi : i < 1 := (List.getElem?_eq_some_iff.mp hq).1
  rw [show i = 0 by omega] at hq
  cases hq
  refine ⟨_, hc, t_OB.to (V := fun k => fV G V c k a) (hN ▸ hM.obj ha hc9) (fun j hj => ?_)⟩
  simp [vp_V, hj]
theorem cOK_kept {G' : zG} {V' : zV} {H H1 : Heap} {q : Nat} (h : cOK Z G V H q) (hk : G'.2.1 q = G.2.1 q) (e : H1[q]? = H[q]?) (hf : ∀ c k : Nat, fV G' V' c k q = fV G V c k q) (hA : ∀ t j : Nat, aV G' V' t q j = aV G V t q j) : cOK Z G' V' H1 q := by
  unfold cOK at h ⊢
  rw [hk]
  refine ⟨fun h9 => ?_, fun h9 => ?_⟩
  · exact t_OB.to ((h.1 h9).kept e) (fun j _ => (hf _ j).symm)
  · rw [e, h.2 h9]
    exact congrArg some (congrArg (arrV _ _) (funext fun j => (hA _ j).symm))
theorem mem_put {G' : zG} {V' : zV} {H H1 : Heap} {a : Nat} (hM : MemOK Z G V H) (ha : Z.1 ≤ a) (hG : G'.1 = G.1) (hG2 : G'.2.1 = G.2.1) (z : H1.size = H.size) (oq : ∀ q : Nat, q ≠ a → H1[q]? = H[q]?) (hs : cOK Z G' V' H1 a)
    (ho : ∀ q : Nat, q ≠ a → (∀ c k : Nat, fV G' V' c k q = fV G V c k q) ∧ ∀ t j : Nat, aV G' V' t q j = aV G V t q j) (hfr : zFr G' V') : MemOK Z G' V' H1 := by
  refine ⟨by rw [z, hM.1, hG], by rw [hG]; exact hM.2.1, fun q h1 h2 => ?_, hfr, fun q hq => ?_⟩
  · by_cases hqa : q = a
    · subst hqa
      exact hs
    · exact cOK_kept (hM.2.2.1 q h1 (hG ▸ h2)) (by rw [hG2]) (oq q hqa) (ho q hqa).1 (ho q hqa).2
  · rw [oq q (by omega)]
    exact hM.2.2.2.2 q hq
theorem x_getf {C : String} {T : u_T} {N c i idx a : Nat} {v : Value} (hc : vwCl[c]? = some (C, T, N)) (hin : ∀ w ∈ u_ws C T N, w ∈ WA) (hN : fN c = N) (hc9 : c < 9) (hi : i < N) (hlink : Cond.fieldLink own idx (T i).1 (T i).2.1 (T i).2.2.1 ∈ WA) (hv : fV G V c i a = v)
    (cx : Cx Z X own nm cc nL ret D mc ms) (d : decode cc pc = .ok (.getfield idx, 3)) (ha : isK Z G a c) (kk : Wm Z X nL G V k n Q (pc + 3) lw (v :: st)) : Wm Z X nL G V k n Q pc lw (.ref a :: st) :=
  fun H locs ls hM hS hl => va_get cx.1 cx.2.1 cx.2.2.2.2.1 hin cx.2.2.2.1 cx.2.2.2.2.2.1.1 (hM.one ha hc9 hc hN) 0 rfl hc i hi (cx.2.2.2.2.1 _ hlink) (fun _ h => h) (by rw [List.getElem?_map, List.getElem?_range hi, ← hv]; rfl) d (kk H locs ls hM hS hl)
theorem x_getfN {C host : String} {T : u_T} {N c i idx a : Nat} {v : Value} (hc : vwCl[c]? = some (C, T, N)) (hin : ∀ w ∈ u_ws C T N, w ∈ WA) (hN : fN c = N) (hc9 : c < 9) (hi : i < N) (hlink : Cond.fieldLinkNest own idx (T i).1 (T i).2.1 (T i).2.2.1 host ∈ WN) (hv : fV G V c i a = v)
    (cx : Cx Z X own nm cc nL ret D mc ms) (d : decode cc pc = .ok (.getfield idx, 3)) (ha : isK Z G a c) (kk : Wm Z X nL G V k n Q (pc + 3) lw (v :: st)) : Wm Z X nL G V k n Q pc lw (.ref a :: st) :=
  fun H locs ls hM hS hl => va_getN cx.1 cx.2.1 cx.2.2.2.2.1 hin cx.2.2.2.1 cx.2.2.2.2.2.1.1 (hM.one ha hc9 hc hN) 0 rfl hc i hi (va_Nw.use rfl (cx.2.2.2.2.2.1.2.1 _ hlink)) (fun _ h => h) (by rw [List.getElem?_map, List.getElem?_range hi, ← hv]; rfl) d (kk H locs ls hM hS hl)
/-- what a field's change does to the memory -/
def putOK (G : zG) (V : zV) (G' : zG) (V' : zV) (c i a : Nat) (v : Value) : Prop := G'.1 = G.1 ∧ G'.2.1 = G.2.1 ∧ (∀ j : Nat, j < 50 → fV G' V' c j a = updV (fun j => fV G V c j a) i v j) ∧ (∀ q : Nat, q ≠ a → (∀ c k : Nat, fV G' V' c k q = fV G V c k q) ∧ ∀ t j : Nat, aV G' V' t q j = aV G V t q j) ∧ (zFr G V → a < G.1 → zFr G' V')
theorem putOK_I {c i a : Nat} {x : Int32} (ht : fTag c i = 0) (hi : i < 50) : putOK G V G (sI V (50 * c + i) a x) c i a (.int x) := by
  refine ⟨rfl, rfl, fun j hj => ?_, fun q hq => ⟨fun c' k' => ?_, fun t j => rfl⟩, fun h ha q f hq => ?_⟩
  · by_cases e : j = i
    · subst e
      simp [updV, fV, ht, sI, u2]
    · simp only [updV, if_neg e, fV, sI]
      rw [u2_fst _ _ (by omega)]
  · simp only [fV, sI]
    rw [u2_snd _ _ hq]
  · refine ⟨?_, (h q f hq).2⟩
    show u2 V.1 (50 * c + i) a x f q = 0
    rw [u2_snd _ _ (by omega)]
    exact (h q f hq).1
theorem putOK_L {c i a : Nat} {x : Int64} (ht : fTag c i = 1) (hi : i < 50) : putOK G V G (sL V (50 * c + i) a x) c i a (.long x) := by
  refine ⟨rfl, rfl, fun j hj => ?_, fun q hq => ⟨fun c' k' => ?_, fun t j => rfl⟩, fun h ha q f hq => ?_⟩
  · by_cases e : j = i
    · subst e
      simp [updV, fV, ht, sL, u2]
    · simp only [updV, if_neg e, fV, sL]
      rw [u2_fst _ _ (by omega)]
  · simp only [fV, sL]
    rw [u2_snd _ _ hq]
  · refine ⟨(h q f hq).1, ?_, (h q f hq).2.2⟩
    show u2 V.2.1 (50 * c + i) a x f q = 0
    rw [u2_snd _ _ (by omega)]
    exact (h q f hq).2.1
theorem putOK_R {c i a : Nat} {x : Option Nat} (ht : fTag c i = 2) (hi : i < 50) : putOK G V (sR G (50 * c + i) a x) V c i a (va_rf x) := by
  refine ⟨rfl, rfl, fun j hj => ?_, fun q hq => ⟨fun c' k' => ?_, fun t j => rfl⟩, fun h ha q f hq => ?_⟩
  · by_cases e : j = i
    · subst e
      simp [updV, fV, ht, sR, u2]
    · simp only [updV, if_neg e, fV, sR]
      rw [u2_fst _ _ (by omega)]
  · simp only [fV, sR]
    rw [u2_snd _ _ hq]
  · refine ⟨(h q f hq).1, (h q f hq).2.1, ?_, (h q f hq).2.2.2⟩
    show u2 G.2.2.1 (50 * c + i) a x f q = none
    have hq2 : G.1 ≤ q := hq
    rw [u2_snd _ _ (by omega)]
    exact (h q f hq).2.2.1
theorem mem_putf {G' : zG} {V' : zV} {H H1 : Heap} {a c i N : Nat} {v : Value} (hM : MemOK Z G V H) (hp : putOK G V G' V' c i a v) (ha : isK Z G a c) (hc9 : c < 9) (hN : fN c = N) (hN50 : N ≤ 50) (z : H1.size = H.size) (oq : ∀ q : Nat, q ≠ a → H1[q]? = H[q]?)
    (hs : t_OB a (Z.2.1.1 c) N (Z.2.1.2 c) H1 (updV (fun k => fV G V c k a) i v)) : MemOK Z G' V' H1 := by
  obtain ⟨p1, p2, p3, p4, p5⟩ := hp
  refine mem_put hM ha.1 p1 p2 z oq ?_ p4 (p5 hM.2.2.2.1 ha.2.1)
  unfold cOK
  rw [p2, ha.2.2]
  exact ⟨fun _ => hN ▸ t_OB.to hs (fun j hj => (p3 j (by omega)).symm), fun h => absurd hc9 h⟩
theorem x_putf {C : String} {T : u_T} {N c i idx a : Nat} {v : Value} {ty : FieldType} {G' : zG} {V' : zV} (ty0 : Nat → FieldType) (hc : vwCl[c]? = some (C, T, N)) (hin : ∀ w ∈ u_ws C T N, w ∈ WA) (hty : ∀ k, k < N → parseFieldDescriptor (T k).2.2.1 = some (ty0 k)) (hnm : ∀ a, a < N → ∀ b, b < N → a ≠ b → (T a).2.1 ≠ (T b).2.1) (hN : fN c = N) (hN50 : N ≤ 50) (hc9 : c < 9) (hi : i < N) (hlink : Cond.fieldLink own idx (T i).1 (T i).2.1 (T i).2.2.1 ∈ WA) (hfin : (T i).2.2.2 = false) (hd : parseFieldDescriptor (T i).2.2.1 = some ty) (hp : putOK G V G' V' c i a v)
    (cx : Cx Z X own nm cc nL ret D mc ms) (d : decode cc pc = .ok (.putfield idx, 3)) (ha : isK Z G a c) (hn : narrow ty v = v) (hfit : fits ty v = true) (kk : Wm Z X nL G' V' k n Q (pc + 3) lw st) : Wm Z X nL G V k n Q pc lw (v :: .ref a :: st) := by
  intro H locs ls hM hS hl
  have hts := cx.2.2.2.2.1
  have hK := cx.2.2.2.2.2.1.1
  have hap := va_apart (own := own) hts hin ty0 hty hnm hK hc
  obtain ⟨cell, q1, q2, q3, q4⟩ := hN ▸ hM.obj ha hc9
  obtain ⟨hSl, hfc, kC, hkC, hkind⟩ := hK.1 c _ hc
  obtain ⟨cf, kf, fi, f, hif, hsl⟩ := hSl i hi
  have hlay := hts _ (hin _ (u_in_lay hi))
  unfold u_lay at hlay
  rw [if_neg (by rw [hfin]; decide)] at hlay
  have hst := (u_facts hfc hkC (u_lays hts hin hi) hif).1
  have h6 := u_store hfc hkC hkind hlay hif hd hn hfit
  refine W.putK cx.1 cx.2.1 (f := f) ⟨cx.2.2.2.1, hts _ hlink, ⟨_, _, _, hif⟩, hst⟩ (by rw [q2]; exact h6) q1 q3 (by rw [hsl]; exact k2_hasslot (q4 i hi)) rfl rfl d fun H' e1 e2 e3 => ?_
  rw [hsl] at e1 ⊢
  exact kk H' _ ls (mem_putf hM hp ha hc9 hN hN50 e2 e3 ⟨_, e1, q2, q3, t_set q4 hap hi v⟩) (hS.put e2 e3 ha.1) hl
theorem x_putfN {C host : String} {T : u_T} {N c i idx a : Nat} {v : Value} {ty : FieldType} {G' : zG} {V' : zV} (ty0 : Nat → FieldType) (hc : vwCl[c]? = some (C, T, N)) (hin : ∀ w ∈ u_ws C T N, w ∈ WA) (hty : ∀ k, k < N → parseFieldDescriptor (T k).2.2.1 = some (ty0 k)) (hnm : ∀ a, a < N → ∀ b, b < N → a ≠ b → (T a).2.1 ≠ (T b).2.1) (hN : fN c = N) (hN50 : N ≤ 50) (hc9 : c < 9) (hi : i < N) (hlink : Cond.fieldLinkNest own idx (T i).1 (T i).2.1 (T i).2.2.1 host ∈ WN) (hfin : (T i).2.2.2 = false) (hd : parseFieldDescriptor (T i).2.2.1 = some ty) (hp : putOK G V G' V' c i a v)
    (cx : Cx Z X own nm cc nL ret D mc ms) (d : decode cc pc = .ok (.putfield idx, 3)) (ha : isK Z G a c) (hn : narrow ty v = v) (hfit : fits ty v = true) (kk : Wm Z X nL G' V' k n Q (pc + 3) lw st) : Wm Z X nL G V k n Q pc lw (v :: .ref a :: st) := by
  intro H locs ls hM hS hl
  have hts := cx.2.2.2.2.1
  have hK := cx.2.2.2.2.2.1.1
  have hap := va_apart (own := own) hts hin ty0 hty hnm hK hc
  obtain ⟨cell, q1, q2, q3, q4⟩ := hN ▸ hM.obj ha hc9
  obtain ⟨hSl, hfc, kC, hkC, hkind⟩ := hK.1 c _ hc
  obtain ⟨cf, kf, fi, f, hif, hsl⟩ := hSl i hi
  have hlay := hts _ (hin _ (u_in_lay hi))
  unfold u_lay at hlay
  rw [if_neg (by rw [hfin]; decide)] at hlay
  have hst := (u_facts hfc hkC (u_lays hts hin hi) hif).1
  have h6 := u_store hfc hkC hkind hlay hif hd hn hfit
  refine va_WputK cx.1 cx.2.1 (f := f) cx.2.2.2.1 (va_Nw.use rfl (cx.2.2.2.2.2.1.2.1 _ hlink)) hif hst (by rw [q2]; exact h6) q1 q3 (by rw [hsl]; exact k2_hasslot (q4 i hi)) rfl rfl d fun H' e1 e2 e3 => ?_
  rw [hsl] at e1 ⊢
  exact kk H' _ ls (mem_putf hM hp ha hc9 hN hN50 e2 e3 ⟨_, e1, q2, q3, t_set q4 hap hi v⟩) (hS.put e2 e3 ha.1) hl
theorem x_putfF {C : String} {T : u_T} {N c i idx a : Nat} {v : Value} {ty : FieldType} {G' : zG} {V' : zV} (ty0 : Nat → FieldType) (hc : vwCl[c]? = some (C, T, N)) (hin : ∀ w ∈ u_ws C T N, w ∈ WA) (hty : ∀ k, k < N → parseFieldDescriptor (T k).2.2.1 = some (ty0 k)) (hnm : ∀ a, a < N → ∀ b, b < N → a ≠ b → (T a).2.1 ≠ (T b).2.1) (hN : fN c = N) (hN50 : N ≤ 50) (hc9 : c < 9) (hi : i < N) (hlink : Cond.fieldLink own idx (T i).1 (T i).2.1 (T i).2.2.1 ∈ WA) (hfin : (T i).2.2.2 = true) (hdecl : (T i).1 = own) (hd : parseFieldDescriptor (T i).2.2.1 = some ty) (hp : putOK G V G' V' c i a v)
    (cx : Cx Z X own "<init>" cc nL ret D mc ms) (d : decode cc pc = .ok (.putfield idx, 3)) (ha : isK Z G a c) (hn : narrow ty v = v) (hfit : fits ty v = true) (kk : Wm Z X nL G' V' k n Q (pc + 3) lw st) : Wm Z X nL G V k n Q pc lw (v :: .ref a :: st) := by
  intro H locs ls hM hS hl
  have hts := cx.2.2.2.2.1
  have hK := cx.2.2.2.2.2.1.1
  have hap := va_apart (own := own) hts hin ty0 hty hnm hK hc
  obtain ⟨cell, q1, q2, q3, q4⟩ := hN ▸ hM.obj ha hc9
  obtain ⟨hSl, hfc, kC, hkC, hkind⟩ := hK.1 c _ hc
  obtain ⟨cf, kf, fi, f, hif, hsl⟩ := hSl i hi
  have hlay := hts _ (hin _ (u_in_lay hi))
  unfold u_lay at hlay
  rw [if_pos hfin] at hlay
  have hst := (u_facts hfc hkC (u_lays hts hin hi) hif).1
  have hcf : X.2.2.2.2.2.1.cls = cf := by
    obtain ⟨_, _, c', _, _, _, -, -, hf', -, -, -, hown2, -⟩ := Cond.laysFinal_spec hlay
    have e1 : c' = cf := by have := hif.symm.trans hf'; simp at this; exact this.1.symm
    rw [hdecl] at hown2
    rw [← e1]; exact Option.some.inj (cx.2.2.2.1.symm.trans hown2)
  have h6 := u_fits hfc hkC hkind (Or.inr hlay) hif hd hn hfit
  refine W.putFinK cx.1 cx.2.1 cx.2.2.2.1 (hts _ hlink) hif hst hcf cx.2.2.2.2.2.2.2.2.1 (by rw [q2]; exact h6) q1 q3 (by rw [hsl]; exact k2_hasslot (q4 i hi)) rfl rfl d fun H' e1 e2 e3 => ?_
  rw [hsl] at e1 ⊢
  exact kk H' _ ls (mem_putf hM hp ha hc9 hN hN50 e2 e3 ⟨_, e1, q2, q3, t_set q4 hap hi v⟩) (hS.put e2 e3 ha.1) hl
end XH
end
section
section XA
variable {Z : zP} {X : xP} {nL : Nat} {G : zG} {V : zV} {k n : Nat} {Q : State → Prop} {pc : Nat} {lw : List (Nat × Option Value)} {st : List Value} {own nm : String} {cc : ByteArray} {ret : Option FieldType} {D mc ms : Nat}
theorem Cx.tys {t : Nat} (cx : Cx Z X own nm cc nL ret D mc ms) (ht : t < 9) : ArrOfT X.2.2.2.2.1 (Z.2.2.1 t) (zTy t) ∧ va_RA X.2.2.2.2.1 (Z.2.2.1 t) (zTy t) := cx.2.2.2.2.2.1.1.2 t _ (zTys_at Z ht)
theorem nI_ix {j m : Nat} (h : j < m) (hm : m < 2 ^ 31) : ¬ (nI j < 0 ∨ m ≤ (nI j).toNatClampNeg) := nI_in h hm
theorem x_iaload {a m j : Nat} (cx : Cx Z X own nm cc nL ret D mc ms) (d : decode cc pc = .ok (.iaload, 1)) (ha : isA Z G a 1 m) (hj : j < m) (hm : m < 2 ^ 31) (kk : Wm Z X nL G V k n Q (pc + 1) lw (.int (V.2.2.1 a j) :: st)) : Wm Z X nL G V k n Q pc lw (.int (nI j) :: .ref a :: st) := by
  intro H locs ls hM hS hl
  have hc := nI_clamp (n := j) (by omega)
  exact W.iald (v := .int (V.2.2.1 a j)) cx.1 cx.2.1 (hM.arr ha) ((cx.tys (t := 1) (by decide)).1 m _) (fun q => by cases q) (by rw [arrV_size]; exact nI_ix hj hm) (by rw [hc, arrV_read _ _ hj]; rfl) rfl rfl d (kk H locs ls hM hS hl)
theorem x_baload {a m j : Nat} (cx : Cx Z X own nm cc nL ret D mc ms) (d : decode cc pc = .ok (.baload, 1)) (ha : isA Z G a 0 m) (hj : j < m) (hm : m < 2 ^ 31) (kk : Wm Z X nL G V k n Q (pc + 1) lw (.int (V.2.2.1 a j) :: st)) : Wm Z X nL G V k n Q pc lw (.int (nI j) :: .ref a :: st) := by
  intro H locs ls hM hS hl
  have hc := nI_clamp (n := j) (by omega)
  exact W.bald (v := .int (V.2.2.1 a j)) cx.1 cx.2.1 (hM.arr ha) ((cx.tys (t := 0) (by decide)).1 m _) (fun q => by cases q) (by rw [arrV_size]; exact nI_ix hj hm) (by rw [hc, arrV_read _ _ hj]; rfl) rfl rfl d (kk H locs ls hM hS hl)
theorem x_laload {a m j : Nat} (cx : Cx Z X own nm cc nL ret D mc ms) (d : decode cc pc = .ok (.laload, 1)) (ha : isA Z G a 2 m) (hj : j < m) (hm : m < 2 ^ 31) (kk : Wm Z X nL G V k n Q (pc + 1) lw (.long (V.2.2.2 a j) :: st)) : Wm Z X nL G V k n Q pc lw (.int (nI j) :: .ref a :: st) := by
  intro H locs ls hM hS hl
  have hc := nI_clamp (n := j) (by omega)
  exact W.lald (v := .long (V.2.2.2 a j)) cx.1 cx.2.1 (hM.arr ha) ((cx.tys (t := 2) (by decide)).1 m _) (fun q => by cases q) (by rw [arrV_size]; exact nI_ix hj hm) (by rw [hc, arrV_read _ _ hj]; rfl) rfl rfl d (kk H locs ls hM hS hl)
theorem zTy_ref {t : Nat} (h3 : 3 ≤ t) : (zTy t).isReference = true := by
  obtain ⟨u, rfl⟩ : ∃ u, t = u + 3 := ⟨t - 3, by omega⟩
  match u with
  | 0 => rfl
  | 1 => rfl
  | 2 => rfl
  | 3 => rfl
  | 4 => rfl
  | u + 5 => rfl
theorem aV_ref {t a j : Nat} (h3 : 3 ≤ t) : aV G V t a j = va_rf (G.2.2.2 a j) := by
  obtain ⟨u, rfl⟩ : ∃ u, t = u + 3 := ⟨t - 3, by omega⟩
  rfl
theorem x_aaload {a m j t : Nat} (cx : Cx Z X own nm cc nL ret D mc ms) (d : decode cc pc = .ok (.aaload, 1)) (ha : isA Z G a t m) (h3 : 3 ≤ t) (h9 : t < 9) (hj : j < m) (hm : m < 2 ^ 31) (kk : Wm Z X nL G V k n Q (pc + 1) lw (va_rf (G.2.2.2 a j) :: st)) : Wm Z X nL G V k n Q pc lw (.int (nI j) :: .ref a :: st) := by
  intro H locs ls hM hS hl
  have hc := nI_clamp (n := j) (by omega)
  exact W.aald (v := va_rf (G.2.2.2 a j)) cx.1 cx.2.1 (hM.arr ha) ((cx.tys h9).1 m _) (zTy_ref h3) (fun q => by cases q) (by rw [arrV_size]; exact nI_ix hj hm) (by rw [hc, arrV_read _ _ hj, aV_ref h3]) rfl rfl d (kk H locs ls hM hS hl)
theorem x_alen {a m t : Nat} (cx : Cx Z X own nm cc nL ret D mc ms) (d : decode cc pc = .ok (.arraylength, 1)) (ha : isA Z G a t m) (h9 : t < 9) (kk : Wm Z X nL G V k n Q (pc + 1) lw (.int (nI m) :: st)) : Wm Z X nL G V k n Q pc lw (.ref a :: st) :=
  fun H locs ls hM hS hl => W.alen (n := nI m) cx.1 cx.2.1 (hM.arr ha) ((cx.tys h9).1 m _) (by rw [arrV_size]; rfl) rfl rfl d (kk H locs ls hM hS hl)
theorem mem_puta {G' : zG} {V' : zV} {H H1 : Heap} {a t m i : Nat} {v : Value} (hM : MemOK Z G V H) (ha : isA Z G a t m) (hG : G'.1 = G.1) (hG2 : G'.2.1 = G.2.1) (z : H1.size = H.size) (oq : ∀ q : Nat, q ≠ a → H1[q]? = H[q]?) (e : H1[a]? = some ((arrV (Z.2.2.1 t) m (fun j => aV G V t a j)).setSlot i v))
    (hs : ∀ j : Nat, aV G' V' t a j = updV (fun j => aV G V t a j) i v j) (ho : ∀ q : Nat, q ≠ a → (∀ c k : Nat, fV G' V' c k q = fV G V c k q) ∧ ∀ t j : Nat, aV G' V' t q j = aV G V t q j) (hfr : zFr G' V') : MemOK Z G' V' H1 := by
  refine mem_put hM ha.1 hG hG2 z oq ?_ ho hfr
  unfold cOK
  rw [hG2, ha.2.2]
  refine ⟨fun h => absurd h (by omega), fun _ => ?_⟩
  rw [e, arrV_store]
  show _ = some (arrV (Z.2.2.1 (9 + t - 9)) m fun j => aV G' V' (9 + t - 9) a j)
  rw [show 9 + t - 9 = t by omega]
  exact congrArg some (congrArg (arrV _ _) (funext fun j => (hs j).symm))
theorem x_iastore {a m j : Nat} {x : Int32} (cx : Cx Z X own nm cc nL ret D mc ms) (d : decode cc pc = .ok (.iastore, 1)) (ha : isA Z G a 1 m) (hj : j < m) (hm : m < 2 ^ 31) (kk : Wm Z X nL G (sAI V a j x) k n Q (pc + 1) lw st) : Wm Z X nL G V k n Q pc lw (.int x :: .int (nI j) :: .ref a :: st) := by
  intro H locs ls hM hS hl
  have hc := nI_clamp (n := j) (by omega)
  refine W.iast cx.1 cx.2.1 (hM.arr ha) ((cx.tys (t := 1) (by decide)).1 m _) (fun q => by cases q) (by rw [arrV_size]; exact nI_ix hj hm) rfl rfl d fun H1 e z oq => ?_
  rw [hc] at e ⊢
  refine kk H1 _ ls (mem_puta hM ha rfl rfl z oq e (fun i => ?_) (fun q hq => ⟨fun c i => rfl, fun t i => ?_⟩) (fun q f hq => ?_)) (hS.put z oq ha.1) hl
  · by_cases h : i = j
    · subst h
      simp [updV, aV, sAI, u2]
    · simp only [updV, if_neg h, aV, sAI]
      rw [u2_snd _ _ h]
  · unfold aV sAI
    dsimp only
    rw [u2_fst _ _ hq]
  · obtain ⟨f1, f2, f3, f4, f5, f6⟩ := hM.2.2.2.1 q f hq
    refine ⟨f1, f2, f3, ?_, f5, f6⟩
    show u2 V.2.2.1 a j x q f = 0
    have := ha.2.1
    rw [u2_fst _ _ (by omega)]
    exact f4
theorem x_bastore {a m j : Nat} {x : Int32} (cx : Cx Z X own nm cc nL ret D mc ms) (d : decode cc pc = .ok (.bastore, 1)) (ha : isA Z G a 0 m) (hj : j < m) (hm : m < 2 ^ 31) (kk : Wm Z X nL G (sAI V a j x.toInt8.toInt32) k n Q (pc + 1) lw st) : Wm Z X nL G V k n Q pc lw (.int x :: .int (nI j) :: .ref a :: st) := by
  intro H locs ls hM hS hl
  have hc := nI_clamp (n := j) (by omega)
  refine W.bast cx.1 cx.2.1 (hM.arr ha) ((cx.tys (t := 0) (by decide)).1 m _) (fun q => by cases q) (by rw [arrV_size]; exact nI_ix hj hm) rfl rfl d fun H1 e z oq => ?_
  rw [hc] at e ⊢
  refine kk H1 _ ls (mem_puta (v := .int x.toInt8.toInt32) hM ha rfl rfl z oq e (fun i => ?_) (fun q hq => ⟨fun c i => rfl, fun t i => ?_⟩) (fun q f hq => ?_)) (hS.put z oq ha.1) hl
  · by_cases h : i = j
    · subst h
      simp [updV, aV, sAI, u2]
    · simp only [updV, if_neg h, aV, sAI]
      rw [u2_snd _ _ h]
  · unfold aV sAI
    dsimp only
    rw [u2_fst _ _ hq]
  · obtain ⟨f1, f2, f3, f4, f5, f6⟩ := hM.2.2.2.1 q f hq
    refine ⟨f1, f2, f3, ?_, f5, f6⟩
    show u2 V.2.2.1 a j _ q f = 0
    have := ha.2.1
    rw [u2_fst _ _ (by omega)]
    exact f4
theorem x_lastore {a m j : Nat} {x : Int64} (cx : Cx Z X own nm cc nL ret D mc ms) (d : decode cc pc = .ok (.lastore, 1)) (ha : isA Z G a 2 m) (hj : j < m) (hm : m < 2 ^ 31) (kk : Wm Z X nL G (sAJ V a j x) k n Q (pc + 1) lw st) : Wm Z X nL G V k n Q pc lw (.long x :: .int (nI j) :: .ref a :: st) := by
  intro H locs ls hM hS hl
  have hc := nI_clamp (n := j) (by omega)
  refine W.last cx.1 cx.2.1 (hM.arr ha) ((cx.tys (t := 2) (by decide)).1 m _) (fun q => by cases q) (by rw [arrV_size]; exact nI_ix hj hm) rfl rfl d fun H1 e z oq => ?_
  rw [hc] at e ⊢
  refine kk H1 _ ls (mem_puta hM ha rfl rfl z oq e (fun i => ?_) (fun q hq => ⟨fun c i => rfl, fun t i => ?_⟩) (fun q f hq => ?_)) (hS.put z oq ha.1) hl
  · by_cases h : i = j
    · subst h
      simp [updV, aV, sAJ, u2]
    · simp only [updV, if_neg h, aV, sAJ]
      rw [u2_snd _ _ h]
  · unfold aV sAJ
    dsimp only
    rw [u2_fst _ _ hq]
  · obtain ⟨f1, f2, f3, f4, f5, f6⟩ := hM.2.2.2.1 q f hq
    refine ⟨f1, f2, f3, f4, ?_, f6⟩
    show u2 V.2.2.2 a j x q f = 0
    have := ha.2.1
    rw [u2_fst _ _ (by omega)]
    exact f5
theorem mem_sAR {H H1 : Heap} {a t m j : Nat} {v : Option Nat} (hM : MemOK Z G V H) (ha : isA Z G a t m) (h3 : 3 ≤ t) (z : H1.size = H.size) (oq : ∀ q : Nat, q ≠ a → H1[q]? = H[q]?) (e : H1[a]? = some ((arrV (Z.2.2.1 t) m (fun j => aV G V t a j)).setSlot j (va_rf v))) : MemOK Z (sAR G a j v) V H1 := by
  refine mem_puta hM ha rfl rfl z oq e (fun i => ?_) (fun q hq => ⟨fun c i => rfl, fun t' i => ?_⟩) (fun q f hq => ?_)
  · rw [aV_ref h3]
    by_cases h : i = j
    · subst h
      simp [updV, sAR, u2]
    · simp only [updV, if_neg h, sAR]
      rw [u2_snd _ _ h, aV_ref h3]
  · unfold aV sAR
    dsimp only
    rw [u2_fst _ _ hq]
  · have hq2 : G.1 ≤ q := hq
    obtain ⟨f1, f2, f3, f4, f5, f6⟩ := hM.2.2.2.1 q f hq2
    refine ⟨f1, f2, f3, f4, f5, ?_⟩
    show u2 G.2.2.2 a j v q f = none
    have := ha.2.1
    rw [u2_fst _ _ (by omega)]
    exact f6
/-- an object goes into an array of references to its class (element type t: class c) -/
theorem x_aastore {a m j t c v N : Nat} {C : String} {T : u_T} (cx : Cx Z X own nm cc nL ret D mc ms) (hc : vwCl[c]? = some (C, T, N)) (hz : zTy t = .object C) (hc9 : c < 9) (d : decode cc pc = .ok (.aastore, 1)) (ha : isA Z G a t m) (h3 : 3 ≤ t) (h9 : t < 9) (hj : j < m) (hm : m < 2 ^ 31) (hv : isK Z G v c) (kk : Wm Z X nL (sAR G a j (some v)) V k n Q (pc + 1) lw st) : Wm Z X nL G V k n Q pc lw (.ref v :: .int (nI j) :: .ref a :: st) := by
  intro H locs ls hM hS hl
  have hcl := nI_clamp (n := j) (by omega)
  have hn := nI_ix hj hm
  obtain ⟨cellV, g1, g2, g3, -⟩ := hM.obj hv hc9
  have hcls := (cx.2.2.2.2.2.1.1.1 c _ hc).2
  have hRA := (cx.tys h9).2
  rw [hz] at hRA
  obtain ⟨kA, comp, k1, k2, k3, -⟩ := hRA
  have hcomp : comp = Z.2.1.1 c := Option.some.inj (k3.symm.trans hcls.1)
  subst hcomp
  obtain ⟨kC, hkC, -⟩ := hcls.2
  refine W.aast cx.1 cx.2.1 (hM.arr ha) (fun q h => by cases h) (fun h => by cases h) k1 k2 rfl hkC ⟨fun q => hn (Or.inl q), by rw [arrV_size, hcl]; exact hj⟩ g1 (fun q h => by rw [g3] at h; cases h) (by rw [g2]; exact hkC) (by rw [g2]; exact va_assign hcls) rfl rfl d fun H1 e z oq => ?_
  rw [hcl] at e ⊢
  exact kk H1 _ ls (mem_sAR (v := some v) hM ha h3 z oq e) (hS.put z oq ha.1) hl
theorem x_aastoreN {a m j t : Nat} {C : String} (cx : Cx Z X own nm cc nL ret D mc ms) (hz : zTy t = .object C) (d : decode cc pc = .ok (.aastore, 1)) (ha : isA Z G a t m) (h3 : 3 ≤ t) (h9 : t < 9) (hj : j < m) (hm : m < 2 ^ 31) (kk : Wm Z X nL (sAR G a j none) V k n Q (pc + 1) lw st) : Wm Z X nL G V k n Q pc lw (.null :: .int (nI j) :: .ref a :: st) := by
  intro H locs ls hM hS hl
  have hcl := nI_clamp (n := j) (by omega)
  have hn := nI_ix hj hm
  refine va_WaastN (C := C) cx.1 cx.2.1 (hM.arr ha) (hz ▸ (cx.tys h9).1 m _) (fun h => by cases h) (by rw [arrV_size]; exact hn) rfl rfl d fun H1 e z oq => ?_
  rw [hcl] at e ⊢
  exact kk H1 _ ls (mem_sAR (v := none) hM ha h3 z oq e) (hS.put z oq ha.1) hl
end XA
end
section
section XN
variable {Z : zP} {X : xP} {nL : Nat} {G : zG} {V : zV} {k n : Nat} {Q : State → Prop} {pc : Nat} {lw : List (Nat × Option Value)} {st : List Value} {own nm : String} {cc : ByteArray} {ret : Option FieldType} {D mc ms : Nat}
theorem fV_nG (t m c i a : Nat) : fV (nG G t m) V c i a = fV G V c i a := rfl
theorem aV_nG (t m c i a : Nat) : aV (nG G t m) V c i a = aV G V c i a := rfl
/-- one cell more -/
theorem mem_new {H H1 : Heap} {t m : Nat} (hM : MemOK Z G V H) (z : H1.size = G.1 + 1) (oq : ∀ q : Nat, q < G.1 → H1[q]? = H[q]?) (hs : cOK Z (nG G t m) V H1 G.1) : MemOK Z (nG G t m) V H1 := by
  refine ⟨z, Nat.le_succ_of_le hM.2.1, fun q h1 h2 => ?_, fun q f hq => ?_, fun q hq => ?_⟩
  · by_cases hqa : q = G.1
    · subst hqa
      exact hs
    · have h2' : q < G.1 + 1 := h2
      exact cOK_kept (hM.2.2.1 q h1 (by omega)) (va_up_ne _ _ hqa) (oq q (by omega)) (fun _ _ => rfl) (fun _ _ => rfl)
  · have hq' : G.1 + 1 ≤ q := hq
    exact hM.2.2.2.1 q f (by omega)
  · have := hM.2.1
    rw [oq q (by omega)]
    exact hM.2.2.2.2 q hq
theorem va_S.grow {A : Nat → Prop} {H0 H H1 : Heap} {locs : List Loc} (h : va_S A H0 H locs) (z : H.size ≤ H1.size) (oq : ∀ q : Nat, q < H.size → H1[q]? = H[q]?) : va_S A H0 H1 locs :=
  ⟨Nat.le_trans h.1 z, fun q h1 h2 => (oq q (Nat.lt_of_lt_of_le h1 h.1)).trans (h.2.1 q h1 h2), h.2.2⟩
theorem fV_fresh {c i : Nat} (hM : zFr G V) : fV G V c i G.1 = (match fTag c i with | 0 => .int 0 | 1 => .long 0 | _ => .null) := by
  obtain ⟨f1, f2, f3, -⟩ := hM G.1 (50 * c + i) (Nat.le_refl _)
  unfold fV
  split <;> simp_all [va_rf]
theorem aV_fresh {t j : Nat} (hM : zFr G V) : aV G V t G.1 j = defaultValue (zTy t) := by
  obtain ⟨f1, f2, f3, f4, f5, f6⟩ := hM G.1 j (Nat.le_refl _)
  match t with
  | 0 => show Value.int _ = _; rw [f4]; rfl
  | 1 => show Value.int _ = _; rw [f4]; rfl
  | 2 => show Value.long _ = _; rw [f5]; rfl
  | 3 => show va_rf _ = _; rw [f6]; rfl
  | 4 => show va_rf _ = _; rw [f6]; rfl
  | 5 => show va_rf _ = _; rw [f6]; rfl
  | 6 => show va_rf _ = _; rw [f6]; rfl
  | 7 => show va_rf _ = _; rw [f6]; rfl
  | u + 8 => show va_rf _ = _; rw [f6]; rfl
theorem x_new {C : String} {T : u_T} {N c idx : Nat} (ty : Nat → FieldType) (hc : vwCl[c]? = some (C, T, N)) (hin : ∀ w ∈ u_ws C T N, w ∈ WA) (hty : ∀ k, k < N → parseFieldDescriptor (T k).2.2.1 = some (ty k)) (hN : fN c = N) (hc9 : c < 9) (hdf : ∀ i, i < N → defaultValue (ty i) = (match fTag c i with | 0 => .int 0 | 1 => .long 0 | _ => .null)) (h1 : Cond.classLink own idx C ∈ WA) (h2 : Cond.instantiable C N ∈ WA) (h3 : Cond.initialized C ∈ WA)
    (cx : Cx Z X own nm cc nL ret D mc ms) (d : decode cc pc = .ok (.new idx, 3)) (hk : k + 1 ≤ mc) (hn : n + N ≤ ms) (kk : Wm Z X nL (nG G c 0) V (k + 1) (n + N) Q (pc + 3) lw (.ref G.1 :: st)) : Wm Z X nL G V k n Q pc lw st := by
  intro H locs ls hM hS hl
  have hts := cx.2.2.2.2.1
  have hKn := cx.2.2.2.2.2.1.1.1 c _ hc
  have c1 := cx.2.2.2.2.2.2.2.2.2.2.2.1
  have c2 := cx.2.2.2.2.2.2.2.2.2.2.2.2.1
  refine W.newcK cx.1 cx.2.1 cx.2.2.2.1 (hts _ h1) (hts _ h2) (hts _ h3) rfl d (by omega) (by omega) hKn.2.1 hM.1 fun H1 kC hkC e1 z1 o1 => ?_
  have hb := u_born ty hts hin hKn hkC e1 hty
  refine kk H1 locs ls (mem_new hM z1 o1 ?_) (hS.grow (by rw [z1, hM.1]; omega) (fun q hq => o1 q (hM.1 ▸ hq))) hl
  unfold cOK
  rw [show (nG G c 0).2.1 G.1 = (c, 0) from va_up_self _ _ _]
  refine ⟨fun _ => hN ▸ t_OB.to hb (fun j hj => ?_), fun h => absurd hc9 h⟩
  rw [hdf j hj, fV_nG, fV_fresh hM.2.2.2.1]
theorem x_newarray {at' : ArrayType} {m t : Nat} (ht : newarray.typeOf at' = zTy t) (h9 : t < 9) (hb : componentBytes (zTy t) ≤ 8) (hs : ("[" ++ (newarray.typeOf at').toString) = "[" ++ (zTy t).toString) (hRA : ∀ U : State, va_RA U (Z.2.2.1 t) (zTy t) → U.vm.findClass ("[" ++ (zTy t).toString) = some (Z.2.2.1 t)) (hw : Cond.arrayClass (newarray.typeOf at') ∈ WA)
    (cx : Cx Z X own nm cc nL ret D mc ms) (d : decode cc pc = .ok (.newarray at', 2)) (hm : m < 65536) (hk : k + 1 ≤ mc) (hn : n + m ≤ ms) (kk : Wm Z X nL (nG G (9 + t) m) V (k + 1) (n + m) Q (pc + 2) lw (.ref G.1 :: st)) : Wm Z X nL G V k n Q pc lw (.int (nI m) :: st) := by
  intro H locs ls hM hS hl
  have hts := cx.2.2.2.2.1
  have c1 := cx.2.2.2.2.2.2.2.2.2.2.2.1
  have c2 := cx.2.2.2.2.2.2.2.2.2.2.2.2.1
  have h0 : ¬ nI m < 0 := nI_pos (by omega)
  have hcl : (nI m).toNatClampNeg = m := nI_clamp (by omega)
  have hbb : m * componentBytes (newarray.typeOf at') ≤ 536870912 := by
    rw [ht]
    exact Nat.le_trans (Nat.mul_le_mul (Nat.le_of_lt hm) hb) (by omega)
  refine va_newaK cx.1 cx.2.1 (hts _ hw) rfl d rfl h0 hcl hbb (by omega) (by omega) hM.1 fun H1 cA e1 z1 o1 hAr hNm => ?_
  have hcA : cA = Z.2.2.1 t := by
    have := hRA _ (cx.tys h9).2
    rw [hs] at hNm
    exact Option.some.inj (hNm.symm.trans this)
  subst hcA
  refine kk H1 locs ls (mem_new hM z1 o1 ?_) (hS.grow (by rw [z1, hM.1]; omega) (fun q hq => o1 q (hM.1 ▸ hq))) hl
  unfold cOK
  rw [show (nG G (9 + t) m).2.1 G.1 = (9 + t, m) from va_up_self _ _ _]
  refine ⟨fun h => absurd h (by omega), fun _ => ?_⟩
  show H1[G.1]? = some (arrV (Z.2.2.1 (9 + t - 9)) m fun j => aV G V (9 + t - 9) G.1 j)
  rw [show 9 + t - 9 = t by omega, e1, ht]
  exact congrArg some (congrArg (arrV _ _) (funext fun j => (aV_fresh hM.2.2.2.1).symm))
theorem x_anewarray {C : String} {idx m t : Nat} (ht : zTy t = .object C) (h9 : t < 9) (hC : FieldType.object C ∈ WO) (h1 : Cond.classLink own idx C ∈ WA)
    (cx : Cx Z X own nm cc nL ret D mc ms) (d : decode cc pc = .ok (.anewarray idx, 3)) (hm : m < 65536) (hk : k + 1 ≤ mc) (hn : n + m ≤ ms) (kk : Wm Z X nL (nG G (9 + t) m) V (k + 1) (n + m) Q (pc + 3) lw (.ref G.1 :: st)) : Wm Z X nL G V k n Q pc lw (.int (nI m) :: st) := by
  intro H locs ls hM hS hl
  have hts := cx.2.2.2.2.1
  have c1 := cx.2.2.2.2.2.2.2.2.2.2.2.1
  have c2 := cx.2.2.2.2.2.2.2.2.2.2.2.2.1
  have hcl : (nI m).toNatClampNeg = m := nI_clamp (by omega)
  refine W.anew cx.1 cx.2.1 cx.2.2.2.1 (hts _ h1) (va_AO.use (cx.2.2.2.2.2.1.2.2.1 C hC)) rfl d rfl (nI_pos (by omega)) (by rw [hcl]; omega) (by omega) (by rw [hcl]; omega) fun cA kA comp f1 f2 f3 f4 => ?_
  rw [hcl]
  have hRA := (cx.tys h9).2
  rw [ht] at hRA
  obtain ⟨kB, compB, k1, k2, k3, k4⟩ := hRA
  have hcA : cA = Z.2.2.1 t := Option.some.inj (f1.symm.trans k4)
  subst hcA
  generalize hH1 : H.push ({ cls := Z.2.2.1 t, slots := Array.replicate m .null, vm := .none } : Cell) = H1
  have z1 : H1.size = G.1 + 1 := by rw [← hH1, Array.size_push, hM.1]
  have e1 : H1[G.1]? = some (arrV (Z.2.2.1 t) m (fun _ => .null)) := by rw [← hM.1, ← hH1, Array.getElem?_push_size, ← arrV_new]
  have o1 : ∀ q : Nat, q < G.1 → H1[q]? = H[q]? := fun q hq => by rw [← hH1, Array.getElem?_push, if_neg (by rw [hM.1]; omega)]
  rw [hM.1]
  refine kk H1 locs ls (mem_new hM z1 o1 ?_) (hS.grow (by rw [z1, hM.1]; omega) (fun q hq => o1 q (hM.1 ▸ hq))) hl
  unfold cOK
  rw [show (nG G (9 + t) m).2.1 G.1 = (9 + t, m) from va_up_self _ _ _]
  refine ⟨fun h => absurd h (by omega), fun _ => ?_⟩
  show H1[G.1]? = some (arrV (Z.2.2.1 (9 + t - 9)) m fun j => aV G V (9 + t - 9) G.1 j)
  rw [show 9 + t - 9 = t by omega, e1]
  exact congrArg some (congrArg (arrV _ _) (funext fun j => by rw [aV_fresh hM.2.2.2.1, ht]; rfl))
/-- Object's constructor -/
theorem x_objInit {a idx : Nat} (h1 : Cond.methodLink own idx objectInit ∈ WA) (h2 : Cond.instanceMethod objectInit ∈ WA) (h3 : Cond.code objectInit ⟨#[0xb1]⟩ 1 none ∈ WA)
    (cx : Cx Z X own nm cc nL ret D mc ms) (d : decode cc pc = .ok (.invokespecial idx, 3)) (hD : 1 ≤ D) (hst : (st.map fun v => v.category).sum ≤ 24) (kk : Wm Z X nL G V k n Q (pc + 3) lw st) : Wm Z X nL G V k n Q pc lw (.ref a :: st) := by
  intro H locs ls hM hS hl
  have hts := cx.2.2.2.2.1
  have c1 := cx.2.2.2.2.2.2.2.2.2.1
  have c2 := cx.2.2.2.2.2.2.2.2.2.2.1
  refine W.objInit cx.1 cx.2.1 cx.2.2.2.1 (hts _ h1) (hts _ h2) (hts _ h3) rfl (by show ls.size = _; rw [cx.2.2.1]; exact hl.1) rfl d (by omega) (by show 2 * 0 + _ + 12 ≤ _; omega) (kk H locs ls hM hS hl)
end XN
end
section
section XC
variable {Z : zP} {X : xP} {nL : Nat} {G : zG} {V : zV} {k n : Nat} {Q : State → Prop} {pc : Nat} {lw : List (Nat × Option Value)} {st : List Value} {own nm : String} {cc : ByteArray} {ret : Option FieldType} {D mc ms : Nat}
/-- a contract out of the walk of its body -/
theorem CT.of {l : Launch} {y : MethodName} {av : List Value} {Post : Option Value → zG → zV → Prop} (hy : plainName y.cls = true) (hn : (lg_sl av).length ≤ nL)
    (body : ∀ X : xP, X.2.1 = l → Cx Z X y.cls y.name cc nL ret D mc ms → Wm Z X nL G V 0 0 (rQ Z X mc ms Post) 0 ((lv_args 0 av).map (fun q => (q.1, some q.2))) []) : CT l Z y cc nL ret D mc ms av G V Post := by
  refine Met.ofW (cc := cc) (maxL := nL) (ret := ret) hy rfl ?_
  intro p e s m args below meth c s₁ B hml hv
  obtain ⟨rfl, hM, hA⟩ := hv
  have hl := lv_entry av (n := nL) hn
  rw [lg_entry_eq]
  generalize (lg_sl av ++ List.replicate (nL - (lg_sl av).length) Slot.unset).toArray = ls at hl ⊢
  have hts : ∀ w ∈ WA, w.before av.toArray s = true := fun w hw => atoms_spec (ws := .code y cc nL ret :: WA) B.pre w (List.mem_cons_of_mem _ hw)
  refine body (p, l, e, (headSpec (.code y cc nL ret :: WA) { frames := D, cells := mc, slots := ms, locals := 36 * D }).room, s, m, av.toArray, below, meth, c) rfl ⟨B.exec, B.bytes, hml, findClass_of_methodNamed B.named, hts, hA, B.notSynchronized, B.returns, (name_of_methodNamed B.named B.method).1, Nat.le_refl _, Nat.le_refl _, Nat.le_refl _, Nat.le_refl _, by show Z.1 ≤ s.heap.size; rw [hM.1]; exact hM.2.1⟩ s.heap [] ls hM va_S.rf ⟨hl.1, hl.2.1, fun i v hv => ?_⟩
  have key : ∀ (L : List (Nat × Value)), lk (L.map (fun q => (q.1, some q.2))) i = some v → (i, v) ∈ L := by
    intro L
    induction L with
    | nil => intro h; cases h
    | cons q t ih =>
      intro h
      rcases lk_cons h with ⟨h1, h2⟩ | ⟨h1, h2⟩
      · cases h2
        dsimp only at h1
        subst h1
        exact List.mem_cons_self
      · exact List.mem_cons_of_mem _ (ih h2)
  exact hl.2.2 (i, v) (key _ hv)
section ENDS
variable {Post : Option Value → zG → zV → Prop}
theorem MQ.widen {below : List Frame} {Qc : Array Value → State → Outcome → State → Prop} {a : Array Value} {s : State} {free : Addr → Prop} {p : Program} {l : Launch} {e : Env} {R : Room} {m : MethodId} {meth : Method} {c : Code} {H : Heap} {locs : List Loc} {g : JFrame} (h1 : k ≤ mc) (h2 : n ≤ ms) (h : W p l e R s m a below meth c H locs mc ms (MQ below Qc a s mc ms free) g) : W p l e R s m a below meth c H locs k n (MQ below Qc a s mc ms free) g := W.widen h1 h2 h
theorem x_ireturn {x : Int32} (cx : Cx Z X own nm cc nL (some .int) D mc ms) (d : decode cc pc = .ok (.ireturn, 1)) (h1 : k ≤ mc) (h2 : n ≤ ms) (hP : Post (some (.int x)) G V) : Wm Z X nL G V k n (rQ Z X mc ms Post) pc lw [.int x] :=
  fun H locs ls hM hS hl => MQ.widen h1 h2 (W.iret cx.1 cx.2.1 cx.2.2.2.2.2.2.2.1 (fun t ht _ => ⟨⟨_, G, V, rfl, hP, ht ▸ hM⟩, hS.F ht⟩) hS.2.2 d (hlocks := cx.2.2.2.2.2.2.1))
theorem x_zreturn {x : Int32} (cx : Cx Z X own nm cc nL (some .boolean) D mc ms) (d : decode cc pc = .ok (.ireturn, 1)) (h1 : k ≤ mc) (h2 : n ≤ ms) (hx : narrow .boolean (.int x) = .int x) (hP : Post (some (.int x)) G V) : Wm Z X nL G V k n (rQ Z X mc ms Post) pc lw [.int x] :=
  fun H locs ls hM hS hl => MQ.widen h1 h2 (W.zret cx.1 cx.2.1 cx.2.2.2.2.2.2.2.1 hx (fun t ht _ => ⟨⟨_, G, V, rfl, hP, ht ▸ hM⟩, hS.F ht⟩) hS.2.2 d (hlocks := cx.2.2.2.2.2.2.1))
theorem x_creturn {x : Int32} {ty : FieldType} (cx : Cx Z X own nm cc nL (some ty) D mc ms) (d : decode cc pc = .ok (.ireturn, 1)) (h1 : k ≤ mc) (h2 : n ≤ ms) (hx : narrow ty (.int x) = .int x) (hP : Post (some (.int x)) G V) : Wm Z X nL G V k n (rQ Z X mc ms Post) pc lw [.int x] :=
  fun H locs ls hM hS hl => MQ.widen h1 h2 (W.zret cx.1 cx.2.1 cx.2.2.2.2.2.2.2.1 hx (fun t ht _ => ⟨⟨_, G, V, rfl, hP, ht ▸ hM⟩, hS.F ht⟩) hS.2.2 d (hlocks := cx.2.2.2.2.2.2.1))
theorem x_lreturn {x : Int64} (cx : Cx Z X own nm cc nL (some .long) D mc ms) (d : decode cc pc = .ok (.lreturn, 1)) (h1 : k ≤ mc) (h2 : n ≤ ms) (hP : Post (some (.long x)) G V) : Wm Z X nL G V k n (rQ Z X mc ms Post) pc lw [.long x] :=
  fun H locs ls hM hS hl => MQ.widen h1 h2 (W.lret cx.1 cx.2.1 cx.2.2.2.2.2.2.2.1 (fun t ht _ => ⟨⟨_, G, V, rfl, hP, ht ▸ hM⟩, hS.F ht⟩) hS.2.2 d (hlocks := cx.2.2.2.2.2.2.1))
theorem x_return (cx : Cx Z X own nm cc nL none D mc ms) (d : decode cc pc = .ok (.return_, 1)) (h1 : k ≤ mc) (h2 : n ≤ ms) (hP : Post none G V) : Wm Z X nL G V k n (rQ Z X mc ms Post) pc lw [] :=
  fun H locs ls hM hS hl => MQ.widen h1 h2 (W.vret cx.1 cx.2.1 cx.2.2.2.2.2.2.2.1 (fun t ht _ => ⟨⟨_, G, V, rfl, hP, ht ▸ hM⟩, hS.F ht⟩) hS.2.2 d (hlocks := cx.2.2.2.2.2.2.1))
theorem x_areturn {o : Option Nat} {C : String} (cx : Cx Z X own nm cc nL (some (.object C)) D mc ms) (d : decode cc pc = .ok (.areturn, 1)) (h1 : k ≤ mc) (h2 : n ≤ ms) (hP : Post (some (va_rf o)) G V) : Wm Z X nL G V k n (rQ Z X mc ms Post) pc lw [va_rf o] :=
  fun H locs ls hM hS hl => MQ.widen h1 h2 (W.aret cx.1 cx.2.1 cx.2.2.2.2.2.2.2.1 (Or.inl ⟨C, rfl⟩) (by cases o with | none => exact Or.inl rfl | some a => exact Or.inr ⟨a, rfl⟩) (fun t ht _ => ⟨⟨_, G, V, rfl, hP, ht ▸ hM⟩, hS.F ht⟩) hS.2.2 d (hlocks := cx.2.2.2.2.2.2.1))
end ENDS
/-- behind a call -/
theorem x_run {Post : Option Value → zG → zV → Prop} {rest st0 : List Value} {c1 s1 : Nat} {a : Array Value}
    (hr : ∀ (H : Heap) (locs : List Loc) (ls : Array Slot), MemOK Z G V H → lwOK lw nL ls → va_Run X.1 X.2.1 X.2.2.1 X.2.2.2.1 X.2.2.2.2.1 X.2.2.2.2.2.1 X.2.2.2.2.2.2.1 X.2.2.2.2.2.2.2.1 X.2.2.2.2.2.2.2.2.1 X.2.2.2.2.2.2.2.2.2 H locs k n c1 s1 (F0 X.2.2.2.2.2.1 pc ls st0) rest (zQ Z Post a) (fun q => Z.1 ≤ q))
    (kk : ∀ (r : Option Value) (G' : zG) (V' : zV), Post r G' V' → Wm Z X nL G' V' (k + c1) (n + s1) Q (pc + 3) lw (r.toList ++ rest)) : Wm Z X nL G V k n Q pc lw st0 := by
  intro H locs ls hM hS hl T hT Xs
  obtain ⟨v, st₀, t, T', L, h0, X', hL, e1, e2, ⟨⟨r, G', V', hv, hp, hM'⟩, hz, hk⟩, stp⟩ := hr H locs ls hM hl T hT Xs
  cases hv
  rw [h0] at hz hk
  obtain ⟨t2, a1, b1⟩ := kk v G' V' hp T'.heap (locs ++ L) ls (e1 ▸ hM') ⟨Nat.le_trans hS.1 (by rw [e1]; exact hz), fun q h1 h2 => by rw [e1, hk q (Nat.lt_of_lt_of_le h1 hS.1) h2]; exact hS.2.1 q h1 h2, fun q hq => by
      rcases List.mem_append.mp hq with h | h
      · exact hS.2.2 q h
      · exact hL q h⟩ hl T' rfl X'
  exact ⟨t2, stp t2 a1, b1⟩
theorem CT.blind {Z : zP} {G : zG} {V : zV} {av : List Value} : FrameBlind (va_Pc av (fun U => MemOK Z G V U.heap ∧ Amb Z U)) := fun a U g mk q => ⟨q.1, q.2.1, Amb.same (s := U) (U := U.calling g mk a) rfl q.2.2⟩
/-- what a call needs of the tables: by the words -/
def cW (own : String) (idx : Nat) (y : MethodName) (cy : ByteArray) (ny : Nat) (ry : Option FieldType) (na : Nat) : Prop :=
  Cond.methodLink own idx y ∈ WA ∧ Cond.code y cy ny ry ∈ WA ∧ Cond.initialized y.cls ∈ WA ∧ (y.cls ≠ "java/lang/invoke/MethodHandle" ∧ y.cls ≠ "java/lang/invoke/VarHandle" ∧ (parseMethodDescriptor y.desc).map (fun d => d.parameters.length) = some na) ∧ ny ≤ 17
def cWN (own : String) (idx : Nat) (y : MethodName) (cy : ByteArray) (ny : Nat) (ry : Option FieldType) (na : Nat) (host : String) : Prop :=
  Cond.methodLinkNest own idx y host ∈ WN ∧ Cond.code y cy ny ry ∈ WA ∧ Cond.initialized y.cls ∈ WA ∧ (y.cls ≠ "java/lang/invoke/MethodHandle" ∧ y.cls ≠ "java/lang/invoke/VarHandle" ∧ (parseMethodDescriptor y.desc).map (fun d => d.parameters.length) = some na) ∧ ny ≤ 17
theorem WA_code {y : MethodName} {cy : ByteArray} {ny : Nat} {ry : Option FieldType} (h : Cond.code y cy ny ry ∈ WA) : GoodIn WA (.code y cy ny ry :: WA) := fun w hw => by
  rcases List.mem_cons.mp hw with rfl | hw
  · exact WA_good _ h
  · exact WA_good w hw
theorem Cx.room {dy ny : Nat} (cx : Cx Z X own nm cc nL ret D mc ms) (hd : dy + 1 ≤ D) (hn : ny ≤ 17) : dy + 1 ≤ X.2.2.2.1.frames ∧ 8 + (ny + 11) + 36 * dy ≤ X.2.2.2.1.locals := by
  have c1 := cx.2.2.2.2.2.2.2.2.2.1
  have c2 := cx.2.2.2.2.2.2.2.2.2.2.1
  omega
theorem Cx.callB {idx dy ny c1 s1 na : Nat} {y : MethodName} {cy : ByteArray} {ry : Option FieldType} (cx : Cx Z X own nm cc nL ret D mc ms) (w : cW own idx y cy ny ry na) (hd : dy + 1 ≤ D) :
    CallB X.2.2.2.1 X.2.2.2.2.1 X.2.2.2.2.2.2.1 own idx y cy ny ry (.code y cy ny ry :: WA) { frames := dy, cells := c1, slots := s1, locals := 36 * dy } c1 s1 na :=
  callB_of na cx.2.2.2.2.1 (WA_code w.2.1) rfl rfl rfl (cx.2.2.2.2.1 _ w.2.2.1) (cx.2.2.2.2.1 _ w.1) w.2.2.2.1 (cx.room hd w.2.2.2.2)
theorem Cx.callN {idx dy ny c1 s1 na : Nat} {y : MethodName} {cy : ByteArray} {ry : Option FieldType} {host : String} (cx : Cx Z X own nm cc nL ret D mc ms) (w : cWN own idx y cy ny ry na host) (hd : dy + 1 ≤ D) :
    va_CN X.2.2.2.1 X.2.2.2.2.1 X.2.2.2.2.2.2.1 own idx y host cy ny ry (.code y cy ny ry :: WA) { frames := dy, cells := c1, slots := s1, locals := 36 * dy } c1 s1 na :=
  va_cnB na cx.2.2.2.2.1 (WA_code w.2.1) rfl rfl rfl (cx.2.2.2.2.2.1.2.1 _ w.1) (cx.2.2.2.2.1 _ w.2.2.1) w.2.2.2.1 (cx.room hd w.2.2.2.2)
theorem Cx.pre {H : Heap} {av : List Value} (cx : Cx Z X own nm cc nL ret D mc ms) (hM : MemOK Z G V H) : ∀ U : State, U.heap = H → X.2.2.2.2.1.WarmedH U.vm → va_Pc av (fun U => MemOK Z G V U.heap ∧ Amb Z U) av.toArray U :=
  fun U hU hW => ⟨rfl, hU ▸ hM, cx.2.2.2.2.2.1.moved hW⟩
theorem Cx.fix (cx : Cx Z X own nm cc nL ret D mc ms) : CallFix X.1 X.2.2.2.2.2.1 X.2.2.2.2.2.2.2.2.2 cc nL X.2.2.2.2.1 X.2.2.2.2.2.2.1 WA own := ⟨cx.1, cx.2.1, cx.2.2.1, cx.2.2.2.1, cx.2.2.2.2.1⟩
theorem Cx.fit {c1 s1 : Nat} (cx : Cx Z X own nm cc nL ret D mc ms) (hk : k + c1 ≤ mc) (hn : n + s1 ≤ ms) : k + c1 ≤ X.2.2.2.1.cells ∧ n + s1 ≤ X.2.2.2.1.slots := by
  have h1 := cx.2.2.2.2.2.2.2.2.2.2.2.1
  have h2 := cx.2.2.2.2.2.2.2.2.2.2.2.2.1
  omega
theorem MemOK.recv {H : Heap} {b c N : Nat} {C : String} {T : u_T} {U : State} (hM : MemOK Z G V H) (hA : Amb Z U) (hb : isK Z G b c) (hc9 : c < 9) (hc : vwCl[c]? = some (C, T, N)) : ∃ cellB : Cell, H[b]? = some cellB ∧ cellB.vm.isStatics = false ∧ U.vm.findClass C = some cellB.cls := by
  obtain ⟨cell, g1, g2, g3, -⟩ := hM.obj hb hc9
  exact ⟨cell, g1, by rw [g3]; rfl, by rw [g2]; exact (hA.1.1 c _ hc).2.1⟩
section CALLS
variable {idx dy ny c1 s1 b c N : Nat} {y : MethodName} {cy : ByteArray} {ry : Option FieldType} {av rest : List Value} {Post : Option Value → zG → zV → Prop} {C host : String} {T : u_T}
/-- a call of an object's method -/
theorem x_callV (w : cW own idx y cy ny ry av.length) (w2 : Cond.instanceMethod y ∈ WA) (w3 : Cond.selects y.cls y y ∈ WA) (hc : vwCl[c]? = some (y.cls, T, N)) (hc9 : c < 9) (hb : isK Z G b c) (hC : CT X.2.1 Z y cy ny ry dy c1 s1 (.ref b :: av) G V Post) (cx : Cx Z X own nm cc nL ret D mc ms) (d : decode cc pc = .ok (.invokevirtual idx, 3)) (hd : dy + 1 ≤ D) (hk : k + c1 ≤ mc) (hn : n + s1 ≤ ms) (hr : (rest.map fun v => v.category).sum ≤ 8)
    (kk : ∀ (r : Option Value) (G' : zG) (V' : zV), Post r G' V' → Wm Z X nL G' V' (k + c1) (n + s1) Q (pc + 3) lw (r.toList ++ rest)) : Wm Z X nL G V k n Q pc lw (av.reverse ++ .ref b :: rest) :=
  x_run (fun H locs ls hM hl => va_runV cx.fix hC ⟨cx.callB w hd, cx.2.2.2.2.1 _ w2, cx.2.2.2.2.1 _ w3⟩ ⟨CT.blind, hM.recv cx.2.2.2.2.2.1 hb hc9 hc, cx.pre hM⟩ rfl rfl hl.1 rfl (lv_room hr) d (cx.fit hk hn)) kk
theorem x_callS (w : cW own idx y cy ny ry av.length) (w2 : Cond.static y ∈ WA) (hC : CT X.2.1 Z y cy ny ry dy c1 s1 av G V Post) (cx : Cx Z X own nm cc nL ret D mc ms) (d : decode cc pc = .ok (.invokestatic idx, 3)) (hd : dy + 1 ≤ D) (hk : k + c1 ≤ mc) (hn : n + s1 ≤ ms) (hr : (rest.map fun v => v.category).sum ≤ 8)
    (kk : ∀ (r : Option Value) (G' : zG) (V' : zV), Post r G' V' → Wm Z X nL G' V' (k + c1) (n + s1) Q (pc + 3) lw (r.toList ++ rest)) : Wm Z X nL G V k n Q pc lw (av.reverse ++ rest) :=
  x_run (fun H locs ls hM hl => va_runS cx.fix hC ⟨cx.callB w hd, cx.2.2.2.2.1 _ w2⟩ ⟨CT.blind, cx.pre hM⟩ rfl rfl hl.1 rfl (lv_room hr) d (cx.fit hk hn)) kk
theorem x_callI (w : cW own idx y cy ny none av.length) (w2 : Cond.instanceMethod y ∈ WA) (hy : y.name = "<init>") (hC : CT X.2.1 Z y cy ny none dy c1 s1 (.ref b :: av) G V Post) (cx : Cx Z X own nm cc nL ret D mc ms) (d : decode cc pc = .ok (.invokespecial idx, 3)) (hd : dy + 1 ≤ D) (hk : k + c1 ≤ mc) (hn : n + s1 ≤ ms) (hr : (rest.map fun v => v.category).sum ≤ 8)
    (kk : ∀ (r : Option Value) (G' : zG) (V' : zV), Post r G' V' → Wm Z X nL G' V' (k + c1) (n + s1) Q (pc + 3) lw (r.toList ++ rest)) : Wm Z X nL G V k n Q pc lw (av.reverse ++ .ref b :: rest) :=
  x_run (fun H locs ls hM hl => va_runI cx.fix hC ⟨cx.callB w hd, hy, cx.2.2.2.2.1 _ w2⟩ ⟨CT.blind, cx.pre hM⟩ rfl rfl hl.1 rfl (lv_room hr) d (cx.fit hk hn)) kk
theorem x_callVN (w : cWN own idx y cy ny ry av.length host) (w2 : Cond.instanceMethod y ∈ WA) (w3 : Cond.selects y.cls y y ∈ WA) (hc : vwCl[c]? = some (y.cls, T, N)) (hc9 : c < 9) (hb : isK Z G b c) (hC : CT X.2.1 Z y cy ny ry dy c1 s1 (.ref b :: av) G V Post) (cx : Cx Z X own nm cc nL ret D mc ms) (d : decode cc pc = .ok (.invokevirtual idx, 3)) (hd : dy + 1 ≤ D) (hk : k + c1 ≤ mc) (hn : n + s1 ≤ ms) (hr : (rest.map fun v => v.category).sum ≤ 8)
    (kk : ∀ (r : Option Value) (G' : zG) (V' : zV), Post r G' V' → Wm Z X nL G' V' (k + c1) (n + s1) Q (pc + 3) lw (r.toList ++ rest)) : Wm Z X nL G V k n Q pc lw (av.reverse ++ .ref b :: rest) :=
  x_run (fun H locs ls hM hl => va_runVN cx.fix hC ⟨cx.callN w hd, cx.2.2.2.2.1 _ w2, cx.2.2.2.2.1 _ w3⟩ ⟨CT.blind, hM.recv cx.2.2.2.2.2.1 hb hc9 hc, cx.pre hM⟩ rfl rfl hl.1 rfl (lv_room hr) d (cx.fit hk hn)) kk
theorem x_callSN (w : cWN own idx y cy ny ry av.length host) (w2 : Cond.static y ∈ WA) (hC : CT X.2.1 Z y cy ny ry dy c1 s1 av G V Post) (cx : Cx Z X own nm cc nL ret D mc ms) (d : decode cc pc = .ok (.invokestatic idx, 3)) (hd : dy + 1 ≤ D) (hk : k + c1 ≤ mc) (hn : n + s1 ≤ ms) (hr : (rest.map fun v => v.category).sum ≤ 8)
    (kk : ∀ (r : Option Value) (G' : zG) (V' : zV), Post r G' V' → Wm Z X nL G' V' (k + c1) (n + s1) Q (pc + 3) lw (r.toList ++ rest)) : Wm Z X nL G V k n Q pc lw (av.reverse ++ rest) :=
  x_run (fun H locs ls hM hl => va_runSN cx.fix hC ⟨cx.callN w hd, cx.2.2.2.2.1 _ w2, trivial⟩ ⟨CT.blind, cx.pre hM⟩ rfl rfl hl.1 rfl (lv_room hr) d (cx.fit hk hn)) kk
theorem x_callIN (w : cWN own idx y cy ny none av.length host) (w2 : Cond.instanceMethod y ∈ WA) (hy : y.name = "<init>") (hC : CT X.2.1 Z y cy ny none dy c1 s1 (.ref b :: av) G V Post) (cx : Cx Z X own nm cc nL ret D mc ms) (d : decode cc pc = .ok (.invokespecial idx, 3)) (hd : dy + 1 ≤ D) (hk : k + c1 ≤ mc) (hn : n + s1 ≤ ms) (hr : (rest.map fun v => v.category).sum ≤ 8)
    (kk : ∀ (r : Option Value) (G' : zG) (V' : zV), Post r G' V' → Wm Z X nL G' V' (k + c1) (n + s1) Q (pc + 3) lw (r.toList ++ rest)) : Wm Z X nL G V k n Q pc lw (av.reverse ++ .ref b :: rest) :=
  x_run (fun H locs ls hM hl => va_runIN cx.fix hC ⟨cx.callN w hd, hy, cx.2.2.2.2.1 _ w2⟩ ⟨CT.blind, cx.pre hM⟩ rfl rfl hl.1 rfl (lv_room hr) d (cx.fit hk hn)) kk
end CALLS
section AFTER
variable {G1 : zG} {V1 : zV} {rest : List Value}
theorem kI {x : Int32} (h : Wm Z X nL G1 V1 k n Q pc lw (.int x :: rest)) : ∀ (r : Option Value) (G' : zG) (V' : zV), pI x G1 V1 r G' V' → Wm Z X nL G' V' k n Q pc lw (r.toList ++ rest) := by
  rintro r G' V' ⟨rfl, rfl, rfl⟩
  exact h
theorem kJ {x : Int64} (h : Wm Z X nL G1 V1 k n Q pc lw (.long x :: rest)) : ∀ (r : Option Value) (G' : zG) (V' : zV), pJ x G1 V1 r G' V' → Wm Z X nL G' V' k n Q pc lw (r.toList ++ rest) := by
  rintro r G' V' ⟨rfl, rfl, rfl⟩
  exact h
theorem kV (h : Wm Z X nL G1 V1 k n Q pc lw rest) : ∀ (r : Option Value) (G' : zG) (V' : zV), pV G1 V1 r G' V' → Wm Z X nL G' V' k n Q pc lw (r.toList ++ rest) := by
  rintro r G' V' ⟨rfl, rfl, rfl⟩
  exact h
theorem kR {o : Option Nat} (h : Wm Z X nL G1 V1 k n Q pc lw (va_rf o :: rest)) : ∀ (r : Option Value) (G' : zG) (V' : zV), pR o G1 V1 r G' V' → Wm Z X nL G' V' k n Q pc lw (r.toList ++ rest) := by
  rintro r G' V' ⟨rfl, rfl, rfl⟩
  exact h
end AFTER
end XC
end
