-- ===== PART A: goes FIRST, ahead of the names: the tables' words, and 'selects' of the private methods out of them =====
/-- a private method of a class that the tables say can be made, by its rows of tables_1 -/
def lw_okq (q : MethodName × Nat) : Prop := (q.1.cls ≠ "java/lang/invoke/MethodHandle" ∧ q.1.cls ≠ "java/lang/invoke/VarHandle") ∧ Cond.instantiable q.1.cls q.2 ∈ tables_1 ∧ Cond.privateMethod q.1 ∈ tables_1 ∧ Cond.instanceMethod q.1 ∈ tables_1
theorem lw_p0 : lw_okq (⟨"SendTheBox", "refuse", "(I)I"⟩, 12) := ⟨⟨by decide +kernel, by decide +kernel⟩, List.mem_of_getElem? (i := 16) (by decide +kernel), List.mem_of_getElem? (i := 228) (by decide +kernel), List.mem_of_getElem? (i := 229) (by decide +kernel)⟩
theorem lw_p1 : lw_okq (⟨"SendTheBox", "planOf", "(I)LSendTheBox$Plan;"⟩, 12) := ⟨⟨by decide +kernel, by decide +kernel⟩, List.mem_of_getElem? (i := 16) (by decide +kernel), List.mem_of_getElem? (i := 240) (by decide +kernel), List.mem_of_getElem? (i := 241) (by decide +kernel)⟩
theorem lw_p2 : lw_okq (⟨"SendTheBox", "shelvesInUse", "()I"⟩, 12) := ⟨⟨by decide +kernel, by decide +kernel⟩, List.mem_of_getElem? (i := 16) (by decide +kernel), List.mem_of_getElem? (i := 313) (by decide +kernel), List.mem_of_getElem? (i := 314) (by decide +kernel)⟩
theorem lw_p3 : lw_okq (⟨"SendTheBox", "rowAt", "(I)LSendTheBox$Row;"⟩, 12) := ⟨⟨by decide +kernel, by decide +kernel⟩, List.mem_of_getElem? (i := 16) (by decide +kernel), List.mem_of_getElem? (i := 317) (by decide +kernel), List.mem_of_getElem? (i := 318) (by decide +kernel)⟩
theorem lw_p4 : lw_okq (⟨"SendTheBox", "ruleAt", "(I)LSendTheBox$Rule;"⟩, 12) := ⟨⟨by decide +kernel, by decide +kernel⟩, List.mem_of_getElem? (i := 16) (by decide +kernel), List.mem_of_getElem? (i := 321) (by decide +kernel), List.mem_of_getElem? (i := 322) (by decide +kernel)⟩
theorem lw_p5 : lw_okq (⟨"SendTheBox$Tape", "advance", "()V"⟩, 5) := ⟨⟨by decide +kernel, by decide +kernel⟩, List.mem_of_getElem? (i := 93) (by decide +kernel), List.mem_of_getElem? (i := 431) (by decide +kernel), List.mem_of_getElem? (i := 432) (by decide +kernel)⟩
theorem lw_p6 : lw_okq (⟨"SendTheBox$Tape", "byteAt", "(I)I"⟩, 5) := ⟨⟨by decide +kernel, by decide +kernel⟩, List.mem_of_getElem? (i := 93) (by decide +kernel), List.mem_of_getElem? (i := 435) (by decide +kernel), List.mem_of_getElem? (i := 436) (by decide +kernel)⟩
theorem lw_p7 : lw_okq (⟨"SendTheBox$Tape", "readStatement", "(LSendTheBox$House;)Z"⟩, 5) := ⟨⟨by decide +kernel, by decide +kernel⟩, List.mem_of_getElem? (i := 93) (by decide +kernel), List.mem_of_getElem? (i := 442) (by decide +kernel), List.mem_of_getElem? (i := 443) (by decide +kernel)⟩
theorem lw_p8 : lw_okq (⟨"SendTheBox$Tape", "isWord", "(Ljava/lang/String;)Z"⟩, 5) := ⟨⟨by decide +kernel, by decide +kernel⟩, List.mem_of_getElem? (i := 93) (by decide +kernel), List.mem_of_getElem? (i := 447) (by decide +kernel), List.mem_of_getElem? (i := 448) (by decide +kernel)⟩
theorem lw_p9 : lw_okq (⟨"SendTheBox$Tape", "readHouseNumber", "(LSendTheBox$House;I)Z"⟩, 5) := ⟨⟨by decide +kernel, by decide +kernel⟩, List.mem_of_getElem? (i := 93) (by decide +kernel), List.mem_of_getElem? (i := 453) (by decide +kernel), List.mem_of_getElem? (i := 454) (by decide +kernel)⟩
theorem lw_p10 : lw_okq (⟨"SendTheBox$Tape", "numberHere", "()I"⟩, 5) := ⟨⟨by decide +kernel, by decide +kernel⟩, List.mem_of_getElem? (i := 93) (by decide +kernel), List.mem_of_getElem? (i := 457) (by decide +kernel), List.mem_of_getElem? (i := 458) (by decide +kernel)⟩
theorem lw_p11 : lw_okq (⟨"SendTheBox$Tape", "readSort", "(LSendTheBox$House;)Z"⟩, 5) := ⟨⟨by decide +kernel, by decide +kernel⟩, List.mem_of_getElem? (i := 93) (by decide +kernel), List.mem_of_getElem? (i := 470) (by decide +kernel), List.mem_of_getElem? (i := 471) (by decide +kernel)⟩
theorem lw_p12 : lw_okq (⟨"SendTheBox$Tape", "readSortNumber", "(LSendTheBox$House;II)Z"⟩, 5) := ⟨⟨by decide +kernel, by decide +kernel⟩, List.mem_of_getElem? (i := 93) (by decide +kernel), List.mem_of_getElem? (i := 481) (by decide +kernel), List.mem_of_getElem? (i := 482) (by decide +kernel)⟩
theorem lw_p13 : lw_okq (⟨"SendTheBox", "putOnShelf", "(ILSendTheBox$Row;LSendTheBox$Rule;)V"⟩, 12) := ⟨⟨by decide +kernel, by decide +kernel⟩, List.mem_of_getElem? (i := 16) (by decide +kernel), List.mem_of_getElem? (i := 538) (by decide +kernel), List.mem_of_getElem? (i := 539) (by decide +kernel)⟩
theorem lw_p14 : lw_okq (⟨"SendTheBox", "lackOnShelf", "(I)I"⟩, 12) := ⟨⟨by decide +kernel, by decide +kernel⟩, List.mem_of_getElem? (i := 16) (by decide +kernel), List.mem_of_getElem? (i := 546) (by decide +kernel), List.mem_of_getElem? (i := 547) (by decide +kernel)⟩
theorem lw_p15 : lw_okq (⟨"SendTheBox$Row", "lowestBits", "(J)J"⟩, 2) := ⟨⟨by decide +kernel, by decide +kernel⟩, List.mem_of_getElem? (i := 524) (by decide +kernel), List.mem_of_getElem? (i := 559) (by decide +kernel), List.mem_of_getElem? (i := 560) (by decide +kernel)⟩
def lw_privs_1 : List (MethodName × Nat) := [(⟨"SendTheBox", "refuse", "(I)I"⟩, 12), (⟨"SendTheBox", "planOf", "(I)LSendTheBox$Plan;"⟩, 12), (⟨"SendTheBox", "shelvesInUse", "()I"⟩, 12), (⟨"SendTheBox", "rowAt", "(I)LSendTheBox$Row;"⟩, 12), (⟨"SendTheBox", "ruleAt", "(I)LSendTheBox$Rule;"⟩, 12), (⟨"SendTheBox$Tape", "advance", "()V"⟩, 5), (⟨"SendTheBox$Tape", "byteAt", "(I)I"⟩, 5), (⟨"SendTheBox$Tape", "readStatement", "(LSendTheBox$House;)Z"⟩, 5), (⟨"SendTheBox$Tape", "isWord", "(Ljava/lang/String;)Z"⟩, 5), (⟨"SendTheBox$Tape", "readHouseNumber", "(LSendTheBox$House;I)Z"⟩, 5), (⟨"SendTheBox$Tape", "numberHere", "()I"⟩, 5), (⟨"SendTheBox$Tape", "readSort", "(LSendTheBox$House;)Z"⟩, 5), (⟨"SendTheBox$Tape", "readSortNumber", "(LSendTheBox$House;II)Z"⟩, 5), (⟨"SendTheBox", "putOnShelf", "(ILSendTheBox$Row;LSendTheBox$Rule;)V"⟩, 12), (⟨"SendTheBox", "lackOnShelf", "(I)I"⟩, 12), (⟨"SendTheBox$Row", "lowestBits", "(J)J"⟩, 2)]
theorem lw_r1 : ∀ q ∈ lw_privs_1, lw_okq q := List.forall_mem_cons.mpr ⟨lw_p0, List.forall_mem_cons.mpr ⟨lw_p1, List.forall_mem_cons.mpr ⟨lw_p2, List.forall_mem_cons.mpr ⟨lw_p3, List.forall_mem_cons.mpr ⟨lw_p4, List.forall_mem_cons.mpr ⟨lw_p5, List.forall_mem_cons.mpr ⟨lw_p6, List.forall_mem_cons.mpr ⟨lw_p7, List.forall_mem_cons.mpr ⟨lw_p8, List.forall_mem_cons.mpr ⟨lw_p9, List.forall_mem_cons.mpr ⟨lw_p10, List.forall_mem_cons.mpr ⟨lw_p11, List.forall_mem_cons.mpr ⟨lw_p12, List.forall_mem_cons.mpr ⟨lw_p13, List.forall_mem_cons.mpr ⟨lw_p14, List.forall_mem_cons.mpr ⟨lw_p15, fun _ h => absurd h List.not_mem_nil⟩⟩⟩⟩⟩⟩⟩⟩⟩⟩⟩⟩⟩⟩⟩⟩
theorem lw_p16 : lw_okq (⟨"SendTheBox$Plan", "workOut", "(I)V"⟩, 15) := ⟨⟨by decide +kernel, by decide +kernel⟩, List.mem_of_getElem? (i := 122) (by decide +kernel), List.mem_of_getElem? (i := 641) (by decide +kernel), List.mem_of_getElem? (i := 642) (by decide +kernel)⟩
theorem lw_p17 : lw_okq (⟨"SendTheBox$Plan", "startFromEnd", "()V"⟩, 15) := ⟨⟨by decide +kernel, by decide +kernel⟩, List.mem_of_getElem? (i := 122) (by decide +kernel), List.mem_of_getElem? (i := 646) (by decide +kernel), List.mem_of_getElem? (i := 647) (by decide +kernel)⟩
theorem lw_p18 : lw_okq (⟨"SendTheBox$Plan", "takeCosts", "(I)V"⟩, 15) := ⟨⟨by decide +kernel, by decide +kernel⟩, List.mem_of_getElem? (i := 122) (by decide +kernel), List.mem_of_getElem? (i := 653) (by decide +kernel), List.mem_of_getElem? (i := 654) (by decide +kernel)⟩
theorem lw_p19 : lw_okq (⟨"SendTheBox$Plan", "goBackToLoad", "(I)V"⟩, 15) := ⟨⟨by decide +kernel, by decide +kernel⟩, List.mem_of_getElem? (i := 122) (by decide +kernel), List.mem_of_getElem? (i := 663) (by decide +kernel), List.mem_of_getElem? (i := 664) (by decide +kernel)⟩
theorem lw_p20 : lw_okq (⟨"SendTheBox$Plan", "keepWork", "([JI)V"⟩, 15) := ⟨⟨by decide +kernel, by decide +kernel⟩, List.mem_of_getElem? (i := 122) (by decide +kernel), List.mem_of_getElem? (i := 677) (by decide +kernel), List.mem_of_getElem? (i := 678) (by decide +kernel)⟩
theorem lw_p21 : lw_okq (⟨"SendTheBox$Plan", "boxCost", "(I)J"⟩, 15) := ⟨⟨by decide +kernel, by decide +kernel⟩, List.mem_of_getElem? (i := 122) (by decide +kernel), List.mem_of_getElem? (i := 681) (by decide +kernel), List.mem_of_getElem? (i := 682) (by decide +kernel)⟩
theorem lw_p22 : lw_okq (⟨"SendTheBox$Plan", "unitOf", "(I)J"⟩, 15) := ⟨⟨by decide +kernel, by decide +kernel⟩, List.mem_of_getElem? (i := 122) (by decide +kernel), List.mem_of_getElem? (i := 686) (by decide +kernel), List.mem_of_getElem? (i := 687) (by decide +kernel)⟩
theorem lw_p23 : lw_okq (⟨"SendTheBox$Plan", "goBackBest", "(IJ)V"⟩, 15) := ⟨⟨by decide +kernel, by decide +kernel⟩, List.mem_of_getElem? (i := 122) (by decide +kernel), List.mem_of_getElem? (i := 691) (by decide +kernel), List.mem_of_getElem? (i := 692) (by decide +kernel)⟩
theorem lw_p24 : lw_okq (⟨"SendTheBox$Plan", "pick", "(IJZ)I"⟩, 15) := ⟨⟨by decide +kernel, by decide +kernel⟩, List.mem_of_getElem? (i := 122) (by decide +kernel), List.mem_of_getElem? (i := 695) (by decide +kernel), List.mem_of_getElem? (i := 696) (by decide +kernel)⟩
theorem lw_p25 : lw_okq (⟨"SendTheBox$Plan", "mix", "(IIJ)V"⟩, 15) := ⟨⟨by decide +kernel, by decide +kernel⟩, List.mem_of_getElem? (i := 122) (by decide +kernel), List.mem_of_getElem? (i := 699) (by decide +kernel), List.mem_of_getElem? (i := 700) (by decide +kernel)⟩
theorem lw_p26 : lw_okq (⟨"SendTheBox", "passDays", "(LSendTheBox$Week;LSendTheBox$Plan;I)I"⟩, 12) := ⟨⟨by decide +kernel, by decide +kernel⟩, List.mem_of_getElem? (i := 16) (by decide +kernel), List.mem_of_getElem? (i := 703) (by decide +kernel), List.mem_of_getElem? (i := 704) (by decide +kernel)⟩
theorem lw_p27 : lw_okq (⟨"SendTheBox$Plan", "loadWorkedOut", "(II)I"⟩, 15) := ⟨⟨by decide +kernel, by decide +kernel⟩, List.mem_of_getElem? (i := 122) (by decide +kernel), List.mem_of_getElem? (i := 721) (by decide +kernel), List.mem_of_getElem? (i := 722) (by decide +kernel)⟩
theorem lw_p28 : lw_okq (⟨"SendTheBox$Rule", "isItsDay", "(I)Z"⟩, 4) := ⟨⟨by decide +kernel, by decide +kernel⟩, List.mem_of_getElem? (i := 570) (by decide +kernel), List.mem_of_getElem? (i := 733) (by decide +kernel), List.mem_of_getElem? (i := 734) (by decide +kernel)⟩
theorem lw_p29 : lw_okq (⟨"SendTheBox$Week", "send", "(I)I"⟩, 8) := ⟨⟨by decide +kernel, by decide +kernel⟩, List.mem_of_getElem? (i := 32) (by decide +kernel), List.mem_of_getElem? (i := 743) (by decide +kernel), List.mem_of_getElem? (i := 744) (by decide +kernel)⟩
theorem lw_p30 : lw_okq (⟨"SendTheBox$Week", "receive", "(I)I"⟩, 8) := ⟨⟨by decide +kernel, by decide +kernel⟩, List.mem_of_getElem? (i := 32) (by decide +kernel), List.mem_of_getElem? (i := 751) (by decide +kernel), List.mem_of_getElem? (i := 752) (by decide +kernel)⟩
theorem lw_p31 : lw_okq (⟨"SendTheBox", "ruleFor", "(LSendTheBox$Plan;I)LSendTheBox$Rule;"⟩, 12) := ⟨⟨by decide +kernel, by decide +kernel⟩, List.mem_of_getElem? (i := 16) (by decide +kernel), List.mem_of_getElem? (i := 760) (by decide +kernel), List.mem_of_getElem? (i := 761) (by decide +kernel)⟩
def lw_privs_2 : List (MethodName × Nat) := [(⟨"SendTheBox$Plan", "workOut", "(I)V"⟩, 15), (⟨"SendTheBox$Plan", "startFromEnd", "()V"⟩, 15), (⟨"SendTheBox$Plan", "takeCosts", "(I)V"⟩, 15), (⟨"SendTheBox$Plan", "goBackToLoad", "(I)V"⟩, 15), (⟨"SendTheBox$Plan", "keepWork", "([JI)V"⟩, 15), (⟨"SendTheBox$Plan", "boxCost", "(I)J"⟩, 15), (⟨"SendTheBox$Plan", "unitOf", "(I)J"⟩, 15), (⟨"SendTheBox$Plan", "goBackBest", "(IJ)V"⟩, 15), (⟨"SendTheBox$Plan", "pick", "(IJZ)I"⟩, 15), (⟨"SendTheBox$Plan", "mix", "(IIJ)V"⟩, 15), (⟨"SendTheBox", "passDays", "(LSendTheBox$Week;LSendTheBox$Plan;I)I"⟩, 12), (⟨"SendTheBox$Plan", "loadWorkedOut", "(II)I"⟩, 15), (⟨"SendTheBox$Rule", "isItsDay", "(I)Z"⟩, 4), (⟨"SendTheBox$Week", "send", "(I)I"⟩, 8), (⟨"SendTheBox$Week", "receive", "(I)I"⟩, 8), (⟨"SendTheBox", "ruleFor", "(LSendTheBox$Plan;I)LSendTheBox$Rule;"⟩, 12)]
theorem lw_r2 : ∀ q ∈ lw_privs_2, lw_okq q := List.forall_mem_cons.mpr ⟨lw_p16, List.forall_mem_cons.mpr ⟨lw_p17, List.forall_mem_cons.mpr ⟨lw_p18, List.forall_mem_cons.mpr ⟨lw_p19, List.forall_mem_cons.mpr ⟨lw_p20, List.forall_mem_cons.mpr ⟨lw_p21, List.forall_mem_cons.mpr ⟨lw_p22, List.forall_mem_cons.mpr ⟨lw_p23, List.forall_mem_cons.mpr ⟨lw_p24, List.forall_mem_cons.mpr ⟨lw_p25, List.forall_mem_cons.mpr ⟨lw_p26, List.forall_mem_cons.mpr ⟨lw_p27, List.forall_mem_cons.mpr ⟨lw_p28, List.forall_mem_cons.mpr ⟨lw_p29, List.forall_mem_cons.mpr ⟨lw_p30, List.forall_mem_cons.mpr ⟨lw_p31, fun _ h => absurd h List.not_mem_nil⟩⟩⟩⟩⟩⟩⟩⟩⟩⟩⟩⟩⟩⟩⟩⟩
theorem lw_p32 : lw_okq (⟨"SendTheBox$Plan", "goBackPromised", "(JZ)V"⟩, 15) := ⟨⟨by decide +kernel, by decide +kernel⟩, List.mem_of_getElem? (i := 122) (by decide +kernel), List.mem_of_getElem? (i := 859) (by decide +kernel), List.mem_of_getElem? (i := 860) (by decide +kernel)⟩
theorem lw_p33 : lw_okq (⟨"SendTheBox$Plan", "spread", "(LSendTheBox$Rule;I)V"⟩, 15) := ⟨⟨by decide +kernel, by decide +kernel⟩, List.mem_of_getElem? (i := 122) (by decide +kernel), List.mem_of_getElem? (i := 893) (by decide +kernel), List.mem_of_getElem? (i := 894) (by decide +kernel)⟩
theorem lw_p34 : lw_okq (⟨"SendTheBox$Plan", "startSpread", "()V"⟩, 15) := ⟨⟨by decide +kernel, by decide +kernel⟩, List.mem_of_getElem? (i := 122) (by decide +kernel), List.mem_of_getElem? (i := 897) (by decide +kernel), List.mem_of_getElem? (i := 898) (by decide +kernel)⟩
theorem lw_p35 : lw_okq (⟨"SendTheBox$Plan", "spreadLoad", "(LSendTheBox$Rule;I)J"⟩, 15) := ⟨⟨by decide +kernel, by decide +kernel⟩, List.mem_of_getElem? (i := 122) (by decide +kernel), List.mem_of_getElem? (i := 901) (by decide +kernel), List.mem_of_getElem? (i := 902) (by decide +kernel)⟩
theorem lw_p36 : lw_okq (⟨"SendTheBox$Plan", "spreadWhatComes", "()V"⟩, 15) := ⟨⟨by decide +kernel, by decide +kernel⟩, List.mem_of_getElem? (i := 122) (by decide +kernel), List.mem_of_getElem? (i := 905) (by decide +kernel), List.mem_of_getElem? (i := 906) (by decide +kernel)⟩
def lw_privs_3 : List (MethodName × Nat) := [(⟨"SendTheBox$Plan", "goBackPromised", "(JZ)V"⟩, 15), (⟨"SendTheBox$Plan", "spread", "(LSendTheBox$Rule;I)V"⟩, 15), (⟨"SendTheBox$Plan", "startSpread", "()V"⟩, 15), (⟨"SendTheBox$Plan", "spreadLoad", "(LSendTheBox$Rule;I)J"⟩, 15), (⟨"SendTheBox$Plan", "spreadWhatComes", "()V"⟩, 15)]
theorem lw_r3 : ∀ q ∈ lw_privs_3, lw_okq q := List.forall_mem_cons.mpr ⟨lw_p32, List.forall_mem_cons.mpr ⟨lw_p33, List.forall_mem_cons.mpr ⟨lw_p34, List.forall_mem_cons.mpr ⟨lw_p35, List.forall_mem_cons.mpr ⟨lw_p36, fun _ h => absurd h List.not_mem_nil⟩⟩⟩⟩⟩
def lw_privs : List (MethodName × Nat) := lw_privs_1 ++ (lw_privs_2 ++ (lw_privs_3))
def lw_tbl : List Cond := k2_sels lw_privs ++ tables_1
theorem lw_privs_ok : ∀ q ∈ lw_privs, lw_okq q := by
  show ∀ q ∈ lw_privs_1 ++ (lw_privs_2 ++ (lw_privs_3)), lw_okq q
  exact List.forall_mem_append.mpr ⟨lw_r1, List.forall_mem_append.mpr ⟨lw_r2, lw_r3⟩⟩
def RX0 : String := "SendTheBox$House"
def TX0 : u_T := fun k => match k with
  | _ => ("SendTheBox$House", "numbers", "[I", true)
def tyX0 : Nat → FieldType := fun k => match k with
  | _ => .array .int
abbrev wsX00 : List Cond := u_ws RX0 TX0 1
theorem nmX0 : ∀ a, a < 1 → ∀ b, b < 1 → a ≠ b → (TX0 a).2.1 ≠ (TX0 b).2.1 := by decide +kernel
theorem tyX0_ok : ∀ k, k < 1 → parseFieldDescriptor (TX0 k).2.2.1 = some (tyX0 k) := by decide +kernel
abbrev cX0_init : ByteArray := prog_2_method_1_code
def yX0_init : MethodName := ⟨RX0, "<init>", "()V"⟩
abbrev cX0_clear : ByteArray := prog_2_method_2_code
def yX0_clear : MethodName := ⟨RX0, "clear", "()V"⟩
abbrev cX0_become : ByteArray := prog_2_method_3_code
def yX0_become : MethodName := ⟨RX0, "become", "(LSendTheBox$House;)V"⟩
abbrev cX0_isLike : ByteArray := prog_2_method_4_code
def yX0_isLike : MethodName := ⟨RX0, "isLike", "(LSendTheBox$House;)Z"⟩
abbrev cX0_mayBe : ByteArray := prog_2_method_5_code
def yX0_mayBe : MethodName := ⟨RX0, "mayBe", "(II)Z"⟩
abbrev cX0_mayBeOfSort : ByteArray := prog_2_method_6_code
def yX0_mayBeOfSort : MethodName := ⟨RX0, "mayBeOfSort", "(II)Z"⟩
abbrev cX0_number : ByteArray := prog_2_method_7_code
def yX0_number : MethodName := ⟨RX0, "number", "(I)I"⟩
abbrev cX0_putNumber : ByteArray := prog_2_method_8_code
def yX0_putNumber : MethodName := ⟨RX0, "putNumber", "(II)V"⟩
abbrev cX0_placeOf : ByteArray := prog_2_method_9_code
def yX0_placeOf : MethodName := ⟨RX0, "placeOf", "(II)I"⟩
abbrev cX0_sortNumber : ByteArray := prog_2_method_10_code
def yX0_sortNumber : MethodName := ⟨RX0, "sortNumber", "(II)I"⟩
abbrev cX0_putSortNumber : ByteArray := prog_2_method_11_code
def yX0_putSortNumber : MethodName := ⟨RX0, "putSortNumber", "(III)V"⟩
abbrev cX0_days : ByteArray := prog_2_method_12_code
def yX0_days : MethodName := ⟨RX0, "days", "()I"⟩
abbrev cX0_sorts : ByteArray := prog_2_method_13_code
def yX0_sorts : MethodName := ⟨RX0, "sorts", "()I"⟩
abbrev cX0_hasSort : ByteArray := prog_2_method_14_code
def yX0_hasSort : MethodName := ⟨RX0, "hasSort", "(I)Z"⟩
abbrev cX0_states : ByteArray := prog_2_method_15_code
def yX0_states : MethodName := ⟨RX0, "states", "()I"⟩
abbrev cX0_sumOf : ByteArray := prog_2_method_16_code
def yX0_sumOf : MethodName := ⟨RX0, "sumOf", "(II)I"⟩
abbrev cX0_goesWith : ByteArray := prog_2_method_17_code
def yX0_goesWith : MethodName := ⟨RX0, "goesWith", "(LSendTheBox$House;)Z"⟩
abbrev cX0_addSortsOf : ByteArray := prog_2_method_18_code
def yX0_addSortsOf : MethodName := ⟨RX0, "addSortsOf", "(LSendTheBox$House;)V"⟩
abbrev cX0_fillFor : ByteArray := prog_2_method_19_code
def yX0_fillFor : MethodName := ⟨RX0, "fillFor", "(I)I"⟩
def RX1 : String := "SendTheBox$Plan"
def TX1 : u_T := fun k => match k with
  | 0 => ("SendTheBox$Plan", "house", "LSendTheBox$House;", true)
  | 1 => ("SendTheBox$Plan", "days", "I", false)
  | 2 => ("SendTheBox$Plan", "sorts", "I", false)
  | 3 => ("SendTheBox$Plan", "states", "I", false)
  | 4 => ("SendTheBox$Plan", "rooms", "[I", true)
  | 5 => ("SendTheBox$Plan", "holds", "[I", true)
  | 6 => ("SendTheBox$Plan", "leavings", "[I", true)
  | 7 => ("SendTheBox$Plan", "fills", "[I", true)
  | 8 => ("SendTheBox$Plan", "loads", "[I", true)
  | 9 => ("SendTheBox$Plan", "costs", "[J", true)
  | 10 => ("SendTheBox$Plan", "afters", "[J", true)
  | 11 => ("SendTheBox$Plan", "work", "[J", true)
  | 12 => ("SendTheBox$Plan", "chances", "[J", true)
  | 13 => ("SendTheBox$Plan", "daysKnown", "I", false)
  | _ => ("SendTheBox$Plan", "fullKnown", "I", false)
def tyX1 : Nat → FieldType := fun k => match k with
  | 0 => .object "SendTheBox$House"
  | 1 => .int
  | 2 => .int
  | 3 => .int
  | 4 => .array .int
  | 5 => .array .int
  | 6 => .array .int
  | 7 => .array .int
  | 8 => .array .int
  | 9 => .array .long
  | 10 => .array .long
  | 11 => .array .long
  | 12 => .array .long
  | 13 => .int
  | _ => .int
abbrev wsX10 : List Cond := u_ws RX1 TX1 15
theorem nmX1 : ∀ a, a < 15 → ∀ b, b < 15 → a ≠ b → (TX1 a).2.1 ≠ (TX1 b).2.1 := by decide +kernel
theorem tyX1_ok : ∀ k, k < 15 → parseFieldDescriptor (TX1 k).2.2.1 = some (tyX1 k) := by decide +kernel
abbrev cX1_init : ByteArray := prog_3_method_1_code
def yX1_init : MethodName := ⟨RX1, "<init>", "()V"⟩
abbrev cX1_turnTo : ByteArray := prog_3_method_2_code
def yX1_turnTo : MethodName := ⟨RX1, "turnTo", "(LSendTheBox$House;)V"⟩
abbrev cX1_hasState : ByteArray := prog_3_method_4_code
def yX1_hasState : MethodName := ⟨RX1, "hasState", "(I)Z"⟩
abbrev cX1_hasPlace : ByteArray := prog_3_method_5_code
def yX1_hasPlace : MethodName := ⟨RX1, "hasPlace", "(II)Z"⟩
abbrev cX1_hasDay : ByteArray := prog_3_method_6_code
def yX1_hasDay : MethodName := ⟨RX1, "hasDay", "(II)Z"⟩
abbrev cX1_roomOf : ByteArray := prog_3_method_7_code
def yX1_roomOf : MethodName := ⟨RX1, "roomOf", "(I)I"⟩
abbrev cX1_fillOf : ByteArray := prog_3_method_8_code
def yX1_fillOf : MethodName := ⟨RX1, "fillOf", "(I)I"⟩
abbrev cX1_placeOf : ByteArray := prog_3_method_9_code
def yX1_placeOf : MethodName := ⟨RX1, "placeOf", "(II)I"⟩
abbrev cX1_leastCost : ByteArray := prog_3_method_10_code
def yX1_leastCost : MethodName := ⟨RX1, "leastCost", "(II)J"⟩
abbrev cX1_bestLoad : ByteArray := prog_3_method_11_code
def yX1_bestLoad : MethodName := ⟨RX1, "bestLoad", "(II)I"⟩
abbrev cX1_loadWorkedOut : ByteArray := prog_3_method_12_code
def yX1_loadWorkedOut : MethodName := ⟨RX1, "loadWorkedOut", "(II)I"⟩
abbrev cX1_getReadyFor : ByteArray := prog_3_method_13_code
def yX1_getReadyFor : MethodName := ⟨RX1, "getReadyFor", "(LSendTheBox$Rule;)V"⟩
abbrev cX1_costWith : ByteArray := prog_3_method_14_code
def yX1_costWith : MethodName := ⟨RX1, "costWith", "(III)J"⟩
abbrev cX1_workOut : ByteArray := prog_3_method_15_code
def yX1_workOut : MethodName := ⟨RX1, "workOut", "(I)V"⟩
abbrev cX1_keepWork : ByteArray := prog_3_method_16_code
def yX1_keepWork : MethodName := ⟨RX1, "keepWork", "([JI)V"⟩
abbrev cX1_startFromEnd : ByteArray := prog_3_method_17_code
def yX1_startFromEnd : MethodName := ⟨RX1, "startFromEnd", "()V"⟩
abbrev cX1_takeCosts : ByteArray := prog_3_method_18_code
def yX1_takeCosts : MethodName := ⟨RX1, "takeCosts", "(I)V"⟩
abbrev cX1_unitOf : ByteArray := prog_3_method_19_code
def yX1_unitOf : MethodName := ⟨RX1, "unitOf", "(I)J"⟩
abbrev cX1_boxCost : ByteArray := prog_3_method_20_code
def yX1_boxCost : MethodName := ⟨RX1, "boxCost", "(I)J"⟩
abbrev cX1_goBackToLoad : ByteArray := prog_3_method_21_code
def yX1_goBackToLoad : MethodName := ⟨RX1, "goBackToLoad", "(I)V"⟩
abbrev cX1_goBackBest : ByteArray := prog_3_method_22_code
def yX1_goBackBest : MethodName := ⟨RX1, "goBackBest", "(IJ)V"⟩
abbrev cX1_goBackPromised : ByteArray := prog_3_method_23_code
def yX1_goBackPromised : MethodName := ⟨RX1, "goBackPromised", "(JZ)V"⟩
abbrev cX1_mix : ByteArray := prog_3_method_24_code
def yX1_mix : MethodName := ⟨RX1, "mix", "(IIJ)V"⟩
abbrev cX1_pick : ByteArray := prog_3_method_25_code
def yX1_pick : MethodName := ⟨RX1, "pick", "(IJZ)I"⟩
abbrev cX1_loadBy : ByteArray := prog_3_method_26_code
def yX1_loadBy : MethodName := ⟨RX1, "loadBy", "(LSendTheBox$Rule;II)I"⟩
abbrev cX1_costBy : ByteArray := prog_3_method_27_code
def yX1_costBy : MethodName := ⟨RX1, "costBy", "(LSendTheBox$Rule;II)J"⟩
abbrev cX1_costOfPromise : ByteArray := prog_3_method_28_code
def yX1_costOfPromise : MethodName := ⟨RX1, "costOfPromise", "(I)J"⟩
abbrev cX1_statesBy : ByteArray := prog_3_method_38_code
def yX1_statesBy : MethodName := ⟨RX1, "statesBy", "(LSendTheBox$Rule;I)I"⟩
abbrev cX1_spread : ByteArray := prog_3_method_39_code
def yX1_spread : MethodName := ⟨RX1, "spread", "(LSendTheBox$Rule;I)V"⟩
abbrev cX1_boxesBy : ByteArray := prog_3_method_41_code
def yX1_boxesBy : MethodName := ⟨RX1, "boxesBy", "(LSendTheBox$Rule;)J"⟩
abbrev cX1_startSpread : ByteArray := prog_3_method_42_code
def yX1_startSpread : MethodName := ⟨RX1, "startSpread", "()V"⟩
abbrev cX1_spreadLoad : ByteArray := prog_3_method_43_code
def yX1_spreadLoad : MethodName := ⟨RX1, "spreadLoad", "(LSendTheBox$Rule;I)J"⟩
abbrev cX1_spreadWhatComes : ByteArray := prog_3_method_44_code
def yX1_spreadWhatComes : MethodName := ⟨RX1, "spreadWhatComes", "()V"⟩
def RX2 : String := "SendTheBox$Row"
def TX2 : u_T := fun k => match k with
  | 0 => ("SendTheBox$Row", "sort", "I", true)
  | _ => ("SendTheBox$Row", "values", "[J", true)
def tyX2 : Nat → FieldType := fun k => match k with
  | 0 => .int
  | _ => .array .long
abbrev wsX20 : List Cond := u_ws RX2 TX2 2
theorem nmX2 : ∀ a, a < 2 → ∀ b, b < 2 → a ≠ b → (TX2 a).2.1 ≠ (TX2 b).2.1 := by decide +kernel
theorem tyX2_ok : ∀ k, k < 2 → parseFieldDescriptor (TX2 k).2.2.1 = some (tyX2 k) := by decide +kernel
abbrev cX2_init : ByteArray := prog_4_method_1_code
def yX2_init : MethodName := ⟨RX2, "<init>", "(II)V"⟩
abbrev cX2_hasPlace : ByteArray := prog_4_method_3_code
def yX2_hasPlace : MethodName := ⟨RX2, "hasPlace", "(I)Z"⟩
abbrev cX2_hasRange : ByteArray := prog_4_method_4_code
def yX2_hasRange : MethodName := ⟨RX2, "hasRange", "(II)Z"⟩
abbrev cX2_valueAt : ByteArray := prog_4_method_5_code
def yX2_valueAt : MethodName := ⟨RX2, "valueAt", "(I)J"⟩
abbrev cX2_put : ByteArray := prog_4_method_6_code
def yX2_put : MethodName := ⟨RX2, "put", "(IJ)V"⟩
abbrev cX2_lowestBits : ByteArray := prog_4_method_7_code
def yX2_lowestBits : MethodName := ⟨RX2, "lowestBits", "(J)J"⟩
abbrev cX2_take : ByteArray := prog_4_method_8_code
def yX2_take : MethodName := ⟨RX2, "take", "(LSendTheBox$Row;III)V"⟩
abbrev cX2_twin : ByteArray := prog_4_method_9_code
def yX2_twin : MethodName := ⟨RX2, "twin", "()LSendTheBox$Row;"⟩
def RX3 : String := "SendTheBox$Rule"
def TX3 : u_T := fun k => match k with
  | 0 => ("SendTheBox$Rule", "kind", "I", true)
  | 1 => ("SendTheBox$Rule", "room", "I", true)
  | 2 => ("SendTheBox$Rule", "days", "I", true)
  | _ => ("SendTheBox$Rule", "told", "LSendTheBox$Row;", true)
def tyX3 : Nat → FieldType := fun k => match k with
  | 0 => .int
  | 1 => .int
  | 2 => .int
  | _ => .object "SendTheBox$Row"
abbrev wsX30 : List Cond := u_ws RX3 TX3 4
theorem nmX3 : ∀ a, a < 4 → ∀ b, b < 4 → a ≠ b → (TX3 a).2.1 ≠ (TX3 b).2.1 := by decide +kernel
theorem tyX3_ok : ∀ k, k < 4 → parseFieldDescriptor (TX3 k).2.2.1 = some (tyX3 k) := by decide +kernel
abbrev cX3_init : ByteArray := prog_5_method_1_code
def yX3_init : MethodName := ⟨RX3, "<init>", "(IILSendTheBox$Row;)V"⟩
abbrev cX3_mayBe : ByteArray := prog_5_method_2_code
def yX3_mayBe : MethodName := ⟨RX3, "mayBe", "(II)Z"⟩
abbrev cX3_fills : ByteArray := prog_5_method_5_code
def yX3_fills : MethodName := ⟨RX3, "fills", "(III)Z"⟩
abbrev cX3_isItsDay : ByteArray := prog_5_method_6_code
def yX3_isItsDay : MethodName := ⟨RX3, "isItsDay", "(I)Z"⟩
def RX4 : String := "SendTheBox$Tape"
def TX4 : u_T := fun k => match k with
  | 0 => ("SendTheBox$Tape", "bytes", "[B", true)
  | 1 => ("SendTheBox$Tape", "size", "I", false)
  | 2 => ("SendTheBox$Tape", "kind", "I", false)
  | 3 => ("SendTheBox$Tape", "from", "I", false)
  | _ => ("SendTheBox$Tape", "to", "I", false)
def tyX4 : Nat → FieldType := fun k => match k with
  | 0 => .array .byte
  | 1 => .int
  | 2 => .int
  | 3 => .int
  | _ => .int
abbrev wsX40 : List Cond := u_ws RX4 TX4 5
theorem nmX4 : ∀ a, a < 5 → ∀ b, b < 5 → a ≠ b → (TX4 a).2.1 ≠ (TX4 b).2.1 := by decide +kernel
theorem tyX4_ok : ∀ k, k < 5 → parseFieldDescriptor (TX4 k).2.2.1 = some (tyX4 k) := by decide +kernel
abbrev cX4_init : ByteArray := prog_6_method_1_code
def yX4_init : MethodName := ⟨RX4, "<init>", "()V"⟩
abbrev cX4_hasPlaceFor : ByteArray := prog_6_method_2_code
def yX4_hasPlaceFor : MethodName := ⟨RX4, "hasPlaceFor", "(I)Z"⟩
abbrev cX4_append : ByteArray := prog_6_method_3_code
def yX4_append : MethodName := ⟨RX4, "append", "(II)I"⟩
abbrev cX4_clear : ByteArray := prog_6_method_4_code
def yX4_clear : MethodName := ⟨RX4, "clear", "()I"⟩
abbrev cX4_readInto : ByteArray := prog_6_method_5_code
def yX4_readInto : MethodName := ⟨RX4, "readInto", "(LSendTheBox$House;)I"⟩
abbrev cX4_readStatement : ByteArray := prog_6_method_6_code
def yX4_readStatement : MethodName := ⟨RX4, "readStatement", "(LSendTheBox$House;)Z"⟩
abbrev cX4_readHouseNumber : ByteArray := prog_6_method_7_code
def yX4_readHouseNumber : MethodName := ⟨RX4, "readHouseNumber", "(LSendTheBox$House;I)Z"⟩
abbrev cX4_readSort : ByteArray := prog_6_method_8_code
def yX4_readSort : MethodName := ⟨RX4, "readSort", "(LSendTheBox$House;)Z"⟩
abbrev cX4_readSortNumber : ByteArray := prog_6_method_9_code
def yX4_readSortNumber : MethodName := ⟨RX4, "readSortNumber", "(LSendTheBox$House;II)Z"⟩
abbrev cX4_sortWord : ByteArray := prog_6_method_10_code
def yX4_sortWord : MethodName := ⟨RX4, "sortWord", "(I)Ljava/lang/String;"⟩
abbrev cX4_byteAt : ByteArray := prog_6_method_11_code
def yX4_byteAt : MethodName := ⟨RX4, "byteAt", "(I)I"⟩
abbrev cX4_kindOf : ByteArray := prog_6_method_12_code
def yX4_kindOf : MethodName := ⟨RX4, "kindOf", "(I)I"⟩
abbrev cX4_advance : ByteArray := prog_6_method_13_code
def yX4_advance : MethodName := ⟨RX4, "advance", "()V"⟩
abbrev cX4_isWord : ByteArray := prog_6_method_14_code
def yX4_isWord : MethodName := ⟨RX4, "isWord", "(Ljava/lang/String;)Z"⟩
abbrev cX4_numberHere : ByteArray := prog_6_method_15_code
def yX4_numberHere : MethodName := ⟨RX4, "numberHere", "()I"⟩
def RX5 : String := "SendTheBox$Week"
def TX5 : u_T := fun k => match k with
  | 0 => ("SendTheBox$Week", "house", "LSendTheBox$House;", true)
  | 1 => ("SendTheBox$Week", "rule", "LSendTheBox$Rule;", false)
  | 2 => ("SendTheBox$Week", "left", "I", false)
  | 3 => ("SendTheBox$Week", "state", "I", false)
  | 4 => ("SendTheBox$Week", "coins", "I", false)
  | 5 => ("SendTheBox$Week", "boxesSent", "I", false)
  | 6 => ("SendTheBox$Week", "parcelsSent", "I", false)
  | _ => ("SendTheBox$Week", "parcelsRefused", "I", false)
def tyX5 : Nat → FieldType := fun k => match k with
  | 0 => .object "SendTheBox$House"
  | 1 => .object "SendTheBox$Rule"
  | 2 => .int
  | 3 => .int
  | 4 => .int
  | 5 => .int
  | 6 => .int
  | _ => .int
abbrev wsX50 : List Cond := u_ws RX5 TX5 8
theorem nmX5 : ∀ a, a < 8 → ∀ b, b < 8 → a ≠ b → (TX5 a).2.1 ≠ (TX5 b).2.1 := by decide +kernel
theorem tyX5_ok : ∀ k, k < 8 → parseFieldDescriptor (TX5 k).2.2.1 = some (tyX5 k) := by decide +kernel
abbrev cX5_init : ByteArray := prog_7_method_1_code
def yX5_init : MethodName := ⟨RX5, "<init>", "()V"⟩
abbrev cX5_start : ByteArray := prog_7_method_2_code
def yX5_start : MethodName := ⟨RX5, "start", "(LSendTheBox$House;LSendTheBox$Rule;)V"⟩
abbrev cX5_become : ByteArray := prog_7_method_3_code
def yX5_become : MethodName := ⟨RX5, "become", "(LSendTheBox$Week;)V"⟩
abbrev cX5_isUnderWay : ByteArray := prog_7_method_4_code
def yX5_isUnderWay : MethodName := ⟨RX5, "isUnderWay", "()Z"⟩
abbrev cX5_daysLeft : ByteArray := prog_7_method_5_code
def yX5_daysLeft : MethodName := ⟨RX5, "daysLeft", "()I"⟩
abbrev cX5_passDay : ByteArray := prog_7_method_7_code
def yX5_passDay : MethodName := ⟨RX5, "passDay", "(LSendTheBox$World;LSendTheBox$Plan;)I"⟩
abbrev cX5_send : ByteArray := prog_7_method_8_code
def yX5_send : MethodName := ⟨RX5, "send", "(I)I"⟩
abbrev cX5_receive : ByteArray := prog_7_method_9_code
def yX5_receive : MethodName := ⟨RX5, "receive", "(I)I"⟩
def RX6 : String := "SendTheBox$World"
def TX6 : u_T := fun k => match k with
  | 0 => ("SendTheBox$World", "houses", "[LSendTheBox$House;", true)
  | 1 => ("SendTheBox$World", "count", "I", false)
  | 2 => ("SendTheBox$World", "draws", "I", false)
  | _ => ("SendTheBox$World", "current", "LSendTheBox$Week;", true)
def tyX6 : Nat → FieldType := fun k => match k with
  | 0 => .array (.object "SendTheBox$House")
  | 1 => .int
  | 2 => .int
  | _ => .object "SendTheBox$Week"
abbrev wsX60 : List Cond := u_ws RX6 TX6 4
theorem nmX6 : ∀ a, a < 4 → ∀ b, b < 4 → a ≠ b → (TX6 a).2.1 ≠ (TX6 b).2.1 := by decide +kernel
theorem tyX6_ok : ∀ k, k < 4 → parseFieldDescriptor (TX6 k).2.2.1 = some (tyX6 k) := by decide +kernel
abbrev cX6_init : ByteArray := prog_8_method_1_code
def yX6_init : MethodName := ⟨RX6, "<init>", "()V"⟩
abbrev cX6_become : ByteArray := prog_8_method_2_code
def yX6_become : MethodName := ⟨RX6, "become", "(LSendTheBox$World;)V"⟩
abbrev cX6_houseAt : ByteArray := prog_8_method_3_code
def yX6_houseAt : MethodName := ⟨RX6, "houseAt", "(I)LSendTheBox$House;"⟩
abbrev cX6_isFull : ByteArray := prog_8_method_4_code
def yX6_isFull : MethodName := ⟨RX6, "isFull", "()Z"⟩
abbrev cX6_add : ByteArray := prog_8_method_5_code
def yX6_add : MethodName := ⟨RX6, "add", "(LSendTheBox$House;)I"⟩
abbrev cX6_draw : ByteArray := prog_8_method_7_code
def yX6_draw : MethodName := ⟨RX6, "draw", "(I)I"⟩
def RX7 : String := "SendTheBox"
def TX7 : u_T := fun k => match k with
  | 0 => ("SendTheBox", "world", "LSendTheBox$World;", true)
  | 1 => ("SendTheBox", "kept", "LSendTheBox$World;", true)
  | 2 => ("SendTheBox", "hasKept", "Z", false)
  | 3 => ("SendTheBox", "tape", "LSendTheBox$Tape;", true)
  | 4 => ("SendTheBox", "rows", "[LSendTheBox$Row;", true)
  | 5 => ("SendTheBox", "rules", "[LSendTheBox$Rule;", true)
  | 6 => ("SendTheBox", "refusals", "[I", true)
  | 7 => ("SendTheBox", "plans", "[LSendTheBox$Plan;", true)
  | 8 => ("SendTheBox", "weekPlan", "LSendTheBox$Plan;", true)
  | 9 => ("SendTheBox", "joinedPlan", "LSendTheBox$Plan;", true)
  | 10 => ("SendTheBox", "draft", "LSendTheBox$House;", true)
  | _ => ("SendTheBox", "spareWeek", "LSendTheBox$Week;", true)
def tyX7 : Nat → FieldType := fun k => match k with
  | 0 => .object "SendTheBox$World"
  | 1 => .object "SendTheBox$World"
  | 2 => .boolean
  | 3 => .object "SendTheBox$Tape"
  | 4 => .array (.object "SendTheBox$Row")
  | 5 => .array (.object "SendTheBox$Rule")
  | 6 => .array .int
  | 7 => .array (.object "SendTheBox$Plan")
  | 8 => .object "SendTheBox$Plan"
  | 9 => .object "SendTheBox$Plan"
  | 10 => .object "SendTheBox$House"
  | _ => .object "SendTheBox$Week"
abbrev wsX70 : List Cond := u_ws RX7 TX7 12
theorem nmX7 : ∀ a, a < 12 → ∀ b, b < 12 → a ≠ b → (TX7 a).2.1 ≠ (TX7 b).2.1 := by decide +kernel
theorem tyX7_ok : ∀ k, k < 12 → parseFieldDescriptor (TX7 k).2.2.1 = some (tyX7 k) := by decide +kernel
abbrev cX7_init : ByteArray := prog_1_method_1_code
def yX7_init : MethodName := ⟨RX7, "<init>", "()V"⟩
abbrev cX7_row : ByteArray := prog_1_method_2_code
def yX7_row : MethodName := ⟨RX7, "row", "(III)I"⟩
abbrev cX7_set : ByteArray := prog_1_method_3_code
def yX7_set : MethodName := ⟨RX7, "set", "(IIJ)I"⟩
abbrev cX7_copy : ByteArray := prog_1_method_4_code
def yX7_copy : MethodName := ⟨RX7, "copy", "(IIIII)I"⟩
abbrev cX7_holds : ByteArray := prog_1_method_6_code
def yX7_holds : MethodName := ⟨RX7, "holds", "(I)I"⟩
abbrev cX7_rule : ByteArray := prog_1_method_7_code
def yX7_rule : MethodName := ⟨RX7, "rule", "(III)I"⟩
abbrev cX7_feed : ByteArray := prog_1_method_9_code
def yX7_feed : MethodName := ⟨RX7, "feed", "(II)I"⟩
abbrev cX7_house : ByteArray := prog_1_method_11_code
def yX7_house : MethodName := ⟨RX7, "house", "()I"⟩
abbrev cX7_houseOf : ByteArray := prog_1_method_12_code
def yX7_houseOf : MethodName := ⟨RX7, "houseOf", "(II)I"⟩
abbrev cX7_sortOf : ByteArray := prog_1_method_13_code
def yX7_sortOf : MethodName := ⟨RX7, "sortOf", "(III)I"⟩
abbrev cX7_alter : ByteArray := prog_1_method_14_code
def yX7_alter : MethodName := ⟨RX7, "alter", "(III)I"⟩
abbrev cX7_change : ByteArray := prog_1_method_15_code
def yX7_change : MethodName := ⟨RX7, "change", "(IIII)I"⟩
abbrev cX7_of : ByteArray := prog_1_method_16_code
def yX7_of : MethodName := ⟨RX7, "of", "(II)I"⟩
abbrev cX7_scale : ByteArray := prog_1_method_18_code
def yX7_scale : MethodName := ⟨RX7, "scale", "(II)J"⟩
abbrev cX7_cost : ByteArray := prog_1_method_19_code
def yX7_cost : MethodName := ⟨RX7, "cost", "(III)J"⟩
abbrev cX7_best : ByteArray := prog_1_method_20_code
def yX7_best : MethodName := ⟨RX7, "best", "(III)I"⟩
abbrev cX7_fill : ByteArray := prog_1_method_21_code
def yX7_fill : MethodName := ⟨RX7, "fill", "(II)I"⟩
abbrev cX7_waits : ByteArray := prog_1_method_22_code
def yX7_waits : MethodName := ⟨RX7, "waits", "(III)J"⟩
abbrev cX7_once : ByteArray := prog_1_method_23_code
def yX7_once : MethodName := ⟨RX7, "once", "(III)J"⟩
abbrev cX7_promise : ByteArray := prog_1_method_25_code
def yX7_promise : MethodName := ⟨RX7, "promise", "(II)J"⟩
abbrev cX7_load : ByteArray := prog_1_method_29_code
def yX7_load : MethodName := ⟨RX7, "load", "(IIII)I"⟩
abbrev cX7_mean : ByteArray := prog_1_method_30_code
def yX7_mean : MethodName := ⟨RX7, "mean", "(IIII)J"⟩
abbrev cX7_lose : ByteArray := prog_1_method_31_code
def yX7_lose : MethodName := ⟨RX7, "lose", "(IIII)J"⟩
abbrev cX7_boy : ByteArray := prog_1_method_32_code
def yX7_boy : MethodName := ⟨RX7, "boy", "(I)I"⟩
abbrev cX7_reach : ByteArray := prog_1_method_34_code
def yX7_reach : MethodName := ⟨RX7, "reach", "(III)I"⟩
abbrev cX7_boxes : ByteArray := prog_1_method_36_code
def yX7_boxes : MethodName := ⟨RX7, "boxes", "(II)J"⟩
abbrev cX7_join : ByteArray := prog_1_method_39_code
def yX7_join : MethodName := ⟨RX7, "join", "(II)I"⟩
abbrev cX7_begin : ByteArray := prog_1_method_42_code
def yX7_begin : MethodName := ⟨RX7, "begin", "(II)I"⟩
abbrev cX7_step : ByteArray := prog_1_method_43_code
def yX7_step : MethodName := ⟨RX7, "step", "(I)I"⟩
abbrev cX7_weeks : ByteArray := prog_1_method_45_code
def yX7_weeks : MethodName := ⟨RX7, "weeks", "(III)I"⟩
abbrev cX7_passDays : ByteArray := prog_1_method_46_code
def yX7_passDays : MethodName := ⟨RX7, "passDays", "(LSendTheBox$Week;LSendTheBox$Plan;I)I"⟩
abbrev cX7_image : ByteArray := prog_1_method_47_code
def yX7_image : MethodName := ⟨RX7, "image", "()I"⟩
abbrev cX7_back : ByteArray := prog_1_method_48_code
def yX7_back : MethodName := ⟨RX7, "back", "()I"⟩
abbrev cX7_status : ByteArray := prog_1_method_49_code
def yX7_status : MethodName := ⟨RX7, "status", "(I)I"⟩
abbrev cX7_refuse : ByteArray := prog_1_method_50_code
def yX7_refuse : MethodName := ⟨RX7, "refuse", "(I)I"⟩
abbrev cX7_isShelf : ByteArray := prog_1_method_51_code
def yX7_isShelf : MethodName := ⟨RX7, "isShelf", "(I)Z"⟩
abbrev cX7_rowAt : ByteArray := prog_1_method_52_code
def yX7_rowAt : MethodName := ⟨RX7, "rowAt", "(I)LSendTheBox$Row;"⟩
abbrev cX7_ruleAt : ByteArray := prog_1_method_53_code
def yX7_ruleAt : MethodName := ⟨RX7, "ruleAt", "(I)LSendTheBox$Rule;"⟩
abbrev cX7_ruleFor : ByteArray := prog_1_method_54_code
def yX7_ruleFor : MethodName := ⟨RX7, "ruleFor", "(LSendTheBox$Plan;I)LSendTheBox$Rule;"⟩
abbrev cX7_lackOnShelf : ByteArray := prog_1_method_55_code
def yX7_lackOnShelf : MethodName := ⟨RX7, "lackOnShelf", "(I)I"⟩
abbrev cX7_putOnShelf : ByteArray := prog_1_method_56_code
def yX7_putOnShelf : MethodName := ⟨RX7, "putOnShelf", "(ILSendTheBox$Row;LSendTheBox$Rule;)V"⟩
abbrev cX7_shelvesInUse : ByteArray := prog_1_method_57_code
def yX7_shelvesInUse : MethodName := ⟨RX7, "shelvesInUse", "()I"⟩
abbrev cX7_planOf : ByteArray := prog_1_method_58_code
def yX7_planOf : MethodName := ⟨RX7, "planOf", "(I)LSendTheBox$Plan;"⟩
abbrev cX7_standing : ByteArray := prog_1_method_59_code
def yX7_standing : MethodName := ⟨RX7, "standing", "(II)I"⟩
abbrev cX7_oneOf : ByteArray := prog_1_method_60_code
def yX7_oneOf : MethodName := ⟨RX7, "oneOf", "(I)I"⟩
abbrev cX7_timesOf : ByteArray := prog_1_method_61_code
def yX7_timesOf : MethodName := ⟨RX7, "timesOf", "(I)J"⟩
abbrev cX7_scaleOf : ByteArray := prog_1_method_62_code
def yX7_scaleOf : MethodName := ⟨RX7, "scaleOf", "(II)J"⟩
abbrev cX7_at : ByteArray := prog_1_method_63_code
def yX7_at : MethodName := ⟨RX7, "at", "([II)I"⟩
abbrev cX7_at_ : ByteArray := prog_1_method_64_code
def yX7_at_ : MethodName := ⟨RX7, "at", "([JI)J"⟩
abbrev cX7_put : ByteArray := prog_1_method_65_code
def yX7_put : MethodName := ⟨RX7, "put", "([III)V"⟩
abbrev cX7_put_ : ByteArray := prog_1_method_66_code
def yX7_put_ : MethodName := ⟨RX7, "put", "([JIJ)V"⟩
def RX8 : String := "SendTheBoxModel"
def TX8 : u_T := fun k => match k with
  | _ => ("", "", "", false)
def tyX8 : Nat → FieldType := fun k => match k with
  | _ => .int
abbrev wsX80 : List Cond := u_ws RX8 TX8 0
theorem nmX8 : ∀ a, a < 0 → ∀ b, b < 0 → a ≠ b → (TX8 a).2.1 ≠ (TX8 b).2.1 := by decide +kernel
theorem tyX8_ok : ∀ k, k < 0 → parseFieldDescriptor (TX8 k).2.2.1 = some (tyX8 k) := by decide +kernel
def RJ9 : String := "java/lang/Math"
abbrev cJ9_min_7cf53 : ByteArray := prog_11_method_69_code
def yJ9_min_7cf53 : MethodName := ⟨RJ9, "min", "(II)I"⟩
def RJ0 : String := "java/lang/String"
abbrev cJ0_length_8abf5 : ByteArray := prog_12_method_54_code
def yJ0_length_8abf5 : MethodName := ⟨RJ0, "length", "()I"⟩
abbrev cJ0_charAt_5068e : ByteArray := prog_12_method_56_code
def yJ0_charAt_5068e : MethodName := ⟨RJ0, "charAt", "(I)C"⟩
abbrev cJ0_coder_7d493 : ByteArray := prog_12_method_152_code
def yJ0_coder_7d493 : MethodName := ⟨RJ0, "coder", "()B"⟩
abbrev cJ0_isLatin1_aae02 : ByteArray := prog_12_method_154_code
def yJ0_isLatin1_aae02 : MethodName := ⟨RJ0, "isLatin1", "()Z"⟩
abbrev cJ0_checkIndex_df160 : ByteArray := prog_12_method_155_code
def yJ0_checkIndex_df160 : MethodName := ⟨RJ0, "checkIndex", "(II)V"⟩
def RJ1 : String := "java/lang/StringLatin1"
abbrev cJ1_charAt_3b067 : ByteArray := prog_13_method_2_code
def yJ1_charAt_3b067 : MethodName := ⟨RJ1, "charAt", "([BI)C"⟩
def RJ2 : String := "java/lang/StringUTF16"
abbrev cJ2_getChar_3b067 : ByteArray := prog_14_method_5_code
def yJ2_getChar_3b067 : MethodName := ⟨RJ2, "getChar", "([BI)C"⟩
abbrev cJ2_length_9d52b : ByteArray := prog_14_method_6_code
def yJ2_length_9d52b : MethodName := ⟨RJ2, "length", "([B)I"⟩
abbrev cJ2_charAt_3b067 : ByteArray := prog_14_method_83_code
def yJ2_charAt_3b067 : MethodName := ⟨RJ2, "charAt", "([BI)C"⟩
abbrev cJ2_checkIndex_2214a : ByteArray := prog_14_method_91_code
def yJ2_checkIndex_2214a : MethodName := ⟨RJ2, "checkIndex", "(I[B)V"⟩
def RJ10 : String := "java/lang/System"
def RJ3 : String := "jdk/internal/util/Preconditions"
abbrev cJ3_checkIndex_8e157 : ByteArray := prog_16_method_11_code
def yJ3_checkIndex_8e157 : MethodName := ⟨RJ3, "checkIndex", "(IILjava/util/function/BiFunction;)I"⟩
def RL : String := "SendTheBoxLaw"
abbrev cL_tell : ByteArray := method_2_code
def yL_tell : MethodName := ⟨RL, "tell", "(LSendTheBox;Ljava/lang/String;)V"⟩
abbrev cL_number : ByteArray := method_3_code
def yL_number : MethodName := ⟨RL, "number", "(LSendTheBox;I)V"⟩
abbrev cL_cell : ByteArray := method_4_code
def yL_cell : MethodName := ⟨RL, "cell", "([II)I"⟩
abbrev cL_build : ByteArray := method_5_code
def yL_build : MethodName := ⟨RL, "build", "(LSendTheBox;[IIII)I"⟩
abbrev cL_sum : ByteArray := method_6_code
def yL_sum : MethodName := ⟨RL, "sum", "(LSendTheBox;III)I"⟩
abbrev cL_states : ByteArray := method_7_code
def yL_states : MethodName := ⟨RL, "states", "(LSendTheBox;I)I"⟩
abbrev cL_act : ByteArray := method_8_code
def yL_act : MethodName := ⟨RL, "act", "(LSendTheBox;[II)V"⟩
abbrev cL_holds : ByteArray := method_9_code
def yL_holds : MethodName := ⟨RL, "holds", "(LSendTheBox;II)Z"⟩
abbrev cL_refusals : ByteArray := method_10_code
def yL_refusals : MethodName := ⟨RL, "refusals", "(LSendTheBox;)I"⟩
abbrev cL_law : ByteArray := code
def yL_law : MethodName := ⟨RL, "law", "([I)Z"⟩
abbrev vwCl : List vw_C := [(RX0, TX0, 1), (RX1, TX1, 15), (RX2, TX2, 2), (RX3, TX3, 4), (RX4, TX4, 5), (RX5, TX5, 8), (RX6, TX6, 4), (RX7, TX7, 12)]
