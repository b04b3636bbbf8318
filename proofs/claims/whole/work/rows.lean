section
-- ===== PART A: goes FIRST, ahead of the names: the tables' words, and 'selects' of the private methods out of them =====
/-- a private method of a class that the tables say can be made, by its rows of tables_1 -/
def lw_okq (q : MethodName × Nat) : Prop := (q.1.cls ≠ "java/lang/invoke/MethodHandle" ∧ q.1.cls ≠ "java/lang/invoke/VarHandle") ∧ Cond.instantiable q.1.cls q.2 ∈ tables_1 ∧ Cond.privateMethod q.1 ∈ tables_1 ∧ Cond.instanceMethod q.1 ∈ tables_1
theorem lw_p0 : lw_okq (⟨"SortsCase", "settingGoes", "()Z"⟩, 5) := ⟨⟨by decide +kernel, by decide +kernel⟩, List.mem_of_getElem? (i := 16) (by decide +kernel), List.mem_of_getElem? (i := 142) (by decide +kernel), List.mem_of_getElem? (i := 143) (by decide +kernel)⟩
theorem lw_p1 : lw_okq (⟨"SortsCase", "trialGoes", "()Z"⟩, 5) := ⟨⟨by decide +kernel, by decide +kernel⟩, List.mem_of_getElem? (i := 16) (by decide +kernel), List.mem_of_getElem? (i := 177) (by decide +kernel), List.mem_of_getElem? (i := 178) (by decide +kernel)⟩
theorem lw_p2 : lw_okq (⟨"SortsCase", "aboutLetter", "(II)I"⟩, 5) := ⟨⟨by decide +kernel, by decide +kernel⟩, List.mem_of_getElem? (i := 16) (by decide +kernel), List.mem_of_getElem? (i := 341) (by decide +kernel), List.mem_of_getElem? (i := 342) (by decide +kernel)⟩
theorem lw_p3 : lw_okq (⟨"SortsCase", "lackingOf", "(I)I"⟩, 5) := ⟨⟨by decide +kernel, by decide +kernel⟩, List.mem_of_getElem? (i := 16) (by decide +kernel), List.mem_of_getElem? (i := 361) (by decide +kernel), List.mem_of_getElem? (i := 362) (by decide +kernel)⟩
theorem lw_p4 : lw_okq (⟨"SortsCase", "aboutForme", "(II)I"⟩, 5) := ⟨⟨by decide +kernel, by decide +kernel⟩, List.mem_of_getElem? (i := 16) (by decide +kernel), List.mem_of_getElem? (i := 366) (by decide +kernel), List.mem_of_getElem? (i := 367) (by decide +kernel)⟩
theorem lw_p5 : lw_okq (⟨"java/lang/Throwable", "fillInStackTrace", "(I)Ljava/lang/Throwable;"⟩, 6) := ⟨⟨by decide +kernel, by decide +kernel⟩, List.mem_of_getElem? (i := 473) (by decide +kernel), List.mem_of_getElem? (i := 471) (by decide +kernel), List.mem_of_getElem? (i := 472) (by decide +kernel)⟩
theorem lw_p6 : lw_okq (⟨"SortsCase", "requireRoomFor", "(I)V"⟩, 5) := ⟨⟨by decide +kernel, by decide +kernel⟩, List.mem_of_getElem? (i := 16) (by decide +kernel), List.mem_of_getElem? (i := 522) (by decide +kernel), List.mem_of_getElem? (i := 523) (by decide +kernel)⟩
theorem lw_p7 : lw_okq (⟨"SortsCase$History", "dropOldest", "()V"⟩, 2) := ⟨⟨by decide +kernel, by decide +kernel⟩, List.mem_of_getElem? (i := 104) (by decide +kernel), List.mem_of_getElem? (i := 547) (by decide +kernel), List.mem_of_getElem? (i := 548) (by decide +kernel)⟩
theorem lw_p8 : lw_okq (⟨"SortsCaseModel", "throwing", "(I)I"⟩, 10) := ⟨⟨by decide +kernel, by decide +kernel⟩, List.mem_of_getElem? (i := 732) (by decide +kernel), List.mem_of_getElem? (i := 784) (by decide +kernel), List.mem_of_getElem? (i := 785) (by decide +kernel)⟩
theorem lw_p9 : lw_okq (⟨"SortsCaseModel", "sorts", "()I"⟩, 10) := ⟨⟨by decide +kernel, by decide +kernel⟩, List.mem_of_getElem? (i := 732) (by decide +kernel), List.mem_of_getElem? (i := 789) (by decide +kernel), List.mem_of_getElem? (i := 790) (by decide +kernel)⟩
theorem lw_p10 : lw_okq (⟨"SortsCaseModel", "inBoxes", "()I"⟩, 10) := ⟨⟨by decide +kernel, by decide +kernel⟩, List.mem_of_getElem? (i := 732) (by decide +kernel), List.mem_of_getElem? (i := 793) (by decide +kernel), List.mem_of_getElem? (i := 794) (by decide +kernel)⟩
theorem lw_p11 : lw_okq (⟨"SortsCaseModel", "countAll", "(I)I"⟩, 10) := ⟨⟨by decide +kernel, by decide +kernel⟩, List.mem_of_getElem? (i := 732) (by decide +kernel), List.mem_of_getElem? (i := 797) (by decide +kernel), List.mem_of_getElem? (i := 798) (by decide +kernel)⟩
theorem lw_p12 : lw_okq (⟨"SortsCaseModel", "countOf", "(II)I"⟩, 10) := ⟨⟨by decide +kernel, by decide +kernel⟩, List.mem_of_getElem? (i := 732) (by decide +kernel), List.mem_of_getElem? (i := 801) (by decide +kernel), List.mem_of_getElem? (i := 802) (by decide +kernel)⟩
theorem lw_p13 : lw_okq (⟨"SortsCaseModel", "places0", "(II)I"⟩, 10) := ⟨⟨by decide +kernel, by decide +kernel⟩, List.mem_of_getElem? (i := 732) (by decide +kernel), List.mem_of_getElem? (i := 805) (by decide +kernel), List.mem_of_getElem? (i := 806) (by decide +kernel)⟩
theorem lw_p14 : lw_okq (⟨"SortsCaseModel", "isWrong", "(III)Z"⟩, 10) := ⟨⟨by decide +kernel, by decide +kernel⟩, List.mem_of_getElem? (i := 732) (by decide +kernel), List.mem_of_getElem? (i := 812) (by decide +kernel), List.mem_of_getElem? (i := 813) (by decide +kernel)⟩
theorem lw_p15 : lw_okq (⟨"SortsCaseModel", "of", "(IIII)I"⟩, 10) := ⟨⟨by decide +kernel, by decide +kernel⟩, List.mem_of_getElem? (i := 732) (by decide +kernel), List.mem_of_getElem? (i := 816) (by decide +kernel), List.mem_of_getElem? (i := 817) (by decide +kernel)⟩
def lw_privs_1 : List (MethodName × Nat) := [(⟨"SortsCase", "settingGoes", "()Z"⟩, 5), (⟨"SortsCase", "trialGoes", "()Z"⟩, 5), (⟨"SortsCase", "aboutLetter", "(II)I"⟩, 5), (⟨"SortsCase", "lackingOf", "(I)I"⟩, 5), (⟨"SortsCase", "aboutForme", "(II)I"⟩, 5), (⟨"java/lang/Throwable", "fillInStackTrace", "(I)Ljava/lang/Throwable;"⟩, 6), (⟨"SortsCase", "requireRoomFor", "(I)V"⟩, 5), (⟨"SortsCase$History", "dropOldest", "()V"⟩, 2), (⟨"SortsCaseModel", "throwing", "(I)I"⟩, 10), (⟨"SortsCaseModel", "sorts", "()I"⟩, 10), (⟨"SortsCaseModel", "inBoxes", "()I"⟩, 10), (⟨"SortsCaseModel", "countAll", "(I)I"⟩, 10), (⟨"SortsCaseModel", "countOf", "(II)I"⟩, 10), (⟨"SortsCaseModel", "places0", "(II)I"⟩, 10), (⟨"SortsCaseModel", "isWrong", "(III)Z"⟩, 10), (⟨"SortsCaseModel", "of", "(IIII)I"⟩, 10)]
theorem lw_r1 : ∀ q ∈ lw_privs_1, lw_okq q := List.forall_mem_cons.mpr ⟨lw_p0, List.forall_mem_cons.mpr ⟨lw_p1, List.forall_mem_cons.mpr ⟨lw_p2, List.forall_mem_cons.mpr ⟨lw_p3, List.forall_mem_cons.mpr ⟨lw_p4, List.forall_mem_cons.mpr ⟨lw_p5, List.forall_mem_cons.mpr ⟨lw_p6, List.forall_mem_cons.mpr ⟨lw_p7, List.forall_mem_cons.mpr ⟨lw_p8, List.forall_mem_cons.mpr ⟨lw_p9, List.forall_mem_cons.mpr ⟨lw_p10, List.forall_mem_cons.mpr ⟨lw_p11, List.forall_mem_cons.mpr ⟨lw_p12, List.forall_mem_cons.mpr ⟨lw_p13, List.forall_mem_cons.mpr ⟨lw_p14, List.forall_mem_cons.mpr ⟨lw_p15, fun _ h => absurd h List.not_mem_nil⟩⟩⟩⟩⟩⟩⟩⟩⟩⟩⟩⟩⟩⟩⟩⟩
theorem lw_p16 : lw_okq (⟨"SortsCaseModel", "save", "()V"⟩, 10) := ⟨⟨by decide +kernel, by decide +kernel⟩, List.mem_of_getElem? (i := 732) (by decide +kernel), List.mem_of_getElem? (i := 820) (by decide +kernel), List.mem_of_getElem? (i := 821) (by decide +kernel)⟩
theorem lw_p17 : lw_okq (⟨"SortsCaseModel", "buys", "(II)V"⟩, 10) := ⟨⟨by decide +kernel, by decide +kernel⟩, List.mem_of_getElem? (i := 732) (by decide +kernel), List.mem_of_getElem? (i := 824) (by decide +kernel), List.mem_of_getElem? (i := 825) (by decide +kernel)⟩
theorem lw_p18 : lw_okq (⟨"SortsCaseModel", "puts", "(II)V"⟩, 10) := ⟨⟨by decide +kernel, by decide +kernel⟩, List.mem_of_getElem? (i := 732) (by decide +kernel), List.mem_of_getElem? (i := 828) (by decide +kernel), List.mem_of_getElem? (i := 829) (by decide +kernel)⟩
theorem lw_p19 : lw_okq (⟨"SortsCaseModel", "countIn", "(II)I"⟩, 10) := ⟨⟨by decide +kernel, by decide +kernel⟩, List.mem_of_getElem? (i := 732) (by decide +kernel), List.mem_of_getElem? (i := 832) (by decide +kernel), List.mem_of_getElem? (i := 833) (by decide +kernel)⟩
theorem lw_p20 : lw_okq (⟨"SortsCaseModel", "fine", "(I)I"⟩, 10) := ⟨⟨by decide +kernel, by decide +kernel⟩, List.mem_of_getElem? (i := 732) (by decide +kernel), List.mem_of_getElem? (i := 836) (by decide +kernel), List.mem_of_getElem? (i := 837) (by decide +kernel)⟩
theorem lw_p21 : lw_okq (⟨"SortsCaseModel", "lacking", "(I)I"⟩, 10) := ⟨⟨by decide +kernel, by decide +kernel⟩, List.mem_of_getElem? (i := 732) (by decide +kernel), List.mem_of_getElem? (i := 844) (by decide +kernel), List.mem_of_getElem? (i := 845) (by decide +kernel)⟩
theorem lw_p22 : lw_okq (⟨"SortsCaseModel", "takes", "(I)I"⟩, 10) := ⟨⟨by decide +kernel, by decide +kernel⟩, List.mem_of_getElem? (i := 732) (by decide +kernel), List.mem_of_getElem? (i := 852) (by decide +kernel), List.mem_of_getElem? (i := 853) (by decide +kernel)⟩
theorem lw_p23 : lw_okq (⟨"SortsCaseModel", "empties", "(I)I"⟩, 10) := ⟨⟨by decide +kernel, by decide +kernel⟩, List.mem_of_getElem? (i := 732) (by decide +kernel), List.mem_of_getElem? (i := 860) (by decide +kernel), List.mem_of_getElem? (i := 861) (by decide +kernel)⟩
theorem lw_p24 : lw_okq (⟨"SortsCaseModel", "letterOf", "(II)I"⟩, 10) := ⟨⟨by decide +kernel, by decide +kernel⟩, List.mem_of_getElem? (i := 732) (by decide +kernel), List.mem_of_getElem? (i := 876) (by decide +kernel), List.mem_of_getElem? (i := 877) (by decide +kernel)⟩
theorem lw_p25 : lw_okq (⟨"SortsCaseModel", "foulIn", "(I)I"⟩, 10) := ⟨⟨by decide +kernel, by decide +kernel⟩, List.mem_of_getElem? (i := 732) (by decide +kernel), List.mem_of_getElem? (i := 880) (by decide +kernel), List.mem_of_getElem? (i := 881) (by decide +kernel)⟩
theorem lw_p26 : lw_okq (⟨"SortsCaseModel", "inAllBoxes", "(I)I"⟩, 10) := ⟨⟨by decide +kernel, by decide +kernel⟩, List.mem_of_getElem? (i := 732) (by decide +kernel), List.mem_of_getElem? (i := 884) (by decide +kernel), List.mem_of_getElem? (i := 885) (by decide +kernel)⟩
theorem lw_p27 : lw_okq (⟨"SortsCaseModel", "inTheHeap", "(I)I"⟩, 10) := ⟨⟨by decide +kernel, by decide +kernel⟩, List.mem_of_getElem? (i := 732) (by decide +kernel), List.mem_of_getElem? (i := 888) (by decide +kernel), List.mem_of_getElem? (i := 889) (by decide +kernel)⟩
theorem lw_p28 : lw_okq (⟨"SortsCaseModel", "valueOf", "(I)I"⟩, 10) := ⟨⟨by decide +kernel, by decide +kernel⟩, List.mem_of_getElem? (i := 732) (by decide +kernel), List.mem_of_getElem? (i := 904) (by decide +kernel), List.mem_of_getElem? (i := 905) (by decide +kernel)⟩
theorem lw_p29 : lw_okq (⟨"SortsCaseModel", "allFoul", "()I"⟩, 10) := ⟨⟨by decide +kernel, by decide +kernel⟩, List.mem_of_getElem? (i := 732) (by decide +kernel), List.mem_of_getElem? (i := 908) (by decide +kernel), List.mem_of_getElem? (i := 909) (by decide +kernel)⟩
theorem lw_p30 : lw_okq (⟨"SortsCaseModel", "laysAside", "()V"⟩, 10) := ⟨⟨by decide +kernel, by decide +kernel⟩, List.mem_of_getElem? (i := 732) (by decide +kernel), List.mem_of_getElem? (i := 919) (by decide +kernel), List.mem_of_getElem? (i := 920) (by decide +kernel)⟩
theorem lw_p31 : lw_okq (⟨"SortsCaseModel", "sets", "()Z"⟩, 10) := ⟨⟨by decide +kernel, by decide +kernel⟩, List.mem_of_getElem? (i := 732) (by decide +kernel), List.mem_of_getElem? (i := 923) (by decide +kernel), List.mem_of_getElem? (i := 924) (by decide +kernel)⟩
def lw_privs_2 : List (MethodName × Nat) := [(⟨"SortsCaseModel", "save", "()V"⟩, 10), (⟨"SortsCaseModel", "buys", "(II)V"⟩, 10), (⟨"SortsCaseModel", "puts", "(II)V"⟩, 10), (⟨"SortsCaseModel", "countIn", "(II)I"⟩, 10), (⟨"SortsCaseModel", "fine", "(I)I"⟩, 10), (⟨"SortsCaseModel", "lacking", "(I)I"⟩, 10), (⟨"SortsCaseModel", "takes", "(I)I"⟩, 10), (⟨"SortsCaseModel", "empties", "(I)I"⟩, 10), (⟨"SortsCaseModel", "letterOf", "(II)I"⟩, 10), (⟨"SortsCaseModel", "foulIn", "(I)I"⟩, 10), (⟨"SortsCaseModel", "inAllBoxes", "(I)I"⟩, 10), (⟨"SortsCaseModel", "inTheHeap", "(I)I"⟩, 10), (⟨"SortsCaseModel", "valueOf", "(I)I"⟩, 10), (⟨"SortsCaseModel", "allFoul", "()I"⟩, 10), (⟨"SortsCaseModel", "laysAside", "()V"⟩, 10), (⟨"SortsCaseModel", "sets", "()Z"⟩, 10)]
theorem lw_r2 : ∀ q ∈ lw_privs_2, lw_okq q := List.forall_mem_cons.mpr ⟨lw_p16, List.forall_mem_cons.mpr ⟨lw_p17, List.forall_mem_cons.mpr ⟨lw_p18, List.forall_mem_cons.mpr ⟨lw_p19, List.forall_mem_cons.mpr ⟨lw_p20, List.forall_mem_cons.mpr ⟨lw_p21, List.forall_mem_cons.mpr ⟨lw_p22, List.forall_mem_cons.mpr ⟨lw_p23, List.forall_mem_cons.mpr ⟨lw_p24, List.forall_mem_cons.mpr ⟨lw_p25, List.forall_mem_cons.mpr ⟨lw_p26, List.forall_mem_cons.mpr ⟨lw_p27, List.forall_mem_cons.mpr ⟨lw_p28, List.forall_mem_cons.mpr ⟨lw_p29, List.forall_mem_cons.mpr ⟨lw_p30, List.forall_mem_cons.mpr ⟨lw_p31, fun _ h => absurd h List.not_mem_nil⟩⟩⟩⟩⟩⟩⟩⟩⟩⟩⟩⟩⟩⟩⟩⟩
theorem lw_p32 : lw_okq (⟨"SortsCaseModel", "lender", "(I)I"⟩, 10) := ⟨⟨by decide +kernel, by decide +kernel⟩, List.mem_of_getElem? (i := 732) (by decide +kernel), List.mem_of_getElem? (i := 927) (by decide +kernel), List.mem_of_getElem? (i := 928) (by decide +kernel)⟩
theorem lw_p33 : lw_okq (⟨"SortsCaseModel", "takesBack", "()V"⟩, 10) := ⟨⟨by decide +kernel, by decide +kernel⟩, List.mem_of_getElem? (i := 732) (by decide +kernel), List.mem_of_getElem? (i := 931) (by decide +kernel), List.mem_of_getElem? (i := 932) (by decide +kernel)⟩
theorem lw_p34 : lw_okq (⟨"SortsCaseModel", "corrects", "(I)I"⟩, 10) := ⟨⟨by decide +kernel, by decide +kernel⟩, List.mem_of_getElem? (i := 732) (by decide +kernel), List.mem_of_getElem? (i := 939) (by decide +kernel), List.mem_of_getElem? (i := 940) (by decide +kernel)⟩
theorem lw_p35 : lw_okq (⟨"SortsCaseModel", "takesOwn", "(I)Z"⟩, 10) := ⟨⟨by decide +kernel, by decide +kernel⟩, List.mem_of_getElem? (i := 732) (by decide +kernel), List.mem_of_getElem? (i := 943) (by decide +kernel), List.mem_of_getElem? (i := 944) (by decide +kernel)⟩
theorem lw_p36 : lw_okq (⟨"SortsCaseModel", "distributes", "(I)I"⟩, 10) := ⟨⟨by decide +kernel, by decide +kernel⟩, List.mem_of_getElem? (i := 732) (by decide +kernel), List.mem_of_getElem? (i := 951) (by decide +kernel), List.mem_of_getElem? (i := 952) (by decide +kernel)⟩
theorem lw_p37 : lw_okq (⟨"SortsCaseModel", "loosens", "(I)V"⟩, 10) := ⟨⟨by decide +kernel, by decide +kernel⟩, List.mem_of_getElem? (i := 732) (by decide +kernel), List.mem_of_getElem? (i := 955) (by decide +kernel), List.mem_of_getElem? (i := 956) (by decide +kernel)⟩
theorem lw_p38 : lw_okq (⟨"SortsCaseModel", "formeOf", "(II)I"⟩, 10) := ⟨⟨by decide +kernel, by decide +kernel⟩, List.mem_of_getElem? (i := 732) (by decide +kernel), List.mem_of_getElem? (i := 972) (by decide +kernel), List.mem_of_getElem? (i := 973) (by decide +kernel)⟩
theorem lw_p39 : lw_okq (⟨"SortsCaseModel", "isLine", "(II)Z"⟩, 10) := ⟨⟨by decide +kernel, by decide +kernel⟩, List.mem_of_getElem? (i := 732) (by decide +kernel), List.mem_of_getElem? (i := 980) (by decide +kernel), List.mem_of_getElem? (i := 981) (by decide +kernel)⟩
theorem lw_p40 : lw_okq (⟨"SortsCaseModel", "placeOf", "(IIII)I"⟩, 10) := ⟨⟨by decide +kernel, by decide +kernel⟩, List.mem_of_getElem? (i := 732) (by decide +kernel), List.mem_of_getElem? (i := 989) (by decide +kernel), List.mem_of_getElem? (i := 990) (by decide +kernel)⟩
theorem lw_p41 : lw_okq (⟨"SortsCaseModel", "wrongInLine", "()I"⟩, 10) := ⟨⟨by decide +kernel, by decide +kernel⟩, List.mem_of_getElem? (i := 732) (by decide +kernel), List.mem_of_getElem? (i := 1005) (by decide +kernel), List.mem_of_getElem? (i := 1006) (by decide +kernel)⟩
theorem lw_p42 : lw_okq (⟨"SortsCaseModel", "turnedInLine", "()I"⟩, 10) := ⟨⟨by decide +kernel, by decide +kernel⟩, List.mem_of_getElem? (i := 732) (by decide +kernel), List.mem_of_getElem? (i := 1013) (by decide +kernel), List.mem_of_getElem? (i := 1014) (by decide +kernel)⟩
theorem lw_p43 : lw_okq (⟨"SortsCaseModel", "hashBoxes", "(J)J"⟩, 10) := ⟨⟨by decide +kernel, by decide +kernel⟩, List.mem_of_getElem? (i := 732) (by decide +kernel), List.mem_of_getElem? (i := 1049) (by decide +kernel), List.mem_of_getElem? (i := 1050) (by decide +kernel)⟩
theorem lw_p44 : lw_okq (⟨"SortsCaseModel", "hashForme", "(JI)J"⟩, 10) := ⟨⟨by decide +kernel, by decide +kernel⟩, List.mem_of_getElem? (i := 732) (by decide +kernel), List.mem_of_getElem? (i := 1053) (by decide +kernel), List.mem_of_getElem? (i := 1054) (by decide +kernel)⟩
def lw_privs_3 : List (MethodName × Nat) := [(⟨"SortsCaseModel", "lender", "(I)I"⟩, 10), (⟨"SortsCaseModel", "takesBack", "()V"⟩, 10), (⟨"SortsCaseModel", "corrects", "(I)I"⟩, 10), (⟨"SortsCaseModel", "takesOwn", "(I)Z"⟩, 10), (⟨"SortsCaseModel", "distributes", "(I)I"⟩, 10), (⟨"SortsCaseModel", "loosens", "(I)V"⟩, 10), (⟨"SortsCaseModel", "formeOf", "(II)I"⟩, 10), (⟨"SortsCaseModel", "isLine", "(II)Z"⟩, 10), (⟨"SortsCaseModel", "placeOf", "(IIII)I"⟩, 10), (⟨"SortsCaseModel", "wrongInLine", "()I"⟩, 10), (⟨"SortsCaseModel", "turnedInLine", "()I"⟩, 10), (⟨"SortsCaseModel", "hashBoxes", "(J)J"⟩, 10), (⟨"SortsCaseModel", "hashForme", "(JI)J"⟩, 10)]
theorem lw_r3 : ∀ q ∈ lw_privs_3, lw_okq q := List.forall_mem_cons.mpr ⟨lw_p32, List.forall_mem_cons.mpr ⟨lw_p33, List.forall_mem_cons.mpr ⟨lw_p34, List.forall_mem_cons.mpr ⟨lw_p35, List.forall_mem_cons.mpr ⟨lw_p36, List.forall_mem_cons.mpr ⟨lw_p37, List.forall_mem_cons.mpr ⟨lw_p38, List.forall_mem_cons.mpr ⟨lw_p39, List.forall_mem_cons.mpr ⟨lw_p40, List.forall_mem_cons.mpr ⟨lw_p41, List.forall_mem_cons.mpr ⟨lw_p42, List.forall_mem_cons.mpr ⟨lw_p43, List.forall_mem_cons.mpr ⟨lw_p44, fun _ h => absurd h List.not_mem_nil⟩⟩⟩⟩⟩⟩⟩⟩⟩⟩⟩⟩⟩
def lw_privs : List (MethodName × Nat) := lw_privs_1 ++ (lw_privs_2 ++ (lw_privs_3))
def lw_tbl : List Cond := k2_sels lw_privs ++ tables_1
theorem lw_privs_ok : ∀ q ∈ lw_privs, lw_okq q := by
  show ∀ q ∈ lw_privs_1 ++ (lw_privs_2 ++ (lw_privs_3)), lw_okq q
  exact List.forall_mem_append.mpr ⟨lw_r1, List.forall_mem_append.mpr ⟨lw_r2, lw_r3⟩⟩
/-- the streams that the claim lets the run draw from -/
abbrev lw_cs : List Choice := [Jvm.Choice.named "NaN.bits"]
theorem lw_bits : nanBits ∈ lw_cs := by first | decide | exact List.mem_cons_self | simp [lw_cs, nanBits]
end
section
/-! ===== BEGIN words of one list among another's, by their places ===== -/
theorem goodIn_r {big : List Cond} (ws : List Cond) (ps : List Nat) (hp : ws = ps.filterMap (fun i => big[i]?)) (h : ws.all goodWord = true) : GoodIn big ws := by
  intro w hw
  have h1 := List.all_eq_true.mp h w hw
  rw [hp] at hw
  obtain ⟨i, -, hi⟩ := List.mem_filterMap.mp hw
  have hm : w ∈ big := by first | exact List.mem_of_getElem? hi | exact List.getElem?_mem hi
  exact ⟨hm, good_of_word h1⟩
theorem goodIn_app {big a b : List Cond} (ha : GoodIn big a) (hb : GoodIn big b) : GoodIn big (a ++ b) := fun w h => (List.mem_append.mp h).elim (ha w) (hb w)
theorem goodIn_ca {big a b : List Cond} {c : Cond} (ha : GoodIn big (c :: a)) (hb : GoodIn big b) : GoodIn big (c :: (a ++ b)) := fun w h => (List.mem_cons.mp h).elim (fun e => ha w (List.mem_cons.mpr (Or.inl e))) (fun h => (List.mem_append.mp h).elim (fun h => ha w (List.mem_cons.mpr (Or.inr h))) (hb w))
theorem goodIn_sub {big ws : List Cond} (hm : ∀ w ∈ ws, w ∈ big) (h : ws.all goodWord = true) : GoodIn big ws := fun w hw => ⟨hm w hw, good_of_word (List.all_eq_true.mp h w hw)⟩
/-! ===== END ===== -/

/-! ===== BEGIN exceptions that leave a method, and their catching by the caller (launches without stack traces) ===== -/
section VXA
/-! The laws vx_back, vx_callV, vx_callS, vx_callSW, vx_throw0, vx_throwS follow proofs of the library, with one case more: JvmDerived/Free/Laws.lean (Back.of_free), Shelf42/LK1.lean (callV, callS), Shelf/KitTraced.lean (throwNew0V, throwNewS). -/
/-- where a method has thrown q: the class by its name, the cell, what was written, the world -/
def vx_T (XC : String → State → State → Prop) (st : State) (q : Addr) (t : State) (mc ms : Nat) (free : Addr → Prop) : Prop :=
  ∃ (E : String) (ce : Cell) (L : List Loc), XC E st t ∧ t.heap[q]? = some ce ∧ ce.vm = .none ∧ st.vm.findClass E = some ce.cls ∧ st.WarmedH t.vm ∧ st.sameButNew ({ t with vm := st.vm } : State) L mc ms ∧ ∀ z ∈ L, free z.base
def vx_Q (Qc : Array Value → State → Outcome → State → Prop) (XC : String → State → State → Prop) (mc ms : Nat) (free : Addr → Prop) : Array Value → State → Outcome → State → Prop := fun a st o t =>
  (Qc a st o t ∧ ∃ L, FrameEnd st o t L mc ms ∧ ∀ q ∈ L, free q.base) ∨ ∃ q, o = .threw q ∧ vx_T XC st q t mc ms free
/-- a callee that returns or throws -/
def vx_Met (l : Launch) (y : MethodName) (ws : List Cond) (rm : Room) (Pc : Array Value → State → Prop) (Qc : Array Value → State → Outcome → State → Prop) (XC : String → State → State → Prop) (mc ms : Nat) (free : Addr → Prop) : Prop :=
  MetFree l y (headSpec ws rm) Pc (fun _ _ _ _ _ => True) (vx_Q Qc XC mc ms free)
def vx_Post (XC : String → State → State → Prop) (mc ms : Nat) (free : Addr → Prop) : Pt → Array Value → Addr → Pt → Prop := fun A a q B =>
  ∃ (g : JFrame) (mk : MethodId) (t : State) (L : List Loc) (E : String) (ce : Cell), B.U.heap = t.heap ∧ B.U.vm = t.vm ∧ XC E (A.U.calling g mk a) t ∧ t.heap[q]? = some ce ∧ ce.vm = .none ∧ A.U.vm.findClass E = some ce.cls ∧ B.locs = A.locs ++ L ∧ (∀ z ∈ L, free z.base) ∧ B.cells = A.cells + mc ∧ B.slots = A.slots + ms
def vx_Back (l : Launch) (R : Room) (p : Program) (e : Env) (below : List Frame) (s : State) (sargs : Array Value) (y : MethodName) (len W9 : Nat)
    (Pre : Pt → Array Value → Prop) (Post : Pt → Array Value → Option Value → Pt → Prop) (PostX : Pt → Array Value → Addr → Pt → Prop) : Prop :=
  ∀ (m : MethodId) (meth : Method) (c : Code) (A : Pt) (g : JFrame) (ig : Instr) (mk : MethodId) (a : Array Value),
    Stand p l e R s m sargs below meth c A.U A.locs A.cells A.slots → g.method = m → g.locals.size = c.maxLocals → decode c.code g.pc = .ok (ig, len) →
    2 * g.monitorRoom + (g.stack.map fun v => v.category).sum ≤ W9 → A.U.methodNamed? y = some mk → Pre A a →
    (∃ (v : Option Value) (B : Pt), Stand p l e R s m sargs below meth c B.U B.locs B.cells B.slots ∧ Post A a v B ∧
      Steps p.tables e below (doInvoke e (A.U.setTop g) [] mk a).1 (B.U.setTop { g with pc := g.pc + len, stack := v.toList ++ g.stack })) ∨
    (∃ (q : Addr) (B : Pt), Stand p l e R s m sargs below meth c B.U B.locs B.cells B.slots ∧ PostX A a q B ∧
      Steps p.tables e below (doInvoke e (A.U.setTop g) [] mk a).1 ((B.U.setTop g).pushFrame (.throwing q)))
section Payer
variable {l : Launch} {R : Room} {p : Program} {e : Env} {below : List Frame} {s : State} {sargs : Array Value} {y : MethodName} {len W9 : Nat}
theorem vx_back {ws : List Cond} {rm : Room} {Pc : Array Value → State → Prop} {Qc : Array Value → State → Outcome → State → Prop} {XC : String → State → State → Prop} {mc ms : Nat} {free : Addr → Prop} {bytes : ByteArray} {maxL : Nat} {ret : Option FieldType}
    (hM : vx_Met l y ws rm Pc Qc XC mc ms free) (hblind : FrameBlind Pc) (hrc : rm.cells = mc) (hrs : rm.slots = ms)
    (hframes : rm.frames + 1 ≤ R.frames) (hlocals : W9 + (maxL + 11) + rm.locals ≤ R.locals)
    (hws : ∀ w ∈ ws, ∀ a' U, s.WarmedH U.vm → w.before a' U = true) (hcode : Cond.code y bytes maxL ret ∈ ws) (hinit : ∀ a' U, s.WarmedH U.vm → (Cond.initialized y.cls).before a' U = true) :
    vx_Back l R p e below s sargs y len W9 (PreOf R mc ms Pc) (PostOf Qc mc ms free) (vx_Post XC mc ms free) := by
  intro m meth c A g ig mk a X hg hsize hdg hW hn hp
  have h1 : (headSpec ws rm).pre.before a A.U = true := atoms_intro fun w hw => hws w hw _ _ X.warmed
  have h2 : (Cond.code y bytes maxL ret).before a A.U = true := hws _ hcode _ _ X.warmed
  have h3 : (Cond.initialized y.cls).before a A.U = true := hinit _ _ X.warmed
  have h4 : A.cells + (headSpec ws rm).room.cells ≤ R.cells := by rw [show (headSpec ws rm).room.cells = mc from hrc]; exact hp.1
  have h5 : A.slots + (headSpec ws rm).room.slots ≤ R.slots := by rw [show (headSpec ws rm).room.slots = ms from hrs]; exact hp.2.1
  have hPc : Pc a (A.U.calling g mk a) := hblind _ _ _ _ hp.2.2
  obtain ⟨U, Ls, c0, s0⟩ := A
  dsimp only [Pt.U, Pt.locs, Pt.cells, Pt.slots] at h1 h2 h3 h4 h5 X hn hPc ⊢
  obtain ⟨methY, cY, hmY, hcY, -, hlY, -, -, -, -⟩ := Cond.code_spec hn h2
  obtain ⟨kY, hkY, -⟩ := className_of_methodNamed hn
  have hinitY : kY.init = .initialized := Cond.initialized_spec (findClass_of_methodNamed hn) hkY h3
  have h : At U g.method c below := by rw [hg]; exact X.here
  have hlocals9 : W9 + (maxL + 11) + (headSpec ws rm).room.locals ≤ R.locals := hlocals
  have happ : (headSpec ws rm).appliesLoose y e.platform (U.calling g mk a) = true :=
    Spec.appliesLoose_calling (g := g) h hdg hn hkY hinitY
      (X.room_calling (g := g) (R' := (headSpec ws rm).room) hsize hmY hcY hframes (by rw [hlY]; omega) h4 h5) h1
  obtain ⟨mid, hmid⟩ := h.above
  have hfr : (U.setTop g).frames = (.java g :: mid) ++ below := by rw [State.frames_setTop' g h.top, hmid]; rfl
  obtain ⟨o, s₂, hsteps, -, hend, hq⟩ := Steps.callFree hM p X.admits X.cas X.clock (acts := []) hfr happ hPc trivial
  have hq' : vx_Q Qc XC mc ms free a (U.calling g mk a) o s₂ := hq
  rw [State.frames_setTop' g h.top] at hend
  obtain ⟨g₀, hg0⟩ := Option.isSome_iff_exists.mp h.top
  obtain ⟨r, hr⟩ := State.topJava?_eq_some.mp hg0
  have hr' : (({ U with heap := s₂.heap, slotsUsed := s₂.slotsUsed } : State).setVm s₂.vm).frames = .java g₀ :: r := hr
  rcases hq' with ⟨hqc, L, hfe, hL⟩ | ⟨q, rfl, E, ce, L, hx, hce, hcv, hcl, hW₂, hsm, hL⟩
  · obtain ⟨⟨v, rfl⟩, hW₂, e2, q2, q3, q4, q5, q6⟩ := id hfe
    have e3 : s₂ = ({ (U.calling g mk a).setFrames s₂.frames with heap := s₂.heap, slotsUsed := s₂.slotsUsed } : State).setVm s₂.vm := by
      have : s₂ = ({ s₂ with vm := (U.calling g mk a).vm } : State).setVm s₂.vm := rfl
      rw [e2] at this
      exact this
    obtain ⟨c₂, i₂, len₂, hc₂, hd₂, hf₂⟩ := hend
    have hW' : U.WarmedH s₂.vm := hW₂
    have hcc : c₂ = c := by
      have h1 : s₂.code? g.method = U.code? g.method := by
        rw [State.code?_eq, State.code?_eq, hW'.alike.method?]
      exact Option.some.inj (hc₂.symm.trans (h1.trans h.code))
    subst hcc
    have hlen : len₂ = len := by rw [hdg] at hd₂; cases hd₂; rfl
    subst hlen
    have hs₂ : s₂ = (({ U with heap := s₂.heap, slotsUsed := s₂.slotsUsed } : State).setVm s₂.vm).setTop { g with pc := g.pc + len₂, stack := v.toList ++ g.stack } := by
      refine e3.trans ?_
      rw [hf₂, State.calling_eq h.top, State.setFrames_setFrames, State.setTop_of_frames _ hr', hr]
      rfl
    have hsame : U.sameButNew ({ U with heap := s₂.heap, slotsUsed := s₂.slotsUsed } : State) L mc ms := by
      refine ⟨?_, q2, q3, q4, q5, q6⟩
      obtain ⟨t, ht, -⟩ := State.frames_cons hr
      show ({ U with heap := s₂.heap, slotsUsed := s₂.slotsUsed } : State) = { U.setFrames U.frames with heap := s₂.heap, slotsUsed := s₂.slotsUsed }
      rw [State.setFrames_self ht]
    subst hg
    refine Or.inl ⟨v, ⟨(({ U with heap := s₂.heap, slotsUsed := s₂.slotsUsed } : State).setVm s₂.vm), Ls ++ L, c0 + mc, s0 + ms⟩,
      ⟨X.admits, X.cas, X.clock, X.frames, X.room, X.hears, X.method, X.code, (X.here.setHeapUsed s₂.heap s₂.slotsUsed).setVm hW'.alike, X.tail, State.WarmedH.trans X.warmed hW', X.limits, X.bytes, X.same.trans (hsame.setVm s.vm)⟩,
      ⟨g, mk, s₂, L, rfl, rfl, hqc, rfl, hL, rfl, rfl⟩, ?_⟩
    show Steps p.tables e below _ ((({ U with heap := s₂.heap, slotsUsed := s₂.slotsUsed } : State).setVm s₂.vm).setTop { g with pc := g.pc + len₂, stack := v.toList ++ g.stack })
    rw [← hs₂]
    exact hsteps
  · obtain ⟨e2, q2, q3, q4, q5, q6⟩ := id hsm
    have e3 : s₂ = ({ (U.calling g mk a).setFrames s₂.frames with heap := s₂.heap, slotsUsed := s₂.slotsUsed } : State).setVm s₂.vm := by
      have : s₂ = ({ s₂ with vm := (U.calling g mk a).vm } : State).setVm s₂.vm := rfl
      rw [e2] at this
      exact this
    have hf₂ : s₂.frames = .throwing q :: .java g :: U.frames.tail := hend
    have hW' : U.WarmedH s₂.vm := hW₂
    have hs₂ : s₂ = ((({ U with heap := s₂.heap, slotsUsed := s₂.slotsUsed } : State).setVm s₂.vm).setTop g).pushFrame (.throwing q) := by
      refine e3.trans ?_
      rw [hf₂, State.calling_eq h.top, State.setFrames_setFrames, State.pushFrame, State.frames_setTop _ hr', State.setTop_of_frames _ hr', State.setFrames_setFrames, hr]
      rfl
    have hsame : U.sameButNew ({ U with heap := s₂.heap, slotsUsed := s₂.slotsUsed } : State) L mc ms := by
      refine ⟨?_, q2, q3, q4, q5, q6⟩
      obtain ⟨t, ht, -⟩ := State.frames_cons hr
      show ({ U with heap := s₂.heap, slotsUsed := s₂.slotsUsed } : State) = { U.setFrames U.frames with heap := s₂.heap, slotsUsed := s₂.slotsUsed }
      rw [State.setFrames_self ht]
    subst hg
    refine Or.inr ⟨q, ⟨(({ U with heap := s₂.heap, slotsUsed := s₂.slotsUsed } : State).setVm s₂.vm), Ls ++ L, c0 + mc, s0 + ms⟩,
      ⟨X.admits, X.cas, X.clock, X.frames, X.room, X.hears, X.method, X.code, (X.here.setHeapUsed s₂.heap s₂.slotsUsed).setVm hW'.alike, X.tail, State.WarmedH.trans X.warmed hW', X.limits, X.bytes, X.same.trans (hsame.setVm s.vm)⟩,
      ⟨g, mk, s₂, L, E, ce, rfl, rfl, hx, hce, hcv, hcl, rfl, hL, rfl, rfl⟩, ?_⟩
    show Steps p.tables e below _ (((({ U with heap := s₂.heap, slotsUsed := s₂.slotsUsed } : State).setVm s₂.vm).setTop g).pushFrame (.throwing q))
    rw [← hs₂]
    exact hsteps
end Payer
section Calls
variable {p : Program} {l : Launch} {e : Env} {R : Room} {s : State} {m : MethodId} {args : Array Value} {below : List Frame} {meth : Method} {c : Code} {T : State} {locs : List Loc} {cells slots : Nat}
theorem vx_callV (X : Stand p l e R s m args below meth c T locs cells slots) (hexec : p.tables.exec = Jvm.exec) {own C : String} {index : Nat} {y : MethodName} {bytes : ByteArray} {maxL : Nat} {ret : Option FieldType}
    (hown : s.vm.findClass own = some m.cls) (hlink : (Cond.methodLink own index y).before args s = true) (hinst : (Cond.instanceMethod y).before args s = true) (hsel : (Cond.selects C y y).before args s = true)
    (hcode : (Cond.code y bytes maxL ret).before args s = true) (hy : y.cls ≠ "java/lang/invoke/MethodHandle" ∧ y.cls ≠ "java/lang/invoke/VarHandle")
    {W9 : Nat} {Pre : Pt → Array Value → Prop} {Post : Pt → Array Value → Option Value → Pt → Prop} {PostX : Pt → Array Value → Addr → Pt → Prop} (hK : vx_Back l R p e below s args y 3 W9 Pre Post PostX)
    {b : Addr} {cellB : Cell} (hcell : T.heap[b]? = some cellB) (hobj : cellB.vm.isStatics = false) (hcls : s.vm.findClass C = some cellB.cls)
    {g : JFrame} (hg : g.method = m) (hsize : g.locals.size = c.maxLocals) {argsL rest : List Value} (hlen : ∀ sig, parseMethodDescriptor y.desc = some sig → argsL.length = sig.parameters.length)
    (hstack : g.stack = argsL.reverse ++ .ref b :: rest) (hW : 2 * g.monitorRoom + (rest.map fun v => v.category).sum ≤ W9) (hdg : decode c.code g.pc = .ok (.invokevirtual index, 3))
    (hpre : ∀ vm₁, s.WarmedH vm₁ → Pre ⟨T.setVm vm₁, locs, cells, slots⟩ (Value.ref b :: argsL).toArray) :
    (∃ (v : Option Value) (vm₁ : Vm) (B : Pt), s.WarmedH vm₁ ∧ Stand p l e R s m args below meth c B.U B.locs B.cells B.slots ∧ Post ⟨T.setVm vm₁, locs, cells, slots⟩ (Value.ref b :: argsL).toArray v B ∧
      ∀ target, Steps p.tables e below (B.U.setTop { g with pc := g.pc + 3, stack := v.toList ++ rest }) target → Steps p.tables e below (T.setTop g) target) ∨
    (∃ (q : Addr) (vm₁ : Vm) (B : Pt), s.WarmedH vm₁ ∧ Stand p l e R s m args below meth c B.U B.locs B.cells B.slots ∧ PostX ⟨T.setVm vm₁, locs, cells, slots⟩ (Value.ref b :: argsL).toArray q B ∧
      Steps p.tables e below (T.setTop g) ((B.U.setTop { g with stack := rest }).pushFrame (.throwing q))) := by
  obtain ⟨mk, methM, hnamed, hmethM, hstM, habM⟩ := Cond.instanceMethod_spec hinst
  obtain ⟨methM', cM, hmethM', -, -, -, -, -, -, hsigM⟩ := Cond.code_spec hnamed hcode
  cases hmethM.symm.trans hmethM'
  obtain ⟨c2, r2, m2, q1, q2, q3, q4, kP, hkP, hkPi⟩ := Cond.selects_spec hsel
  cases hcls.symm.trans q1
  cases (State.methodFound?_of_named hnamed hy).symm.trans q2
  cases hnamed.symm.trans q3
  have hselP : selectMethod e.platform s.vm cellB.cls mk = .method mk := by rw [Launch.admits_selectMethod X.admits]; exact q4
  obtain ⟨vm₁, X₁, hstep₁⟩ := X.invokevirtual hexec hown hlink hnamed hmethM hstM hkP hkPi hy (a := b) (cell := cellB) hcell
    (fun z h => by rw [h] at hobj; cases hobj) hselP hmethM habM hkP hkPi (g := g) hg (argsL := argsL) (rest := rest) (hlen _ hsigM) hstack hdg
  rcases hK m meth c ⟨T.setVm vm₁, locs, cells, slots⟩ { g with stack := rest } (.invokevirtual index) mk (Value.ref b :: argsL).toArray X₁ hg hsize hdg hW (X₁.named hnamed) (hpre vm₁ X₁.warmed) with ⟨v, B, X', hpost, hsteps⟩ | ⟨q, B, X', hpost, hsteps⟩
  · exact Or.inl ⟨v, vm₁, B, X₁.warmed, X', hpost, fun target h => hstep₁ _ fun acts => by rw [doInvoke_state]; exact hsteps.trans h⟩
  · exact Or.inr ⟨q, vm₁, B, X₁.warmed, X', hpost, hstep₁ _ fun acts => by rw [doInvoke_state]; exact hsteps⟩
theorem vx_callS (X : Stand p l e R s m args below meth c T locs cells slots) (hexec : p.tables.exec = Jvm.exec) {own : String} {index : Nat} {y : MethodName} {bytes : ByteArray} {maxL : Nat} {ret : Option FieldType}
    (hown : s.vm.findClass own = some m.cls) (hlink : (Cond.methodLink own index y).before args s = true) (hstat : (Cond.static y).before args s = true) (hinit : (Cond.initialized y.cls).before args s = true)
    (hcode : (Cond.code y bytes maxL ret).before args s = true) (hy : y.cls ≠ "java/lang/invoke/MethodHandle" ∧ y.cls ≠ "java/lang/invoke/VarHandle")
    {W9 : Nat} {Pre : Pt → Array Value → Prop} {Post : Pt → Array Value → Option Value → Pt → Prop} {PostX : Pt → Array Value → Addr → Pt → Prop} (hK : vx_Back l R p e below s args y 3 W9 Pre Post PostX)
    {g : JFrame} (hg : g.method = m) (hsize : g.locals.size = c.maxLocals) {argsL rest : List Value} (hlen : ∀ sig, parseMethodDescriptor y.desc = some sig → argsL.length = sig.parameters.length)
    (hstack : g.stack = argsL.reverse ++ rest) (hW : 2 * g.monitorRoom + (rest.map fun v => v.category).sum ≤ W9) (hdg : decode c.code g.pc = .ok (.invokestatic index, 3))
    (hpre : ∀ vm₁, s.WarmedH vm₁ → Pre ⟨T.setVm vm₁, locs, cells, slots⟩ argsL.toArray) :
    (∃ (v : Option Value) (vm₁ : Vm) (B : Pt), s.WarmedH vm₁ ∧ Stand p l e R s m args below meth c B.U B.locs B.cells B.slots ∧ Post ⟨T.setVm vm₁, locs, cells, slots⟩ argsL.toArray v B ∧
      ∀ target, Steps p.tables e below (B.U.setTop { g with pc := g.pc + 3, stack := v.toList ++ rest }) target → Steps p.tables e below (T.setTop g) target) ∨
    (∃ (q : Addr) (vm₁ : Vm) (B : Pt), s.WarmedH vm₁ ∧ Stand p l e R s m args below meth c B.U B.locs B.cells B.slots ∧ PostX ⟨T.setVm vm₁, locs, cells, slots⟩ argsL.toArray q B ∧
      Steps p.tables e below (T.setTop g) ((B.U.setTop { g with stack := rest }).pushFrame (.throwing q))) := by
  obtain ⟨mk, hnamed⟩ := Cond.code_named hcode
  obtain ⟨methM, cM, hmethM, -, -, -, -, -, -, hsigM⟩ := Cond.code_spec hnamed hcode
  have hstatic : methM.isStatic = true := Cond.static_spec hnamed hmethM hstat
  obtain ⟨kP, hkP, -⟩ := className_of_methodNamed hnamed
  have hinitP : kP.init = .initialized := Cond.initialized_spec (findClass_of_methodNamed hnamed) hkP hinit
  obtain ⟨vm₁, X₁, hstep₁⟩ := X.invokestatic hexec hown hlink hnamed hmethM hstatic hkP hinitP hy (g := g) hg (argsL := argsL) (rest := rest) (hlen _ hsigM) hstack hdg
  rcases hK m meth c ⟨T.setVm vm₁, locs, cells, slots⟩ { g with stack := rest } (.invokestatic index) mk argsL.toArray X₁ hg hsize hdg hW (X₁.named hnamed) (hpre vm₁ X₁.warmed) with ⟨v, B, X', hpost, hsteps⟩ | ⟨q, B, X', hpost, hsteps⟩
  · exact Or.inl ⟨v, vm₁, B, X₁.warmed, X', hpost, fun target h => hstep₁ _ fun acts => by rw [doInvoke_state]; exact hsteps.trans h⟩
  · exact Or.inr ⟨q, vm₁, B, X₁.warmed, X', hpost, hstep₁ _ fun acts => by rw [doInvoke_state]; exact hsteps⟩
end Calls
theorem vx_cls {s : State} {T : State} {vm₁ : Vm} {E : String} {k : ClassId} (hW : s.WarmedH vm₁) (h : (T.setVm vm₁).vm.findClass E = some k) : s.vm.findClass E = some k := by
  have h1 : vm₁.findClass E = some k := h
  rw [hW.alike.findClass] at h1
  exact h1
/-- the method's frame g, with q thrown over it -/
def vx_W (p : Program) (l : Launch) (e : Env) (R : Room) (s : State) (m : MethodId) (args : Array Value) (below : List Frame) (meth : Method) (c : Code) (H : Heap) (locs : List Loc) (cells slots : Nat) (Q : State → Prop) (g : JFrame) (q : Addr) : Prop :=
  ∀ T : State, T.heap = H → Stand p l e R s m args below meth c T locs cells slots → ∃ t, Steps p.tables e below ((T.setTop g).pushFrame (.throwing q)) t ∧ Q t
def vx_Run (p : Program) (l : Launch) (e : Env) (R : Room) (s : State) (m : MethodId) (args : Array Value) (below : List Frame) (meth : Method) (c : Code) (H : Heap) (locs : List Loc) (cells slots mc ms : Nat) (g : JFrame) (rest : List Value) (Qa : State → Outcome → State → Prop) (XC : String → State → State → Prop) (free : Addr → Prop) : Prop :=
  ∀ T : State, T.heap = H → Stand p l e R s m args below meth c T locs cells slots →
    (∃ (v : Option Value) (st₀ t T' : State) (L : List Loc), st₀.heap = H ∧ Stand p l e R s m args below meth c T' (locs ++ L) (cells + mc) (slots + ms) ∧ (∀ q ∈ L, free q.base) ∧ T'.heap = t.heap ∧ T'.vm = t.vm ∧ Qa st₀ (.returned v) t ∧
      Goes p e below T g T' { g with pc := g.pc + 3, stack := v.toList ++ rest }) ∨
    (∃ (q : Addr) (st₀ t T' : State) (L : List Loc) (E : String) (ce : Cell), st₀.heap = H ∧ Stand p l e R s m args below meth c T' (locs ++ L) (cells + mc) (slots + ms) ∧ (∀ z ∈ L, free z.base) ∧ T'.heap = t.heap ∧ T'.vm = t.vm ∧ XC E st₀ t ∧ t.heap[q]? = some ce ∧ ce.vm = .none ∧ s.vm.findClass E = some ce.cls ∧
      Steps p.tables e below (T.setTop g) ((T'.setTop { g with stack := rest }).pushFrame (.throwing q)))
def vx_X {S : Type} (px : S → Prop) (B : String → S → State → Prop) (A : Nat → Prop) : String → State → State → Prop := fun E st t => ∃ u : S, px u ∧ B E u t ∧ va_F A st t
section Runs
variable {p : Program} {l : Launch} {e : Env} {R : Room} {s : State} {m : MethodId} {args : Array Value} {below : List Frame} {meth : Method} {c : Code} {H : Heap} {locs : List Loc} {cells slots : Nat}
variable {y : MethodName} {bytes cc : ByteArray} {maxL nL mc ms n index : Nat} {ret : Option FieldType} {ws : List Cond} {rm : Room} {Pc : Array Value → State → Prop} {Qc : Array Value → State → Outcome → State → Prop} {XC : String → State → State → Prop} {free : Addr → Prop} {Ts : List Cond} {own C : String} {b : Addr} {As rest : List Value} {g : JFrame}
theorem vx_callBack (cb : CallB R s args own index y bytes maxL ret ws rm mc ms n) (hM : vx_Met l y ws rm Pc Qc XC mc ms free) (hbl : FrameBlind Pc) : vx_Back l R p e below s args y 3 8 (PreOf R mc ms Pc) (PostOf Qc mc ms free) (vx_Post XC mc ms free) := by
  obtain ⟨hrc, hrs, hfr, hlo, hws, hcw, -, hini, -⟩ := cb
  exact vx_back (bytes := bytes) (maxL := maxL) (ret := ret) hM hbl hrc hrs hfr hlo hws hcw (fun a' U hW => word_at hW (Or.inl (by first | rfl | simp [Cond.onTables, Cond.keeps, Cond.steady])) hini)
theorem vx_runV (S : CallFix p m c cc nL s args Ts own) (hM : vx_Met l y ws rm Pc Qc XC mc ms free) (cw : CallW R s args own C index y bytes maxL ret ws rm mc ms n) (hp : PreV s H C b Pc As)
    (hg : g.method = m) (hn : As.length = n) (hsize : g.locals.size = nL) (hstack : g.stack = As.reverse ++ .ref b :: rest) (hW : 2 * g.monitorRoom + (rest.map fun v => v.category).sum ≤ 8) (hdg : decode cc g.pc = .ok (.invokevirtual index, 3)) (hf : cells + mc ≤ R.cells ∧ slots + ms ≤ R.slots) :
    vx_Run p l e R s m args below meth c H locs cells slots mc ms g rest (Qc (Value.ref b :: As).toArray) XC free := by
  have hK : vx_Back l R p e below s args y 3 8 (PreOf R mc ms Pc) (PostOf Qc mc ms free) (vx_Post XC mc ms free) := vx_callBack cw.1 hM hp.1
  obtain ⟨⟨-, -, -, -, -, -, hcode, -, hy, hlen, hl⟩, hin, hse⟩ := cw
  obtain ⟨hx, hb, hml, ho, -⟩ := S
  obtain ⟨-, ⟨cellB, hcB, hoB, hclB⟩, hPc⟩ := hp
  intro T hT X
  rcases vx_callV X hx (C := C) (bytes := bytes) (maxL := maxL) (ret := ret) ho hl hin hse hcode hy hK (by rw [hT]; exact hcB) hoB hclB hg (hsize.trans hml.symm) (argsL := As) (rest := rest) (fun sig h => hn.trans (hlen sig h)) hstack hW (by rw [hb]; exact hdg)
    (fun vm₁ hW₁ => ⟨hf.1, hf.2, hPc (T.setVm vm₁) hT hW₁⟩) with ⟨v, vm₁, ⟨U', l2, c2, s2⟩, hW₁, X', ⟨g', mk, t, L, e1, e2, hq, h1, hL, h2, h3⟩, st⟩ | ⟨q, vm₁, ⟨U', l2, c2, s2⟩, hW₁, X', ⟨g', mk, t, L, E, ce, e1, e2, hq, hce, hcv, hcl, h1, hL, h2, h3⟩, st⟩
  · dsimp only [Pt.U, Pt.locs, Pt.cells, Pt.slots] at X' e1 e2 h1 h2 h3 st
    subst h1; subst h2; subst h3
    exact Or.inl ⟨v, (T.setVm vm₁).calling g' mk (Value.ref b :: As).toArray, t, U', L, hT, X', hL, e1, e2, hq, st⟩
  · dsimp only [Pt.U, Pt.locs, Pt.cells, Pt.slots] at X' e1 e2 h1 h2 h3 st hcl
    subst h1; subst h2; subst h3
    exact Or.inr ⟨q, (T.setVm vm₁).calling g' mk (Value.ref b :: As).toArray, t, U', L, E, ce, hT, X', hL, e1, e2, hq, hce, hcv, vx_cls hW₁ hcl, st⟩
theorem vx_runS (S : CallFix p m c cc nL s args Ts own) (hM : vx_Met l y ws rm Pc Qc XC mc ms free) (cw : CallB R s args own index y bytes maxL ret ws rm mc ms n ∧ (Cond.static y).before args s = true) (hp : PreS s H Pc As)
    (hg : g.method = m) (hn : As.length = n) (hsize : g.locals.size = nL) (hstack : g.stack = As.reverse ++ rest) (hW : 2 * g.monitorRoom + (rest.map fun v => v.category).sum ≤ 8) (hdg : decode cc g.pc = .ok (.invokestatic index, 3)) (hf : cells + mc ≤ R.cells ∧ slots + ms ≤ R.slots) :
    vx_Run p l e R s m args below meth c H locs cells slots mc ms g rest (Qc As.toArray) XC free := by
  have hK : vx_Back l R p e below s args y 3 8 (PreOf R mc ms Pc) (PostOf Qc mc ms free) (vx_Post XC mc ms free) := vx_callBack cw.1 hM hp.1
  obtain ⟨⟨-, -, -, -, -, -, hcode, hini, hy, hlen, hl⟩, hstt⟩ := cw
  obtain ⟨hx, hb, hml, ho, -⟩ := S
  intro T hT X
  rcases vx_callS X hx (bytes := bytes) (maxL := maxL) (ret := ret) ho hl hstt hini hcode hy hK hg (hsize.trans hml.symm) (argsL := As) (rest := rest) (fun sig h => hn.trans (hlen sig h)) hstack hW (by rw [hb]; exact hdg)
    (fun vm₁ hW₁ => ⟨hf.1, hf.2, hp.2 (T.setVm vm₁) hT hW₁⟩) with ⟨v, vm₁, ⟨U', l2, c2, s2⟩, hW₁, X', ⟨g', mk, t, L, e1, e2, hq, h1, hL, h2, h3⟩, st⟩ | ⟨q, vm₁, ⟨U', l2, c2, s2⟩, hW₁, X', ⟨g', mk, t, L, E, ce, e1, e2, hq, hce, hcv, hcl, h1, hL, h2, h3⟩, st⟩
  · dsimp only [Pt.U, Pt.locs, Pt.cells, Pt.slots] at X' e1 e2 h1 h2 h3 st
    subst h1; subst h2; subst h3
    exact Or.inl ⟨v, (T.setVm vm₁).calling g' mk As.toArray, t, U', L, hT, X', hL, e1, e2, hq, st⟩
  · dsimp only [Pt.U, Pt.locs, Pt.cells, Pt.slots] at X' e1 e2 h1 h2 h3 st hcl
    subst h1; subst h2; subst h3
    exact Or.inr ⟨q, (T.setVm vm₁).calling g' mk As.toArray, t, U', L, E, ce, hT, X', hL, e1, e2, hq, hce, hcv, vx_cls hW₁ hcl, st⟩
end Runs
section Rows
variable {p : Program} {l : Launch} {e : Env} {R : Room} {s : State} {m : MethodId} {args : Array Value} {below : List Frame} {meth : Method} {c : Code} {H : Heap} {locs : List Loc} {cells slots : Nat} {Q : State → Prop}
variable {mc ms : Nat} {free : Addr → Prop} {A0 A1 : Nat → Prop} {H0 : Heap} {a : Array Value} {pc : Nat} {ls : Array Slot} {st0 rest : List Value}
theorem vx_keep {st₀ t T' : State} {L : List Loc} (h0 : st₀.heap = H) (e1 : T'.heap = t.heap) (hS : va_S A0 H0 H locs) (hA : ∀ q, q < H.size → A1 q → A0 q) (hf : ∀ q, free q → A0 q) (hL : ∀ q ∈ L, free q.base) (hF : va_F A1 st₀ t) :
    H.size ≤ T'.heap.size ∧ (∀ q : Nat, q < H.size → ¬ A1 q → T'.heap[q]? = H[q]?) ∧ va_S A0 H0 T'.heap (locs ++ L) := by
  obtain ⟨hz, hk⟩ := hF
  rw [h0] at hz hk
  exact ⟨by rw [e1]; exact hz, fun q h1 h2 => by rw [e1]; exact hk q h1 h2,
    ⟨Nat.le_trans hS.1 (by rw [e1]; exact hz), fun q h1 h2 => by rw [e1, hk q (Nat.lt_of_lt_of_le h1 hS.1) (fun z => h2 (hA q (Nat.lt_of_lt_of_le h1 hS.1) z))]; exact hS.2.1 q h1 h2, fun q hq => by
      rcases List.mem_append.mp hq with h | h
      · exact hS.2.2 q h
      · exact hf _ (hL q h)⟩⟩
theorem vx_calli {S SX : Type} {post : Int32 → S → Prop} {px : SX → Prop} {B : S → State → Prop} {BX : String → SX → State → Prop} {AX : Nat → Prop} (hr : vx_Run p l e R s m args below meth c H locs cells slots mc ms (F0 m pc ls st0) rest (va_Qi post B A1 a) (vx_X px BX AX) free) (hS : va_S A0 H0 H locs) (hA : ∀ q, q < H.size → A1 q → A0 q) (hf : ∀ q, free q → A0 q) (hAX : ∀ q, q < H.size → AX q → A0 q)
    (kx : ∀ (E : String) (ce : Cell) (q9 : Addr) (u : SX) (t : State) (H1 : Heap) (locs1 : List Loc), t.heap = H1 → s.vm.Alike t.vm → px u → BX E u t → H.size ≤ H1.size → (∀ q : Nat, q < H.size → ¬ AX q → H1[q]? = H[q]?) → va_S A0 H0 H1 locs1 → H1[q9]? = some ce → ce.vm = .none → s.vm.findClass E = some ce.cls → vx_W p l e R s m args below meth c H1 locs1 (cells + mc) (slots + ms) Q (F0 m pc ls rest) q9)
    (kk : ∀ (r : Int32) (u : S) (t : State) (H1 : Heap) (locs1 : List Loc), t.heap = H1 → s.vm.Alike t.vm → post r u → B u t → H.size ≤ H1.size → (∀ q : Nat, q < H.size → ¬ A1 q → H1[q]? = H[q]?) → va_S A0 H0 H1 locs1 → W p l e R s m args below meth c H1 locs1 (cells + mc) (slots + ms) Q (F0 m (pc + 3) ls (.int r :: rest))) : W p l e R s m args below meth c H locs cells slots Q (F0 m pc ls st0) := by
  intro T hT X
  rcases hr T hT X with ⟨v, st₀, t, T', L, h0, X', hL, e1, e2, ⟨⟨r, u, hv, hp, hb⟩, hF⟩, st⟩ | ⟨q, st₀, t, T', L, E, ce, h0, X', hL, e1, e2, ⟨u, hp, hb, hF⟩, hce, hcv, hcl, st⟩
  · cases hv
    obtain ⟨k1, k2, k3⟩ := vx_keep h0 e1 hS hA hf hL hF
    obtain ⟨t2, a1, b1⟩ := kk r u t T'.heap (locs ++ L) e1.symm (by rw [← e2]; exact X'.warmed.alike) hp hb k1 k2 k3 T' rfl X'
    exact ⟨t2, st t2 a1, b1⟩
  · obtain ⟨k1, k2, k3⟩ := vx_keep h0 e1 hS hAX hf hL hF
    obtain ⟨t2, a1, b1⟩ := kx E ce q u t T'.heap (locs ++ L) e1.symm (by rw [← e2]; exact X'.warmed.alike) hp hb k1 k2 k3 (by rw [e1]; exact hce) hcv hcl T' rfl X'
    exact ⟨t2, st.trans a1, b1⟩
theorem vx_calll {S SX : Type} {post : Int64 → S → Prop} {px : SX → Prop} {B : S → State → Prop} {BX : String → SX → State → Prop} {AX : Nat → Prop} (hr : vx_Run p l e R s m args below meth c H locs cells slots mc ms (F0 m pc ls st0) rest (va_Ql post B A1 a) (vx_X px BX AX) free) (hS : va_S A0 H0 H locs) (hA : ∀ q, q < H.size → A1 q → A0 q) (hf : ∀ q, free q → A0 q) (hAX : ∀ q, q < H.size → AX q → A0 q)
    (kx : ∀ (E : String) (ce : Cell) (q9 : Addr) (u : SX) (t : State) (H1 : Heap) (locs1 : List Loc), t.heap = H1 → s.vm.Alike t.vm → px u → BX E u t → H.size ≤ H1.size → (∀ q : Nat, q < H.size → ¬ AX q → H1[q]? = H[q]?) → va_S A0 H0 H1 locs1 → H1[q9]? = some ce → ce.vm = .none → s.vm.findClass E = some ce.cls → vx_W p l e R s m args below meth c H1 locs1 (cells + mc) (slots + ms) Q (F0 m pc ls rest) q9)
    (kk : ∀ (r : Int64) (u : S) (t : State) (H1 : Heap) (locs1 : List Loc), t.heap = H1 → s.vm.Alike t.vm → post r u → B u t → H.size ≤ H1.size → (∀ q : Nat, q < H.size → ¬ A1 q → H1[q]? = H[q]?) → va_S A0 H0 H1 locs1 → W p l e R s m args below meth c H1 locs1 (cells + mc) (slots + ms) Q (F0 m (pc + 3) ls (.long r :: rest))) : W p l e R s m args below meth c H locs cells slots Q (F0 m pc ls st0) := by
  intro T hT X
  rcases hr T hT X with ⟨v, st₀, t, T', L, h0, X', hL, e1, e2, ⟨⟨r, u, hv, hp, hb⟩, hF⟩, st⟩ | ⟨q, st₀, t, T', L, E, ce, h0, X', hL, e1, e2, ⟨u, hp, hb, hF⟩, hce, hcv, hcl, st⟩
  · cases hv
    obtain ⟨k1, k2, k3⟩ := vx_keep h0 e1 hS hA hf hL hF
    obtain ⟨t2, a1, b1⟩ := kk r u t T'.heap (locs ++ L) e1.symm (by rw [← e2]; exact X'.warmed.alike) hp hb k1 k2 k3 T' rfl X'
    exact ⟨t2, st t2 a1, b1⟩
  · obtain ⟨k1, k2, k3⟩ := vx_keep h0 e1 hS hAX hf hL hF
    obtain ⟨t2, a1, b1⟩ := kx E ce q u t T'.heap (locs ++ L) e1.symm (by rw [← e2]; exact X'.warmed.alike) hp hb k1 k2 k3 (by rw [e1]; exact hce) hcv hcl T' rfl X'
    exact ⟨t2, st.trans a1, b1⟩
theorem vx_callf {S SX : Type} {post : UInt32 → S → Prop} {px : SX → Prop} {B : S → State → Prop} {BX : String → SX → State → Prop} {AX : Nat → Prop} (hr : vx_Run p l e R s m args below meth c H locs cells slots mc ms (F0 m pc ls st0) rest (va_Qf post B A1 a) (vx_X px BX AX) free) (hS : va_S A0 H0 H locs) (hA : ∀ q, q < H.size → A1 q → A0 q) (hf : ∀ q, free q → A0 q) (hAX : ∀ q, q < H.size → AX q → A0 q)
    (kx : ∀ (E : String) (ce : Cell) (q9 : Addr) (u : SX) (t : State) (H1 : Heap) (locs1 : List Loc), t.heap = H1 → s.vm.Alike t.vm → px u → BX E u t → H.size ≤ H1.size → (∀ q : Nat, q < H.size → ¬ AX q → H1[q]? = H[q]?) → va_S A0 H0 H1 locs1 → H1[q9]? = some ce → ce.vm = .none → s.vm.findClass E = some ce.cls → vx_W p l e R s m args below meth c H1 locs1 (cells + mc) (slots + ms) Q (F0 m pc ls rest) q9)
    (kk : ∀ (r : UInt32) (u : S) (t : State) (H1 : Heap) (locs1 : List Loc), t.heap = H1 → s.vm.Alike t.vm → post r u → B u t → H.size ≤ H1.size → (∀ q : Nat, q < H.size → ¬ A1 q → H1[q]? = H[q]?) → va_S A0 H0 H1 locs1 → W p l e R s m args below meth c H1 locs1 (cells + mc) (slots + ms) Q (F0 m (pc + 3) ls (.float r :: rest))) : W p l e R s m args below meth c H locs cells slots Q (F0 m pc ls st0) := by
  intro T hT X
  rcases hr T hT X with ⟨v, st₀, t, T', L, h0, X', hL, e1, e2, ⟨⟨r, u, hv, hp, hb⟩, hF⟩, st⟩ | ⟨q, st₀, t, T', L, E, ce, h0, X', hL, e1, e2, ⟨u, hp, hb, hF⟩, hce, hcv, hcl, st⟩
  · cases hv
    obtain ⟨k1, k2, k3⟩ := vx_keep h0 e1 hS hA hf hL hF
    obtain ⟨t2, a1, b1⟩ := kk r u t T'.heap (locs ++ L) e1.symm (by rw [← e2]; exact X'.warmed.alike) hp hb k1 k2 k3 T' rfl X'
    exact ⟨t2, st t2 a1, b1⟩
  · obtain ⟨k1, k2, k3⟩ := vx_keep h0 e1 hS hAX hf hL hF
    obtain ⟨t2, a1, b1⟩ := kx E ce q u t T'.heap (locs ++ L) e1.symm (by rw [← e2]; exact X'.warmed.alike) hp hb k1 k2 k3 (by rw [e1]; exact hce) hcv hcl T' rfl X'
    exact ⟨t2, st.trans a1, b1⟩
theorem vx_calld {S SX : Type} {post : UInt64 → S → Prop} {px : SX → Prop} {B : S → State → Prop} {BX : String → SX → State → Prop} {AX : Nat → Prop} (hr : vx_Run p l e R s m args below meth c H locs cells slots mc ms (F0 m pc ls st0) rest (va_Qd post B A1 a) (vx_X px BX AX) free) (hS : va_S A0 H0 H locs) (hA : ∀ q, q < H.size → A1 q → A0 q) (hf : ∀ q, free q → A0 q) (hAX : ∀ q, q < H.size → AX q → A0 q)
    (kx : ∀ (E : String) (ce : Cell) (q9 : Addr) (u : SX) (t : State) (H1 : Heap) (locs1 : List Loc), t.heap = H1 → s.vm.Alike t.vm → px u → BX E u t → H.size ≤ H1.size → (∀ q : Nat, q < H.size → ¬ AX q → H1[q]? = H[q]?) → va_S A0 H0 H1 locs1 → H1[q9]? = some ce → ce.vm = .none → s.vm.findClass E = some ce.cls → vx_W p l e R s m args below meth c H1 locs1 (cells + mc) (slots + ms) Q (F0 m pc ls rest) q9)
    (kk : ∀ (r : UInt64) (u : S) (t : State) (H1 : Heap) (locs1 : List Loc), t.heap = H1 → s.vm.Alike t.vm → post r u → B u t → H.size ≤ H1.size → (∀ q : Nat, q < H.size → ¬ A1 q → H1[q]? = H[q]?) → va_S A0 H0 H1 locs1 → W p l e R s m args below meth c H1 locs1 (cells + mc) (slots + ms) Q (F0 m (pc + 3) ls (.double r :: rest))) : W p l e R s m args below meth c H locs cells slots Q (F0 m pc ls st0) := by
  intro T hT X
  rcases hr T hT X with ⟨v, st₀, t, T', L, h0, X', hL, e1, e2, ⟨⟨r, u, hv, hp, hb⟩, hF⟩, st⟩ | ⟨q, st₀, t, T', L, E, ce, h0, X', hL, e1, e2, ⟨u, hp, hb, hF⟩, hce, hcv, hcl, st⟩
  · cases hv
    obtain ⟨k1, k2, k3⟩ := vx_keep h0 e1 hS hA hf hL hF
    obtain ⟨t2, a1, b1⟩ := kk r u t T'.heap (locs ++ L) e1.symm (by rw [← e2]; exact X'.warmed.alike) hp hb k1 k2 k3 T' rfl X'
    exact ⟨t2, st t2 a1, b1⟩
  · obtain ⟨k1, k2, k3⟩ := vx_keep h0 e1 hS hAX hf hL hF
    obtain ⟨t2, a1, b1⟩ := kx E ce q u t T'.heap (locs ++ L) e1.symm (by rw [← e2]; exact X'.warmed.alike) hp hb k1 k2 k3 (by rw [e1]; exact hce) hcv hcl T' rfl X'
    exact ⟨t2, st.trans a1, b1⟩
theorem vx_callv {S SX : Type} {post : S → Prop} {px : SX → Prop} {B : S → State → Prop} {BX : String → SX → State → Prop} {AX : Nat → Prop} (hr : vx_Run p l e R s m args below meth c H locs cells slots mc ms (F0 m pc ls st0) rest (va_Qv post B A1 a) (vx_X px BX AX) free) (hS : va_S A0 H0 H locs) (hA : ∀ q, q < H.size → A1 q → A0 q) (hf : ∀ q, free q → A0 q) (hAX : ∀ q, q < H.size → AX q → A0 q)
    (kx : ∀ (E : String) (ce : Cell) (q9 : Addr) (u : SX) (t : State) (H1 : Heap) (locs1 : List Loc), t.heap = H1 → s.vm.Alike t.vm → px u → BX E u t → H.size ≤ H1.size → (∀ q : Nat, q < H.size → ¬ AX q → H1[q]? = H[q]?) → va_S A0 H0 H1 locs1 → H1[q9]? = some ce → ce.vm = .none → s.vm.findClass E = some ce.cls → vx_W p l e R s m args below meth c H1 locs1 (cells + mc) (slots + ms) Q (F0 m pc ls rest) q9)
    (kk : ∀ (u : S) (t : State) (H1 : Heap) (locs1 : List Loc), t.heap = H1 → s.vm.Alike t.vm → post u → B u t → H.size ≤ H1.size → (∀ q : Nat, q < H.size → ¬ A1 q → H1[q]? = H[q]?) → va_S A0 H0 H1 locs1 → W p l e R s m args below meth c H1 locs1 (cells + mc) (slots + ms) Q (F0 m (pc + 3) ls (rest))) : W p l e R s m args below meth c H locs cells slots Q (F0 m pc ls st0) := by
  intro T hT X
  rcases hr T hT X with ⟨v, st₀, t, T', L, h0, X', hL, e1, e2, ⟨⟨u, hv, hp, hb⟩, hF⟩, st⟩ | ⟨q, st₀, t, T', L, E, ce, h0, X', hL, e1, e2, ⟨u, hp, hb, hF⟩, hce, hcv, hcl, st⟩
  · cases hv
    obtain ⟨k1, k2, k3⟩ := vx_keep h0 e1 hS hA hf hL hF
    obtain ⟨t2, a1, b1⟩ := kk u t T'.heap (locs ++ L) e1.symm (by rw [← e2]; exact X'.warmed.alike) hp hb k1 k2 k3 T' rfl X'
    exact ⟨t2, st t2 a1, b1⟩
  · obtain ⟨k1, k2, k3⟩ := vx_keep h0 e1 hS hAX hf hL hF
    obtain ⟨t2, a1, b1⟩ := kx E ce q u t T'.heap (locs ++ L) e1.symm (by rw [← e2]; exact X'.warmed.alike) hp hb k1 k2 k3 (by rw [e1]; exact hce) hcv hcl T' rfl X'
    exact ⟨t2, st.trans a1, b1⟩
/-- caught by the row x of this method's table; the rows ahead don't take it -/
theorem vx_catch {own name : String} {E : String} {ce : Cell} {q : Addr} (hown : s.vm.findClass own = some m.cls) (pre : List ExceptionTableEntry) (x : ExceptionTableEntry) (suf : List ExceptionTableEntry) (hsplit : c.exceptionTable.toList = pre ++ x :: suf)
    (hpass : ∀ z ∈ pre, covers z pc = false ∨ (z.catchType ≠ 0 ∧ ∃ nm : String, (Cond.classLink own z.catchType nm).before args s = true ∧ va_Nc E nm s)) (hx : covers x pc = true) (h0 : x.catchType ≠ 0)
    (hlink : (Cond.classLink own x.catchType name).before args s = true) (hcast : (Cond.castable E name).before args s = true) (hcell : H[q]? = some ce) (hv : ce.vm = .none) (hcl : s.vm.findClass E = some ce.cls)
    (kk : W p l e R s m args below meth c H locs cells slots Q (F0 m x.handlerPc ls [.ref q])) : vx_W p l e R s m args below meth c H locs cells slots Q (F0 m pc ls rest) q := by
  intro T hT X
  have hpl : e.platform.magicAccessors = ({} : Platform).magicAccessors := by rw [X.admits.platform]
  obtain ⟨c3, c4, hc3, hc4, hasg⟩ := Cond.castable_spec hcast
  cases Option.some.inj (hc3.symm.trans hcl)
  obtain ⟨c5, hc5, hcl5⟩ := Cond.classLink_spec hown hlink e.platform hpl
  cases Option.some.inj (hc4.symm.trans hc5)
  obtain ⟨vm', X', st⟩ := X.thenCaughtThrough q (g := F0 m pc ls rest) rfl (Steps.refl _) (by rw [hT]; exact hcell) (by rw [hv]; rfl) (by obtain ⟨k9, h9, -⟩ := Vm.findClass_spec hcl; exact ⟨k9, h9⟩) pre x suf hsplit
    (fun z hz => by
      rcases hpass z hz with h | ⟨hz0, nm, hl1, hn1⟩
      · exact Or.inl h
      · obtain ⟨c6, hc6, hcl6⟩ := Cond.classLink_spec hown hl1 e.platform hpl
        obtain ⟨a8, b8, h1, h2, h3⟩ := hn1
        cases Option.some.inj (h1.symm.trans hcl)
        cases Option.some.inj (h2.symm.trans hc6)
        exact Or.inr ⟨hz0, _, hcl6, h3⟩) hx (Or.inr ⟨h0, c4, hcl5, hasg⟩)
  obtain ⟨t, a1, b1⟩ := kk (T.setVm vm') hT X'
  exact ⟨t, st.trans a1, b1⟩
end Rows
section Ends
variable {p : Program} {l : Launch} {e : Env} {R : Room} {s : State} {m : MethodId} {args : Array Value} {below : List Frame} {meth : Method} {c : Code} {H : Heap} {locs : List Loc} {cells slots : Nat} {Q : State → Prop}
variable {mc ms : Nat} {free : Addr → Prop} {A0 A1 : Nat → Prop} {H0 : Heap} {a : Array Value} {ls : Array Slot} {st0 rest : List Value}
variable {Qc : Array Value → State → Outcome → State → Prop} {XC : String → State → State → Prop}
/-- what a body that may throw owes at its end -/
def vx_MQ (below : List Frame) (Qc : Array Value → State → Outcome → State → Prop) (XC : String → State → State → Prop) (a : Array Value) (s : State) (mc ms : Nat) (free : Addr → Prop) : State → Prop := fun t =>
  ∃ o, t.status = .running ∧ Ended t below o ∧ vx_Q Qc XC mc ms free a s o t
theorem vx_ret {g : JFrame} {mc ms : Nat} (k : W p l e R s m args below meth c H locs cells slots (MQ below Qc args s mc ms free) g) : W p l e R s m args below meth c H locs cells slots (vx_MQ below Qc XC args s mc ms free) g := by
  intro T hT X
  obtain ⟨t, a1, o, b1, b2, b3, b4⟩ := k T hT X
  exact ⟨t, a1, o, b1, b2, Or.inl ⟨b3, b4⟩⟩
/-- not caught here: it goes on to the caller -/
theorem vx_widen {g : JFrame} {q : Addr} {k n : Nat} (h1 : cells ≤ k) (h2 : slots ≤ n) (kk : vx_W p l e R s m args below meth c H locs k n Q g q) : vx_W p l e R s m args below meth c H locs cells slots Q g q := fun T hT X => kk T hT (stand_widen X h1 h2)
theorem vx_out {pc : Nat} {E : String} {ce : Cell} {q : Addr} {mc ms : Nat} (hout : ∀ x ∈ c.exceptionTable.toList, covers x pc = false) (hlocks : meth.locks = false) (hcell : H[q]? = some ce) (hv : ce.vm = .none) (hcl : s.vm.findClass E = some ce.cls)
    (hx : ∀ t : State, t.heap = H → s.vm.Alike t.vm → XC E s t) (hf : ∀ z ∈ locs, free z.base) (hc : cells ≤ mc) (hs : slots ≤ ms) :
    vx_W p l e R s m args below meth c H locs cells slots (vx_MQ below Qc XC args s mc ms free) (F0 m pc ls rest) q := by
  intro T hT X
  obtain ⟨st1, hrun, hend, hW, hsm⟩ := X.leaveThrown q (g := F0 m pc ls rest) rfl rfl rfl hout hlocks
  have hcell9 : (T.setFrames (.throwing q :: below)).heap[q]? = some ce := by
    show T.heap[q]? = some ce
    rw [hT]; exact hcell
  exact ⟨_, st1, .threw q, hrun, hend, Or.inr ⟨q, rfl, E, ce, locs, hx _ hT hW.alike, hcell9, hv, hcl, hW, hsm.mono hc hs, hf⟩⟩
theorem vx_frame {U : State} {k n : Nat} (h : s.sameButNew ({ U with vm := s.vm } : State) locs k n) : s.heap.size ≤ U.heap.size ∧ ∀ q : Nat, q < s.heap.size → (∀ z ∈ locs, z.base ≠ q) → U.heap[q]? = s.heap[q]? := by
  obtain ⟨-, h2, -, -, -, h6⟩ := h
  refine ⟨h2, fun q hq hz => ?_⟩
  obtain ⟨c9, e1, e2, e3, e4⟩ := h6 q _ (Array.getElem?_eq_getElem hq)
  have hs : c9.slots = (s.heap[q]).slots := Array.ext_getElem? fun i => e4 i fun hm => hz _ hm rfl
  have h9 : c9 = s.heap[q] := by
    rw [hs] at e2
    exact e2
  have e5 : U.heap[q]? = some c9 := e1
  rw [e5, h9, Array.getElem?_eq_getElem hq]
/-- the words of a throw but the four that speak of the heap -/
def vx_no (w : Cond) : Bool := decide (w ≠ .isRef (.static Bundle.tN "UNASSIGNED_STACK" Bundle.steD)) && decide (w ≠ .isRef (.static Bundle.tN "SUPPRESSED_SENTINEL" Bundle.listD)) && decide (w ≠ .laysStatic Bundle.tN "UNASSIGNED_STACK" Bundle.steD) && decide (w ≠ .laysStatic Bundle.tN "SUPPRESSED_SENTINEL" Bundle.listD)
def vx_at0 (own : String) (ic : Nat) (X : String) (names : List String) : List Cond := (Bundle.ownAtoms0 own ic X names).filter vx_no
def vx_atS (own : String) (ic : Nat) (X : String) (names : List String) : List Cond := (Bundle.ownAtoms own ic X names).filter vx_no
/-- a word that the tables alone decide, or a good one -/
def vx_ot (w : Cond) : Bool := w.onTables || goodWord w
theorem vx_ot_at {args a' : Array Value} {s U : State} {w : Cond} (hW : s.WarmedH U.vm) (hvm : s.vm = U.vm) (hg : vx_ot w = true) (h : w.before args s = true) : w.before a' U = true := by
  simp only [vx_ot, Bool.or_eq_true] at hg
  rcases hg with hg | hg
  · exact va_tabs hg hvm h
  · exact word_at hW (good_of_word hg) h
/-- a list's words: the good ones out of the method's own list, the others by premises of their own -/
theorem vx_hat {args : Array Value} {s : State} {L B : List Cond} (h1 : ∀ w ∈ L.filter goodWord, w.before args s = true) (h2 : ∀ w ∈ L.filter (fun w => !goodWord w), w ∈ B) (h3 : ∀ w ∈ B, w.before args s = true) : ∀ w ∈ L, w.before args s = true := by
  intro w hw
  by_cases g : goodWord w = true
  · exact h1 w (List.mem_filter.mpr ⟨hw, g⟩)
  · refine h3 w (h2 w (List.mem_filter.mpr ⟨hw, ?_⟩))
    show (!goodWord w) = true
    cases hgw : goodWord w
    · rfl
    · exact absurd hgw g
theorem vx_c {args : Array Value} {s : State} {w : Cond} {B : List Cond} (h : w.before args s = true) (t : ∀ w ∈ B, w.before args s = true) : ∀ w' ∈ w :: B, w'.before args s = true := fun w' h' => (List.mem_cons.mp h').elim (fun e => by rw [e]; exact h) (t w')
theorem vx_n {args : Array Value} {s : State} : ∀ w ∈ ([] : List Cond), w.before args s = true := fun _ h => nomatch h
theorem vx_own {args : Array Value} {s : State} {L : List Cond} (h1 : ∀ w ∈ L.filter vx_no, w.before args s = true)
    (hU : (Cond.isRef (.static Bundle.tN "UNASSIGNED_STACK" Bundle.steD)).before args s = true) (hN : (Cond.isRef (.static Bundle.tN "SUPPRESSED_SENTINEL" Bundle.listD)).before args s = true)
    (lU : (Cond.laysStatic Bundle.tN "UNASSIGNED_STACK" Bundle.steD).before args s = true) (lN : (Cond.laysStatic Bundle.tN "SUPPRESSED_SENTINEL" Bundle.listD).before args s = true) : ∀ w ∈ L, w.before args s = true := by
  intro w hw
  by_cases e1 : w = .isRef (.static Bundle.tN "UNASSIGNED_STACK" Bundle.steD)
  · rw [e1]; exact hU
  · by_cases e2 : w = .isRef (.static Bundle.tN "SUPPRESSED_SENTINEL" Bundle.listD)
    · rw [e2]; exact hN
    · by_cases e3 : w = .laysStatic Bundle.tN "UNASSIGNED_STACK" Bundle.steD
      · rw [e3]; exact lU
      · by_cases e4 : w = .laysStatic Bundle.tN "SUPPRESSED_SENTINEL" Bundle.listD
        · rw [e4]; exact lN
        · exact h1 w (List.mem_filter.mpr ⟨hw, by unfold vx_no; rw [decide_eq_true e1, decide_eq_true e2, decide_eq_true e3, decide_eq_true e4]; rfl⟩)
/-- where a static field lies, its class's statics cell in H -/
def vx_L (C n d : String) (A : Nat → Prop) (U : State) (H : Heap) : Prop := ∃ (c : ClassId) (k : Class) (i : Nat) (f : Field) (a : Nat) (cell : Cell), U.vm.findClass C = some c ∧ U.fieldFound? C n d = some (c, k, i, f) ∧ f.isStatic = true ∧ k.statics = some a ∧ H[a]? = some cell ∧ cell.vm.isStatics = true ∧ cell.cls = c ∧ f.slot < cell.slots.size ∧ k.staticTypes[f.slot]? = some f.type ∧ ¬ A a
theorem vx_L.moved {C n d : String} {A : Nat → Prop} {u U : State} {H : Heap} (hvm : u.vm.Alike U.vm) (h : vx_L C n d A u H) : vx_L C n d A U H := by
  obtain ⟨c, k, i, f, a, cell, h1, h2, h3, h4, h5, h6, h7, h8, h9, h10⟩ := h
  obtain ⟨k', hi', he⟩ := State.fieldFound?_setVm hvm h2
  exact ⟨c, k', i, f, a, cell, by rw [hvm.findClass]; exact h1, hi', h3, by rw [he]; exact h4, h5, h6, h7, h8, by rw [he]; exact h9, h10⟩
theorem vx_L.kept {C n d : String} {A : Nat → Prop} {U : State} {H H1 : Heap} (h : vx_L C n d A U H) (hq : ∀ a : Nat, a < H.size → ¬ A a → H1[a]? = H[a]?) : vx_L C n d A U H1 := by
  obtain ⟨c, k, i, f, a, cell, h1, h2, h3, h4, h5, h6, h7, h8, h9, h10⟩ := h
  exact ⟨c, k, i, f, a, cell, h1, h2, h3, h4, by rw [hq a (Array.getElem?_eq_some_iff.mp h5).1 h10]; exact h5, h6, h7, h8, h9, h10⟩
theorem vx_L.narrow {C n d : String} {A B : Nat → Prop} {U : State} {H : Heap} (h : vx_L C n d A U H) (hAB : ∀ q, B q → A q) : vx_L C n d B U H := by
  obtain ⟨c, k, i, f, a, cell, h1, h2, h3, h4, h5, h6, h7, h8, h9, h10⟩ := h
  exact ⟨c, k, i, f, a, cell, h1, h2, h3, h4, h5, h6, h7, h8, h9, fun z => h10 (hAB _ z)⟩
theorem vx_L.word {C n d : String} {A : Nat → Prop} {s : State} {args : Array Value} (h : vx_L C n d A s s.heap) : (Cond.laysStatic C n d).before args s = true := by
  obtain ⟨c, k, i, f, a, cell, h1, h2, h3, h4, h5, h6, h7, h8, h9, -⟩ := h
  show (Cond.laysStatic C n d).holds args s none s [] = true
  exact Cond.laysStatic_of h1 h2 h3 h4 h5 h6 h7 h8 h9
/-- .. and what it holds: null or some reference -/
def vx_Zq (C n d : String) (A : Nat → Prop) (U : State) (H : Heap) : Prop := va_Zq C n d A U H ∧ vx_L C n d A U H
theorem vx_Zq.moved {C n d : String} {A : Nat → Prop} {u U : State} {H : Heap} (hvm : u.vm.Alike U.vm) (h : vx_Zq C n d A u H) : vx_Zq C n d A U H := ⟨va_Zq.moved hvm h.1, vx_L.moved hvm h.2⟩
theorem vx_Zq.kept {C n d : String} {A : Nat → Prop} {U : State} {H H1 : Heap} (h : vx_Zq C n d A U H) (hq : ∀ a : Nat, a < H.size → ¬ A a → H1[a]? = H[a]?) : vx_Zq C n d A U H1 := ⟨va_Zq.kept h.1 hq, vx_L.kept h.2 hq⟩
theorem vx_Zq.narrow {C n d : String} {A B : Nat → Prop} {U : State} {H : Heap} (h : vx_Zq C n d A U H) (hAB : ∀ q, B q → A q) : vx_Zq C n d B U H := ⟨va_Zq.narrow h.1 hAB, vx_L.narrow h.2 hAB⟩
theorem vx_Zqof {args : Array Value} {s : State} {C n d : String} {A : Nat → Prop} (hl : (Cond.laysStatic C n d).before args s = true) (hini : (Cond.initialized C).before args s = true) (h : (Cond.isRef (.static C n d)).before args s = true) (hA : ∀ a : Nat, a < s.heap.size → ¬ A a) : vx_Zq C n d A s s.heap := by
  refine ⟨va_Zqof hl hini h hA, ?_⟩
  obtain ⟨c, k, i, f, a, cell, h1, h2, h3, h4, h5, h6, h7, h8, h9⟩ := Cond.laysStatic_spec hl
  exact ⟨c, k, i, f, a, cell, h1, h2, h3, h4, h5, h6, h7, h8, h9, hA a (Array.getElem?_eq_some_iff.mp h5).1⟩
theorem vx_isRef {C n d : String} {v : Value} {A : Nat → Prop} {s : State} {args : Array Value} (h : va_Z C n d v A s s.heap) (hv : v.isRef = true) : (Cond.isRef (.static C n d)).before args s = true := by
  obtain ⟨cf, kf, fi, f, a, cell, h1, h2, h3, h4, h5, h6, h7, -⟩ := h
  have he : (Term.static C n d).eval args s none [] s = some v := by
    simp [Term.eval, State.fieldNamed?, h1, h2, h4, h5, h6, h7]
  simp only [Cond.before, Cond.holds, Cond.value, he]
  cases v <;> simp_all [Value.isRef]
theorem vx_isRefq {C n d : String} {A : Nat → Prop} {s : State} {args : Array Value} (h : va_Zq C n d A s s.heap) : (Cond.isRef (.static C n d)).before args s = true := by
  rcases h with h | ⟨t, h⟩
  · exact vx_isRef h rfl
  · exact vx_isRef h rfl
/-- the same frame, seen from here: as if the method were called anew in this heap -/
theorem vx_rebase {T : State} (X : Stand p l e R s m args below meth c T locs cells slots) {R' : Room} (hf : R'.frames ≤ R.frames) (hl : R'.locals ≤ R.locals) (hc : cells + R'.cells ≤ R.cells) (hs : slots + R'.slots ≤ R.slots) :
    Stand p l e R' ((T.setVm s.vm).setFrames (.invoking m args :: below)) m args below meth c T [] 0 0 := by
  have htop : (T.setVm s.vm).topJava?.isSome := X.here.top
  have hF : ((T.setVm s.vm).setFrames (.invoking m args :: below)).frames = .invoking m args :: below := State.frames_setFrames _ (State.cur_lt_of_top htop)
  obtain ⟨g₀, hg0⟩ := Option.isSome_iff_exists.mp htop
  obtain ⟨r, hr⟩ := State.topJava?_eq_some.mp hg0
  have hl9 : e.platform.stackLimits (T.setVm s.vm).me = e.platform.stackLimits s.me := X.limits
  have hb9 : (T.setVm s.vm).me.stackBytes = s.me.stackBytes := X.bytes
  refine ⟨X.admits, X.cas, X.clock, hF, ?_, X.hears, X.method, X.code, X.here, X.tail, X.warmed, ?_, ?_, ?_⟩
  · have h := X.room
    have hU : ((T.setVm s.vm).setFrames (.invoking m args :: below)).localsInUse = s.localsInUse := by
      rw [State.localsInUse_invoking hF (meth := meth) (c := c) X.method X.code, State.localsInUse_invoking X.frames X.method X.code]
    simp only [State.hasRoom, Bool.and_eq_true, decide_eq_true_eq] at h ⊢
    obtain ⟨⟨⟨⟨h1, h2, h3, h4, h5, h6⟩, h7⟩, h8⟩, h9⟩ := h
    rw [X.frames, List.length_cons] at h2 h3
    have q1 := X.heapSize
    have q2 := X.used
    simp only [hF, hU, List.length_cons, State.stackLimits_setFrames, State.stackBytes_setFrames, hl9, hb9]
    refine ⟨⟨⟨⟨by omega, by omega, by omega, by omega, by omega, h6⟩, ?_⟩, ?_⟩, X.book⟩
    · show T.heap.size + R'.cells ≤ e.platform.maxCells
      omega
    · show T.slotsUsed + R'.slots ≤ e.platform.maxSlots
      omega
  · rw [State.stackLimits_setFrames]; rfl
  · rw [State.stackBytes_setFrames]; rfl
  · refine ⟨?_, Nat.le_refl _, Nat.le_refl _, ?_, ?_, fun a c9 h9 => ⟨c9, h9, rfl, rfl, fun _ _ => rfl⟩⟩
    · obtain ⟨t, ht, -⟩ := State.frames_cons hr
      show T.setVm s.vm = { ((T.setVm s.vm).setFrames (.invoking m args :: below)).setFrames (T.setVm s.vm).frames with heap := T.heap, slotsUsed := T.slotsUsed }
      rw [State.setFrames_setFrames, State.setFrames_self ht]
      rfl
    · show T.slotsUsed = T.slotsUsed + ((T.heap.toList.drop T.heap.size).map (·.slots.size)).sum
      rw [List.drop_eq_nil_of_le (Nat.le_of_eq Array.length_toList)]
      rfl
    · show ((T.heap.toList.drop T.heap.size).map (·.slots.size)).sum ≤ 0
      rw [List.drop_eq_nil_of_le (Nat.le_of_eq Array.length_toList)]
      exact Nat.le_refl _
/-- 'throw new E()': new; dup; invokespecial; athrow -/
theorem vx_throw0 {cc : ByteArray} {pc : Nat} (hexec : p.tables.exec = Jvm.exec) (hb : c.code = cc) (hl : l.stackTraces = false) {own cls : String} {names : List String} {ik ic mc ms : Nat} {A : Nat → Prop}
    (hown : s.vm.findClass own = some m.cls) (hcls : Bundle.fit cls = true) (hnames : ∀ n ∈ names, Bundle.fit n = true)
    (hk : (Cond.classLink own ik cls).before args s = true) (hini : (Cond.initialized cls).before args s = true) (hat : ∀ w ∈ vx_at0 own ic cls names, w.before args s = true)
    (hgood : ∀ w ∈ Cond.classLink own ik cls :: Cond.initialized cls :: vx_at0 own ic cls names, vx_ot w = true)
    (hU : vx_Zq Bundle.tN "UNASSIGNED_STACK" Bundle.steD A s s.heap) (hN : vx_Zq Bundle.tN "SUPPRESSED_SENTINEL" Bundle.listD A s s.heap) (hS : va_S A s.heap H locs) (hsize : ls.size = c.maxLocals)
    (d0 : decode cc pc = .ok (.new ik, 3)) (d3 : decode cc (pc + 3) = .ok (.dup, 1)) (d4 : decode cc (pc + 4) = .ok (.invokespecial ic, 3)) (d7 : decode cc (pc + 7) = .ok (.athrow, 1))
    (hout : ∀ x ∈ c.exceptionTable.toList, covers x (pc + 7) = false)
    (hRframes : names.length + 3 < R.frames) (hRlocals : (rest.map fun v => v.category).sum + (13 * (names.length + 1) + 42) ≤ R.locals) (hRcells : cells + 1 ≤ R.cells) (hRslots : slots + 6 ≤ R.slots) (hlocks : meth.locks = false)
    (hx : ∀ t : State, s.vm.Alike t.vm → H.size ≤ t.heap.size → (∀ q : Nat, q < H.size → t.heap[q]? = H[q]?) → XC cls s t)
    (hf : ∀ z ∈ locs, free z.base) (hc : cells + 1 ≤ mc) (hs : slots + 6 ≤ ms) :
    W p l e R s m args below meth c H locs cells slots (vx_MQ below Qc XC args s mc ms free) (F0 m pc ls rest) := by
  intro T hT X
  have htr : e.platform.stackTraces = false := (show e.platform.stackTraces = l.stackTraces by rw [X.admits.platform]).trans hl
  have Y := vx_rebase X (R' := { frames := R.frames, locals := R.locals, cells := 1, slots := 6 }) (Nat.le_refl _) (Nat.le_refl _) hRcells hRslots
  obtain ⟨s', hA⟩ : ∃ z, z = (T.setVm s.vm).setFrames (.invoking m args :: below) := ⟨_, rfl⟩
  rw [← hA] at Y
  have hvm : s'.vm = s.vm := by rw [hA]; rfl
  have hhp : s'.heap = H := by rw [hA]; exact hT
  have hW0 : s.WarmedH s'.vm := by rw [hvm]; exact State.WarmedH.refl s
  have hat' : ∀ w ∈ vx_at0 own ic cls names, w.before args s' = true := fun w hw => vx_ot_at hW0 hvm.symm (hgood w (List.mem_cons_of_mem _ (List.mem_cons_of_mem _ hw))) (hat w hw)
  have hk' : (Cond.classLink own ik cls).before args s' = true := vx_ot_at hW0 hvm.symm (hgood _ List.mem_cons_self) hk
  have hini' : (Cond.initialized cls).before args s' = true := vx_ot_at hW0 hvm.symm (hgood _ (List.mem_cons_of_mem _ List.mem_cons_self)) hini
  have hU' : vx_Zq Bundle.tN "UNASSIGNED_STACK" Bundle.steD A s' s'.heap := by rw [hhp]; exact vx_Zq.moved hW0.alike (hU.kept hS.2.1)
  have hN' : vx_Zq Bundle.tN "SUPPRESSED_SENTINEL" Bundle.listD A s' s'.heap := by rw [hhp]; exact vx_Zq.moved hW0.alike (hN.kept hS.2.1)
  have h : ∀ w ∈ Bundle.ownAtoms0 own ic cls names, w.before args s' = true := vx_own hat' (vx_isRefq hU'.1) (vx_isRefq hN'.1) hU'.2.word hN'.2.word
  have hown' : s'.vm.findClass own = some m.cls := by rw [hvm]; exact hown
  have hins : (Cond.instantiable cls 6).before args s' = true := h _ (by simp [Bundle.ownAtoms0])
  obtain ⟨vm₁, cX, kX, hfX, hkX, -, -, X₁, st1⟩ := Y.newCold hexec (own := own) (C := cls) (index := ik) (n := 6) hown' hk' hins hini'
    (g := F0 m pc ls rest) rfl (by rw [hb]; exact d0) (Nat.le_refl _) (Nat.le_refl _)
  generalize hT1 : (T.setVm vm₁).pushCell { cls := cX, slots := kX.instanceTypes.map defaultValue, vm := .none } = T1 at X₁ st1
  have hcat : (Value.ref T.heap.size).category = 1 := rfl
  have hcellA : T1.heap[T.heap.size]? = some (freshCell cX kX) := by rw [← hT1]; exact State.heap_pushCell_size _ _
  have d3' : decode c.code (pc + 3) = .ok (.dup, 1) := by rw [hb]; exact d3
  obtain ⟨U, hsteps, hrun, hend, hW, hsame, ce, hce, hO⟩ := X₁.ctorThrow0 hexec htr (own := own) (cls := cls) (names := names) (ic := ic) hown' hcls hnames h (fun x hx => nomatch hx) hfX hkX hcellA (by rw [hhp, hT]; exact Nat.le_refl _)
    (g := { method := m, pc := pc + 4, locals := ls, stack := .ref T.heap.size :: .ref T.heap.size :: rest, locked := none }) rfl hsize rfl rfl (rest := rest) rfl
    (by rw [hb]; exact d4) (by rw [hb]; exact d7) hout hRframes (by simp only [List.map_cons, List.sum_cons, hcat]; omega) hlocks
  obtain ⟨f1, f2⟩ := vx_frame hsame
  rw [hhp] at f1 f2
  have hWs : s.WarmedH U.vm := State.WarmedH.trans hW0 hW
  have hcl : s.vm.findClass cls = some ce.cls := by
    have h9 := hO.cls
    rw [hvm] at h9
    exact h9
  have hall : s.sameButNew ({ U with vm := s.vm } : State) locs mc ms := by
    subst hA
    obtain ⟨e1, e2⟩ := hsame
    rw [State.setFrames_setFrames] at e1
    have h2 : (T.setVm s.vm).sameButNew ({ U with vm := s.vm } : State) [] (0 + 1) (0 + 6) := ⟨e1, e2⟩
    have h3 := X.same.trans h2
    rw [List.append_nil] at h3
    exact h3.mono hc hs
  refine ⟨U, ?_, .threw T.heap.size, hrun, hend, Or.inr ⟨T.heap.size, rfl, cls, ce, locs, hx U hWs.alike f1 (fun q hq => f2 q hq (fun z hz => nomatch hz)), hce, hO.vm, hcl, hWs, hall, hf⟩⟩
  refine st1 _ ?_
  show Steps p.tables e below (T1.setTop { method := m, pc := pc + 3, locals := ls, stack := .ref T.heap.size :: rest, locked := none }) _
  jvm_step X₁.here [X₁.here.top, hexec, d3', Value.category]
  exact hsteps
/-- 'throw new E("text")': new; dup; ldc; invokespecial; athrow -/
theorem vx_throwS {cc : ByteArray} {pc : Nat} (hexec : p.tables.exec = Jvm.exec) (hb : c.code = cc) (hl : l.stackTraces = false) {own cls text : String} {names : List String} {ik is ic mc ms sa : Nat} {A : Nat → Prop}
    (hown : s.vm.findClass own = some m.cls) (hcls : Bundle.fit cls = true) (hnames : ∀ n ∈ names, Bundle.fit n = true)
    (hk : (Cond.classLink own ik cls).before args s = true) (hini : (Cond.initialized cls).before args s = true) (hstr : vk_R own is text sa s) (hat : ∀ w ∈ vx_atS own ic cls names, w.before args s = true)
    (hgood : ∀ w ∈ Cond.classLink own ik cls :: Cond.initialized cls :: vx_atS own ic cls names, vx_ot w = true)
    (hU : vx_Zq Bundle.tN "UNASSIGNED_STACK" Bundle.steD A s s.heap) (hN : vx_Zq Bundle.tN "SUPPRESSED_SENTINEL" Bundle.listD A s s.heap) (hS : va_S A s.heap H locs) (hsize : ls.size = c.maxLocals)
    (d0 : decode cc pc = .ok (.new ik, 3)) (d3 : decode cc (pc + 3) = .ok (.dup, 1)) (d4 : decode cc (pc + 4) = .ok (.ldc is, 2)) (d6 : decode cc (pc + 6) = .ok (.invokespecial ic, 3)) (d9 : decode cc (pc + 9) = .ok (.athrow, 1))
    (hout : ∀ x ∈ c.exceptionTable.toList, covers x (pc + 9) = false)
    (hRframes : names.length + 3 < R.frames) (hRlocals : (rest.map fun v => v.category).sum + (13 * (names.length + 1) + 43) ≤ R.locals) (hRcells : cells + 1 ≤ R.cells) (hRslots : slots + 6 ≤ R.slots) (hlocks : meth.locks = false)
    (hx : ∀ t : State, s.vm.Alike t.vm → H.size ≤ t.heap.size → (∀ q : Nat, q < H.size → t.heap[q]? = H[q]?) → XC cls s t)
    (hf : ∀ z ∈ locs, free z.base) (hc : cells + 1 ≤ mc) (hs : slots + 6 ≤ ms) :
    W p l e R s m args below meth c H locs cells slots (vx_MQ below Qc XC args s mc ms free) (F0 m pc ls rest) := by
  intro T hT X
  have htr : e.platform.stackTraces = false := (show e.platform.stackTraces = l.stackTraces by rw [X.admits.platform]).trans hl
  have Y := vx_rebase X (R' := { frames := R.frames, locals := R.locals, cells := 1, slots := 6 }) (Nat.le_refl _) (Nat.le_refl _) hRcells hRslots
  obtain ⟨s', hA⟩ : ∃ z, z = (T.setVm s.vm).setFrames (.invoking m args :: below) := ⟨_, rfl⟩
  rw [← hA] at Y
  have hvm : s'.vm = s.vm := by rw [hA]; rfl
  have hhp : s'.heap = H := by rw [hA]; exact hT
  have hW0 : s.WarmedH s'.vm := by rw [hvm]; exact State.WarmedH.refl s
  have hat' : ∀ w ∈ vx_atS own ic cls names, w.before args s' = true := fun w hw => vx_ot_at hW0 hvm.symm (hgood w (List.mem_cons_of_mem _ (List.mem_cons_of_mem _ hw))) (hat w hw)
  have hk' : (Cond.classLink own ik cls).before args s' = true := vx_ot_at hW0 hvm.symm (hgood _ List.mem_cons_self) hk
  have hini' : (Cond.initialized cls).before args s' = true := vx_ot_at hW0 hvm.symm (hgood _ (List.mem_cons_of_mem _ List.mem_cons_self)) hini
  have hU' : vx_Zq Bundle.tN "UNASSIGNED_STACK" Bundle.steD A s' s'.heap := by rw [hhp]; exact vx_Zq.moved hW0.alike (hU.kept hS.2.1)
  have hN' : vx_Zq Bundle.tN "SUPPRESSED_SENTINEL" Bundle.listD A s' s'.heap := by rw [hhp]; exact vx_Zq.moved hW0.alike (hN.kept hS.2.1)
  have h : ∀ w ∈ Bundle.ownAtoms own ic cls names, w.before args s' = true := vx_own hat' (vx_isRefq hU'.1) (vx_isRefq hN'.1) hU'.2.word hN'.2.word
  have hown' : s'.vm.findClass own = some m.cls := by rw [hvm]; exact hown
  have hins : (Cond.instantiable cls 6).before args s' = true := h _ (by simp [Bundle.ownAtoms])
  obtain ⟨vm₁, cX, kX, hfX, hkX, -, -, X₁, st1⟩ := Y.newCold hexec (own := own) (C := cls) (index := ik) (n := 6) hown' hk' hins hini'
    (g := F0 m pc ls rest) rfl (by rw [hb]; exact d0) (Nat.le_refl _) (Nat.le_refl _)
  generalize hT1 : (T.setVm vm₁).pushCell { cls := cX, slots := kX.instanceTypes.map defaultValue, vm := .none } = T1 at X₁ st1
  have hcat : (Value.ref T.heap.size).category = 1 := rfl
  have hcellA : T1.heap[T.heap.size]? = some (freshCell cX kX) := by rw [← hT1]; exact State.heap_pushCell_size _ _
  have d3' : decode c.code (pc + 3) = .ok (.dup, 1) := by rw [hb]; exact d3
  have d4' : decode c.code (pc + 4) = .ok (.ldc is, 2) := by rw [hb]; exact d4
  have hstr' : vk_R own is text sa s' := vk_R.warm hW0 hstr
  obtain ⟨U, hsteps, hrun, hend, hW, hsame, ce, hce, hO⟩ := X₁.ctorThrowS hexec htr (own := own) (cls := cls) (names := names) (ic := ic) hown' hcls hnames h (fun x hx => nomatch hx) hfX hkX hcellA (by rw [hhp, hT]; exact Nat.le_refl _) (msg := .ref sa) rfl
    (g := { method := m, pc := pc + 6, locals := ls, stack := .ref sa :: .ref T.heap.size :: .ref T.heap.size :: rest, locked := none }) rfl hsize rfl rfl (rest := rest) rfl
    (by rw [hb]; exact d6) (by rw [hb]; exact d9) hout hRframes (by simp only [List.map_cons, List.sum_cons, hcat]; omega) hlocks
  obtain ⟨f1, f2⟩ := vx_frame hsame
  rw [hhp] at f1 f2
  have hWs : s.WarmedH U.vm := State.WarmedH.trans hW0 hW
  have hcl : s.vm.findClass cls = some ce.cls := by
    have h9 := hO.cls
    rw [hvm] at h9
    exact h9
  have hall : s.sameButNew ({ U with vm := s.vm } : State) locs mc ms := by
    subst hA
    obtain ⟨e1, e2⟩ := hsame
    rw [State.setFrames_setFrames] at e1
    have h2 : (T.setVm s.vm).sameButNew ({ U with vm := s.vm } : State) [] (0 + 1) (0 + 6) := ⟨e1, e2⟩
    have h3 := X.same.trans h2
    rw [List.append_nil] at h3
    exact h3.mono hc hs
  refine ⟨U, ?_, .threw T.heap.size, hrun, hend, Or.inr ⟨T.heap.size, rfl, cls, ce, locs, hx U hWs.alike f1 (fun q hq => f2 q hq (fun z hz => nomatch hz)), hce, hO.vm, hcl, hWs, hall, hf⟩⟩
  refine st1 _ ?_
  show Steps p.tables e below (T1.setTop { method := m, pc := pc + 3, locals := ls, stack := .ref T.heap.size :: rest, locked := none }) _
  jvm_step X₁.here [X₁.here.top, hexec, d3', Value.category]
  exact X₁.ldcString hexec (own := own) (text := text) (index := is) (a := sa) hown' hstr'.1 hstr'.2
    (g := { method := m, pc := pc + 4, locals := ls, stack := .ref T.heap.size :: .ref T.heap.size :: rest, locked := none }) rfl d4' _ hsteps
/-- 'throw new E("text")', the text by a wide index -/
theorem vx_throwSW {cc : ByteArray} {pc : Nat} (hexec : p.tables.exec = Jvm.exec) (hb : c.code = cc) (hl : l.stackTraces = false) {own cls text : String} {names : List String} {ik is ic mc ms sa : Nat} {A : Nat → Prop}
    (hown : s.vm.findClass own = some m.cls) (hcls : Bundle.fit cls = true) (hnames : ∀ n ∈ names, Bundle.fit n = true)
    (hk : (Cond.classLink own ik cls).before args s = true) (hini : (Cond.initialized cls).before args s = true) (hstr : vk_R own is text sa s) (hat : ∀ w ∈ vx_atS own ic cls names, w.before args s = true)
    (hgood : ∀ w ∈ Cond.classLink own ik cls :: Cond.initialized cls :: vx_atS own ic cls names, vx_ot w = true)
    (hU : vx_Zq Bundle.tN "UNASSIGNED_STACK" Bundle.steD A s s.heap) (hN : vx_Zq Bundle.tN "SUPPRESSED_SENTINEL" Bundle.listD A s s.heap) (hS : va_S A s.heap H locs) (hsize : ls.size = c.maxLocals)
    (d0 : decode cc pc = .ok (.new ik, 3)) (d3 : decode cc (pc + 3) = .ok (.dup, 1)) (d4 : decode cc (pc + 4) = .ok (.ldc_w is, 3)) (d7 : decode cc (pc + 7) = .ok (.invokespecial ic, 3)) (d10 : decode cc (pc + 10) = .ok (.athrow, 1))
    (hout : ∀ x ∈ c.exceptionTable.toList, covers x (pc + 10) = false)
    (hRframes : names.length + 3 < R.frames) (hRlocals : (rest.map fun v => v.category).sum + (13 * (names.length + 1) + 43) ≤ R.locals) (hRcells : cells + 1 ≤ R.cells) (hRslots : slots + 6 ≤ R.slots) (hlocks : meth.locks = false)
    (hx : ∀ t : State, s.vm.Alike t.vm → H.size ≤ t.heap.size → (∀ q : Nat, q < H.size → t.heap[q]? = H[q]?) → XC cls s t)
    (hf : ∀ z ∈ locs, free z.base) (hc : cells + 1 ≤ mc) (hs : slots + 6 ≤ ms) :
    W p l e R s m args below meth c H locs cells slots (vx_MQ below Qc XC args s mc ms free) (F0 m pc ls rest) := by
  intro T hT X
  have htr : e.platform.stackTraces = false := (show e.platform.stackTraces = l.stackTraces by rw [X.admits.platform]).trans hl
  have Y := vx_rebase X (R' := { frames := R.frames, locals := R.locals, cells := 1, slots := 6 }) (Nat.le_refl _) (Nat.le_refl _) hRcells hRslots
  obtain ⟨s', hA⟩ : ∃ z, z = (T.setVm s.vm).setFrames (.invoking m args :: below) := ⟨_, rfl⟩
  rw [← hA] at Y
  have hvm : s'.vm = s.vm := by rw [hA]; rfl
  have hhp : s'.heap = H := by rw [hA]; exact hT
  have hW0 : s.WarmedH s'.vm := by rw [hvm]; exact State.WarmedH.refl s
  have hat' : ∀ w ∈ vx_atS own ic cls names, w.before args s' = true := fun w hw => vx_ot_at hW0 hvm.symm (hgood w (List.mem_cons_of_mem _ (List.mem_cons_of_mem _ hw))) (hat w hw)
  have hk' : (Cond.classLink own ik cls).before args s' = true := vx_ot_at hW0 hvm.symm (hgood _ List.mem_cons_self) hk
  have hini' : (Cond.initialized cls).before args s' = true := vx_ot_at hW0 hvm.symm (hgood _ (List.mem_cons_of_mem _ List.mem_cons_self)) hini
  have hU' : vx_Zq Bundle.tN "UNASSIGNED_STACK" Bundle.steD A s' s'.heap := by rw [hhp]; exact vx_Zq.moved hW0.alike (hU.kept hS.2.1)
  have hN' : vx_Zq Bundle.tN "SUPPRESSED_SENTINEL" Bundle.listD A s' s'.heap := by rw [hhp]; exact vx_Zq.moved hW0.alike (hN.kept hS.2.1)
  have h : ∀ w ∈ Bundle.ownAtoms own ic cls names, w.before args s' = true := vx_own hat' (vx_isRefq hU'.1) (vx_isRefq hN'.1) hU'.2.word hN'.2.word
  have hown' : s'.vm.findClass own = some m.cls := by rw [hvm]; exact hown
  have hins : (Cond.instantiable cls 6).before args s' = true := h _ (by simp [Bundle.ownAtoms])
  obtain ⟨vm₁, cX, kX, hfX, hkX, -, -, X₁, st1⟩ := Y.newCold hexec (own := own) (C := cls) (index := ik) (n := 6) hown' hk' hins hini'
    (g := F0 m pc ls rest) rfl (by rw [hb]; exact d0) (Nat.le_refl _) (Nat.le_refl _)
  generalize hT1 : (T.setVm vm₁).pushCell { cls := cX, slots := kX.instanceTypes.map defaultValue, vm := .none } = T1 at X₁ st1
  have hcat : (Value.ref T.heap.size).category = 1 := rfl
  have hcellA : T1.heap[T.heap.size]? = some (freshCell cX kX) := by rw [← hT1]; exact State.heap_pushCell_size _ _
  have d3' : decode c.code (pc + 3) = .ok (.dup, 1) := by rw [hb]; exact d3
  have d4' : decode c.code (pc + 4) = .ok (.ldc_w is, 3) := by rw [hb]; exact d4
  have hstr' : vk_R own is text sa s' := vk_R.warm hW0 hstr
  obtain ⟨U, hsteps, hrun, hend, hW, hsame, ce, hce, hO⟩ := X₁.ctorThrowS hexec htr (own := own) (cls := cls) (names := names) (ic := ic) hown' hcls hnames h (fun x hx => nomatch hx) hfX hkX hcellA (by rw [hhp, hT]; exact Nat.le_refl _) (msg := .ref sa) rfl
    (g := { method := m, pc := pc + 7, locals := ls, stack := .ref sa :: .ref T.heap.size :: .ref T.heap.size :: rest, locked := none }) rfl hsize rfl rfl (rest := rest) rfl
    (by rw [hb]; exact d7) (by rw [hb]; exact d10) hout hRframes (by simp only [List.map_cons, List.sum_cons, hcat]; omega) hlocks
  obtain ⟨f1, f2⟩ := vx_frame hsame
  rw [hhp] at f1 f2
  have hWs : s.WarmedH U.vm := State.WarmedH.trans hW0 hW
  have hcl : s.vm.findClass cls = some ce.cls := by
    have h9 := hO.cls
    rw [hvm] at h9
    exact h9
  have hall : s.sameButNew ({ U with vm := s.vm } : State) locs mc ms := by
    subst hA
    obtain ⟨e1, e2⟩ := hsame
    rw [State.setFrames_setFrames] at e1
    have h2 : (T.setVm s.vm).sameButNew ({ U with vm := s.vm } : State) [] (0 + 1) (0 + 6) := ⟨e1, e2⟩
    have h3 := X.same.trans h2
    rw [List.append_nil] at h3
    exact h3.mono hc hs
  refine ⟨U, ?_, .threw T.heap.size, hrun, hend, Or.inr ⟨T.heap.size, rfl, cls, ce, locs, hx U hWs.alike f1 (fun q hq => f2 q hq (fun z hz => nomatch hz)), hce, hO.vm, hcl, hWs, hall, hf⟩⟩
  refine st1 _ ?_
  show Steps p.tables e below (T1.setTop { method := m, pc := pc + 3, locals := ls, stack := .ref T.heap.size :: rest, locked := none }) _
  jvm_step X₁.here [X₁.here.top, hexec, d3', Value.category]
  exact X₁.ldcStringW hexec (own := own) (text := text) (index := is) (a := sa) hown' hstr'.1 hstr'.2
    (g := { method := m, pc := pc + 4, locals := ls, stack := .ref T.heap.size :: .ref T.heap.size :: rest, locked := none }) rfl d4' _ hsteps
end Ends
section Bodies
variable {l : Launch}
theorem vx_ofW {y : MethodName} {ws ws' : List Cond} {rm : Room} {Pc : Array Value → State → Prop} {Qc : Array Value → State → Outcome → State → Prop} {XC : String → State → State → Prop} {mc ms : Nat} {free : Addr → Prop} {cc : ByteArray} {maxL : Nat} {ret : Option FieldType}
    (hy : plainName y.cls = true) (hw : ws = Cond.code y cc maxL ret :: ws')
    (body : ∀ p e s m args below meth c s₁, BodyLoose p l y (headSpec ws rm) cc maxL ret e s m args below meth c s₁ → c.maxLocals = maxL → (∀ x ∈ c.exceptionTable.toList, False) → Pc args s →
      W p l e (headSpec ws rm).room s m args below meth c s.heap [] 0 0 (vx_MQ below Qc XC args s mc ms free) (entryFrame m args maxL)) : vx_Met l y ws rm Pc Qc XC mc ms free := by
  refine MetFree.of_bodyS (code := cc) (maxLocals := maxL) (ret := ret) hy ?_ ?_
  · intro args s m h hn
    obtain ⟨meth, c, h1, h2, h3, h4, h5, h6, -, -⟩ := Cond.code_spec hn (atoms_spec (ws := ws) h _ (by rw [hw]; exact List.mem_cons_self))
    exact ⟨meth, c, h1, h2, h3, h4, h5, h6⟩
  · intro p e s m args below meth c s₁ B hml hP _
    have hh0 : s₁.heap = s.heap := by rw [B.state]; rfl
    have ht : ∀ x ∈ c.exceptionTable.toList, False := by
      obtain ⟨meth9, c9, h1, h2, -, -, -, -, h7, -⟩ := Cond.code_spec B.named (atoms_spec (ws := ws) B.pre _ (by rw [hw]; exact List.mem_cons_self))
      cases Option.some.inj (h1.symm.trans B.method)
      cases Option.some.inj (h2.symm.trans (Stand.of_body B).code)
      intro x hx
      rw [Array.isEmpty_iff.mp h7] at hx
      cases hx
    obtain ⟨t, a1, o, b1, b2, b3⟩ := body p e s m args below meth c s₁ B hml ht hP s₁ hh0 (Stand.of_body B)
    exact ⟨t, o, a1, b1, b2, b3⟩
/-- the table of a body with handlers -/
theorem vx_table {p : Program} {x y : MethodName} {S : Spec} {cc bytes : ByteArray} {maxL maxL' : Nat} {ret ret' : Option FieldType} {e : Env} {s s₁ : State} {m : MethodId} {args : Array Value} {below : List Frame} {meth : Method} {c : Code} {hh : List (Nat × Nat × Nat × Nat)}
    (B : BodyLoose p l y S cc maxL ret e s m args below meth c s₁) (h : (Cond.codeWith y bytes maxL' ret' hh).before args s = true) : c.exceptionTable.toList = tableOf hh := by
  obtain ⟨m9, meth9, c9, hn9, h1, h2, -, -, h6, -⟩ := Cond.codeWith_spec h
  cases Option.some.inj (hn9.symm.trans B.named)
  cases Option.some.inj (h1.symm.trans B.method)
  cases Option.some.inj (h2.symm.trans (Stand.of_body B).code)
  rw [← h6, table_eq]
end Bodies
end VXA
/-! ===== END ===== -/
/-! ===== BEGIN a static call of a method with an exception table ===== -/
section VXS
variable {p : Program} {l : Launch} {e : Env} {R : Room} {s : State} {m : MethodId} {args : Array Value} {below : List Frame} {meth : Method} {c : Code} {T : State} {H : Heap} {locs : List Loc} {cells slots : Nat}
abbrev vx_CSW (R : Room) (s : State) (args : Array Value) (own : String) (index : Nat) (y : MethodName) (bytes : ByteArray) (maxL : Nat) (ret : Option FieldType) (hh : List (Nat × Nat × Nat × Nat)) (ws : List Cond) (rm : Room) (mc ms n : Nat) : Prop :=
  (rm.cells = mc ∧ rm.slots = ms ∧ rm.frames + 1 ≤ R.frames ∧ 8 + (maxL + 11) + rm.locals ≤ R.locals ∧ (∀ w ∈ ws, ∀ (a' : Array Value) (U : State), s.WarmedH U.vm → w.before a' U = true) ∧ Cond.codeWith y bytes maxL ret hh ∈ ws) ∧
  (Cond.codeWith y bytes maxL ret hh).before args s = true ∧ (Cond.initialized y.cls).before args s = true ∧ (y.cls ≠ "java/lang/invoke/MethodHandle" ∧ y.cls ≠ "java/lang/invoke/VarHandle") ∧
  (∀ sig, parseMethodDescriptor y.desc = some sig → n = sig.parameters.length) ∧ (Cond.methodLink own index y).before args s = true ∧ (Cond.static y).before args s = true
theorem vx_cwSW {own : String} {index maxL mc ms : Nat} {y : MethodName} {bytes : ByteArray} {ret : Option FieldType} {hh : List (Nat × Nat × Nat × Nat)} {Ts ws ws' : List Cond} {rm : Room} (n : Nat) (ht : ∀ w ∈ Ts, w.before args s = true) (hT : GoodIn Ts (va_wsS own index y ws)) (hw : ws = Cond.codeWith y bytes maxL ret hh :: ws') (hrc : rm.cells = mc) (hrs : rm.slots = ms)
    (hd : y.cls ≠ "java/lang/invoke/MethodHandle" ∧ y.cls ≠ "java/lang/invoke/VarHandle" ∧ (parseMethodDescriptor y.desc).map (fun d => d.parameters.length) = some n) (hR : rm.frames + 1 ≤ R.frames ∧ 8 + (maxL + 11) + rm.locals ≤ R.locals) :
    vx_CSW R s args own index y bytes maxL ret hh ws rm mc ms n := by
  have ok : ∀ w ∈ va_wsS own index y ws, w.before args s = true := fun w h => ht w (hT w h).1
  have hG : GoodIn Ts ws := fun w h => hT w (by unfold va_wsS; exact List.mem_append_right _ h)
  have hc : Cond.codeWith y bytes maxL ret hh ∈ ws := by rw [hw]; exact List.mem_cons_self
  refine ⟨⟨hrc, hrs, hR.1, hR.2, pay_in ht hG, hc⟩, ht _ (hG _ hc).1, ok _ (by simp [va_wsS]), ⟨hd.1, hd.2.1⟩, fun sig h => ?_, ok _ (by simp [va_wsS]), ok _ (by simp [va_wsS])⟩
  have h2 := hd.2.2
  rw [h] at h2
  exact (Option.some.inj h2).symm
theorem vx_callSW (X : Stand p l e R s m args below meth c T locs cells slots) (hexec : p.tables.exec = Jvm.exec) {own : String} {index : Nat} {y : MethodName} {bytes : ByteArray} {maxL : Nat} {ret : Option FieldType} {hh : List (Nat × Nat × Nat × Nat)}
    (hown : s.vm.findClass own = some m.cls) (hlink : (Cond.methodLink own index y).before args s = true) (hstat : (Cond.static y).before args s = true) (hinit : (Cond.initialized y.cls).before args s = true)
    (hcode : (Cond.codeWith y bytes maxL ret hh).before args s = true) (hy : y.cls ≠ "java/lang/invoke/MethodHandle" ∧ y.cls ≠ "java/lang/invoke/VarHandle")
    {W9 : Nat} {Pre : Pt → Array Value → Prop} {Post : Pt → Array Value → Option Value → Pt → Prop} (hK : Back l R p e below s args y 3 W9 Pre Post)
    {g : JFrame} (hg : g.method = m) (hsize : g.locals.size = c.maxLocals) {argsL rest : List Value} (hlen : ∀ sig, parseMethodDescriptor y.desc = some sig → argsL.length = sig.parameters.length)
    (hstack : g.stack = argsL.reverse ++ rest) (hW : 2 * g.monitorRoom + (rest.map fun v => v.category).sum ≤ W9) (hdg : decode c.code g.pc = .ok (.invokestatic index, 3))
    (hpre : ∀ vm₁, s.WarmedH vm₁ → Pre ⟨T.setVm vm₁, locs, cells, slots⟩ argsL.toArray) :
    ∃ (v : Option Value) (vm₁ : Vm) (B : Pt), s.WarmedH vm₁ ∧ Stand p l e R s m args below meth c B.U B.locs B.cells B.slots ∧ Post ⟨T.setVm vm₁, locs, cells, slots⟩ argsL.toArray v B ∧
      ∀ target, Steps p.tables e below (B.U.setTop { g with pc := g.pc + 3, stack := v.toList ++ rest }) target → Steps p.tables e below (T.setTop g) target := by
  obtain ⟨mk, methM, cM, hnamed, hmethM, -, -, -, -, -, -, hsigM⟩ := Cond.codeWith_spec hcode
  have hstatic : methM.isStatic = true := Cond.static_spec hnamed hmethM hstat
  obtain ⟨kP, hkP, -⟩ := className_of_methodNamed hnamed
  have hinitP : kP.init = .initialized := Cond.initialized_spec (findClass_of_methodNamed hnamed) hkP hinit
  obtain ⟨vm₁, X₁, hstep₁⟩ := X.invokestatic hexec hown hlink hnamed hmethM hstatic hkP hinitP hy (g := g) hg (argsL := argsL) (rest := rest) (hlen _ hsigM) hstack hdg
  obtain ⟨v, B, X', hpost, hsteps⟩ := hK m meth c ⟨T.setVm vm₁, locs, cells, slots⟩ { g with stack := rest } (.invokestatic index) mk argsL.toArray X₁ hg hsize hdg hW (X₁.named hnamed) (hpre vm₁ X₁.warmed)
  exact ⟨v, vm₁, B, X₁.warmed, X', hpost, fun target h => hstep₁ _ fun acts => by rw [doInvoke_state]; exact hsteps.trans h⟩
theorem vx_runSW {y : MethodName} {bytes cc : ByteArray} {maxL nL mc ms n index : Nat} {ret : Option FieldType} {hh : List (Nat × Nat × Nat × Nat)} {ws : List Cond} {rm : Room} {Pc : Array Value → State → Prop} {Qc : Array Value → State → Outcome → State → Prop} {free : Addr → Prop} {Ts : List Cond} {own : String} {As rest : List Value} {g : JFrame}
    (S : CallFix p m c cc nL s args Ts own) (hM : Met l y ws rm Pc Qc mc ms free) (cw : vx_CSW R s args own index y bytes maxL ret hh ws rm mc ms n) (hp : PreS s H Pc As)
    (hg : g.method = m) (hn : As.length = n) (hsize : g.locals.size = nL) (hstack : g.stack = As.reverse ++ rest) (hW : 2 * g.monitorRoom + (rest.map fun v => v.category).sum ≤ 8) (hdg : decode cc g.pc = .ok (.invokestatic index, 3)) (hf : cells + mc ≤ R.cells ∧ slots + ms ≤ R.slots) :
    va_Run p l e R s m args below meth c H locs cells slots mc ms g rest (Qc As.toArray) (free) := by
  obtain ⟨⟨hrc, hrs, hfr, hlo, hws, hcw⟩, hcode, hini, hy, hlen, hl, hstt⟩ := cw
  have hK : Back l R p e below s args y 3 8 (PreOf R mc ms Pc) (PostOf Qc mc ms free) := va_backW (hh := hh) (bytes := bytes) (maxL := maxL) (ret := ret) hM hp.1 hrc hrs hfr hlo hws hcw (fun a' U hW => word_at hW (Or.inl (by first | rfl | simp [Cond.onTables, Cond.keeps, Cond.steady])) hini)
  obtain ⟨hx, hb, hml, ho, -⟩ := S
  intro T hT X
  obtain ⟨v, vm₁, ⟨U', l2, c2, s2⟩, hW₁, X', ⟨g', mk, t, L, e1, e2, hq, h1, hL, h2, h3⟩, st⟩ := vx_callSW X hx (hh := hh) (bytes := bytes) (maxL := maxL) (ret := ret) ho hl hstt hini hcode hy hK hg (hsize.trans hml.symm) (argsL := As) (rest := rest) (fun sig h => hn.trans (hlen sig h)) hstack hW (by rw [hb]; exact hdg)
    (fun vm₁ hW₁ => ⟨hf.1, hf.2, hp.2 (T.setVm vm₁) hT hW₁⟩)
  dsimp only [Pt.U, Pt.locs, Pt.cells, Pt.slots] at X' e1 e2 h1 h2 h3 st
  subst h1; subst h2; subst h3
  exact ⟨v, (T.setVm vm₁).calling g' mk As.toArray, t, U', L, hT, X', hL, e1, e2, hq, st⟩
/-- not caught here, past rows that name other classes: it goes on to the caller -/
theorem vx_outP {p : Program} {l : Launch} {e : Env} {R : Room} {s : State} {m : MethodId} {args : Array Value} {below : List Frame} {meth : Method} {c : Code} {H : Heap} {locs : List Loc} {cells slots : Nat} {free : Addr → Prop} {ls : Array Slot} {rest : List Value} {Qc : Array Value → State → Outcome → State → Prop} {XC : String → State → State → Prop}
    {pc : Nat} {own E : String} {ce : Cell} {q : Addr} {mc ms : Nat} (hown : s.vm.findClass own = some m.cls) (hlocks : meth.locks = false)
    (hpass : ∀ z ∈ c.exceptionTable.toList, covers z pc = false ∨ (z.catchType ≠ 0 ∧ ∃ nm : String, (Cond.classLink own z.catchType nm).before args s = true ∧ va_Nc E nm s)) (hcell : H[q]? = some ce) (hv : ce.vm = .none) (hcl : s.vm.findClass E = some ce.cls)
    (hx : ∀ t : State, t.heap = H → s.vm.Alike t.vm → XC E s t) (hf : ∀ z ∈ locs, free z.base) (hc : cells ≤ mc) (hs : slots ≤ ms) :
    vx_W p l e R s m args below meth c H locs cells slots (vx_MQ below Qc XC args s mc ms free) (F0 m pc ls rest) q := by
  intro T hT X
  have hpl : e.platform.magicAccessors = ({} : Platform).magicAccessors := by rw [X.admits.platform]
  obtain ⟨vm', hW', X', st⟩ := X.outThrough hlocks q (g := F0 m pc ls rest) rfl rfl rfl (cell := ce) (by rw [hT]; exact hcell) (by rw [hv]; rfl)
    (by obtain ⟨k9, h9, -⟩ := Vm.findClass_spec hcl; exact ⟨k9, h9⟩) (fun z hz => by
      rcases hpass z hz with h | ⟨hz0, nm, hl1, hn1⟩
      · exact Or.inl h
      · obtain ⟨c6, hc6, hcl6⟩ := Cond.classLink_spec hown hl1 e.platform hpl
        obtain ⟨a8, b8, h1, h2, h3⟩ := hn1
        cases Option.some.inj (h1.symm.trans hcl)
        cases Option.some.inj (h2.symm.trans hc6)
        exact Or.inr ⟨hz0, _, hcl6, h3⟩)
  obtain ⟨g₀, hfr⟩ := X'.frames_eq
  have hcell9 : ((T.setVm vm').setFrames (.throwing q :: below)).heap[q]? = some ce := by
    show T.heap[q]? = some ce
    rw [hT]; exact hcell
  have hend : Ended ((T.setVm vm').setFrames (.throwing q :: below)) below (.threw q) := State.frames_setFrames _ (State.cur_lt_of_frames hfr)
  refine ⟨(T.setVm vm').setFrames (.throwing q :: below), ?_, .threw q, X'.here.running, hend, Or.inr ⟨q, rfl, E, ce, locs, hx _ hT (X'.ends _).1.alike, hcell9, hv, hcl, (X'.ends _).1, (X'.ends _).2.mono hc hs, hf⟩⟩
  rw [X.pushThrowing_eq]
  exact st
/-- a thing of a world lies in the heap -/
theorem vx_lt {D : va_G} {cl : List vw_C} {ws : va_W} {H1 : Heap} (h : va_P D cl ws H1) {k : Nat} {q : Nat × va_E} (hk : ws[k]? = some q) : q.1 < H1.size := (h k q hk).lt
end VXS
/-! ===== END ===== -/
/-! ===== BEGIN methods with a table of their own: called by a name, returning or throwing ===== -/
section VXH
/-! vx_backW, vx_callVX, vx_callSX, vx_callVW, vx_runVW, vx_runVX, vx_runSX, vx_ofWH follow the same proofs as their sisters above (Free/Laws.lean, Shelf42/LK1.lean); vx_outP calls Shelf42/NT130.lean (outThrough). -/
section
variable {l : Launch} {R : Room} {p : Program} {e : Env} {below : List Frame} {s : State} {sargs : Array Value} {y : MethodName} {len W9 : Nat}
theorem vx_backW {ws : List Cond} {rm : Room} {Pc : Array Value → State → Prop} {Qc : Array Value → State → Outcome → State → Prop} {XC : String → State → State → Prop} {mc ms : Nat} {free : Addr → Prop} {bytes : ByteArray} {maxL : Nat} {ret : Option FieldType} {hh : List (Nat × Nat × Nat × Nat)}
    (hM : vx_Met l y ws rm Pc Qc XC mc ms free) (hblind : FrameBlind Pc) (hrc : rm.cells = mc) (hrs : rm.slots = ms)
    (hframes : rm.frames + 1 ≤ R.frames) (hlocals : W9 + (maxL + 11) + rm.locals ≤ R.locals)
    (hws : ∀ w ∈ ws, ∀ a' U, s.WarmedH U.vm → w.before a' U = true) (hcode : Cond.codeWith y bytes maxL ret hh ∈ ws) (hinit : ∀ a' U, s.WarmedH U.vm → (Cond.initialized y.cls).before a' U = true) :
    vx_Back l R p e below s sargs y len W9 (PreOf R mc ms Pc) (PostOf Qc mc ms free) (vx_Post XC mc ms free) := by
  intro m meth c A g ig mk a X hg hsize hdg hW hn hp
  have h1 : (headSpec ws rm).pre.before a A.U = true := atoms_intro fun w hw => hws w hw _ _ X.warmed
  have h2 : (Cond.codeWith y bytes maxL ret hh).before a A.U = true := hws _ hcode _ _ X.warmed
  have h3 : (Cond.initialized y.cls).before a A.U = true := hinit _ _ X.warmed
  have h4 : A.cells + (headSpec ws rm).room.cells ≤ R.cells := by rw [show (headSpec ws rm).room.cells = mc from hrc]; exact hp.1
  have h5 : A.slots + (headSpec ws rm).room.slots ≤ R.slots := by rw [show (headSpec ws rm).room.slots = ms from hrs]; exact hp.2.1
  have hPc : Pc a (A.U.calling g mk a) := hblind _ _ _ _ hp.2.2
  obtain ⟨U, Ls, c0, s0⟩ := A
  dsimp only [Pt.U, Pt.locs, Pt.cells, Pt.slots] at h1 h2 h3 h4 h5 X hn hPc ⊢
  obtain ⟨m9, methY, cY, hn9, hmY, hcY, -, hlY, -⟩ := Cond.codeWith_spec h2
  cases Option.some.inj (hn9.symm.trans hn)
  obtain ⟨kY, hkY, -⟩ := className_of_methodNamed hn
  have hinitY : kY.init = .initialized := Cond.initialized_spec (findClass_of_methodNamed hn) hkY h3
  have h : At U g.method c below := by rw [hg]; exact X.here
  have hlocals9 : W9 + (maxL + 11) + (headSpec ws rm).room.locals ≤ R.locals := hlocals
  have happ : (headSpec ws rm).appliesLoose y e.platform (U.calling g mk a) = true :=
    Spec.appliesLoose_calling (g := g) h hdg hn hkY hinitY
      (X.room_calling (g := g) (R' := (headSpec ws rm).room) hsize hmY hcY hframes (by rw [hlY]; omega) h4 h5) h1
  obtain ⟨mid, hmid⟩ := h.above
  have hfr : (U.setTop g).frames = (.java g :: mid) ++ below := by rw [State.frames_setTop' g h.top, hmid]; rfl
  obtain ⟨o, s₂, hsteps, -, hend, hq⟩ := Steps.callFree hM p X.admits X.cas X.clock (acts := []) hfr happ hPc trivial
  have hq' : vx_Q Qc XC mc ms free a (U.calling g mk a) o s₂ := hq
  rw [State.frames_setTop' g h.top] at hend
  obtain ⟨g₀, hg0⟩ := Option.isSome_iff_exists.mp h.top
  obtain ⟨r, hr⟩ := State.topJava?_eq_some.mp hg0
  have hr' : (({ U with heap := s₂.heap, slotsUsed := s₂.slotsUsed } : State).setVm s₂.vm).frames = .java g₀ :: r := hr
  rcases hq' with ⟨hqc, L, hfe, hL⟩ | ⟨q, rfl, E, ce, L, hx, hce, hcv, hcl, hW₂, hsm, hL⟩
  · obtain ⟨⟨v, rfl⟩, hW₂, e2, q2, q3, q4, q5, q6⟩ := id hfe
    have e3 : s₂ = ({ (U.calling g mk a).setFrames s₂.frames with heap := s₂.heap, slotsUsed := s₂.slotsUsed } : State).setVm s₂.vm := by
      have : s₂ = ({ s₂ with vm := (U.calling g mk a).vm } : State).setVm s₂.vm := rfl
      rw [e2] at this
      exact this
    obtain ⟨c₂, i₂, len₂, hc₂, hd₂, hf₂⟩ := hend
    have hW' : U.WarmedH s₂.vm := hW₂
    have hcc : c₂ = c := by
      have h1 : s₂.code? g.method = U.code? g.method := by
        rw [State.code?_eq, State.code?_eq, hW'.alike.method?]
      exact Option.some.inj (hc₂.symm.trans (h1.trans h.code))
    subst hcc
    have hlen : len₂ = len := by rw [hdg] at hd₂; cases hd₂; rfl
    subst hlen
    have hs₂ : s₂ = (({ U with heap := s₂.heap, slotsUsed := s₂.slotsUsed } : State).setVm s₂.vm).setTop { g with pc := g.pc + len₂, stack := v.toList ++ g.stack } := by
      refine e3.trans ?_
      rw [hf₂, State.calling_eq h.top, State.setFrames_setFrames, State.setTop_of_frames _ hr', hr]
      rfl
    have hsame : U.sameButNew ({ U with heap := s₂.heap, slotsUsed := s₂.slotsUsed } : State) L mc ms := by
      refine ⟨?_, q2, q3, q4, q5, q6⟩
      obtain ⟨t, ht, -⟩ := State.frames_cons hr
      show ({ U with heap := s₂.heap, slotsUsed := s₂.slotsUsed } : State) = { U.setFrames U.frames with heap := s₂.heap, slotsUsed := s₂.slotsUsed }
      rw [State.setFrames_self ht]
    subst hg
    refine Or.inl ⟨v, ⟨(({ U with heap := s₂.heap, slotsUsed := s₂.slotsUsed } : State).setVm s₂.vm), Ls ++ L, c0 + mc, s0 + ms⟩,
      ⟨X.admits, X.cas, X.clock, X.frames, X.room, X.hears, X.method, X.code, (X.here.setHeapUsed s₂.heap s₂.slotsUsed).setVm hW'.alike, X.tail, State.WarmedH.trans X.warmed hW', X.limits, X.bytes, X.same.trans (hsame.setVm s.vm)⟩,
      ⟨g, mk, s₂, L, rfl, rfl, hqc, rfl, hL, rfl, rfl⟩, ?_⟩
    show Steps p.tables e below _ ((({ U with heap := s₂.heap, slotsUsed := s₂.slotsUsed } : State).setVm s₂.vm).setTop { g with pc := g.pc + len₂, stack := v.toList ++ g.stack })
    rw [← hs₂]
    exact hsteps
  · obtain ⟨e2, q2, q3, q4, q5, q6⟩ := id hsm
    have e3 : s₂ = ({ (U.calling g mk a).setFrames s₂.frames with heap := s₂.heap, slotsUsed := s₂.slotsUsed } : State).setVm s₂.vm := by
      have : s₂ = ({ s₂ with vm := (U.calling g mk a).vm } : State).setVm s₂.vm := rfl
      rw [e2] at this
      exact this
    have hf₂ : s₂.frames = .throwing q :: .java g :: U.frames.tail := hend
    have hW' : U.WarmedH s₂.vm := hW₂
    have hs₂ : s₂ = ((({ U with heap := s₂.heap, slotsUsed := s₂.slotsUsed } : State).setVm s₂.vm).setTop g).pushFrame (.throwing q) := by
      refine e3.trans ?_
      rw [hf₂, State.calling_eq h.top, State.setFrames_setFrames, State.pushFrame, State.frames_setTop _ hr', State.setTop_of_frames _ hr', State.setFrames_setFrames, hr]
      rfl
    have hsame : U.sameButNew ({ U with heap := s₂.heap, slotsUsed := s₂.slotsUsed } : State) L mc ms := by
      refine ⟨?_, q2, q3, q4, q5, q6⟩
      obtain ⟨t, ht, -⟩ := State.frames_cons hr
      show ({ U with heap := s₂.heap, slotsUsed := s₂.slotsUsed } : State) = { U.setFrames U.frames with heap := s₂.heap, slotsUsed := s₂.slotsUsed }
      rw [State.setFrames_self ht]
    subst hg
    refine Or.inr ⟨q, ⟨(({ U with heap := s₂.heap, slotsUsed := s₂.slotsUsed } : State).setVm s₂.vm), Ls ++ L, c0 + mc, s0 + ms⟩,
      ⟨X.admits, X.cas, X.clock, X.frames, X.room, X.hears, X.method, X.code, (X.here.setHeapUsed s₂.heap s₂.slotsUsed).setVm hW'.alike, X.tail, State.WarmedH.trans X.warmed hW', X.limits, X.bytes, X.same.trans (hsame.setVm s.vm)⟩,
      ⟨g, mk, s₂, L, E, ce, rfl, rfl, hx, hce, hcv, hcl, rfl, hL, rfl, rfl⟩, ?_⟩
    show Steps p.tables e below _ (((({ U with heap := s₂.heap, slotsUsed := s₂.slotsUsed } : State).setVm s₂.vm).setTop g).pushFrame (.throwing q))
    rw [← hs₂]
    exact hsteps
end
variable {p : Program} {l : Launch} {e : Env} {R : Room} {s : State} {m : MethodId} {args : Array Value} {below : List Frame} {meth : Method} {c : Code} {T : State} {H : Heap} {locs : List Loc} {cells slots : Nat}
theorem vx_callVX (X : Stand p l e R s m args below meth c T locs cells slots) (hexec : p.tables.exec = Jvm.exec) {own C : String} {index : Nat} {y : MethodName} {bytes : ByteArray} {maxL : Nat} {ret : Option FieldType} {hh : List (Nat × Nat × Nat × Nat)}
    (hown : s.vm.findClass own = some m.cls) (hlink : (Cond.methodLink own index y).before args s = true) (hinst : (Cond.instanceMethod y).before args s = true) (hsel : (Cond.selects C y y).before args s = true)
    (hcode : (Cond.codeWith y bytes maxL ret hh).before args s = true) (hy : y.cls ≠ "java/lang/invoke/MethodHandle" ∧ y.cls ≠ "java/lang/invoke/VarHandle")
    {W9 : Nat} {Pre : Pt → Array Value → Prop} {Post : Pt → Array Value → Option Value → Pt → Prop} {PostX : Pt → Array Value → Addr → Pt → Prop} (hK : vx_Back l R p e below s args y 3 W9 Pre Post PostX)
    {b : Addr} {cellB : Cell} (hcell : T.heap[b]? = some cellB) (hobj : cellB.vm.isStatics = false) (hcls : s.vm.findClass C = some cellB.cls)
    {g : JFrame} (hg : g.method = m) (hsize : g.locals.size = c.maxLocals) {argsL rest : List Value} (hlen : ∀ sig, parseMethodDescriptor y.desc = some sig → argsL.length = sig.parameters.length)
    (hstack : g.stack = argsL.reverse ++ .ref b :: rest) (hW : 2 * g.monitorRoom + (rest.map fun v => v.category).sum ≤ W9) (hdg : decode c.code g.pc = .ok (.invokevirtual index, 3))
    (hpre : ∀ vm₁, s.WarmedH vm₁ → Pre ⟨T.setVm vm₁, locs, cells, slots⟩ (Value.ref b :: argsL).toArray) :
    (∃ (v : Option Value) (vm₁ : Vm) (B : Pt), s.WarmedH vm₁ ∧ Stand p l e R s m args below meth c B.U B.locs B.cells B.slots ∧ Post ⟨T.setVm vm₁, locs, cells, slots⟩ (Value.ref b :: argsL).toArray v B ∧
      ∀ target, Steps p.tables e below (B.U.setTop { g with pc := g.pc + 3, stack := v.toList ++ rest }) target → Steps p.tables e below (T.setTop g) target) ∨
    (∃ (q : Addr) (vm₁ : Vm) (B : Pt), s.WarmedH vm₁ ∧ Stand p l e R s m args below meth c B.U B.locs B.cells B.slots ∧ PostX ⟨T.setVm vm₁, locs, cells, slots⟩ (Value.ref b :: argsL).toArray q B ∧
      Steps p.tables e below (T.setTop g) ((B.U.setTop { g with stack := rest }).pushFrame (.throwing q))) := by
  obtain ⟨mk, methM, hnamed, hmethM, hstM, habM⟩ := Cond.instanceMethod_spec hinst
  obtain ⟨m8, methM', cM, hn8, hmethM', -, -, -, -, -, -, hsigM⟩ := Cond.codeWith_spec hcode
  cases Option.some.inj (hn8.symm.trans hnamed)
  cases hmethM.symm.trans hmethM'
  obtain ⟨c2, r2, m2, q1, q2, q3, q4, kP, hkP, hkPi⟩ := Cond.selects_spec hsel
  cases hcls.symm.trans q1
  cases (State.methodFound?_of_named hnamed hy).symm.trans q2
  cases hnamed.symm.trans q3
  have hselP : selectMethod e.platform s.vm cellB.cls mk = .method mk := by rw [Launch.admits_selectMethod X.admits]; exact q4
  obtain ⟨vm₁, X₁, hstep₁⟩ := X.invokevirtual hexec hown hlink hnamed hmethM hstM hkP hkPi hy (a := b) (cell := cellB) hcell
    (fun z h => by rw [h] at hobj; cases hobj) hselP hmethM habM hkP hkPi (g := g) hg (argsL := argsL) (rest := rest) (hlen _ hsigM) hstack hdg
  rcases hK m meth c ⟨T.setVm vm₁, locs, cells, slots⟩ { g with stack := rest } (.invokevirtual index) mk (Value.ref b :: argsL).toArray X₁ hg hsize hdg hW (X₁.named hnamed) (hpre vm₁ X₁.warmed) with ⟨v, B, X', hpost, hsteps⟩ | ⟨q, B, X', hpost, hsteps⟩
  · exact Or.inl ⟨v, vm₁, B, X₁.warmed, X', hpost, fun target h => hstep₁ _ fun acts => by rw [doInvoke_state]; exact hsteps.trans h⟩
  · exact Or.inr ⟨q, vm₁, B, X₁.warmed, X', hpost, hstep₁ _ fun acts => by rw [doInvoke_state]; exact hsteps⟩
theorem vx_callSX (X : Stand p l e R s m args below meth c T locs cells slots) (hexec : p.tables.exec = Jvm.exec) {own : String} {index : Nat} {y : MethodName} {bytes : ByteArray} {maxL : Nat} {ret : Option FieldType} {hh : List (Nat × Nat × Nat × Nat)}
    (hown : s.vm.findClass own = some m.cls) (hlink : (Cond.methodLink own index y).before args s = true) (hstat : (Cond.static y).before args s = true) (hinit : (Cond.initialized y.cls).before args s = true)
    (hcode : (Cond.codeWith y bytes maxL ret hh).before args s = true) (hy : y.cls ≠ "java/lang/invoke/MethodHandle" ∧ y.cls ≠ "java/lang/invoke/VarHandle")
    {W9 : Nat} {Pre : Pt → Array Value → Prop} {Post : Pt → Array Value → Option Value → Pt → Prop} {PostX : Pt → Array Value → Addr → Pt → Prop} (hK : vx_Back l R p e below s args y 3 W9 Pre Post PostX)
    {g : JFrame} (hg : g.method = m) (hsize : g.locals.size = c.maxLocals) {argsL rest : List Value} (hlen : ∀ sig, parseMethodDescriptor y.desc = some sig → argsL.length = sig.parameters.length)
    (hstack : g.stack = argsL.reverse ++ rest) (hW : 2 * g.monitorRoom + (rest.map fun v => v.category).sum ≤ W9) (hdg : decode c.code g.pc = .ok (.invokestatic index, 3))
    (hpre : ∀ vm₁, s.WarmedH vm₁ → Pre ⟨T.setVm vm₁, locs, cells, slots⟩ argsL.toArray) :
    (∃ (v : Option Value) (vm₁ : Vm) (B : Pt), s.WarmedH vm₁ ∧ Stand p l e R s m args below meth c B.U B.locs B.cells B.slots ∧ Post ⟨T.setVm vm₁, locs, cells, slots⟩ argsL.toArray v B ∧
      ∀ target, Steps p.tables e below (B.U.setTop { g with pc := g.pc + 3, stack := v.toList ++ rest }) target → Steps p.tables e below (T.setTop g) target) ∨
    (∃ (q : Addr) (vm₁ : Vm) (B : Pt), s.WarmedH vm₁ ∧ Stand p l e R s m args below meth c B.U B.locs B.cells B.slots ∧ PostX ⟨T.setVm vm₁, locs, cells, slots⟩ argsL.toArray q B ∧
      Steps p.tables e below (T.setTop g) ((B.U.setTop { g with stack := rest }).pushFrame (.throwing q))) := by
  obtain ⟨mk, methM, cM, hnamed, hmethM, -, -, -, -, -, -, hsigM⟩ := Cond.codeWith_spec hcode
  have hstatic : methM.isStatic = true := Cond.static_spec hnamed hmethM hstat
  obtain ⟨kP, hkP, -⟩ := className_of_methodNamed hnamed
  have hinitP : kP.init = .initialized := Cond.initialized_spec (findClass_of_methodNamed hnamed) hkP hinit
  obtain ⟨vm₁, X₁, hstep₁⟩ := X.invokestatic hexec hown hlink hnamed hmethM hstatic hkP hinitP hy (g := g) hg (argsL := argsL) (rest := rest) (hlen _ hsigM) hstack hdg
  rcases hK m meth c ⟨T.setVm vm₁, locs, cells, slots⟩ { g with stack := rest } (.invokestatic index) mk argsL.toArray X₁ hg hsize hdg hW (X₁.named hnamed) (hpre vm₁ X₁.warmed) with ⟨v, B, X', hpost, hsteps⟩ | ⟨q, B, X', hpost, hsteps⟩
  · exact Or.inl ⟨v, vm₁, B, X₁.warmed, X', hpost, fun target h => hstep₁ _ fun acts => by rw [doInvoke_state]; exact hsteps.trans h⟩
  · exact Or.inr ⟨q, vm₁, B, X₁.warmed, X', hpost, hstep₁ _ fun acts => by rw [doInvoke_state]; exact hsteps⟩
theorem vx_callVW (X : Stand p l e R s m args below meth c T locs cells slots) (hexec : p.tables.exec = Jvm.exec) {own C : String} {index : Nat} {y : MethodName} {bytes : ByteArray} {maxL : Nat} {ret : Option FieldType} {hh : List (Nat × Nat × Nat × Nat)}
    (hown : s.vm.findClass own = some m.cls) (hlink : (Cond.methodLink own index y).before args s = true) (hinst : (Cond.instanceMethod y).before args s = true) (hsel : (Cond.selects C y y).before args s = true)
    (hcode : (Cond.codeWith y bytes maxL ret hh).before args s = true) (hy : y.cls ≠ "java/lang/invoke/MethodHandle" ∧ y.cls ≠ "java/lang/invoke/VarHandle")
    {W9 : Nat} {Pre : Pt → Array Value → Prop} {Post : Pt → Array Value → Option Value → Pt → Prop} (hK : Back l R p e below s args y 3 W9 Pre Post)
    {b : Addr} {cellB : Cell} (hcell : T.heap[b]? = some cellB) (hobj : cellB.vm.isStatics = false) (hcls : s.vm.findClass C = some cellB.cls)
    {g : JFrame} (hg : g.method = m) (hsize : g.locals.size = c.maxLocals) {argsL rest : List Value} (hlen : ∀ sig, parseMethodDescriptor y.desc = some sig → argsL.length = sig.parameters.length)
    (hstack : g.stack = argsL.reverse ++ .ref b :: rest) (hW : 2 * g.monitorRoom + (rest.map fun v => v.category).sum ≤ W9) (hdg : decode c.code g.pc = .ok (.invokevirtual index, 3))
    (hpre : ∀ vm₁, s.WarmedH vm₁ → Pre ⟨T.setVm vm₁, locs, cells, slots⟩ (Value.ref b :: argsL).toArray) :
    ∃ (v : Option Value) (vm₁ : Vm) (B : Pt), s.WarmedH vm₁ ∧ Stand p l e R s m args below meth c B.U B.locs B.cells B.slots ∧ Post ⟨T.setVm vm₁, locs, cells, slots⟩ (Value.ref b :: argsL).toArray v B ∧
      ∀ target, Steps p.tables e below (B.U.setTop { g with pc := g.pc + 3, stack := v.toList ++ rest }) target → Steps p.tables e below (T.setTop g) target := by
  obtain ⟨mk, methM, hnamed, hmethM, hstM, habM⟩ := Cond.instanceMethod_spec hinst
  obtain ⟨m8, methM', cM, hn8, hmethM', -, -, -, -, -, -, hsigM⟩ := Cond.codeWith_spec hcode
  cases Option.some.inj (hn8.symm.trans hnamed)
  cases hmethM.symm.trans hmethM'
  obtain ⟨c2, r2, m2, q1, q2, q3, q4, kP, hkP, hkPi⟩ := Cond.selects_spec hsel
  cases hcls.symm.trans q1
  cases (State.methodFound?_of_named hnamed hy).symm.trans q2
  cases hnamed.symm.trans q3
  have hselP : selectMethod e.platform s.vm cellB.cls mk = .method mk := by rw [Launch.admits_selectMethod X.admits]; exact q4
  obtain ⟨vm₁, X₁, hstep₁⟩ := X.invokevirtual hexec hown hlink hnamed hmethM hstM hkP hkPi hy (a := b) (cell := cellB) hcell
    (fun z h => by rw [h] at hobj; cases hobj) hselP hmethM habM hkP hkPi (g := g) hg (argsL := argsL) (rest := rest) (hlen _ hsigM) hstack hdg
  obtain ⟨v, B, X', hpost, hsteps⟩ := hK m meth c ⟨T.setVm vm₁, locs, cells, slots⟩ { g with stack := rest } (.invokevirtual index) mk (Value.ref b :: argsL).toArray X₁ hg hsize hdg hW (X₁.named hnamed) (hpre vm₁ X₁.warmed)
  exact ⟨v, vm₁, B, X₁.warmed, X', hpost, fun target h => hstep₁ _ fun acts => by rw [doInvoke_state]; exact hsteps.trans h⟩
abbrev vx_CVW (R : Room) (s : State) (args : Array Value) (own C : String) (index : Nat) (y : MethodName) (bytes : ByteArray) (maxL : Nat) (ret : Option FieldType) (hh : List (Nat × Nat × Nat × Nat)) (ws : List Cond) (rm : Room) (mc ms n : Nat) : Prop :=
  (rm.cells = mc ∧ rm.slots = ms ∧ rm.frames + 1 ≤ R.frames ∧ 8 + (maxL + 11) + rm.locals ≤ R.locals ∧ (∀ w ∈ ws, ∀ (a' : Array Value) (U : State), s.WarmedH U.vm → w.before a' U = true) ∧ Cond.codeWith y bytes maxL ret hh ∈ ws) ∧
  (Cond.codeWith y bytes maxL ret hh).before args s = true ∧ (Cond.initialized y.cls).before args s = true ∧ (y.cls ≠ "java/lang/invoke/MethodHandle" ∧ y.cls ≠ "java/lang/invoke/VarHandle") ∧
  (∀ sig, parseMethodDescriptor y.desc = some sig → n = sig.parameters.length) ∧ (Cond.methodLink own index y).before args s = true ∧ (Cond.instanceMethod y).before args s = true ∧ (Cond.selects C y y).before args s = true
theorem vx_cwVW {own C : String} {index maxL mc ms : Nat} {y : MethodName} {bytes : ByteArray} {ret : Option FieldType} {hh : List (Nat × Nat × Nat × Nat)} {Ts ws ws' : List Cond} {rm : Room} (n : Nat) (ht : ∀ w ∈ Ts, w.before args s = true) (hT : GoodIn Ts (wsV own index C y ws)) (hw : ws = Cond.codeWith y bytes maxL ret hh :: ws') (hrc : rm.cells = mc) (hrs : rm.slots = ms)
    (hd : y.cls = C ∧ y.cls ≠ "java/lang/invoke/MethodHandle" ∧ y.cls ≠ "java/lang/invoke/VarHandle" ∧ (parseMethodDescriptor y.desc).map (fun d => d.parameters.length) = some n) (hR : rm.frames + 1 ≤ R.frames ∧ 8 + (maxL + 11) + rm.locals ≤ R.locals) :
    vx_CVW R s args own C index y bytes maxL ret hh ws rm mc ms n := by
  obtain ⟨hC, hd⟩ := hd
  subst hC
  have ok : ∀ w ∈ wsV own index y.cls y ws, w.before args s = true := fun w h => ht w (hT w h).1
  have hG : GoodIn Ts ws := fun w h => hT w (by unfold wsV; exact List.mem_append_right _ h)
  have hc : Cond.codeWith y bytes maxL ret hh ∈ ws := by rw [hw]; exact List.mem_cons_self
  refine ⟨⟨hrc, hrs, hR.1, hR.2, pay_in ht hG, hc⟩, ht _ (hG _ hc).1, ok _ (by simp [wsV]), ⟨hd.1, hd.2.1⟩, fun sig h => ?_, ok _ (by simp [wsV]), ok _ (by simp [wsV]), ok _ (by simp [wsV])⟩
  have h2 := hd.2.2
  rw [h] at h2
  exact (Option.some.inj h2).symm
theorem vx_runVW {y : MethodName} {bytes cc : ByteArray} {maxL nL mc ms n index : Nat} {ret : Option FieldType} {hh : List (Nat × Nat × Nat × Nat)} {ws : List Cond} {rm : Room} {Pc : Array Value → State → Prop} {Qc : Array Value → State → Outcome → State → Prop} {free : Addr → Prop} {Ts : List Cond} {own C : String} {b : Addr} {As rest : List Value} {g : JFrame}
    (S : CallFix p m c cc nL s args Ts own) (hM : Met l y ws rm Pc Qc mc ms free) (cw : vx_CVW R s args own C index y bytes maxL ret hh ws rm mc ms n) (hp : PreV s H C b Pc As)
    (hg : g.method = m) (hn : As.length = n) (hsize : g.locals.size = nL) (hstack : g.stack = As.reverse ++ .ref b :: rest) (hW : 2 * g.monitorRoom + (rest.map fun v => v.category).sum ≤ 8) (hdg : decode cc g.pc = .ok (.invokevirtual index, 3)) (hf : cells + mc ≤ R.cells ∧ slots + ms ≤ R.slots) :
    va_Run p l e R s m args below meth c H locs cells slots mc ms g rest (Qc (Value.ref b :: As).toArray) free := by
  obtain ⟨⟨hrc, hrs, hfr, hlo, hws, hcw⟩, hcode, hini, hy, hlen, hl, hin, hse⟩ := cw
  have hK : Back l R p e below s args y 3 8 (PreOf R mc ms Pc) (PostOf Qc mc ms free) := va_backW (hh := hh) (bytes := bytes) (maxL := maxL) (ret := ret) hM hp.1 hrc hrs hfr hlo hws hcw (fun a' U hW => word_at hW (Or.inl (by first | rfl | simp [Cond.onTables, Cond.keeps, Cond.steady])) hini)
  obtain ⟨hx, hb, hml, ho, -⟩ := S
  obtain ⟨-, ⟨cellB, hcB, hoB, hclB⟩, hPc⟩ := hp
  intro T hT X
  obtain ⟨v, vm₁, ⟨U', l2, c2, s2⟩, hW₁, X', ⟨g', mk, t, L, e1, e2, hq, h1, hL, h2, h3⟩, st⟩ := vx_callVW X hx (C := C) (hh := hh) (bytes := bytes) (maxL := maxL) (ret := ret) ho hl hin hse hcode hy hK (by rw [hT]; exact hcB) hoB hclB hg (hsize.trans hml.symm) (argsL := As) (rest := rest) (fun sig h => hn.trans (hlen sig h)) hstack hW (by rw [hb]; exact hdg)
    (fun vm₁ hW₁ => ⟨hf.1, hf.2, hPc (T.setVm vm₁) hT hW₁⟩)
  dsimp only [Pt.U, Pt.locs, Pt.cells, Pt.slots] at X' e1 e2 h1 h2 h3 st
  subst h1; subst h2; subst h3
  exact ⟨v, (T.setVm vm₁).calling g' mk (Value.ref b :: As).toArray, t, U', L, hT, X', hL, e1, e2, hq, st⟩
section
variable {y : MethodName} {bytes cc : ByteArray} {maxL nL mc ms n index : Nat} {ret : Option FieldType} {ws : List Cond} {rm : Room} {Pc : Array Value → State → Prop} {Qc : Array Value → State → Outcome → State → Prop} {XC : String → State → State → Prop} {free : Addr → Prop} {Ts : List Cond} {own C : String} {b : Addr} {As rest : List Value} {g : JFrame}
theorem vx_runVX {hh : List (Nat × Nat × Nat × Nat)} (S : CallFix p m c cc nL s args Ts own) (hM : vx_Met l y ws rm Pc Qc XC mc ms free) (cw : vx_CVW R s args own C index y bytes maxL ret hh ws rm mc ms n) (hp : PreV s H C b Pc As)
    (hg : g.method = m) (hn : As.length = n) (hsize : g.locals.size = nL) (hstack : g.stack = As.reverse ++ .ref b :: rest) (hW : 2 * g.monitorRoom + (rest.map fun v => v.category).sum ≤ 8) (hdg : decode cc g.pc = .ok (.invokevirtual index, 3)) (hf : cells + mc ≤ R.cells ∧ slots + ms ≤ R.slots) :
    vx_Run p l e R s m args below meth c H locs cells slots mc ms g rest (Qc (Value.ref b :: As).toArray) XC free := by
  obtain ⟨⟨hrc, hrs, hfr, hlo, hws, hcw⟩, hcode, hini, hy, hlen, hl, hin, hse⟩ := cw
  have hK : vx_Back l R p e below s args y 3 8 (PreOf R mc ms Pc) (PostOf Qc mc ms free) (vx_Post XC mc ms free) := vx_backW (hh := hh) (bytes := bytes) (maxL := maxL) (ret := ret) hM hp.1 hrc hrs hfr hlo hws hcw (fun a' U hW => word_at hW (Or.inl (by first | rfl | simp [Cond.onTables, Cond.keeps, Cond.steady])) hini)
  obtain ⟨hx, hb, hml, ho, -⟩ := S
  obtain ⟨-, ⟨cellB, hcB, hoB, hclB⟩, hPc⟩ := hp
  intro T hT X
  rcases vx_callVX X hx (C := C) (hh := hh) (bytes := bytes) (maxL := maxL) (ret := ret) ho hl hin hse hcode hy hK (by rw [hT]; exact hcB) hoB hclB hg (hsize.trans hml.symm) (argsL := As) (rest := rest) (fun sig h => hn.trans (hlen sig h)) hstack hW (by rw [hb]; exact hdg)
    (fun vm₁ hW₁ => ⟨hf.1, hf.2, hPc (T.setVm vm₁) hT hW₁⟩) with ⟨v, vm₁, ⟨U', l2, c2, s2⟩, hW₁, X', ⟨g', mk, t, L, e1, e2, hq, h1, hL, h2, h3⟩, st⟩ | ⟨q, vm₁, ⟨U', l2, c2, s2⟩, hW₁, X', ⟨g', mk, t, L, E, ce, e1, e2, hq, hce, hcv, hcl, h1, hL, h2, h3⟩, st⟩
  · dsimp only [Pt.U, Pt.locs, Pt.cells, Pt.slots] at X' e1 e2 h1 h2 h3 st
    subst h1; subst h2; subst h3
    exact Or.inl ⟨v, (T.setVm vm₁).calling g' mk (Value.ref b :: As).toArray, t, U', L, hT, X', hL, e1, e2, hq, st⟩
  · dsimp only [Pt.U, Pt.locs, Pt.cells, Pt.slots] at X' e1 e2 h1 h2 h3 st hcl
    subst h1; subst h2; subst h3
    exact Or.inr ⟨q, (T.setVm vm₁).calling g' mk (Value.ref b :: As).toArray, t, U', L, E, ce, hT, X', hL, e1, e2, hq, hce, hcv, vx_cls hW₁ hcl, st⟩
theorem vx_runSX {hh : List (Nat × Nat × Nat × Nat)} (S : CallFix p m c cc nL s args Ts own) (hM : vx_Met l y ws rm Pc Qc XC mc ms free) (cw : vx_CSW R s args own index y bytes maxL ret hh ws rm mc ms n) (hp : PreS s H Pc As)
    (hg : g.method = m) (hn : As.length = n) (hsize : g.locals.size = nL) (hstack : g.stack = As.reverse ++ rest) (hW : 2 * g.monitorRoom + (rest.map fun v => v.category).sum ≤ 8) (hdg : decode cc g.pc = .ok (.invokestatic index, 3)) (hf : cells + mc ≤ R.cells ∧ slots + ms ≤ R.slots) :
    vx_Run p l e R s m args below meth c H locs cells slots mc ms g rest (Qc As.toArray) XC free := by
  obtain ⟨⟨hrc, hrs, hfr, hlo, hws, hcw⟩, hcode, hini, hy, hlen, hl, hstt⟩ := cw
  have hK : vx_Back l R p e below s args y 3 8 (PreOf R mc ms Pc) (PostOf Qc mc ms free) (vx_Post XC mc ms free) := vx_backW (hh := hh) (bytes := bytes) (maxL := maxL) (ret := ret) hM hp.1 hrc hrs hfr hlo hws hcw (fun a' U hW => word_at hW (Or.inl (by first | rfl | simp [Cond.onTables, Cond.keeps, Cond.steady])) hini)
  obtain ⟨hx, hb, hml, ho, -⟩ := S
  intro T hT X
  rcases vx_callSX X hx (hh := hh) (bytes := bytes) (maxL := maxL) (ret := ret) ho hl hstt hini hcode hy hK hg (hsize.trans hml.symm) (argsL := As) (rest := rest) (fun sig h => hn.trans (hlen sig h)) hstack hW (by rw [hb]; exact hdg)
    (fun vm₁ hW₁ => ⟨hf.1, hf.2, hp.2 (T.setVm vm₁) hT hW₁⟩) with ⟨v, vm₁, ⟨U', l2, c2, s2⟩, hW₁, X', ⟨g', mk, t, L, e1, e2, hq, h1, hL, h2, h3⟩, st⟩ | ⟨q, vm₁, ⟨U', l2, c2, s2⟩, hW₁, X', ⟨g', mk, t, L, E, ce, e1, e2, hq, hce, hcv, hcl, h1, hL, h2, h3⟩, st⟩
  · dsimp only [Pt.U, Pt.locs, Pt.cells, Pt.slots] at X' e1 e2 h1 h2 h3 st
    subst h1; subst h2; subst h3
    exact Or.inl ⟨v, (T.setVm vm₁).calling g' mk As.toArray, t, U', L, hT, X', hL, e1, e2, hq, st⟩
  · dsimp only [Pt.U, Pt.locs, Pt.cells, Pt.slots] at X' e1 e2 h1 h2 h3 st hcl
    subst h1; subst h2; subst h3
    exact Or.inr ⟨q, (T.setVm vm₁).calling g' mk As.toArray, t, U', L, E, ce, hT, X', hL, e1, e2, hq, hce, hcv, vx_cls hW₁ hcl, st⟩
end
end VXH
theorem vx_ofWH {l : Launch} {y : MethodName} {ws ws' : List Cond} {rm : Room} {Pc : Array Value → State → Prop} {Qc : Array Value → State → Outcome → State → Prop} {XC : String → State → State → Prop} {mc ms : Nat} {free : Addr → Prop} {cc : ByteArray} {maxL : Nat} {ret : Option FieldType} {hh : List (Nat × Nat × Nat × Nat)}
    (hy : plainName y.cls = true) (hw : ws = Cond.codeWith y cc maxL ret hh :: ws')
    (body : ∀ p e s m args below meth c s₁, BodyLoose p l y (headSpec ws rm) cc maxL ret e s m args below meth c s₁ → c.maxLocals = maxL → Pc args s →
      W p l e (headSpec ws rm).room s m args below meth c s.heap [] 0 0 (vx_MQ below Qc XC args s mc ms free) (entryFrame m args maxL)) : vx_Met l y ws rm Pc Qc XC mc ms free := by
  refine MetFree.of_bodyS (code := cc) (maxLocals := maxL) (ret := ret) hy ?_ ?_
  · intro args s m h hn
    obtain ⟨m9, meth, c, hn9, h1, h2, h3, h4, -, h5, h6, -⟩ := Cond.codeWith_spec (atoms_spec (ws := ws) h _ (by rw [hw]; exact List.mem_cons_self))
    cases hn.symm.trans hn9
    exact ⟨meth, c, h1, h2, h3, h4, h5, h6⟩
  · intro p e s m args below meth c s₁ B hml hP _
    have hh0 : s₁.heap = s.heap := by rw [B.state]; rfl
    obtain ⟨t, a1, o, b1, b2, b3⟩ := body p e s m args below meth c s₁ B hml hP s₁ hh0 (Stand.of_body B)
    exact ⟨t, o, a1, b1, b2, b3⟩
/-! ===== END ===== -/
end
section
def RX0 : String := "SortsCase$Forme"
def TX0 : u_T := fun k => match k with
  | 0 => ("SortsCase$Forme", "wanted", "[I", true)
  | 1 => ("SortsCase$Forme", "sorts", "[I", true)
  | 2 => ("SortsCase$Forme", "turned", "[I", true)
  | 3 => ("SortsCase$Forme", "lineEnds", "[I", true)
  | 4 => ("SortsCase$Forme", "size", "I", false)
  | _ => ("SortsCase$Forme", "lines", "I", false)
def tyX0 : Nat → FieldType := fun k => match k with
  | 0 => .array .int
  | 1 => .array .int
  | 2 => .array .int
  | 3 => .array .int
  | 4 => .int
  | _ => .int
abbrev wsX00 : List Cond := u_ws RX0 TX0 6
abbrev cX0_init : ByteArray := prog_2_method_1_code
def yX0_init : MethodName := ⟨RX0, "<init>", "()V"⟩
abbrev cX0_size : ByteArray := prog_2_method_2_code
def yX0_size : MethodName := ⟨RX0, "size", "()I"⟩
abbrev cX0_lines : ByteArray := prog_2_method_3_code
def yX0_lines : MethodName := ⟨RX0, "lines", "()I"⟩
abbrev cX0_startOf : ByteArray := prog_2_method_4_code
def yX0_startOf : MethodName := ⟨RX0, "startOf", "(I)I"⟩
abbrev cX0_lengthOf : ByteArray := prog_2_method_5_code
def yX0_lengthOf : MethodName := ⟨RX0, "lengthOf", "(I)I"⟩
abbrev cX0_sortAt : ByteArray := prog_2_method_6_code
def yX0_sortAt : MethodName := ⟨RX0, "sortAt", "(I)I"⟩
abbrev cX0_wantedAt : ByteArray := prog_2_method_7_code
def yX0_wantedAt : MethodName := ⟨RX0, "wantedAt", "(I)I"⟩
abbrev cX0_turnedAt : ByteArray := prog_2_method_8_code
def yX0_turnedAt : MethodName := ⟨RX0, "turnedAt", "(I)Z"⟩
abbrev cX0_wrongAt : ByteArray := prog_2_method_9_code
def yX0_wrongAt : MethodName := ⟨RX0, "wrongAt", "(I)Z"⟩
abbrev cX0_about : ByteArray := prog_2_method_10_code
def yX0_about : MethodName := ⟨RX0, "about", "(II)I"⟩
abbrev cX0_add : ByteArray := prog_2_method_11_code
def yX0_add : MethodName := ⟨RX0, "add", "(IIZ)V"⟩
abbrev cX0_endLine : ByteArray := prog_2_method_12_code
def yX0_endLine : MethodName := ⟨RX0, "endLine", "()V"⟩
abbrev cX0_putRight : ByteArray := prog_2_method_13_code
def yX0_putRight : MethodName := ⟨RX0, "putRight", "(I)V"⟩
abbrev cX0_clear : ByteArray := prog_2_method_14_code
def yX0_clear : MethodName := ⟨RX0, "clear", "()V"⟩
abbrev cX0_errors : ByteArray := prog_2_method_15_code
def yX0_errors : MethodName := ⟨RX0, "errors", "()I"⟩
abbrev cX0_turnedSorts : ByteArray := prog_2_method_16_code
def yX0_turnedSorts : MethodName := ⟨RX0, "turnedSorts", "()I"⟩
abbrev cX0_countOf : ByteArray := prog_2_method_17_code
def yX0_countOf : MethodName := ⟨RX0, "countOf", "(I)I"⟩
abbrev cX0_errorAt : ByteArray := prog_2_method_18_code
def yX0_errorAt : MethodName := ⟨RX0, "errorAt", "(I)I"⟩
abbrev cX0_mixedInto : ByteArray := prog_2_method_19_code
def yX0_mixedInto : MethodName := ⟨RX0, "mixedInto", "(J)J"⟩
abbrev cX0_copyFrom : ByteArray := prog_2_method_20_code
def yX0_copyFrom : MethodName := ⟨RX0, "copyFrom", "(LSortsCase$Forme;)V"⟩
def RX1 : String := "SortsCase$History"
def TX1 : u_T := fun k => match k with
  | 0 => ("SortsCase$History", "saved", "[LSortsCase$Shop;", true)
  | _ => ("SortsCase$History", "size", "I", false)
def tyX1 : Nat → FieldType := fun k => match k with
  | 0 => .array (.object "SortsCase$Shop")
  | _ => .int
abbrev wsX10 : List Cond := u_ws RX1 TX1 2
abbrev cX1_init : ByteArray := prog_3_method_1_code
def yX1_init : MethodName := ⟨RX1, "<init>", "()V"⟩
abbrev cX1_size : ByteArray := prog_3_method_2_code
def yX1_size : MethodName := ⟨RX1, "size", "()I"⟩
abbrev cX1_save : ByteArray := prog_3_method_3_code
def yX1_save : MethodName := ⟨RX1, "save", "(LSortsCase$Shop;)V"⟩
abbrev cX1_restore : ByteArray := prog_3_method_4_code
def yX1_restore : MethodName := ⟨RX1, "restore", "(LSortsCase$Shop;)V"⟩
abbrev cX1_dropOldest : ByteArray := prog_3_method_5_code
def yX1_dropOldest : MethodName := ⟨RX1, "dropOldest", "()V"⟩
def RX2 : String := "SortsCase$Row"
def TX2 : u_T := fun k => match k with
  | 0 => ("SortsCase$Row", "letters", "[I", true)
  | _ => ("SortsCase$Row", "size", "I", false)
def tyX2 : Nat → FieldType := fun k => match k with
  | 0 => .array .int
  | _ => .int
abbrev wsX20 : List Cond := u_ws RX2 TX2 2
abbrev cX2_init : ByteArray := prog_4_method_1_code
def yX2_init : MethodName := ⟨RX2, "<init>", "(I)V"⟩
abbrev cX2_size : ByteArray := prog_4_method_2_code
def yX2_size : MethodName := ⟨RX2, "size", "()I"⟩
abbrev cX2_at : ByteArray := prog_4_method_3_code
def yX2_at : MethodName := ⟨RX2, "at", "(I)I"⟩
abbrev cX2_put : ByteArray := prog_4_method_4_code
def yX2_put : MethodName := ⟨RX2, "put", "(I)V"⟩
abbrev cX2_takeAt : ByteArray := prog_4_method_5_code
def yX2_takeAt : MethodName := ⟨RX2, "takeAt", "(I)I"⟩
abbrev cX2_takeLast : ByteArray := prog_4_method_6_code
def yX2_takeLast : MethodName := ⟨RX2, "takeLast", "()I"⟩
abbrev cX2_dropFirst : ByteArray := prog_4_method_7_code
def yX2_dropFirst : MethodName := ⟨RX2, "dropFirst", "(I)V"⟩
abbrev cX2_clear : ByteArray := prog_4_method_8_code
def yX2_clear : MethodName := ⟨RX2, "clear", "()V"⟩
abbrev cX2_countOf : ByteArray := prog_4_method_9_code
def yX2_countOf : MethodName := ⟨RX2, "countOf", "(I)I"⟩
abbrev cX2_lastIndexOf : ByteArray := prog_4_method_10_code
def yX2_lastIndexOf : MethodName := ⟨RX2, "lastIndexOf", "(I)I"⟩
abbrev cX2_mixedInto : ByteArray := prog_4_method_11_code
def yX2_mixedInto : MethodName := ⟨RX2, "mixedInto", "(J)J"⟩
abbrev cX2_copyFrom : ByteArray := prog_4_method_12_code
def yX2_copyFrom : MethodName := ⟨RX2, "copyFrom", "(LSortsCase$Row;)V"⟩
def RX3 : String := "SortsCase$Shop"
def TX3 : u_T := fun k => match k with
  | 0 => ("SortsCase$Shop", "boxes", "[LSortsCase$Row;", true)
  | 1 => ("SortsCase$Shop", "formes", "[LSortsCase$Forme;", true)
  | 2 => ("SortsCase$Shop", "heap", "LSortsCase$Row;", true)
  | 3 => ("SortsCase$Shop", "slip", "I", false)
  | 4 => ("SortsCase$Shop", "price", "I", false)
  | 5 => ("SortsCase$Shop", "cost", "I", false)
  | 6 => ("SortsCase$Shop", "minutes", "I", false)
  | _ => ("SortsCase$Shop", "distributed", "I", false)
def tyX3 : Nat → FieldType := fun k => match k with
  | 0 => .array (.object "SortsCase$Row")
  | 1 => .array (.object "SortsCase$Forme")
  | 2 => .object "SortsCase$Row"
  | 3 => .int
  | 4 => .int
  | 5 => .int
  | 6 => .int
  | _ => .int
abbrev wsX30 : List Cond := u_ws RX3 TX3 8
abbrev cX3_init : ByteArray := prog_5_method_1_code
def yX3_init : MethodName := ⟨RX3, "<init>", "()V"⟩
abbrev cX3_boxOf : ByteArray := prog_5_method_2_code
def yX3_boxOf : MethodName := ⟨RX3, "boxOf", "(I)LSortsCase$Row;"⟩
abbrev cX3_formeOf : ByteArray := prog_5_method_3_code
def yX3_formeOf : MethodName := ⟨RX3, "formeOf", "(I)LSortsCase$Forme;"⟩
abbrev cX3_putBack : ByteArray := prog_5_method_4_code
def yX3_putBack : MethodName := ⟨RX3, "putBack", "(I)V"⟩
abbrev cX3_buySorts : ByteArray := prog_5_method_5_code
def yX3_buySorts : MethodName := ⟨RX3, "buySorts", "(II)V"⟩
abbrev cX3_spillSorts : ByteArray := prog_5_method_6_code
def yX3_spillSorts : MethodName := ⟨RX3, "spillSorts", "(III)V"⟩
abbrev cX3_cleanBox : ByteArray := prog_5_method_7_code
def yX3_cleanBox : MethodName := ⟨RX3, "cleanBox", "(I)I"⟩
abbrev cX3_setText : ByteArray := prog_5_method_8_code
def yX3_setText : MethodName := ⟨RX3, "setText", "(LSortsCase$Row;LSortsCase$Forme;)Z"⟩
abbrev cX3_lenderFor : ByteArray := prog_5_method_9_code
def yX3_lenderFor : MethodName := ⟨RX3, "lenderFor", "(I)LSortsCase$Row;"⟩
abbrev cX3_correctForme : ByteArray := prog_5_method_10_code
def yX3_correctForme : MethodName := ⟨RX3, "correctForme", "(LSortsCase$Forme;)I"⟩
abbrev cX3_correctPlace : ByteArray := prog_5_method_11_code
def yX3_correctPlace : MethodName := ⟨RX3, "correctPlace", "(LSortsCase$Forme;I)Z"⟩
abbrev cX3_distributeForme : ByteArray := prog_5_method_12_code
def yX3_distributeForme : MethodName := ⟨RX3, "distributeForme", "(LSortsCase$Forme;)I"⟩
abbrev cX3_slips : ByteArray := prog_5_method_13_code
def yX3_slips : MethodName := ⟨RX3, "slips", "(I)Z"⟩
abbrev cX3_pieForme : ByteArray := prog_5_method_14_code
def yX3_pieForme : MethodName := ⟨RX3, "pieForme", "(LSortsCase$Forme;)V"⟩
abbrev cX3_sortFromHeap : ByteArray := prog_5_method_15_code
def yX3_sortFromHeap : MethodName := ⟨RX3, "sortFromHeap", "(I)I"⟩
abbrev cX3_number : ByteArray := prog_5_method_16_code
def yX3_number : MethodName := ⟨RX3, "number", "(I)I"⟩
abbrev cX3_allSorts : ByteArray := prog_5_method_17_code
def yX3_allSorts : MethodName := ⟨RX3, "allSorts", "()I"⟩
abbrev cX3_sortsInBoxes : ByteArray := prog_5_method_18_code
def yX3_sortsInBoxes : MethodName := ⟨RX3, "sortsInBoxes", "()I"⟩
abbrev cX3_foulSorts : ByteArray := prog_5_method_19_code
def yX3_foulSorts : MethodName := ⟨RX3, "foulSorts", "()I"⟩
abbrev cX3_countInBoxes : ByteArray := prog_5_method_20_code
def yX3_countInBoxes : MethodName := ⟨RX3, "countInBoxes", "(I)I"⟩
abbrev cX3_sortsInFormes : ByteArray := prog_5_method_21_code
def yX3_sortsInFormes : MethodName := ⟨RX3, "sortsInFormes", "()I"⟩
abbrev cX3_countInFormes : ByteArray := prog_5_method_22_code
def yX3_countInFormes : MethodName := ⟨RX3, "countInFormes", "(I)I"⟩
abbrev cX3_errorsInFormes : ByteArray := prog_5_method_23_code
def yX3_errorsInFormes : MethodName := ⟨RX3, "errorsInFormes", "()I"⟩
abbrev cX3_turnedInFormes : ByteArray := prog_5_method_24_code
def yX3_turnedInFormes : MethodName := ⟨RX3, "turnedInFormes", "()I"⟩
abbrev cX3_copyFrom : ByteArray := prog_5_method_25_code
def yX3_copyFrom : MethodName := ⟨RX3, "copyFrom", "(LSortsCase$Shop;)V"⟩
def RX4 : String := "SortsCase"
def TX4 : u_T := fun k => match k with
  | 0 => ("SortsCase", "shop", "LSortsCase$Shop;", true)
  | 1 => ("SortsCase", "text", "LSortsCase$Row;", true)
  | 2 => ("SortsCase", "history", "LSortsCase$History;", true)
  | 3 => ("SortsCase", "trialShop", "LSortsCase$Shop;", true)
  | _ => ("SortsCase", "trialForme", "LSortsCase$Forme;", true)
def tyX4 : Nat → FieldType := fun k => match k with
  | 0 => .object "SortsCase$Shop"
  | 1 => .object "SortsCase$Row"
  | 2 => .object "SortsCase$History"
  | 3 => .object "SortsCase$Shop"
  | _ => .object "SortsCase$Forme"
abbrev wsX40 : List Cond := u_ws RX4 TX4 5
abbrev cX4_init : ByteArray := prog_1_method_1_code
def yX4_init : MethodName := ⟨RX4, "<init>", "()V"⟩
abbrev cX4_buy : ByteArray := prog_1_method_2_code
def yX4_buy : MethodName := ⟨RX4, "buy", "(II)I"⟩
abbrev cX4_buyLacking : ByteArray := prog_1_method_3_code
def yX4_buyLacking : MethodName := ⟨RX4, "buyLacking", "()I"⟩
abbrev cX4_spill : ByteArray := prog_1_method_4_code
def yX4_spill : MethodName := ⟨RX4, "spill", "(III)I"⟩
abbrev cX4_clean : ByteArray := prog_1_method_5_code
def yX4_clean : MethodName := ⟨RX4, "clean", "(I)I"⟩
abbrev cX4_set : ByteArray := prog_1_method_6_code
def yX4_set : MethodName := ⟨RX4, "set", "(II)I"⟩
abbrev cX4_letter : ByteArray := prog_1_method_7_code
def yX4_letter : MethodName := ⟨RX4, "letter", "(II)I"⟩
abbrev cX4_inBox : ByteArray := prog_1_method_8_code
def yX4_inBox : MethodName := ⟨RX4, "inBox", "(II)I"⟩
abbrev cX4_value : ByteArray := prog_1_method_9_code
def yX4_value : MethodName := ⟨RX4, "value", "(I)I"⟩
abbrev cX4_setLine : ByteArray := prog_1_method_10_code
def yX4_setLine : MethodName := ⟨RX4, "setLine", "(I)I"⟩
abbrev cX4_correct : ByteArray := prog_1_method_11_code
def yX4_correct : MethodName := ⟨RX4, "correct", "(I)I"⟩
abbrev cX4_distribute : ByteArray := prog_1_method_12_code
def yX4_distribute : MethodName := ⟨RX4, "distribute", "(I)I"⟩
abbrev cX4_pie : ByteArray := prog_1_method_13_code
def yX4_pie : MethodName := ⟨RX4, "pie", "(I)I"⟩
abbrev cX4_sortHeap : ByteArray := prog_1_method_14_code
def yX4_sortHeap : MethodName := ⟨RX4, "sortHeap", "(I)I"⟩
abbrev cX4_forme : ByteArray := prog_1_method_15_code
def yX4_forme : MethodName := ⟨RX4, "forme", "(II)I"⟩
abbrev cX4_places : ByteArray := prog_1_method_16_code
def yX4_places : MethodName := ⟨RX4, "places", "(II)I"⟩
abbrev cX4_place : ByteArray := prog_1_method_17_code
def yX4_place : MethodName := ⟨RX4, "place", "(IIII)I"⟩
abbrev cX4_proof : ByteArray := prog_1_method_18_code
def yX4_proof : MethodName := ⟨RX4, "proof", "(II)I"⟩
abbrev cX4_inHeap : ByteArray := prog_1_method_19_code
def yX4_inHeap : MethodName := ⟨RX4, "inHeap", "(I)I"⟩
abbrev cX4_errorsIfSet : ByteArray := prog_1_method_20_code
def yX4_errorsIfSet : MethodName := ⟨RX4, "errorsIfSet", "()I"⟩
abbrev cX4_turnedIfSet : ByteArray := prog_1_method_21_code
def yX4_turnedIfSet : MethodName := ⟨RX4, "turnedIfSet", "()I"⟩
abbrev cX4_copies : ByteArray := prog_1_method_22_code
def yX4_copies : MethodName := ⟨RX4, "copies", "()I"⟩
abbrev cX4_bestToDistribute : ByteArray := prog_1_method_23_code
def yX4_bestToDistribute : MethodName := ⟨RX4, "bestToDistribute", "()I"⟩
abbrev cX4_order : ByteArray := prog_1_method_24_code
def yX4_order : MethodName := ⟨RX4, "order", "()D"⟩
abbrev cX4_append : ByteArray := prog_1_method_25_code
def yX4_append : MethodName := ⟨RX4, "append", "(I)I"⟩
abbrev cX4_clearText : ByteArray := prog_1_method_26_code
def yX4_clearText : MethodName := ⟨RX4, "clearText", "()I"⟩
abbrev cX4_undo : ByteArray := prog_1_method_27_code
def yX4_undo : MethodName := ⟨RX4, "undo", "()I"⟩
abbrev cX4_digest : ByteArray := prog_1_method_28_code
def yX4_digest : MethodName := ⟨RX4, "digest", "()J"⟩
abbrev cX4_aboutLetter : ByteArray := prog_1_method_29_code
def yX4_aboutLetter : MethodName := ⟨RX4, "aboutLetter", "(II)I"⟩
abbrev cX4_aboutForme : ByteArray := prog_1_method_30_code
def yX4_aboutForme : MethodName := ⟨RX4, "aboutForme", "(II)I"⟩
abbrev cX4_lackingOf : ByteArray := prog_1_method_31_code
def yX4_lackingOf : MethodName := ⟨RX4, "lackingOf", "(I)I"⟩
abbrev cX4_settingGoes : ByteArray := prog_1_method_32_code
def yX4_settingGoes : MethodName := ⟨RX4, "settingGoes", "()Z"⟩
abbrev cX4_trialGoes : ByteArray := prog_1_method_33_code
def yX4_trialGoes : MethodName := ⟨RX4, "trialGoes", "()Z"⟩
abbrev cX4_requireLetter : ByteArray := prog_1_method_34_code
def yX4_requireLetter : MethodName := ⟨RX4, "requireLetter", "(I)V"⟩
abbrev cX4_requireForme : ByteArray := prog_1_method_35_code
def yX4_requireForme : MethodName := ⟨RX4, "requireForme", "(I)V"⟩
abbrev cX4_requireIndex : ByteArray := prog_1_method_36_code
def yX4_requireIndex : MethodName := ⟨RX4, "requireIndex", "(II)V"⟩
abbrev cX4_requireRange : ByteArray := prog_1_method_37_code
def yX4_requireRange : MethodName := ⟨RX4, "requireRange", "(III)V"⟩
abbrev cX4_requireRoomFor : ByteArray := prog_1_method_38_code
def yX4_requireRoomFor : MethodName := ⟨RX4, "requireRoomFor", "(I)V"⟩
abbrev cX4_widthOf : ByteArray := prog_1_method_39_code
def yX4_widthOf : MethodName := ⟨RX4, "widthOf", "(I)I"⟩
abbrev cX4_mixed : ByteArray := prog_1_method_40_code
def yX4_mixed : MethodName := ⟨RX4, "mixed", "(JJ)J"⟩
def RX5 : String := "SortsCaseModel"
def TX5 : u_T := fun k => match k with
  | 0 => ("SortsCaseModel", "all", "[I", true)
  | 1 => ("SortsCaseModel", "saved", "[I", true)
  | 2 => ("SortsCaseModel", "aside", "[I", true)
  | 3 => ("SortsCaseModel", "savedMany", "I", false)
  | 4 => ("SortsCaseModel", "text", "[I", true)
  | 5 => ("SortsCaseModel", "textLong", "I", false)
  | 6 => ("SortsCaseModel", "row", "[I", true)
  | 7 => ("SortsCaseModel", "threw", "I", false)
  | 8 => ("SortsCaseModel", "lineLetter", "[I", true)
  | _ => ("SortsCaseModel", "lineTurned", "[I", true)
def tyX5 : Nat → FieldType := fun k => match k with
  | 0 => .array .int
  | 1 => .array .int
  | 2 => .array .int
  | 3 => .int
  | 4 => .array .int
  | 5 => .int
  | 6 => .array .int
  | 7 => .int
  | 8 => .array .int
  | _ => .array .int
abbrev wsX50 : List Cond := u_ws RX5 TX5 10
abbrev cX5_init : ByteArray := prog_7_method_1_code
def yX5_init : MethodName := ⟨RX5, "<init>", "()V"⟩
abbrev cX5_thrown : ByteArray := prog_7_method_2_code
def yX5_thrown : MethodName := ⟨RX5, "thrown", "()I"⟩
abbrev cX5_in : ByteArray := prog_7_method_3_code
def yX5_in : MethodName := ⟨RX5, "in", "(JJJ)Z"⟩
abbrev cX5_fine : ByteArray := prog_7_method_4_code
def yX5_fine : MethodName := ⟨RX5, "fine", "(I)I"⟩
abbrev cX5_throwing : ByteArray := prog_7_method_5_code
def yX5_throwing : MethodName := ⟨RX5, "throwing", "(I)I"⟩
abbrev cX5_save : ByteArray := prog_7_method_6_code
def yX5_save : MethodName := ⟨RX5, "save", "()V"⟩
abbrev cX5_laysAside : ByteArray := prog_7_method_7_code
def yX5_laysAside : MethodName := ⟨RX5, "laysAside", "()V"⟩
abbrev cX5_takesBack : ByteArray := prog_7_method_8_code
def yX5_takesBack : MethodName := ⟨RX5, "takesBack", "()V"⟩
abbrev cX5_isLetter : ByteArray := prog_7_method_9_code
def yX5_isLetter : MethodName := ⟨RX5, "isLetter", "(I)Z"⟩
abbrev cX5_isForme : ByteArray := prog_7_method_10_code
def yX5_isForme : MethodName := ⟨RX5, "isForme", "(I)Z"⟩
abbrev cX5_widthOf : ByteArray := prog_7_method_11_code
def yX5_widthOf : MethodName := ⟨RX5, "widthOf", "(I)I"⟩
abbrev cX5_puts : ByteArray := prog_7_method_12_code
def yX5_puts : MethodName := ⟨RX5, "puts", "(II)V"⟩
abbrev cX5_takes : ByteArray := prog_7_method_13_code
def yX5_takes : MethodName := ⟨RX5, "takes", "(I)I"⟩
abbrev cX5_countIn : ByteArray := prog_7_method_14_code
def yX5_countIn : MethodName := ⟨RX5, "countIn", "(II)I"⟩
abbrev cX5_foulIn : ByteArray := prog_7_method_15_code
def yX5_foulIn : MethodName := ⟨RX5, "foulIn", "(I)I"⟩
abbrev cX5_inBoxes : ByteArray := prog_7_method_16_code
def yX5_inBoxes : MethodName := ⟨RX5, "inBoxes", "()I"⟩
abbrev cX5_takesOwn : ByteArray := prog_7_method_17_code
def yX5_takesOwn : MethodName := ⟨RX5, "takesOwn", "(I)Z"⟩
abbrev cX5_empties : ByteArray := prog_7_method_18_code
def yX5_empties : MethodName := ⟨RX5, "empties", "(I)I"⟩
abbrev cX5_lineAt : ByteArray := prog_7_method_19_code
def yX5_lineAt : MethodName := ⟨RX5, "lineAt", "(II)I"⟩
abbrev cX5_places0 : ByteArray := prog_7_method_20_code
def yX5_places0 : MethodName := ⟨RX5, "places0", "(II)I"⟩
abbrev cX5_of : ByteArray := prog_7_method_21_code
def yX5_of : MethodName := ⟨RX5, "of", "(IIII)I"⟩
abbrev cX5_isWrong : ByteArray := prog_7_method_22_code
def yX5_isWrong : MethodName := ⟨RX5, "isWrong", "(III)Z"⟩
abbrev cX5_countOf : ByteArray := prog_7_method_23_code
def yX5_countOf : MethodName := ⟨RX5, "countOf", "(II)I"⟩
abbrev cX5_countAll : ByteArray := prog_7_method_24_code
def yX5_countAll : MethodName := ⟨RX5, "countAll", "(I)I"⟩
abbrev cX5_sorts : ByteArray := prog_7_method_25_code
def yX5_sorts : MethodName := ⟨RX5, "sorts", "()I"⟩
abbrev cX5_loosens : ByteArray := prog_7_method_26_code
def yX5_loosens : MethodName := ⟨RX5, "loosens", "(I)V"⟩
abbrev cX5_buys : ByteArray := prog_7_method_27_code
def yX5_buys : MethodName := ⟨RX5, "buys", "(II)V"⟩
abbrev cX5_buy : ByteArray := prog_7_method_28_code
def yX5_buy : MethodName := ⟨RX5, "buy", "(II)I"⟩
abbrev cX5_lacking : ByteArray := prog_7_method_29_code
def yX5_lacking : MethodName := ⟨RX5, "lacking", "(I)I"⟩
abbrev cX5_buyLacking : ByteArray := prog_7_method_30_code
def yX5_buyLacking : MethodName := ⟨RX5, "buyLacking", "()I"⟩
abbrev cX5_spill : ByteArray := prog_7_method_31_code
def yX5_spill : MethodName := ⟨RX5, "spill", "(III)I"⟩
abbrev cX5_clean : ByteArray := prog_7_method_32_code
def yX5_clean : MethodName := ⟨RX5, "clean", "(I)I"⟩
abbrev cX5_set : ByteArray := prog_7_method_33_code
def yX5_set : MethodName := ⟨RX5, "set", "(II)I"⟩
abbrev cX5_inAllBoxes : ByteArray := prog_7_method_34_code
def yX5_inAllBoxes : MethodName := ⟨RX5, "inAllBoxes", "(I)I"⟩
abbrev cX5_inTheHeap : ByteArray := prog_7_method_35_code
def yX5_inTheHeap : MethodName := ⟨RX5, "inTheHeap", "(I)I"⟩
abbrev cX5_letterOf : ByteArray := prog_7_method_36_code
def yX5_letterOf : MethodName := ⟨RX5, "letterOf", "(II)I"⟩
abbrev cX5_letter : ByteArray := prog_7_method_37_code
def yX5_letter : MethodName := ⟨RX5, "letter", "(II)I"⟩
abbrev cX5_inBox : ByteArray := prog_7_method_38_code
def yX5_inBox : MethodName := ⟨RX5, "inBox", "(II)I"⟩
abbrev cX5_allFoul : ByteArray := prog_7_method_39_code
def yX5_allFoul : MethodName := ⟨RX5, "allFoul", "()I"⟩
abbrev cX5_valueOf : ByteArray := prog_7_method_40_code
def yX5_valueOf : MethodName := ⟨RX5, "valueOf", "(I)I"⟩
abbrev cX5_value : ByteArray := prog_7_method_41_code
def yX5_value : MethodName := ⟨RX5, "value", "(I)I"⟩
abbrev cX5_lender : ByteArray := prog_7_method_42_code
def yX5_lender : MethodName := ⟨RX5, "lender", "(I)I"⟩
abbrev cX5_sets : ByteArray := prog_7_method_43_code
def yX5_sets : MethodName := ⟨RX5, "sets", "()Z"⟩
abbrev cX5_wrongInLine : ByteArray := prog_7_method_44_code
def yX5_wrongInLine : MethodName := ⟨RX5, "wrongInLine", "()I"⟩
abbrev cX5_turnedInLine : ByteArray := prog_7_method_45_code
def yX5_turnedInLine : MethodName := ⟨RX5, "turnedInLine", "()I"⟩
abbrev cX5_setLine : ByteArray := prog_7_method_46_code
def yX5_setLine : MethodName := ⟨RX5, "setLine", "(I)I"⟩
abbrev cX5_corrects : ByteArray := prog_7_method_47_code
def yX5_corrects : MethodName := ⟨RX5, "corrects", "(I)I"⟩
abbrev cX5_correct : ByteArray := prog_7_method_48_code
def yX5_correct : MethodName := ⟨RX5, "correct", "(I)I"⟩
abbrev cX5_distributes : ByteArray := prog_7_method_49_code
def yX5_distributes : MethodName := ⟨RX5, "distributes", "(I)I"⟩
abbrev cX5_distribute : ByteArray := prog_7_method_50_code
def yX5_distribute : MethodName := ⟨RX5, "distribute", "(I)I"⟩
abbrev cX5_pie : ByteArray := prog_7_method_51_code
def yX5_pie : MethodName := ⟨RX5, "pie", "(I)I"⟩
abbrev cX5_sortHeap : ByteArray := prog_7_method_52_code
def yX5_sortHeap : MethodName := ⟨RX5, "sortHeap", "(I)I"⟩
abbrev cX5_formeOf : ByteArray := prog_7_method_53_code
def yX5_formeOf : MethodName := ⟨RX5, "formeOf", "(II)I"⟩
abbrev cX5_forme : ByteArray := prog_7_method_54_code
def yX5_forme : MethodName := ⟨RX5, "forme", "(II)I"⟩
abbrev cX5_isLine : ByteArray := prog_7_method_55_code
def yX5_isLine : MethodName := ⟨RX5, "isLine", "(II)Z"⟩
abbrev cX5_places : ByteArray := prog_7_method_56_code
def yX5_places : MethodName := ⟨RX5, "places", "(II)I"⟩
abbrev cX5_placeOf : ByteArray := prog_7_method_57_code
def yX5_placeOf : MethodName := ⟨RX5, "placeOf", "(IIII)I"⟩
abbrev cX5_place : ByteArray := prog_7_method_58_code
def yX5_place : MethodName := ⟨RX5, "place", "(IIII)I"⟩
abbrev cX5_proof : ByteArray := prog_7_method_59_code
def yX5_proof : MethodName := ⟨RX5, "proof", "(II)I"⟩
abbrev cX5_inHeap : ByteArray := prog_7_method_60_code
def yX5_inHeap : MethodName := ⟨RX5, "inHeap", "(I)I"⟩
abbrev cX5_errorsIfSet : ByteArray := prog_7_method_61_code
def yX5_errorsIfSet : MethodName := ⟨RX5, "errorsIfSet", "()I"⟩
abbrev cX5_turnedIfSet : ByteArray := prog_7_method_62_code
def yX5_turnedIfSet : MethodName := ⟨RX5, "turnedIfSet", "()I"⟩
abbrev cX5_copies : ByteArray := prog_7_method_63_code
def yX5_copies : MethodName := ⟨RX5, "copies", "()I"⟩
abbrev cX5_bestToDistribute : ByteArray := prog_7_method_64_code
def yX5_bestToDistribute : MethodName := ⟨RX5, "bestToDistribute", "()I"⟩
abbrev cX5_order : ByteArray := prog_7_method_65_code
def yX5_order : MethodName := ⟨RX5, "order", "()D"⟩
abbrev cX5_append : ByteArray := prog_7_method_66_code
def yX5_append : MethodName := ⟨RX5, "append", "(I)I"⟩
abbrev cX5_clearText : ByteArray := prog_7_method_67_code
def yX5_clearText : MethodName := ⟨RX5, "clearText", "()I"⟩
abbrev cX5_undo : ByteArray := prog_7_method_68_code
def yX5_undo : MethodName := ⟨RX5, "undo", "()I"⟩
abbrev cX5_hashBoxes : ByteArray := prog_7_method_69_code
def yX5_hashBoxes : MethodName := ⟨RX5, "hashBoxes", "(J)J"⟩
abbrev cX5_hashForme : ByteArray := prog_7_method_70_code
def yX5_hashForme : MethodName := ⟨RX5, "hashForme", "(JI)J"⟩
abbrev cX5_digest : ByteArray := prog_7_method_71_code
def yX5_digest : MethodName := ⟨RX5, "digest", "()J"⟩
def RJ9 : String := "java/lang/Math"
def TJ9 : u_T := fun k => match k with
  | _ => ("", "", "", false)
def tyJ9 : Nat → FieldType := fun k => match k with
  | _ => .int
abbrev wsJ90 : List Cond := u_ws RJ9 TJ9 0
abbrev cJ9_floorMod_7cf53 : ByteArray := prog_12_method_50_code
def yJ9_floorMod_7cf53 : MethodName := ⟨RJ9, "floorMod", "(II)I"⟩
abbrev cJ9_max_7cf53 : ByteArray := prog_12_method_65_code
def yJ9_max_7cf53 : MethodName := ⟨RJ9, "max", "(II)I"⟩
abbrev cJ9_min_7cf53 : ByteArray := prog_12_method_69_code
def yJ9_min_7cf53 : MethodName := ⟨RJ9, "min", "(II)I"⟩
def RJ0 : String := "java/lang/String"
def TJ0 : u_T := fun k => match k with
  | _ => ("", "", "", false)
def tyJ0 : Nat → FieldType := fun k => match k with
  | _ => .int
abbrev wsJ00 : List Cond := u_ws RJ0 TJ0 0
def RJ10 : String := "java/lang/System"
def TJ10 : u_T := fun k => match k with
  | _ => ("", "", "", false)
def tyJ10 : Nat → FieldType := fun k => match k with
  | _ => .int
abbrev wsJ100 : List Cond := u_ws RJ10 TJ10 0
def RL : String := "SortsCaseLaw"
abbrev cL_buy : ByteArray := method_3_code
def yL_buy : MethodName := ⟨RL, "buy", "(LSortsCase;II[J)I"⟩
abbrev cL_buyLacking : ByteArray := method_4_code
def yL_buyLacking : MethodName := ⟨RL, "buyLacking", "(LSortsCase;[J)I"⟩
abbrev cL_spill : ByteArray := method_5_code
def yL_spill : MethodName := ⟨RL, "spill", "(LSortsCase;III[J)I"⟩
abbrev cL_clean : ByteArray := method_6_code
def yL_clean : MethodName := ⟨RL, "clean", "(LSortsCase;I[J)I"⟩
abbrev cL_set : ByteArray := method_7_code
def yL_set : MethodName := ⟨RL, "set", "(LSortsCase;II[J)I"⟩
abbrev cL_letter : ByteArray := method_8_code
def yL_letter : MethodName := ⟨RL, "letter", "(LSortsCase;II[J)I"⟩
abbrev cL_inBox : ByteArray := method_9_code
def yL_inBox : MethodName := ⟨RL, "inBox", "(LSortsCase;II[J)I"⟩
abbrev cL_value : ByteArray := method_10_code
def yL_value : MethodName := ⟨RL, "value", "(LSortsCase;I[J)I"⟩
abbrev cL_setLine : ByteArray := method_11_code
def yL_setLine : MethodName := ⟨RL, "setLine", "(LSortsCase;I[J)I"⟩
abbrev cL_correct : ByteArray := method_12_code
def yL_correct : MethodName := ⟨RL, "correct", "(LSortsCase;I[J)I"⟩
abbrev cL_distribute : ByteArray := method_13_code
def yL_distribute : MethodName := ⟨RL, "distribute", "(LSortsCase;I[J)I"⟩
abbrev cL_pie : ByteArray := method_14_code
def yL_pie : MethodName := ⟨RL, "pie", "(LSortsCase;I[J)I"⟩
abbrev cL_sortHeap : ByteArray := method_15_code
def yL_sortHeap : MethodName := ⟨RL, "sortHeap", "(LSortsCase;I[J)I"⟩
abbrev cL_forme : ByteArray := method_16_code
def yL_forme : MethodName := ⟨RL, "forme", "(LSortsCase;II[J)I"⟩
abbrev cL_places : ByteArray := method_17_code
def yL_places : MethodName := ⟨RL, "places", "(LSortsCase;II[J)I"⟩
abbrev cL_place : ByteArray := method_18_code
def yL_place : MethodName := ⟨RL, "place", "(LSortsCase;IIII[J)I"⟩
abbrev cL_proof : ByteArray := method_19_code
def yL_proof : MethodName := ⟨RL, "proof", "(LSortsCase;II[J)I"⟩
abbrev cL_inHeap : ByteArray := method_20_code
def yL_inHeap : MethodName := ⟨RL, "inHeap", "(LSortsCase;I[J)I"⟩
abbrev cL_append : ByteArray := method_21_code
def yL_append : MethodName := ⟨RL, "append", "(LSortsCase;I[J)I"⟩
abbrev cL_undo : ByteArray := method_22_code
def yL_undo : MethodName := ⟨RL, "undo", "(LSortsCase;[J)I"⟩
abbrev cL_law : ByteArray := code
def yL_law : MethodName := ⟨RL, "law", "([I)Z"⟩
abbrev vwCl : List vw_C := [(RX0, TX0, 6), (RX1, TX1, 2), (RX2, TX2, 2), (RX3, TX3, 8), (RX4, TX4, 5), (RX5, TX5, 10)]
end
section
theorem dX0_init_0 : decode cX0_init 0 = .ok (.aload_n 0, 1) := by decide +kernel
theorem dX0_init_1 : decode cX0_init 1 = .ok (.invokespecial 3, 3) := by decide +kernel
theorem dX0_init_4 : decode cX0_init 4 = .ok (.aload_n 0, 1) := by decide +kernel
theorem dX0_init_5 : decode cX0_init 5 = .ok (.bipush 80, 2) := by decide +kernel
theorem dX0_init_7 : decode cX0_init 7 = .ok (.newarray .int, 2) := by decide +kernel
theorem dX0_init_9 : decode cX0_init 9 = .ok (.putfield 9, 3) := by decide +kernel
theorem dX0_init_12 : decode cX0_init 12 = .ok (.aload_n 0, 1) := by decide +kernel
theorem dX0_init_13 : decode cX0_init 13 = .ok (.bipush 80, 2) := by decide +kernel
theorem dX0_init_15 : decode cX0_init 15 = .ok (.newarray .int, 2) := by decide +kernel
theorem dX0_init_17 : decode cX0_init 17 = .ok (.putfield 15, 3) := by decide +kernel
theorem dX0_init_20 : decode cX0_init 20 = .ok (.aload_n 0, 1) := by decide +kernel
theorem dX0_init_21 : decode cX0_init 21 = .ok (.bipush 80, 2) := by decide +kernel
theorem dX0_init_23 : decode cX0_init 23 = .ok (.newarray .int, 2) := by decide +kernel
theorem dX0_init_25 : decode cX0_init 25 = .ok (.putfield 18, 3) := by decide +kernel
theorem dX0_init_28 : decode cX0_init 28 = .ok (.aload_n 0, 1) := by decide +kernel
theorem dX0_init_29 : decode cX0_init 29 = .ok (.iconst 5, 1) := by decide +kernel
theorem dX0_init_30 : decode cX0_init 30 = .ok (.newarray .int, 2) := by decide +kernel
theorem dX0_init_32 : decode cX0_init 32 = .ok (.putfield 21, 3) := by decide +kernel
theorem dX0_init_35 : decode cX0_init 35 = .ok (.return_, 1) := by decide +kernel
theorem dX0_size_0 : decode cX0_size 0 = .ok (.aload_n 0, 1) := by decide +kernel
theorem dX0_size_1 : decode cX0_size 1 = .ok (.getfield 24, 3) := by decide +kernel
theorem dX0_size_4 : decode cX0_size 4 = .ok (.ireturn, 1) := by decide +kernel
theorem dX0_lines_0 : decode cX0_lines 0 = .ok (.aload_n 0, 1) := by decide +kernel
theorem dX0_lines_1 : decode cX0_lines 1 = .ok (.getfield 28, 3) := by decide +kernel
theorem dX0_lines_4 : decode cX0_lines 4 = .ok (.ireturn, 1) := by decide +kernel
theorem dX0_startOf_0 : decode cX0_startOf 0 = .ok (.iload_n 1, 1) := by decide +kernel
theorem dX0_startOf_1 : decode cX0_startOf 1 = .ok (.iconst 1, 1) := by decide +kernel
theorem dX0_startOf_2 : decode cX0_startOf 2 = .ok (.if_icmp .lt 23, 3) := by decide +kernel
theorem dX0_startOf_5 : decode cX0_startOf 5 = .ok (.iload_n 1, 1) := by decide +kernel
theorem dX0_startOf_6 : decode cX0_startOf 6 = .ok (.aload_n 0, 1) := by decide +kernel
theorem dX0_startOf_7 : decode cX0_startOf 7 = .ok (.getfield 21, 3) := by decide +kernel
theorem dX0_startOf_10 : decode cX0_startOf 10 = .ok (.arraylength, 1) := by decide +kernel
theorem dX0_startOf_11 : decode cX0_startOf 11 = .ok (.if_icmp .gt 14, 3) := by decide +kernel
theorem dX0_startOf_14 : decode cX0_startOf 14 = .ok (.aload_n 0, 1) := by decide +kernel
theorem dX0_startOf_15 : decode cX0_startOf 15 = .ok (.getfield 21, 3) := by decide +kernel
theorem dX0_startOf_18 : decode cX0_startOf 18 = .ok (.iload_n 1, 1) := by decide +kernel
theorem dX0_startOf_19 : decode cX0_startOf 19 = .ok (.iconst 1, 1) := by decide +kernel
theorem dX0_startOf_20 : decode cX0_startOf 20 = .ok (.isub, 1) := by decide +kernel
theorem dX0_startOf_21 : decode cX0_startOf 21 = .ok (.iaload, 1) := by decide +kernel
theorem dX0_startOf_22 : decode cX0_startOf 22 = .ok (.goto 4, 3) := by decide +kernel
theorem dX0_startOf_25 : decode cX0_startOf 25 = .ok (.iconst 0, 1) := by decide +kernel
theorem dX0_startOf_26 : decode cX0_startOf 26 = .ok (.ireturn, 1) := by decide +kernel
theorem dX0_lengthOf_0 : decode cX0_lengthOf 0 = .ok (.iload_n 1, 1) := by decide +kernel
theorem dX0_lengthOf_1 : decode cX0_lengthOf 1 = .ok (.ifCond .lt 27, 3) := by decide +kernel
theorem dX0_lengthOf_4 : decode cX0_lengthOf 4 = .ok (.iload_n 1, 1) := by decide +kernel
theorem dX0_lengthOf_5 : decode cX0_lengthOf 5 = .ok (.aload_n 0, 1) := by decide +kernel
theorem dX0_lengthOf_6 : decode cX0_lengthOf 6 = .ok (.getfield 28, 3) := by decide +kernel
theorem dX0_lengthOf_9 : decode cX0_lengthOf 9 = .ok (.if_icmp .ge 19, 3) := by decide +kernel
theorem dX0_lengthOf_12 : decode cX0_lengthOf 12 = .ok (.aload_n 0, 1) := by decide +kernel
theorem dX0_lengthOf_13 : decode cX0_lengthOf 13 = .ok (.iload_n 1, 1) := by decide +kernel
theorem dX0_lengthOf_14 : decode cX0_lengthOf 14 = .ok (.iconst 1, 1) := by decide +kernel
theorem dX0_lengthOf_15 : decode cX0_lengthOf 15 = .ok (.iadd, 1) := by decide +kernel
theorem dX0_lengthOf_16 : decode cX0_lengthOf 16 = .ok (.invokevirtual 31, 3) := by decide +kernel
theorem dX0_lengthOf_19 : decode cX0_lengthOf 19 = .ok (.aload_n 0, 1) := by decide +kernel
theorem dX0_lengthOf_20 : decode cX0_lengthOf 20 = .ok (.iload_n 1, 1) := by decide +kernel
theorem dX0_lengthOf_21 : decode cX0_lengthOf 21 = .ok (.invokevirtual 31, 3) := by decide +kernel
theorem dX0_lengthOf_24 : decode cX0_lengthOf 24 = .ok (.isub, 1) := by decide +kernel
theorem dX0_lengthOf_25 : decode cX0_lengthOf 25 = .ok (.goto 4, 3) := by decide +kernel
theorem dX0_lengthOf_28 : decode cX0_lengthOf 28 = .ok (.iconst 0, 1) := by decide +kernel
theorem dX0_lengthOf_29 : decode cX0_lengthOf 29 = .ok (.ireturn, 1) := by decide +kernel
theorem dX0_sortAt_0 : decode cX0_sortAt 0 = .ok (.iload_n 1, 1) := by decide +kernel
theorem dX0_sortAt_1 : decode cX0_sortAt 1 = .ok (.ifCond .lt 21, 3) := by decide +kernel
theorem dX0_sortAt_4 : decode cX0_sortAt 4 = .ok (.iload_n 1, 1) := by decide +kernel
theorem dX0_sortAt_5 : decode cX0_sortAt 5 = .ok (.aload_n 0, 1) := by decide +kernel
theorem dX0_sortAt_6 : decode cX0_sortAt 6 = .ok (.getfield 15, 3) := by decide +kernel
theorem dX0_sortAt_9 : decode cX0_sortAt 9 = .ok (.arraylength, 1) := by decide +kernel
theorem dX0_sortAt_10 : decode cX0_sortAt 10 = .ok (.if_icmp .ge 12, 3) := by decide +kernel
theorem dX0_sortAt_13 : decode cX0_sortAt 13 = .ok (.aload_n 0, 1) := by decide +kernel
theorem dX0_sortAt_14 : decode cX0_sortAt 14 = .ok (.getfield 15, 3) := by decide +kernel
theorem dX0_sortAt_17 : decode cX0_sortAt 17 = .ok (.iload_n 1, 1) := by decide +kernel
theorem dX0_sortAt_18 : decode cX0_sortAt 18 = .ok (.iaload, 1) := by decide +kernel
theorem dX0_sortAt_19 : decode cX0_sortAt 19 = .ok (.goto 4, 3) := by decide +kernel
theorem dX0_sortAt_22 : decode cX0_sortAt 22 = .ok (.iconst (-1), 1) := by decide +kernel
theorem dX0_sortAt_23 : decode cX0_sortAt 23 = .ok (.ireturn, 1) := by decide +kernel
theorem dX0_wantedAt_0 : decode cX0_wantedAt 0 = .ok (.iload_n 1, 1) := by decide +kernel
theorem dX0_wantedAt_1 : decode cX0_wantedAt 1 = .ok (.ifCond .lt 21, 3) := by decide +kernel
theorem dX0_wantedAt_4 : decode cX0_wantedAt 4 = .ok (.iload_n 1, 1) := by decide +kernel
theorem dX0_wantedAt_5 : decode cX0_wantedAt 5 = .ok (.aload_n 0, 1) := by decide +kernel
theorem dX0_wantedAt_6 : decode cX0_wantedAt 6 = .ok (.getfield 9, 3) := by decide +kernel
theorem dX0_wantedAt_9 : decode cX0_wantedAt 9 = .ok (.arraylength, 1) := by decide +kernel
theorem dX0_wantedAt_10 : decode cX0_wantedAt 10 = .ok (.if_icmp .ge 12, 3) := by decide +kernel
theorem dX0_wantedAt_13 : decode cX0_wantedAt 13 = .ok (.aload_n 0, 1) := by decide +kernel
theorem dX0_wantedAt_14 : decode cX0_wantedAt 14 = .ok (.getfield 9, 3) := by decide +kernel
theorem dX0_wantedAt_17 : decode cX0_wantedAt 17 = .ok (.iload_n 1, 1) := by decide +kernel
theorem dX0_wantedAt_18 : decode cX0_wantedAt 18 = .ok (.iaload, 1) := by decide +kernel
theorem dX0_wantedAt_19 : decode cX0_wantedAt 19 = .ok (.goto 4, 3) := by decide +kernel
theorem dX0_wantedAt_22 : decode cX0_wantedAt 22 = .ok (.iconst (-1), 1) := by decide +kernel
theorem dX0_wantedAt_23 : decode cX0_wantedAt 23 = .ok (.ireturn, 1) := by decide +kernel
theorem dX0_turnedAt_0 : decode cX0_turnedAt 0 = .ok (.iload_n 1, 1) := by decide +kernel
theorem dX0_turnedAt_1 : decode cX0_turnedAt 1 = .ok (.ifCond .lt 26, 3) := by decide +kernel
theorem dX0_turnedAt_4 : decode cX0_turnedAt 4 = .ok (.iload_n 1, 1) := by decide +kernel
theorem dX0_turnedAt_5 : decode cX0_turnedAt 5 = .ok (.aload_n 0, 1) := by decide +kernel
theorem dX0_turnedAt_6 : decode cX0_turnedAt 6 = .ok (.getfield 18, 3) := by decide +kernel
theorem dX0_turnedAt_9 : decode cX0_turnedAt 9 = .ok (.arraylength, 1) := by decide +kernel
theorem dX0_turnedAt_10 : decode cX0_turnedAt 10 = .ok (.if_icmp .ge 17, 3) := by decide +kernel
theorem dX0_turnedAt_13 : decode cX0_turnedAt 13 = .ok (.aload_n 0, 1) := by decide +kernel
theorem dX0_turnedAt_14 : decode cX0_turnedAt 14 = .ok (.getfield 18, 3) := by decide +kernel
theorem dX0_turnedAt_17 : decode cX0_turnedAt 17 = .ok (.iload_n 1, 1) := by decide +kernel
theorem dX0_turnedAt_18 : decode cX0_turnedAt 18 = .ok (.iaload, 1) := by decide +kernel
theorem dX0_turnedAt_19 : decode cX0_turnedAt 19 = .ok (.iconst 1, 1) := by decide +kernel
theorem dX0_turnedAt_20 : decode cX0_turnedAt 20 = .ok (.if_icmp .ne 7, 3) := by decide +kernel
theorem dX0_turnedAt_23 : decode cX0_turnedAt 23 = .ok (.iconst 1, 1) := by decide +kernel
theorem dX0_turnedAt_24 : decode cX0_turnedAt 24 = .ok (.goto 4, 3) := by decide +kernel
theorem dX0_turnedAt_27 : decode cX0_turnedAt 27 = .ok (.iconst 0, 1) := by decide +kernel
theorem dX0_turnedAt_28 : decode cX0_turnedAt 28 = .ok (.ireturn, 1) := by decide +kernel
theorem dX0_wrongAt_0 : decode cX0_wrongAt 0 = .ok (.aload_n 0, 1) := by decide +kernel
theorem dX0_wrongAt_1 : decode cX0_wrongAt 1 = .ok (.iload_n 1, 1) := by decide +kernel
theorem dX0_wrongAt_2 : decode cX0_wrongAt 2 = .ok (.invokevirtual 35, 3) := by decide +kernel
theorem dX0_wrongAt_5 : decode cX0_wrongAt 5 = .ok (.ifCond .ne 16, 3) := by decide +kernel
theorem dX0_wrongAt_8 : decode cX0_wrongAt 8 = .ok (.aload_n 0, 1) := by decide +kernel
theorem dX0_wrongAt_9 : decode cX0_wrongAt 9 = .ok (.iload_n 1, 1) := by decide +kernel
theorem dX0_wrongAt_10 : decode cX0_wrongAt 10 = .ok (.invokevirtual 39, 3) := by decide +kernel
theorem dX0_wrongAt_13 : decode cX0_wrongAt 13 = .ok (.aload_n 0, 1) := by decide +kernel
theorem dX0_wrongAt_14 : decode cX0_wrongAt 14 = .ok (.iload_n 1, 1) := by decide +kernel
theorem dX0_wrongAt_15 : decode cX0_wrongAt 15 = .ok (.invokevirtual 42, 3) := by decide +kernel
theorem dX0_wrongAt_18 : decode cX0_wrongAt 18 = .ok (.if_icmp .eq 7, 3) := by decide +kernel
theorem dX0_wrongAt_21 : decode cX0_wrongAt 21 = .ok (.iconst 1, 1) := by decide +kernel
theorem dX0_wrongAt_22 : decode cX0_wrongAt 22 = .ok (.goto 4, 3) := by decide +kernel
theorem dX0_wrongAt_25 : decode cX0_wrongAt 25 = .ok (.iconst 0, 1) := by decide +kernel
theorem dX0_wrongAt_26 : decode cX0_wrongAt 26 = .ok (.ireturn, 1) := by decide +kernel
theorem dX0_about_0 : decode cX0_about 0 = .ok (.iload_n 2, 1) := by decide +kernel
theorem dX0_about_1 : decode cX0_about 1 = .ok (.tableswitch 53 0 2 #[27, 33, 39], 27) := by decide +kernel
theorem dX0_about_28 : decode cX0_about 28 = .ok (.aload_n 0, 1) := by decide +kernel
theorem dX0_about_29 : decode cX0_about 29 = .ok (.iload_n 1, 1) := by decide +kernel
theorem dX0_about_30 : decode cX0_about 30 = .ok (.invokevirtual 42, 3) := by decide +kernel
theorem dX0_about_33 : decode cX0_about 33 = .ok (.ireturn, 1) := by decide +kernel
theorem dX0_about_34 : decode cX0_about 34 = .ok (.aload_n 0, 1) := by decide +kernel
theorem dX0_about_35 : decode cX0_about 35 = .ok (.iload_n 1, 1) := by decide +kernel
theorem dX0_about_36 : decode cX0_about 36 = .ok (.invokevirtual 39, 3) := by decide +kernel
theorem dX0_about_39 : decode cX0_about 39 = .ok (.ireturn, 1) := by decide +kernel
theorem dX0_about_40 : decode cX0_about 40 = .ok (.aload_n 0, 1) := by decide +kernel
theorem dX0_about_41 : decode cX0_about 41 = .ok (.iload_n 1, 1) := by decide +kernel
theorem dX0_about_42 : decode cX0_about 42 = .ok (.invokevirtual 35, 3) := by decide +kernel
theorem dX0_about_45 : decode cX0_about 45 = .ok (.ifCond .eq 7, 3) := by decide +kernel
theorem dX0_about_48 : decode cX0_about 48 = .ok (.iconst 1, 1) := by decide +kernel
theorem dX0_about_49 : decode cX0_about 49 = .ok (.goto 4, 3) := by decide +kernel
theorem dX0_about_52 : decode cX0_about 52 = .ok (.iconst 0, 1) := by decide +kernel
theorem dX0_about_53 : decode cX0_about 53 = .ok (.ireturn, 1) := by decide +kernel
theorem dX0_about_54 : decode cX0_about 54 = .ok (.aload_n 0, 1) := by decide +kernel
theorem dX0_about_55 : decode cX0_about 55 = .ok (.iload_n 1, 1) := by decide +kernel
theorem dX0_about_56 : decode cX0_about 56 = .ok (.invokevirtual 45, 3) := by decide +kernel
theorem dX0_about_59 : decode cX0_about 59 = .ok (.ifCond .eq 7, 3) := by decide +kernel
theorem dX0_about_62 : decode cX0_about 62 = .ok (.iconst 1, 1) := by decide +kernel
theorem dX0_about_63 : decode cX0_about 63 = .ok (.goto 4, 3) := by decide +kernel
theorem dX0_about_66 : decode cX0_about 66 = .ok (.iconst 0, 1) := by decide +kernel
theorem dX0_about_67 : decode cX0_about 67 = .ok (.ireturn, 1) := by decide +kernel
theorem dX0_add_0 : decode cX0_add 0 = .ok (.aload_n 0, 1) := by decide +kernel
theorem dX0_add_1 : decode cX0_add 1 = .ok (.getfield 24, 3) := by decide +kernel
theorem dX0_add_4 : decode cX0_add 4 = .ok (.ifCond .lt 63, 3) := by decide +kernel
theorem dX0_add_7 : decode cX0_add 7 = .ok (.aload_n 0, 1) := by decide +kernel
theorem dX0_add_8 : decode cX0_add 8 = .ok (.getfield 24, 3) := by decide +kernel
theorem dX0_add_11 : decode cX0_add 11 = .ok (.aload_n 0, 1) := by decide +kernel
theorem dX0_add_12 : decode cX0_add 12 = .ok (.getfield 15, 3) := by decide +kernel
theorem dX0_add_15 : decode cX0_add 15 = .ok (.arraylength, 1) := by decide +kernel
theorem dX0_add_16 : decode cX0_add 16 = .ok (.if_icmp .ge 51, 3) := by decide +kernel
theorem dX0_add_19 : decode cX0_add 19 = .ok (.aload_n 0, 1) := by decide +kernel
theorem dX0_add_20 : decode cX0_add 20 = .ok (.getfield 9, 3) := by decide +kernel
theorem dX0_add_23 : decode cX0_add 23 = .ok (.aload_n 0, 1) := by decide +kernel
theorem dX0_add_24 : decode cX0_add 24 = .ok (.getfield 24, 3) := by decide +kernel
theorem dX0_add_27 : decode cX0_add 27 = .ok (.iload_n 1, 1) := by decide +kernel
theorem dX0_add_28 : decode cX0_add 28 = .ok (.iastore, 1) := by decide +kernel
theorem dX0_add_29 : decode cX0_add 29 = .ok (.aload_n 0, 1) := by decide +kernel
theorem dX0_add_30 : decode cX0_add 30 = .ok (.getfield 15, 3) := by decide +kernel
theorem dX0_add_33 : decode cX0_add 33 = .ok (.aload_n 0, 1) := by decide +kernel
theorem dX0_add_34 : decode cX0_add 34 = .ok (.getfield 24, 3) := by decide +kernel
theorem dX0_add_37 : decode cX0_add 37 = .ok (.iload_n 2, 1) := by decide +kernel
theorem dX0_add_38 : decode cX0_add 38 = .ok (.iastore, 1) := by decide +kernel
theorem dX0_add_39 : decode cX0_add 39 = .ok (.aload_n 0, 1) := by decide +kernel
theorem dX0_add_40 : decode cX0_add 40 = .ok (.getfield 18, 3) := by decide +kernel
theorem dX0_add_43 : decode cX0_add 43 = .ok (.aload_n 0, 1) := by decide +kernel
theorem dX0_add_44 : decode cX0_add 44 = .ok (.getfield 24, 3) := by decide +kernel
theorem dX0_add_47 : decode cX0_add 47 = .ok (.iload_n 3, 1) := by decide +kernel
theorem dX0_add_48 : decode cX0_add 48 = .ok (.ifCond .eq 7, 3) := by decide +kernel
theorem dX0_add_51 : decode cX0_add 51 = .ok (.iconst 1, 1) := by decide +kernel
theorem dX0_add_52 : decode cX0_add 52 = .ok (.goto 4, 3) := by decide +kernel
theorem dX0_add_55 : decode cX0_add 55 = .ok (.iconst 0, 1) := by decide +kernel
theorem dX0_add_56 : decode cX0_add 56 = .ok (.iastore, 1) := by decide +kernel
theorem dX0_add_57 : decode cX0_add 57 = .ok (.aload_n 0, 1) := by decide +kernel
theorem dX0_add_58 : decode cX0_add 58 = .ok (.dup, 1) := by decide +kernel
theorem dX0_add_59 : decode cX0_add 59 = .ok (.getfield 24, 3) := by decide +kernel
theorem dX0_add_62 : decode cX0_add 62 = .ok (.iconst 1, 1) := by decide +kernel
theorem dX0_add_63 : decode cX0_add 63 = .ok (.iadd, 1) := by decide +kernel
theorem dX0_add_64 : decode cX0_add 64 = .ok (.putfield 24, 3) := by decide +kernel
theorem dX0_add_67 : decode cX0_add 67 = .ok (.return_, 1) := by decide +kernel
theorem dX0_endLine_0 : decode cX0_endLine 0 = .ok (.aload_n 0, 1) := by decide +kernel
theorem dX0_endLine_1 : decode cX0_endLine 1 = .ok (.getfield 28, 3) := by decide +kernel
theorem dX0_endLine_4 : decode cX0_endLine 4 = .ok (.ifCond .lt 38, 3) := by decide +kernel
theorem dX0_endLine_7 : decode cX0_endLine 7 = .ok (.aload_n 0, 1) := by decide +kernel
theorem dX0_endLine_8 : decode cX0_endLine 8 = .ok (.getfield 28, 3) := by decide +kernel
theorem dX0_endLine_11 : decode cX0_endLine 11 = .ok (.aload_n 0, 1) := by decide +kernel
theorem dX0_endLine_12 : decode cX0_endLine 12 = .ok (.getfield 21, 3) := by decide +kernel
theorem dX0_endLine_15 : decode cX0_endLine 15 = .ok (.arraylength, 1) := by decide +kernel
theorem dX0_endLine_16 : decode cX0_endLine 16 = .ok (.if_icmp .ge 26, 3) := by decide +kernel
theorem dX0_endLine_19 : decode cX0_endLine 19 = .ok (.aload_n 0, 1) := by decide +kernel
theorem dX0_endLine_20 : decode cX0_endLine 20 = .ok (.getfield 21, 3) := by decide +kernel
theorem dX0_endLine_23 : decode cX0_endLine 23 = .ok (.aload_n 0, 1) := by decide +kernel
theorem dX0_endLine_24 : decode cX0_endLine 24 = .ok (.getfield 28, 3) := by decide +kernel
theorem dX0_endLine_27 : decode cX0_endLine 27 = .ok (.aload_n 0, 1) := by decide +kernel
theorem dX0_endLine_28 : decode cX0_endLine 28 = .ok (.getfield 24, 3) := by decide +kernel
theorem dX0_endLine_31 : decode cX0_endLine 31 = .ok (.iastore, 1) := by decide +kernel
theorem dX0_endLine_32 : decode cX0_endLine 32 = .ok (.aload_n 0, 1) := by decide +kernel
theorem dX0_endLine_33 : decode cX0_endLine 33 = .ok (.dup, 1) := by decide +kernel
theorem dX0_endLine_34 : decode cX0_endLine 34 = .ok (.getfield 28, 3) := by decide +kernel
theorem dX0_endLine_37 : decode cX0_endLine 37 = .ok (.iconst 1, 1) := by decide +kernel
theorem dX0_endLine_38 : decode cX0_endLine 38 = .ok (.iadd, 1) := by decide +kernel
theorem dX0_endLine_39 : decode cX0_endLine 39 = .ok (.putfield 28, 3) := by decide +kernel
theorem dX0_endLine_42 : decode cX0_endLine 42 = .ok (.return_, 1) := by decide +kernel
theorem dX0_putRight_0 : decode cX0_putRight 0 = .ok (.iload_n 1, 1) := by decide +kernel
theorem dX0_putRight_1 : decode cX0_putRight 1 = .ok (.ifCond .lt 31, 3) := by decide +kernel
theorem dX0_putRight_4 : decode cX0_putRight 4 = .ok (.iload_n 1, 1) := by decide +kernel
theorem dX0_putRight_5 : decode cX0_putRight 5 = .ok (.aload_n 0, 1) := by decide +kernel
theorem dX0_putRight_6 : decode cX0_putRight 6 = .ok (.getfield 15, 3) := by decide +kernel
theorem dX0_putRight_9 : decode cX0_putRight 9 = .ok (.arraylength, 1) := by decide +kernel
theorem dX0_putRight_10 : decode cX0_putRight 10 = .ok (.if_icmp .ge 22, 3) := by decide +kernel
theorem dX0_putRight_13 : decode cX0_putRight 13 = .ok (.aload_n 0, 1) := by decide +kernel
theorem dX0_putRight_14 : decode cX0_putRight 14 = .ok (.getfield 15, 3) := by decide +kernel
theorem dX0_putRight_17 : decode cX0_putRight 17 = .ok (.iload_n 1, 1) := by decide +kernel
theorem dX0_putRight_18 : decode cX0_putRight 18 = .ok (.aload_n 0, 1) := by decide +kernel
theorem dX0_putRight_19 : decode cX0_putRight 19 = .ok (.getfield 9, 3) := by decide +kernel
theorem dX0_putRight_22 : decode cX0_putRight 22 = .ok (.iload_n 1, 1) := by decide +kernel
theorem dX0_putRight_23 : decode cX0_putRight 23 = .ok (.iaload, 1) := by decide +kernel
theorem dX0_putRight_24 : decode cX0_putRight 24 = .ok (.iastore, 1) := by decide +kernel
theorem dX0_putRight_25 : decode cX0_putRight 25 = .ok (.aload_n 0, 1) := by decide +kernel
theorem dX0_putRight_26 : decode cX0_putRight 26 = .ok (.getfield 18, 3) := by decide +kernel
theorem dX0_putRight_29 : decode cX0_putRight 29 = .ok (.iload_n 1, 1) := by decide +kernel
theorem dX0_putRight_30 : decode cX0_putRight 30 = .ok (.iconst 0, 1) := by decide +kernel
theorem dX0_putRight_31 : decode cX0_putRight 31 = .ok (.iastore, 1) := by decide +kernel
theorem dX0_putRight_32 : decode cX0_putRight 32 = .ok (.return_, 1) := by decide +kernel
theorem dX0_clear_0 : decode cX0_clear 0 = .ok (.aload_n 0, 1) := by decide +kernel
theorem dX0_clear_1 : decode cX0_clear 1 = .ok (.iconst 0, 1) := by decide +kernel
theorem dX0_clear_2 : decode cX0_clear 2 = .ok (.putfield 24, 3) := by decide +kernel
theorem dX0_clear_5 : decode cX0_clear 5 = .ok (.aload_n 0, 1) := by decide +kernel
theorem dX0_clear_6 : decode cX0_clear 6 = .ok (.iconst 0, 1) := by decide +kernel
theorem dX0_clear_7 : decode cX0_clear 7 = .ok (.putfield 28, 3) := by decide +kernel
theorem dX0_clear_10 : decode cX0_clear 10 = .ok (.return_, 1) := by decide +kernel
theorem dX0_errors_0 : decode cX0_errors 0 = .ok (.iconst 0, 1) := by decide +kernel
theorem dX0_errors_1 : decode cX0_errors 1 = .ok (.istore_n 1, 1) := by decide +kernel
theorem dX0_errors_2 : decode cX0_errors 2 = .ok (.iconst 0, 1) := by decide +kernel
theorem dX0_errors_3 : decode cX0_errors 3 = .ok (.istore_n 2, 1) := by decide +kernel
theorem dX0_errors_4 : decode cX0_errors 4 = .ok (.iload_n 2, 1) := by decide +kernel
theorem dX0_errors_5 : decode cX0_errors 5 = .ok (.aload_n 0, 1) := by decide +kernel
theorem dX0_errors_6 : decode cX0_errors 6 = .ok (.getfield 24, 3) := by decide +kernel
theorem dX0_errors_9 : decode cX0_errors 9 = .ok (.if_icmp .ge 20, 3) := by decide +kernel
theorem dX0_errors_12 : decode cX0_errors 12 = .ok (.aload_n 0, 1) := by decide +kernel
theorem dX0_errors_13 : decode cX0_errors 13 = .ok (.iload_n 2, 1) := by decide +kernel
theorem dX0_errors_14 : decode cX0_errors 14 = .ok (.invokevirtual 45, 3) := by decide +kernel
theorem dX0_errors_17 : decode cX0_errors 17 = .ok (.ifCond .eq 6, 3) := by decide +kernel
theorem dX0_errors_20 : decode cX0_errors 20 = .ok (.iinc 1 1, 3) := by decide +kernel
theorem dX0_errors_23 : decode cX0_errors 23 = .ok (.iinc 2 1, 3) := by decide +kernel
theorem dX0_errors_26 : decode cX0_errors 26 = .ok (.goto (-22), 3) := by decide +kernel
theorem dX0_errors_29 : decode cX0_errors 29 = .ok (.iload_n 1, 1) := by decide +kernel
theorem dX0_errors_30 : decode cX0_errors 30 = .ok (.ireturn, 1) := by decide +kernel
theorem dX0_turnedSorts_0 : decode cX0_turnedSorts 0 = .ok (.iconst 0, 1) := by decide +kernel
theorem dX0_turnedSorts_1 : decode cX0_turnedSorts 1 = .ok (.istore_n 1, 1) := by decide +kernel
theorem dX0_turnedSorts_2 : decode cX0_turnedSorts 2 = .ok (.iconst 0, 1) := by decide +kernel
theorem dX0_turnedSorts_3 : decode cX0_turnedSorts 3 = .ok (.istore_n 2, 1) := by decide +kernel
theorem dX0_turnedSorts_4 : decode cX0_turnedSorts 4 = .ok (.iload_n 2, 1) := by decide +kernel
theorem dX0_turnedSorts_5 : decode cX0_turnedSorts 5 = .ok (.aload_n 0, 1) := by decide +kernel
theorem dX0_turnedSorts_6 : decode cX0_turnedSorts 6 = .ok (.getfield 24, 3) := by decide +kernel
theorem dX0_turnedSorts_9 : decode cX0_turnedSorts 9 = .ok (.if_icmp .ge 20, 3) := by decide +kernel
theorem dX0_turnedSorts_12 : decode cX0_turnedSorts 12 = .ok (.aload_n 0, 1) := by decide +kernel
theorem dX0_turnedSorts_13 : decode cX0_turnedSorts 13 = .ok (.iload_n 2, 1) := by decide +kernel
theorem dX0_turnedSorts_14 : decode cX0_turnedSorts 14 = .ok (.invokevirtual 35, 3) := by decide +kernel
theorem dX0_turnedSorts_17 : decode cX0_turnedSorts 17 = .ok (.ifCond .eq 6, 3) := by decide +kernel
theorem dX0_turnedSorts_20 : decode cX0_turnedSorts 20 = .ok (.iinc 1 1, 3) := by decide +kernel
theorem dX0_turnedSorts_23 : decode cX0_turnedSorts 23 = .ok (.iinc 2 1, 3) := by decide +kernel
theorem dX0_turnedSorts_26 : decode cX0_turnedSorts 26 = .ok (.goto (-22), 3) := by decide +kernel
theorem dX0_turnedSorts_29 : decode cX0_turnedSorts 29 = .ok (.iload_n 1, 1) := by decide +kernel
theorem dX0_turnedSorts_30 : decode cX0_turnedSorts 30 = .ok (.ireturn, 1) := by decide +kernel
theorem dX0_countOf_0 : decode cX0_countOf 0 = .ok (.iconst 0, 1) := by decide +kernel
theorem dX0_countOf_1 : decode cX0_countOf 1 = .ok (.istore_n 2, 1) := by decide +kernel
theorem dX0_countOf_2 : decode cX0_countOf 2 = .ok (.iconst 0, 1) := by decide +kernel
theorem dX0_countOf_3 : decode cX0_countOf 3 = .ok (.istore_n 3, 1) := by decide +kernel
theorem dX0_countOf_4 : decode cX0_countOf 4 = .ok (.iload_n 3, 1) := by decide +kernel
theorem dX0_countOf_5 : decode cX0_countOf 5 = .ok (.aload_n 0, 1) := by decide +kernel
theorem dX0_countOf_6 : decode cX0_countOf 6 = .ok (.getfield 24, 3) := by decide +kernel
theorem dX0_countOf_9 : decode cX0_countOf 9 = .ok (.if_icmp .ge 21, 3) := by decide +kernel
theorem dX0_countOf_12 : decode cX0_countOf 12 = .ok (.aload_n 0, 1) := by decide +kernel
theorem dX0_countOf_13 : decode cX0_countOf 13 = .ok (.iload_n 3, 1) := by decide +kernel
theorem dX0_countOf_14 : decode cX0_countOf 14 = .ok (.invokevirtual 39, 3) := by decide +kernel
theorem dX0_countOf_17 : decode cX0_countOf 17 = .ok (.iload_n 1, 1) := by decide +kernel
theorem dX0_countOf_18 : decode cX0_countOf 18 = .ok (.if_icmp .ne 6, 3) := by decide +kernel
theorem dX0_countOf_21 : decode cX0_countOf 21 = .ok (.iinc 2 1, 3) := by decide +kernel
theorem dX0_countOf_24 : decode cX0_countOf 24 = .ok (.iinc 3 1, 3) := by decide +kernel
theorem dX0_countOf_27 : decode cX0_countOf 27 = .ok (.goto (-23), 3) := by decide +kernel
theorem dX0_countOf_30 : decode cX0_countOf 30 = .ok (.iload_n 2, 1) := by decide +kernel
theorem dX0_countOf_31 : decode cX0_countOf 31 = .ok (.ireturn, 1) := by decide +kernel
theorem dX0_errorAt_0 : decode cX0_errorAt 0 = .ok (.iconst 0, 1) := by decide +kernel
theorem dX0_errorAt_1 : decode cX0_errorAt 1 = .ok (.istore_n 2, 1) := by decide +kernel
theorem dX0_errorAt_2 : decode cX0_errorAt 2 = .ok (.iconst 0, 1) := by decide +kernel
theorem dX0_errorAt_3 : decode cX0_errorAt 3 = .ok (.istore_n 3, 1) := by decide +kernel
theorem dX0_errorAt_4 : decode cX0_errorAt 4 = .ok (.iload_n 3, 1) := by decide +kernel
theorem dX0_errorAt_5 : decode cX0_errorAt 5 = .ok (.aload_n 0, 1) := by decide +kernel
theorem dX0_errorAt_6 : decode cX0_errorAt 6 = .ok (.getfield 28, 3) := by decide +kernel
theorem dX0_errorAt_9 : decode cX0_errorAt 9 = .ok (.if_icmp .ge 63, 3) := by decide +kernel
theorem dX0_errorAt_12 : decode cX0_errorAt 12 = .ok (.aload_n 0, 1) := by decide +kernel
theorem dX0_errorAt_13 : decode cX0_errorAt 13 = .ok (.iload_n 3, 1) := by decide +kernel
theorem dX0_errorAt_14 : decode cX0_errorAt 14 = .ok (.invokevirtual 48, 3) := by decide +kernel
theorem dX0_errorAt_17 : decode cX0_errorAt 17 = .ok (.istore 4, 2) := by decide +kernel
theorem dX0_errorAt_19 : decode cX0_errorAt 19 = .ok (.iconst 0, 1) := by decide +kernel
theorem dX0_errorAt_20 : decode cX0_errorAt 20 = .ok (.istore 5, 2) := by decide +kernel
theorem dX0_errorAt_22 : decode cX0_errorAt 22 = .ok (.iload 5, 2) := by decide +kernel
theorem dX0_errorAt_24 : decode cX0_errorAt 24 = .ok (.iload 4, 2) := by decide +kernel
theorem dX0_errorAt_26 : decode cX0_errorAt 26 = .ok (.if_icmp .ge 40, 3) := by decide +kernel
theorem dX0_errorAt_29 : decode cX0_errorAt 29 = .ok (.aload_n 0, 1) := by decide +kernel
theorem dX0_errorAt_30 : decode cX0_errorAt 30 = .ok (.aload_n 0, 1) := by decide +kernel
theorem dX0_errorAt_31 : decode cX0_errorAt 31 = .ok (.iload_n 3, 1) := by decide +kernel
theorem dX0_errorAt_32 : decode cX0_errorAt 32 = .ok (.invokevirtual 31, 3) := by decide +kernel
theorem dX0_errorAt_35 : decode cX0_errorAt 35 = .ok (.iload 5, 2) := by decide +kernel
theorem dX0_errorAt_37 : decode cX0_errorAt 37 = .ok (.iadd, 1) := by decide +kernel
theorem dX0_errorAt_38 : decode cX0_errorAt 38 = .ok (.invokevirtual 45, 3) := by decide +kernel
theorem dX0_errorAt_41 : decode cX0_errorAt 41 = .ok (.ifCond .eq 19, 3) := by decide +kernel
theorem dX0_errorAt_44 : decode cX0_errorAt 44 = .ok (.iload_n 2, 1) := by decide +kernel
theorem dX0_errorAt_45 : decode cX0_errorAt 45 = .ok (.iload_n 1, 1) := by decide +kernel
theorem dX0_errorAt_46 : decode cX0_errorAt 46 = .ok (.if_icmp .ne 11, 3) := by decide +kernel
theorem dX0_errorAt_49 : decode cX0_errorAt 49 = .ok (.bipush 100, 2) := by decide +kernel
theorem dX0_errorAt_51 : decode cX0_errorAt 51 = .ok (.iload_n 3, 1) := by decide +kernel
theorem dX0_errorAt_52 : decode cX0_errorAt 52 = .ok (.imul, 1) := by decide +kernel
theorem dX0_errorAt_53 : decode cX0_errorAt 53 = .ok (.iload 5, 2) := by decide +kernel
theorem dX0_errorAt_55 : decode cX0_errorAt 55 = .ok (.iadd, 1) := by decide +kernel
theorem dX0_errorAt_56 : decode cX0_errorAt 56 = .ok (.ireturn, 1) := by decide +kernel
theorem dX0_errorAt_57 : decode cX0_errorAt 57 = .ok (.iinc 2 1, 3) := by decide +kernel
theorem dX0_errorAt_60 : decode cX0_errorAt 60 = .ok (.iinc 5 1, 3) := by decide +kernel
theorem dX0_errorAt_63 : decode cX0_errorAt 63 = .ok (.goto (-41), 3) := by decide +kernel
theorem dX0_errorAt_66 : decode cX0_errorAt 66 = .ok (.iinc 3 1, 3) := by decide +kernel
theorem dX0_errorAt_69 : decode cX0_errorAt 69 = .ok (.goto (-65), 3) := by decide +kernel
theorem dX0_errorAt_72 : decode cX0_errorAt 72 = .ok (.iconst (-1), 1) := by decide +kernel
theorem dX0_errorAt_73 : decode cX0_errorAt 73 = .ok (.ireturn, 1) := by decide +kernel
theorem dX0_mixedInto_0 : decode cX0_mixedInto 0 = .ok (.lload_n 1, 1) := by decide +kernel
theorem dX0_mixedInto_1 : decode cX0_mixedInto 1 = .ok (.lstore_n 3, 1) := by decide +kernel
theorem dX0_mixedInto_2 : decode cX0_mixedInto 2 = .ok (.iconst 0, 1) := by decide +kernel
theorem dX0_mixedInto_3 : decode cX0_mixedInto 3 = .ok (.istore 5, 2) := by decide +kernel
theorem dX0_mixedInto_5 : decode cX0_mixedInto 5 = .ok (.iload 5, 2) := by decide +kernel
theorem dX0_mixedInto_7 : decode cX0_mixedInto 7 = .ok (.aload_n 0, 1) := by decide +kernel
theorem dX0_mixedInto_8 : decode cX0_mixedInto 8 = .ok (.getfield 28, 3) := by decide +kernel
theorem dX0_mixedInto_11 : decode cX0_mixedInto 11 = .ok (.if_icmp .ge 77, 3) := by decide +kernel
theorem dX0_mixedInto_14 : decode cX0_mixedInto 14 = .ok (.aload_n 0, 1) := by decide +kernel
theorem dX0_mixedInto_15 : decode cX0_mixedInto 15 = .ok (.iload 5, 2) := by decide +kernel
theorem dX0_mixedInto_17 : decode cX0_mixedInto 17 = .ok (.invokevirtual 48, 3) := by decide +kernel
theorem dX0_mixedInto_20 : decode cX0_mixedInto 20 = .ok (.istore 6, 2) := by decide +kernel
theorem dX0_mixedInto_22 : decode cX0_mixedInto 22 = .ok (.lload_n 3, 1) := by decide +kernel
theorem dX0_mixedInto_23 : decode cX0_mixedInto 23 = .ok (.iload 6, 2) := by decide +kernel
theorem dX0_mixedInto_25 : decode cX0_mixedInto 25 = .ok (.i2l, 1) := by decide +kernel
theorem dX0_mixedInto_26 : decode cX0_mixedInto 26 = .ok (.invokestatic 51, 3) := by decide +kernel
theorem dX0_mixedInto_29 : decode cX0_mixedInto 29 = .ok (.lstore_n 3, 1) := by decide +kernel
theorem dX0_mixedInto_30 : decode cX0_mixedInto 30 = .ok (.iconst 0, 1) := by decide +kernel
theorem dX0_mixedInto_31 : decode cX0_mixedInto 31 = .ok (.istore 7, 2) := by decide +kernel
theorem dX0_mixedInto_33 : decode cX0_mixedInto 33 = .ok (.iload 7, 2) := by decide +kernel
theorem dX0_mixedInto_35 : decode cX0_mixedInto 35 = .ok (.iload 6, 2) := by decide +kernel
theorem dX0_mixedInto_37 : decode cX0_mixedInto 37 = .ok (.if_icmp .ge 45, 3) := by decide +kernel
theorem dX0_mixedInto_40 : decode cX0_mixedInto 40 = .ok (.iconst 0, 1) := by decide +kernel
theorem dX0_mixedInto_41 : decode cX0_mixedInto 41 = .ok (.istore 8, 2) := by decide +kernel
theorem dX0_mixedInto_43 : decode cX0_mixedInto 43 = .ok (.iload 8, 2) := by decide +kernel
theorem dX0_mixedInto_45 : decode cX0_mixedInto 45 = .ok (.iconst 3, 1) := by decide +kernel
theorem dX0_mixedInto_46 : decode cX0_mixedInto 46 = .ok (.if_icmp .gt 30, 3) := by decide +kernel
theorem dX0_mixedInto_49 : decode cX0_mixedInto 49 = .ok (.lload_n 3, 1) := by decide +kernel
theorem dX0_mixedInto_50 : decode cX0_mixedInto 50 = .ok (.aload_n 0, 1) := by decide +kernel
theorem dX0_mixedInto_51 : decode cX0_mixedInto 51 = .ok (.aload_n 0, 1) := by decide +kernel
theorem dX0_mixedInto_52 : decode cX0_mixedInto 52 = .ok (.iload 5, 2) := by decide +kernel
theorem dX0_mixedInto_54 : decode cX0_mixedInto 54 = .ok (.invokevirtual 31, 3) := by decide +kernel
theorem dX0_mixedInto_57 : decode cX0_mixedInto 57 = .ok (.iload 7, 2) := by decide +kernel
theorem dX0_mixedInto_59 : decode cX0_mixedInto 59 = .ok (.iadd, 1) := by decide +kernel
theorem dX0_mixedInto_60 : decode cX0_mixedInto 60 = .ok (.iload 8, 2) := by decide +kernel
theorem dX0_mixedInto_62 : decode cX0_mixedInto 62 = .ok (.invokevirtual 55, 3) := by decide +kernel
theorem dX0_mixedInto_65 : decode cX0_mixedInto 65 = .ok (.i2l, 1) := by decide +kernel
theorem dX0_mixedInto_66 : decode cX0_mixedInto 66 = .ok (.invokestatic 51, 3) := by decide +kernel
theorem dX0_mixedInto_69 : decode cX0_mixedInto 69 = .ok (.lstore_n 3, 1) := by decide +kernel
theorem dX0_mixedInto_70 : decode cX0_mixedInto 70 = .ok (.iinc 8 1, 3) := by decide +kernel
theorem dX0_mixedInto_73 : decode cX0_mixedInto 73 = .ok (.goto (-30), 3) := by decide +kernel
theorem dX0_mixedInto_76 : decode cX0_mixedInto 76 = .ok (.iinc 7 1, 3) := by decide +kernel
theorem dX0_mixedInto_79 : decode cX0_mixedInto 79 = .ok (.goto (-46), 3) := by decide +kernel
theorem dX0_mixedInto_82 : decode cX0_mixedInto 82 = .ok (.iinc 5 1, 3) := by decide +kernel
theorem dX0_mixedInto_85 : decode cX0_mixedInto 85 = .ok (.goto (-80), 3) := by decide +kernel
theorem dX0_mixedInto_88 : decode cX0_mixedInto 88 = .ok (.lload_n 3, 1) := by decide +kernel
theorem dX0_mixedInto_89 : decode cX0_mixedInto 89 = .ok (.lreturn, 1) := by decide +kernel
theorem dX0_copyFrom_0 : decode cX0_copyFrom 0 = .ok (.aload_n 0, 1) := by decide +kernel
theorem dX0_copyFrom_1 : decode cX0_copyFrom 1 = .ok (.aload_n 1, 1) := by decide +kernel
theorem dX0_copyFrom_2 : decode cX0_copyFrom 2 = .ok (.getfield 24, 3) := by decide +kernel
theorem dX0_copyFrom_5 : decode cX0_copyFrom 5 = .ok (.aload_n 0, 1) := by decide +kernel
theorem dX0_copyFrom_6 : decode cX0_copyFrom 6 = .ok (.getfield 15, 3) := by decide +kernel
theorem dX0_copyFrom_9 : decode cX0_copyFrom 9 = .ok (.arraylength, 1) := by decide +kernel
theorem dX0_copyFrom_10 : decode cX0_copyFrom 10 = .ok (.invokestatic 59, 3) := by decide +kernel
theorem dX0_copyFrom_13 : decode cX0_copyFrom 13 = .ok (.putfield 24, 3) := by decide +kernel
theorem dX0_copyFrom_16 : decode cX0_copyFrom 16 = .ok (.aload_n 0, 1) := by decide +kernel
theorem dX0_copyFrom_17 : decode cX0_copyFrom 17 = .ok (.aload_n 1, 1) := by decide +kernel
theorem dX0_copyFrom_18 : decode cX0_copyFrom 18 = .ok (.getfield 28, 3) := by decide +kernel
theorem dX0_copyFrom_21 : decode cX0_copyFrom 21 = .ok (.aload_n 0, 1) := by decide +kernel
theorem dX0_copyFrom_22 : decode cX0_copyFrom 22 = .ok (.getfield 21, 3) := by decide +kernel
theorem dX0_copyFrom_25 : decode cX0_copyFrom 25 = .ok (.arraylength, 1) := by decide +kernel
theorem dX0_copyFrom_26 : decode cX0_copyFrom 26 = .ok (.invokestatic 59, 3) := by decide +kernel
theorem dX0_copyFrom_29 : decode cX0_copyFrom 29 = .ok (.putfield 28, 3) := by decide +kernel
theorem dX0_copyFrom_32 : decode cX0_copyFrom 32 = .ok (.aload_n 1, 1) := by decide +kernel
theorem dX0_copyFrom_33 : decode cX0_copyFrom 33 = .ok (.getfield 9, 3) := by decide +kernel
theorem dX0_copyFrom_36 : decode cX0_copyFrom 36 = .ok (.iconst 0, 1) := by decide +kernel
theorem dX0_copyFrom_37 : decode cX0_copyFrom 37 = .ok (.aload_n 0, 1) := by decide +kernel
theorem dX0_copyFrom_38 : decode cX0_copyFrom 38 = .ok (.getfield 9, 3) := by decide +kernel
theorem dX0_copyFrom_41 : decode cX0_copyFrom 41 = .ok (.iconst 0, 1) := by decide +kernel
theorem dX0_copyFrom_42 : decode cX0_copyFrom 42 = .ok (.aload_n 0, 1) := by decide +kernel
theorem dX0_copyFrom_43 : decode cX0_copyFrom 43 = .ok (.getfield 24, 3) := by decide +kernel
theorem dX0_copyFrom_46 : decode cX0_copyFrom 46 = .ok (.invokestatic 64, 3) := by decide +kernel
theorem dX0_copyFrom_49 : decode cX0_copyFrom 49 = .ok (.aload_n 1, 1) := by decide +kernel
theorem dX0_copyFrom_50 : decode cX0_copyFrom 50 = .ok (.getfield 15, 3) := by decide +kernel
theorem dX0_copyFrom_53 : decode cX0_copyFrom 53 = .ok (.iconst 0, 1) := by decide +kernel
theorem dX0_copyFrom_54 : decode cX0_copyFrom 54 = .ok (.aload_n 0, 1) := by decide +kernel
theorem dX0_copyFrom_55 : decode cX0_copyFrom 55 = .ok (.getfield 15, 3) := by decide +kernel
theorem dX0_copyFrom_58 : decode cX0_copyFrom 58 = .ok (.iconst 0, 1) := by decide +kernel
theorem dX0_copyFrom_59 : decode cX0_copyFrom 59 = .ok (.aload_n 0, 1) := by decide +kernel
theorem dX0_copyFrom_60 : decode cX0_copyFrom 60 = .ok (.getfield 24, 3) := by decide +kernel
theorem dX0_copyFrom_63 : decode cX0_copyFrom 63 = .ok (.invokestatic 64, 3) := by decide +kernel
theorem dX0_copyFrom_66 : decode cX0_copyFrom 66 = .ok (.aload_n 1, 1) := by decide +kernel
theorem dX0_copyFrom_67 : decode cX0_copyFrom 67 = .ok (.getfield 18, 3) := by decide +kernel
theorem dX0_copyFrom_70 : decode cX0_copyFrom 70 = .ok (.iconst 0, 1) := by decide +kernel
theorem dX0_copyFrom_71 : decode cX0_copyFrom 71 = .ok (.aload_n 0, 1) := by decide +kernel
theorem dX0_copyFrom_72 : decode cX0_copyFrom 72 = .ok (.getfield 18, 3) := by decide +kernel
theorem dX0_copyFrom_75 : decode cX0_copyFrom 75 = .ok (.iconst 0, 1) := by decide +kernel
theorem dX0_copyFrom_76 : decode cX0_copyFrom 76 = .ok (.aload_n 0, 1) := by decide +kernel
theorem dX0_copyFrom_77 : decode cX0_copyFrom 77 = .ok (.getfield 24, 3) := by decide +kernel
theorem dX0_copyFrom_80 : decode cX0_copyFrom 80 = .ok (.invokestatic 64, 3) := by decide +kernel
theorem dX0_copyFrom_83 : decode cX0_copyFrom 83 = .ok (.aload_n 1, 1) := by decide +kernel
theorem dX0_copyFrom_84 : decode cX0_copyFrom 84 = .ok (.getfield 21, 3) := by decide +kernel
theorem dX0_copyFrom_87 : decode cX0_copyFrom 87 = .ok (.iconst 0, 1) := by decide +kernel
theorem dX0_copyFrom_88 : decode cX0_copyFrom 88 = .ok (.aload_n 0, 1) := by decide +kernel
theorem dX0_copyFrom_89 : decode cX0_copyFrom 89 = .ok (.getfield 21, 3) := by decide +kernel
theorem dX0_copyFrom_92 : decode cX0_copyFrom 92 = .ok (.iconst 0, 1) := by decide +kernel
theorem dX0_copyFrom_93 : decode cX0_copyFrom 93 = .ok (.aload_n 0, 1) := by decide +kernel
theorem dX0_copyFrom_94 : decode cX0_copyFrom 94 = .ok (.getfield 28, 3) := by decide +kernel
theorem dX0_copyFrom_97 : decode cX0_copyFrom 97 = .ok (.invokestatic 64, 3) := by decide +kernel
theorem dX0_copyFrom_100 : decode cX0_copyFrom 100 = .ok (.return_, 1) := by decide +kernel
theorem dX1_init_0 : decode cX1_init 0 = .ok (.aload_n 0, 1) := by decide +kernel
theorem dX1_init_1 : decode cX1_init 1 = .ok (.invokespecial 3, 3) := by decide +kernel
theorem dX1_init_4 : decode cX1_init 4 = .ok (.aload_n 0, 1) := by decide +kernel
theorem dX1_init_5 : decode cX1_init 5 = .ok (.iconst 4, 1) := by decide +kernel
theorem dX1_init_6 : decode cX1_init 6 = .ok (.anewarray 9, 3) := by decide +kernel
theorem dX1_init_9 : decode cX1_init 9 = .ok (.putfield 11, 3) := by decide +kernel
theorem dX1_init_12 : decode cX1_init 12 = .ok (.iconst 0, 1) := by decide +kernel
theorem dX1_init_13 : decode cX1_init 13 = .ok (.istore_n 1, 1) := by decide +kernel
theorem dX1_init_14 : decode cX1_init 14 = .ok (.iload_n 1, 1) := by decide +kernel
theorem dX1_init_15 : decode cX1_init 15 = .ok (.iconst 4, 1) := by decide +kernel
theorem dX1_init_16 : decode cX1_init 16 = .ok (.if_icmp .ge 22, 3) := by decide +kernel
theorem dX1_init_19 : decode cX1_init 19 = .ok (.aload_n 0, 1) := by decide +kernel
theorem dX1_init_20 : decode cX1_init 20 = .ok (.getfield 11, 3) := by decide +kernel
theorem dX1_init_23 : decode cX1_init 23 = .ok (.iload_n 1, 1) := by decide +kernel
theorem dX1_init_24 : decode cX1_init 24 = .ok (.new 9, 3) := by decide +kernel
theorem dX1_init_27 : decode cX1_init 27 = .ok (.dup, 1) := by decide +kernel
theorem dX1_init_28 : decode cX1_init 28 = .ok (.invokespecial 17, 3) := by decide +kernel
theorem dX1_init_31 : decode cX1_init 31 = .ok (.aastore, 1) := by decide +kernel
theorem dX1_init_32 : decode cX1_init 32 = .ok (.iinc 1 1, 3) := by decide +kernel
theorem dX1_init_35 : decode cX1_init 35 = .ok (.goto (-21), 3) := by decide +kernel
theorem dX1_init_38 : decode cX1_init 38 = .ok (.return_, 1) := by decide +kernel
theorem dX1_size_0 : decode cX1_size 0 = .ok (.aload_n 0, 1) := by decide +kernel
theorem dX1_size_1 : decode cX1_size 1 = .ok (.getfield 18, 3) := by decide +kernel
theorem dX1_size_4 : decode cX1_size 4 = .ok (.ireturn, 1) := by decide +kernel
theorem dX1_save_0 : decode cX1_save 0 = .ok (.aload_n 0, 1) := by decide +kernel
theorem dX1_save_1 : decode cX1_save 1 = .ok (.getfield 18, 3) := by decide +kernel
theorem dX1_save_4 : decode cX1_save 4 = .ok (.iconst 4, 1) := by decide +kernel
theorem dX1_save_5 : decode cX1_save 5 = .ok (.if_icmp .lt 7, 3) := by decide +kernel
theorem dX1_save_8 : decode cX1_save 8 = .ok (.aload_n 0, 1) := by decide +kernel
theorem dX1_save_9 : decode cX1_save 9 = .ok (.invokevirtual 22, 3) := by decide +kernel
theorem dX1_save_12 : decode cX1_save 12 = .ok (.aload_n 0, 1) := by decide +kernel
theorem dX1_save_13 : decode cX1_save 13 = .ok (.getfield 18, 3) := by decide +kernel
theorem dX1_save_16 : decode cX1_save 16 = .ok (.ifCond .lt 38, 3) := by decide +kernel
theorem dX1_save_19 : decode cX1_save 19 = .ok (.aload_n 0, 1) := by decide +kernel
theorem dX1_save_20 : decode cX1_save 20 = .ok (.getfield 18, 3) := by decide +kernel
theorem dX1_save_23 : decode cX1_save 23 = .ok (.aload_n 0, 1) := by decide +kernel
theorem dX1_save_24 : decode cX1_save 24 = .ok (.getfield 11, 3) := by decide +kernel
theorem dX1_save_27 : decode cX1_save 27 = .ok (.arraylength, 1) := by decide +kernel
theorem dX1_save_28 : decode cX1_save 28 = .ok (.if_icmp .ge 26, 3) := by decide +kernel
theorem dX1_save_31 : decode cX1_save 31 = .ok (.aload_n 0, 1) := by decide +kernel
theorem dX1_save_32 : decode cX1_save 32 = .ok (.getfield 11, 3) := by decide +kernel
theorem dX1_save_35 : decode cX1_save 35 = .ok (.aload_n 0, 1) := by decide +kernel
theorem dX1_save_36 : decode cX1_save 36 = .ok (.getfield 18, 3) := by decide +kernel
theorem dX1_save_39 : decode cX1_save 39 = .ok (.aaload, 1) := by decide +kernel
theorem dX1_save_40 : decode cX1_save 40 = .ok (.aload_n 1, 1) := by decide +kernel
theorem dX1_save_41 : decode cX1_save 41 = .ok (.invokevirtual 25, 3) := by decide +kernel
theorem dX1_save_44 : decode cX1_save 44 = .ok (.aload_n 0, 1) := by decide +kernel
theorem dX1_save_45 : decode cX1_save 45 = .ok (.dup, 1) := by decide +kernel
theorem dX1_save_46 : decode cX1_save 46 = .ok (.getfield 18, 3) := by decide +kernel
theorem dX1_save_49 : decode cX1_save 49 = .ok (.iconst 1, 1) := by decide +kernel
theorem dX1_save_50 : decode cX1_save 50 = .ok (.iadd, 1) := by decide +kernel
theorem dX1_save_51 : decode cX1_save 51 = .ok (.putfield 18, 3) := by decide +kernel
theorem dX1_save_54 : decode cX1_save 54 = .ok (.return_, 1) := by decide +kernel
theorem dX1_restore_0 : decode cX1_restore 0 = .ok (.aload_n 0, 1) := by decide +kernel
theorem dX1_restore_1 : decode cX1_restore 1 = .ok (.getfield 18, 3) := by decide +kernel
theorem dX1_restore_4 : decode cX1_restore 4 = .ok (.iconst 1, 1) := by decide +kernel
theorem dX1_restore_5 : decode cX1_restore 5 = .ok (.if_icmp .lt 38, 3) := by decide +kernel
theorem dX1_restore_8 : decode cX1_restore 8 = .ok (.aload_n 0, 1) := by decide +kernel
theorem dX1_restore_9 : decode cX1_restore 9 = .ok (.getfield 18, 3) := by decide +kernel
theorem dX1_restore_12 : decode cX1_restore 12 = .ok (.aload_n 0, 1) := by decide +kernel
theorem dX1_restore_13 : decode cX1_restore 13 = .ok (.getfield 11, 3) := by decide +kernel
theorem dX1_restore_16 : decode cX1_restore 16 = .ok (.arraylength, 1) := by decide +kernel
theorem dX1_restore_17 : decode cX1_restore 17 = .ok (.if_icmp .gt 26, 3) := by decide +kernel
theorem dX1_restore_20 : decode cX1_restore 20 = .ok (.aload_n 0, 1) := by decide +kernel
theorem dX1_restore_21 : decode cX1_restore 21 = .ok (.dup, 1) := by decide +kernel
theorem dX1_restore_22 : decode cX1_restore 22 = .ok (.getfield 18, 3) := by decide +kernel
theorem dX1_restore_25 : decode cX1_restore 25 = .ok (.iconst 1, 1) := by decide +kernel
theorem dX1_restore_26 : decode cX1_restore 26 = .ok (.isub, 1) := by decide +kernel
theorem dX1_restore_27 : decode cX1_restore 27 = .ok (.putfield 18, 3) := by decide +kernel
theorem dX1_restore_30 : decode cX1_restore 30 = .ok (.aload_n 1, 1) := by decide +kernel
theorem dX1_restore_31 : decode cX1_restore 31 = .ok (.aload_n 0, 1) := by decide +kernel
theorem dX1_restore_32 : decode cX1_restore 32 = .ok (.getfield 11, 3) := by decide +kernel
theorem dX1_restore_35 : decode cX1_restore 35 = .ok (.aload_n 0, 1) := by decide +kernel
theorem dX1_restore_36 : decode cX1_restore 36 = .ok (.getfield 18, 3) := by decide +kernel
theorem dX1_restore_39 : decode cX1_restore 39 = .ok (.aaload, 1) := by decide +kernel
theorem dX1_restore_40 : decode cX1_restore 40 = .ok (.invokevirtual 25, 3) := by decide +kernel
theorem dX1_restore_43 : decode cX1_restore 43 = .ok (.return_, 1) := by decide +kernel
theorem dX1_dropOldest_0 : decode cX1_dropOldest 0 = .ok (.aload_n 0, 1) := by decide +kernel
theorem dX1_dropOldest_1 : decode cX1_dropOldest 1 = .ok (.getfield 11, 3) := by decide +kernel
theorem dX1_dropOldest_4 : decode cX1_dropOldest 4 = .ok (.iconst 0, 1) := by decide +kernel
theorem dX1_dropOldest_5 : decode cX1_dropOldest 5 = .ok (.aaload, 1) := by decide +kernel
theorem dX1_dropOldest_6 : decode cX1_dropOldest 6 = .ok (.astore_n 1, 1) := by decide +kernel
theorem dX1_dropOldest_7 : decode cX1_dropOldest 7 = .ok (.iconst 1, 1) := by decide +kernel
theorem dX1_dropOldest_8 : decode cX1_dropOldest 8 = .ok (.istore_n 2, 1) := by decide +kernel
theorem dX1_dropOldest_9 : decode cX1_dropOldest 9 = .ok (.iload_n 2, 1) := by decide +kernel
theorem dX1_dropOldest_10 : decode cX1_dropOldest 10 = .ok (.iconst 4, 1) := by decide +kernel
theorem dX1_dropOldest_11 : decode cX1_dropOldest 11 = .ok (.if_icmp .ge 23, 3) := by decide +kernel
theorem dX1_dropOldest_14 : decode cX1_dropOldest 14 = .ok (.aload_n 0, 1) := by decide +kernel
theorem dX1_dropOldest_15 : decode cX1_dropOldest 15 = .ok (.getfield 11, 3) := by decide +kernel
theorem dX1_dropOldest_18 : decode cX1_dropOldest 18 = .ok (.iload_n 2, 1) := by decide +kernel
theorem dX1_dropOldest_19 : decode cX1_dropOldest 19 = .ok (.iconst 1, 1) := by decide +kernel
theorem dX1_dropOldest_20 : decode cX1_dropOldest 20 = .ok (.isub, 1) := by decide +kernel
theorem dX1_dropOldest_21 : decode cX1_dropOldest 21 = .ok (.aload_n 0, 1) := by decide +kernel
theorem dX1_dropOldest_22 : decode cX1_dropOldest 22 = .ok (.getfield 11, 3) := by decide +kernel
theorem dX1_dropOldest_25 : decode cX1_dropOldest 25 = .ok (.iload_n 2, 1) := by decide +kernel
theorem dX1_dropOldest_26 : decode cX1_dropOldest 26 = .ok (.aaload, 1) := by decide +kernel
theorem dX1_dropOldest_27 : decode cX1_dropOldest 27 = .ok (.aastore, 1) := by decide +kernel
theorem dX1_dropOldest_28 : decode cX1_dropOldest 28 = .ok (.iinc 2 1, 3) := by decide +kernel
theorem dX1_dropOldest_31 : decode cX1_dropOldest 31 = .ok (.goto (-22), 3) := by decide +kernel
theorem dX1_dropOldest_34 : decode cX1_dropOldest 34 = .ok (.aload_n 0, 1) := by decide +kernel
theorem dX1_dropOldest_35 : decode cX1_dropOldest 35 = .ok (.getfield 11, 3) := by decide +kernel
theorem dX1_dropOldest_38 : decode cX1_dropOldest 38 = .ok (.iconst 3, 1) := by decide +kernel
theorem dX1_dropOldest_39 : decode cX1_dropOldest 39 = .ok (.aload_n 1, 1) := by decide +kernel
theorem dX1_dropOldest_40 : decode cX1_dropOldest 40 = .ok (.aastore, 1) := by decide +kernel
theorem dX1_dropOldest_41 : decode cX1_dropOldest 41 = .ok (.aload_n 0, 1) := by decide +kernel
theorem dX1_dropOldest_42 : decode cX1_dropOldest 42 = .ok (.dup, 1) := by decide +kernel
theorem dX1_dropOldest_43 : decode cX1_dropOldest 43 = .ok (.getfield 18, 3) := by decide +kernel
theorem dX1_dropOldest_46 : decode cX1_dropOldest 46 = .ok (.iconst 1, 1) := by decide +kernel
theorem dX1_dropOldest_47 : decode cX1_dropOldest 47 = .ok (.isub, 1) := by decide +kernel
theorem dX1_dropOldest_48 : decode cX1_dropOldest 48 = .ok (.putfield 18, 3) := by decide +kernel
theorem dX1_dropOldest_51 : decode cX1_dropOldest 51 = .ok (.return_, 1) := by decide +kernel
theorem dX2_init_0 : decode cX2_init 0 = .ok (.aload_n 0, 1) := by decide +kernel
theorem dX2_init_1 : decode cX2_init 1 = .ok (.invokespecial 3, 3) := by decide +kernel
theorem dX2_init_4 : decode cX2_init 4 = .ok (.aload_n 0, 1) := by decide +kernel
theorem dX2_init_5 : decode cX2_init 5 = .ok (.iconst 0, 1) := by decide +kernel
theorem dX2_init_6 : decode cX2_init 6 = .ok (.iload_n 1, 1) := by decide +kernel
theorem dX2_init_7 : decode cX2_init 7 = .ok (.invokestatic 9, 3) := by decide +kernel
theorem dX2_init_10 : decode cX2_init 10 = .ok (.newarray .int, 2) := by decide +kernel
theorem dX2_init_12 : decode cX2_init 12 = .ok (.putfield 15, 3) := by decide +kernel
theorem dX2_init_15 : decode cX2_init 15 = .ok (.return_, 1) := by decide +kernel
theorem dX2_size_0 : decode cX2_size 0 = .ok (.aload_n 0, 1) := by decide +kernel
theorem dX2_size_1 : decode cX2_size 1 = .ok (.getfield 21, 3) := by decide +kernel
theorem dX2_size_4 : decode cX2_size 4 = .ok (.ireturn, 1) := by decide +kernel
theorem dX2_at_0 : decode cX2_at 0 = .ok (.iload_n 1, 1) := by decide +kernel
theorem dX2_at_1 : decode cX2_at 1 = .ok (.ifCond .lt 29, 3) := by decide +kernel
theorem dX2_at_4 : decode cX2_at 4 = .ok (.iload_n 1, 1) := by decide +kernel
theorem dX2_at_5 : decode cX2_at 5 = .ok (.aload_n 0, 1) := by decide +kernel
theorem dX2_at_6 : decode cX2_at 6 = .ok (.getfield 21, 3) := by decide +kernel
theorem dX2_at_9 : decode cX2_at 9 = .ok (.if_icmp .ge 21, 3) := by decide +kernel
theorem dX2_at_12 : decode cX2_at 12 = .ok (.iload_n 1, 1) := by decide +kernel
theorem dX2_at_13 : decode cX2_at 13 = .ok (.aload_n 0, 1) := by decide +kernel
theorem dX2_at_14 : decode cX2_at 14 = .ok (.getfield 15, 3) := by decide +kernel
theorem dX2_at_17 : decode cX2_at 17 = .ok (.arraylength, 1) := by decide +kernel
theorem dX2_at_18 : decode cX2_at 18 = .ok (.if_icmp .ge 12, 3) := by decide +kernel
theorem dX2_at_21 : decode cX2_at 21 = .ok (.aload_n 0, 1) := by decide +kernel
theorem dX2_at_22 : decode cX2_at 22 = .ok (.getfield 15, 3) := by decide +kernel
theorem dX2_at_25 : decode cX2_at 25 = .ok (.iload_n 1, 1) := by decide +kernel
theorem dX2_at_26 : decode cX2_at 26 = .ok (.iaload, 1) := by decide +kernel
theorem dX2_at_27 : decode cX2_at 27 = .ok (.goto 4, 3) := by decide +kernel
theorem dX2_at_30 : decode cX2_at 30 = .ok (.iconst (-1), 1) := by decide +kernel
theorem dX2_at_31 : decode cX2_at 31 = .ok (.ireturn, 1) := by decide +kernel
theorem dX2_put_0 : decode cX2_put 0 = .ok (.aload_n 0, 1) := by decide +kernel
theorem dX2_put_1 : decode cX2_put 1 = .ok (.getfield 21, 3) := by decide +kernel
theorem dX2_put_4 : decode cX2_put 4 = .ok (.ifCond .lt 35, 3) := by decide +kernel
theorem dX2_put_7 : decode cX2_put 7 = .ok (.aload_n 0, 1) := by decide +kernel
theorem dX2_put_8 : decode cX2_put 8 = .ok (.getfield 21, 3) := by decide +kernel
theorem dX2_put_11 : decode cX2_put 11 = .ok (.aload_n 0, 1) := by decide +kernel
theorem dX2_put_12 : decode cX2_put 12 = .ok (.getfield 15, 3) := by decide +kernel
theorem dX2_put_15 : decode cX2_put 15 = .ok (.arraylength, 1) := by decide +kernel
theorem dX2_put_16 : decode cX2_put 16 = .ok (.if_icmp .ge 23, 3) := by decide +kernel
theorem dX2_put_19 : decode cX2_put 19 = .ok (.aload_n 0, 1) := by decide +kernel
theorem dX2_put_20 : decode cX2_put 20 = .ok (.getfield 15, 3) := by decide +kernel
theorem dX2_put_23 : decode cX2_put 23 = .ok (.aload_n 0, 1) := by decide +kernel
theorem dX2_put_24 : decode cX2_put 24 = .ok (.getfield 21, 3) := by decide +kernel
theorem dX2_put_27 : decode cX2_put 27 = .ok (.iload_n 1, 1) := by decide +kernel
theorem dX2_put_28 : decode cX2_put 28 = .ok (.iastore, 1) := by decide +kernel
theorem dX2_put_29 : decode cX2_put 29 = .ok (.aload_n 0, 1) := by decide +kernel
theorem dX2_put_30 : decode cX2_put 30 = .ok (.dup, 1) := by decide +kernel
theorem dX2_put_31 : decode cX2_put 31 = .ok (.getfield 21, 3) := by decide +kernel
theorem dX2_put_34 : decode cX2_put 34 = .ok (.iconst 1, 1) := by decide +kernel
theorem dX2_put_35 : decode cX2_put 35 = .ok (.iadd, 1) := by decide +kernel
theorem dX2_put_36 : decode cX2_put 36 = .ok (.putfield 21, 3) := by decide +kernel
theorem dX2_put_39 : decode cX2_put 39 = .ok (.return_, 1) := by decide +kernel
theorem dX2_takeAt_0 : decode cX2_takeAt 0 = .ok (.aload_n 0, 1) := by decide +kernel
theorem dX2_takeAt_1 : decode cX2_takeAt 1 = .ok (.iload_n 1, 1) := by decide +kernel
theorem dX2_takeAt_2 : decode cX2_takeAt 2 = .ok (.invokevirtual 25, 3) := by decide +kernel
theorem dX2_takeAt_5 : decode cX2_takeAt 5 = .ok (.istore_n 2, 1) := by decide +kernel
theorem dX2_takeAt_6 : decode cX2_takeAt 6 = .ok (.iload_n 2, 1) := by decide +kernel
theorem dX2_takeAt_7 : decode cX2_takeAt 7 = .ok (.iconst (-1), 1) := by decide +kernel
theorem dX2_takeAt_8 : decode cX2_takeAt 8 = .ok (.if_icmp .eq 36, 3) := by decide +kernel
theorem dX2_takeAt_11 : decode cX2_takeAt 11 = .ok (.aload_n 0, 1) := by decide +kernel
theorem dX2_takeAt_12 : decode cX2_takeAt 12 = .ok (.getfield 15, 3) := by decide +kernel
theorem dX2_takeAt_15 : decode cX2_takeAt 15 = .ok (.iload_n 1, 1) := by decide +kernel
theorem dX2_takeAt_16 : decode cX2_takeAt 16 = .ok (.iconst 1, 1) := by decide +kernel
theorem dX2_takeAt_17 : decode cX2_takeAt 17 = .ok (.iadd, 1) := by decide +kernel
theorem dX2_takeAt_18 : decode cX2_takeAt 18 = .ok (.aload_n 0, 1) := by decide +kernel
theorem dX2_takeAt_19 : decode cX2_takeAt 19 = .ok (.getfield 15, 3) := by decide +kernel
theorem dX2_takeAt_22 : decode cX2_takeAt 22 = .ok (.iload_n 1, 1) := by decide +kernel
theorem dX2_takeAt_23 : decode cX2_takeAt 23 = .ok (.aload_n 0, 1) := by decide +kernel
theorem dX2_takeAt_24 : decode cX2_takeAt 24 = .ok (.getfield 21, 3) := by decide +kernel
theorem dX2_takeAt_27 : decode cX2_takeAt 27 = .ok (.iconst 1, 1) := by decide +kernel
theorem dX2_takeAt_28 : decode cX2_takeAt 28 = .ok (.isub, 1) := by decide +kernel
theorem dX2_takeAt_29 : decode cX2_takeAt 29 = .ok (.iload_n 1, 1) := by decide +kernel
theorem dX2_takeAt_30 : decode cX2_takeAt 30 = .ok (.isub, 1) := by decide +kernel
theorem dX2_takeAt_31 : decode cX2_takeAt 31 = .ok (.invokestatic 29, 3) := by decide +kernel
theorem dX2_takeAt_34 : decode cX2_takeAt 34 = .ok (.aload_n 0, 1) := by decide +kernel
theorem dX2_takeAt_35 : decode cX2_takeAt 35 = .ok (.dup, 1) := by decide +kernel
theorem dX2_takeAt_36 : decode cX2_takeAt 36 = .ok (.getfield 21, 3) := by decide +kernel
theorem dX2_takeAt_39 : decode cX2_takeAt 39 = .ok (.iconst 1, 1) := by decide +kernel
theorem dX2_takeAt_40 : decode cX2_takeAt 40 = .ok (.isub, 1) := by decide +kernel
theorem dX2_takeAt_41 : decode cX2_takeAt 41 = .ok (.putfield 21, 3) := by decide +kernel
theorem dX2_takeAt_44 : decode cX2_takeAt 44 = .ok (.iload_n 2, 1) := by decide +kernel
theorem dX2_takeAt_45 : decode cX2_takeAt 45 = .ok (.ireturn, 1) := by decide +kernel
theorem dX2_takeLast_0 : decode cX2_takeLast 0 = .ok (.aload_n 0, 1) := by decide +kernel
theorem dX2_takeLast_1 : decode cX2_takeLast 1 = .ok (.aload_n 0, 1) := by decide +kernel
theorem dX2_takeLast_2 : decode cX2_takeLast 2 = .ok (.getfield 21, 3) := by decide +kernel
theorem dX2_takeLast_5 : decode cX2_takeLast 5 = .ok (.iconst 1, 1) := by decide +kernel
theorem dX2_takeLast_6 : decode cX2_takeLast 6 = .ok (.isub, 1) := by decide +kernel
theorem dX2_takeLast_7 : decode cX2_takeLast 7 = .ok (.invokevirtual 35, 3) := by decide +kernel
theorem dX2_takeLast_10 : decode cX2_takeLast 10 = .ok (.ireturn, 1) := by decide +kernel
theorem dX2_dropFirst_0 : decode cX2_dropFirst 0 = .ok (.iload_n 1, 1) := by decide +kernel
theorem dX2_dropFirst_1 : decode cX2_dropFirst 1 = .ok (.ifCond .lt 40, 3) := by decide +kernel
theorem dX2_dropFirst_4 : decode cX2_dropFirst 4 = .ok (.iload_n 1, 1) := by decide +kernel
theorem dX2_dropFirst_5 : decode cX2_dropFirst 5 = .ok (.aload_n 0, 1) := by decide +kernel
theorem dX2_dropFirst_6 : decode cX2_dropFirst 6 = .ok (.getfield 21, 3) := by decide +kernel
theorem dX2_dropFirst_9 : decode cX2_dropFirst 9 = .ok (.if_icmp .gt 32, 3) := by decide +kernel
theorem dX2_dropFirst_12 : decode cX2_dropFirst 12 = .ok (.aload_n 0, 1) := by decide +kernel
theorem dX2_dropFirst_13 : decode cX2_dropFirst 13 = .ok (.getfield 15, 3) := by decide +kernel
theorem dX2_dropFirst_16 : decode cX2_dropFirst 16 = .ok (.iload_n 1, 1) := by decide +kernel
theorem dX2_dropFirst_17 : decode cX2_dropFirst 17 = .ok (.aload_n 0, 1) := by decide +kernel
theorem dX2_dropFirst_18 : decode cX2_dropFirst 18 = .ok (.getfield 15, 3) := by decide +kernel
theorem dX2_dropFirst_21 : decode cX2_dropFirst 21 = .ok (.iconst 0, 1) := by decide +kernel
theorem dX2_dropFirst_22 : decode cX2_dropFirst 22 = .ok (.aload_n 0, 1) := by decide +kernel
theorem dX2_dropFirst_23 : decode cX2_dropFirst 23 = .ok (.getfield 21, 3) := by decide +kernel
theorem dX2_dropFirst_26 : decode cX2_dropFirst 26 = .ok (.iload_n 1, 1) := by decide +kernel
theorem dX2_dropFirst_27 : decode cX2_dropFirst 27 = .ok (.isub, 1) := by decide +kernel
theorem dX2_dropFirst_28 : decode cX2_dropFirst 28 = .ok (.invokestatic 29, 3) := by decide +kernel
theorem dX2_dropFirst_31 : decode cX2_dropFirst 31 = .ok (.aload_n 0, 1) := by decide +kernel
theorem dX2_dropFirst_32 : decode cX2_dropFirst 32 = .ok (.dup, 1) := by decide +kernel
theorem dX2_dropFirst_33 : decode cX2_dropFirst 33 = .ok (.getfield 21, 3) := by decide +kernel
theorem dX2_dropFirst_36 : decode cX2_dropFirst 36 = .ok (.iload_n 1, 1) := by decide +kernel
theorem dX2_dropFirst_37 : decode cX2_dropFirst 37 = .ok (.isub, 1) := by decide +kernel
theorem dX2_dropFirst_38 : decode cX2_dropFirst 38 = .ok (.putfield 21, 3) := by decide +kernel
theorem dX2_dropFirst_41 : decode cX2_dropFirst 41 = .ok (.return_, 1) := by decide +kernel
theorem dX2_clear_0 : decode cX2_clear 0 = .ok (.aload_n 0, 1) := by decide +kernel
theorem dX2_clear_1 : decode cX2_clear 1 = .ok (.iconst 0, 1) := by decide +kernel
theorem dX2_clear_2 : decode cX2_clear 2 = .ok (.putfield 21, 3) := by decide +kernel
theorem dX2_clear_5 : decode cX2_clear 5 = .ok (.return_, 1) := by decide +kernel
theorem dX2_countOf_0 : decode cX2_countOf 0 = .ok (.iconst 0, 1) := by decide +kernel
theorem dX2_countOf_1 : decode cX2_countOf 1 = .ok (.istore_n 2, 1) := by decide +kernel
theorem dX2_countOf_2 : decode cX2_countOf 2 = .ok (.iconst 0, 1) := by decide +kernel
theorem dX2_countOf_3 : decode cX2_countOf 3 = .ok (.istore_n 3, 1) := by decide +kernel
theorem dX2_countOf_4 : decode cX2_countOf 4 = .ok (.iload_n 3, 1) := by decide +kernel
theorem dX2_countOf_5 : decode cX2_countOf 5 = .ok (.aload_n 0, 1) := by decide +kernel
theorem dX2_countOf_6 : decode cX2_countOf 6 = .ok (.getfield 21, 3) := by decide +kernel
theorem dX2_countOf_9 : decode cX2_countOf 9 = .ok (.if_icmp .ge 21, 3) := by decide +kernel
theorem dX2_countOf_12 : decode cX2_countOf 12 = .ok (.aload_n 0, 1) := by decide +kernel
theorem dX2_countOf_13 : decode cX2_countOf 13 = .ok (.iload_n 3, 1) := by decide +kernel
theorem dX2_countOf_14 : decode cX2_countOf 14 = .ok (.invokevirtual 25, 3) := by decide +kernel
theorem dX2_countOf_17 : decode cX2_countOf 17 = .ok (.iload_n 1, 1) := by decide +kernel
theorem dX2_countOf_18 : decode cX2_countOf 18 = .ok (.if_icmp .ne 6, 3) := by decide +kernel
theorem dX2_countOf_21 : decode cX2_countOf 21 = .ok (.iinc 2 1, 3) := by decide +kernel
theorem dX2_countOf_24 : decode cX2_countOf 24 = .ok (.iinc 3 1, 3) := by decide +kernel
theorem dX2_countOf_27 : decode cX2_countOf 27 = .ok (.goto (-23), 3) := by decide +kernel
theorem dX2_countOf_30 : decode cX2_countOf 30 = .ok (.iload_n 2, 1) := by decide +kernel
theorem dX2_countOf_31 : decode cX2_countOf 31 = .ok (.ireturn, 1) := by decide +kernel
theorem dX2_lastIndexOf_0 : decode cX2_lastIndexOf 0 = .ok (.aload_n 0, 1) := by decide +kernel
theorem dX2_lastIndexOf_1 : decode cX2_lastIndexOf 1 = .ok (.getfield 21, 3) := by decide +kernel
theorem dX2_lastIndexOf_4 : decode cX2_lastIndexOf 4 = .ok (.iconst 1, 1) := by decide +kernel
theorem dX2_lastIndexOf_5 : decode cX2_lastIndexOf 5 = .ok (.isub, 1) := by decide +kernel
theorem dX2_lastIndexOf_6 : decode cX2_lastIndexOf 6 = .ok (.istore_n 2, 1) := by decide +kernel
theorem dX2_lastIndexOf_7 : decode cX2_lastIndexOf 7 = .ok (.iload_n 2, 1) := by decide +kernel
theorem dX2_lastIndexOf_8 : decode cX2_lastIndexOf 8 = .ok (.ifCond .lt 20, 3) := by decide +kernel
theorem dX2_lastIndexOf_11 : decode cX2_lastIndexOf 11 = .ok (.aload_n 0, 1) := by decide +kernel
theorem dX2_lastIndexOf_12 : decode cX2_lastIndexOf 12 = .ok (.iload_n 2, 1) := by decide +kernel
theorem dX2_lastIndexOf_13 : decode cX2_lastIndexOf 13 = .ok (.invokevirtual 25, 3) := by decide +kernel
theorem dX2_lastIndexOf_16 : decode cX2_lastIndexOf 16 = .ok (.iload_n 1, 1) := by decide +kernel
theorem dX2_lastIndexOf_17 : decode cX2_lastIndexOf 17 = .ok (.if_icmp .ne 5, 3) := by decide +kernel
theorem dX2_lastIndexOf_20 : decode cX2_lastIndexOf 20 = .ok (.iload_n 2, 1) := by decide +kernel
theorem dX2_lastIndexOf_21 : decode cX2_lastIndexOf 21 = .ok (.ireturn, 1) := by decide +kernel
theorem dX2_lastIndexOf_22 : decode cX2_lastIndexOf 22 = .ok (.iinc 2 (-1), 3) := by decide +kernel
theorem dX2_lastIndexOf_25 : decode cX2_lastIndexOf 25 = .ok (.goto (-18), 3) := by decide +kernel
theorem dX2_lastIndexOf_28 : decode cX2_lastIndexOf 28 = .ok (.iconst (-1), 1) := by decide +kernel
theorem dX2_lastIndexOf_29 : decode cX2_lastIndexOf 29 = .ok (.ireturn, 1) := by decide +kernel
theorem dX2_mixedInto_0 : decode cX2_mixedInto 0 = .ok (.lload_n 1, 1) := by decide +kernel
theorem dX2_mixedInto_1 : decode cX2_mixedInto 1 = .ok (.lstore_n 3, 1) := by decide +kernel
theorem dX2_mixedInto_2 : decode cX2_mixedInto 2 = .ok (.iconst 0, 1) := by decide +kernel
theorem dX2_mixedInto_3 : decode cX2_mixedInto 3 = .ok (.istore 5, 2) := by decide +kernel
theorem dX2_mixedInto_5 : decode cX2_mixedInto 5 = .ok (.iload 5, 2) := by decide +kernel
theorem dX2_mixedInto_7 : decode cX2_mixedInto 7 = .ok (.aload_n 0, 1) := by decide +kernel
theorem dX2_mixedInto_8 : decode cX2_mixedInto 8 = .ok (.getfield 21, 3) := by decide +kernel
theorem dX2_mixedInto_11 : decode cX2_mixedInto 11 = .ok (.if_icmp .ge 21, 3) := by decide +kernel
theorem dX2_mixedInto_14 : decode cX2_mixedInto 14 = .ok (.lload_n 3, 1) := by decide +kernel
theorem dX2_mixedInto_15 : decode cX2_mixedInto 15 = .ok (.aload_n 0, 1) := by decide +kernel
theorem dX2_mixedInto_16 : decode cX2_mixedInto 16 = .ok (.iload 5, 2) := by decide +kernel
theorem dX2_mixedInto_18 : decode cX2_mixedInto 18 = .ok (.invokevirtual 25, 3) := by decide +kernel
theorem dX2_mixedInto_21 : decode cX2_mixedInto 21 = .ok (.i2l, 1) := by decide +kernel
theorem dX2_mixedInto_22 : decode cX2_mixedInto 22 = .ok (.invokestatic 38, 3) := by decide +kernel
theorem dX2_mixedInto_25 : decode cX2_mixedInto 25 = .ok (.lstore_n 3, 1) := by decide +kernel
theorem dX2_mixedInto_26 : decode cX2_mixedInto 26 = .ok (.iinc 5 1, 3) := by decide +kernel
theorem dX2_mixedInto_29 : decode cX2_mixedInto 29 = .ok (.goto (-24), 3) := by decide +kernel
theorem dX2_mixedInto_32 : decode cX2_mixedInto 32 = .ok (.lload_n 3, 1) := by decide +kernel
theorem dX2_mixedInto_33 : decode cX2_mixedInto 33 = .ok (.lreturn, 1) := by decide +kernel
theorem dX2_copyFrom_0 : decode cX2_copyFrom 0 = .ok (.aload_n 0, 1) := by decide +kernel
theorem dX2_copyFrom_1 : decode cX2_copyFrom 1 = .ok (.aload_n 1, 1) := by decide +kernel
theorem dX2_copyFrom_2 : decode cX2_copyFrom 2 = .ok (.getfield 21, 3) := by decide +kernel
theorem dX2_copyFrom_5 : decode cX2_copyFrom 5 = .ok (.aload_n 0, 1) := by decide +kernel
theorem dX2_copyFrom_6 : decode cX2_copyFrom 6 = .ok (.getfield 15, 3) := by decide +kernel
theorem dX2_copyFrom_9 : decode cX2_copyFrom 9 = .ok (.arraylength, 1) := by decide +kernel
theorem dX2_copyFrom_10 : decode cX2_copyFrom 10 = .ok (.invokestatic 42, 3) := by decide +kernel
theorem dX2_copyFrom_13 : decode cX2_copyFrom 13 = .ok (.putfield 21, 3) := by decide +kernel
theorem dX2_copyFrom_16 : decode cX2_copyFrom 16 = .ok (.aload_n 1, 1) := by decide +kernel
theorem dX2_copyFrom_17 : decode cX2_copyFrom 17 = .ok (.getfield 15, 3) := by decide +kernel
theorem dX2_copyFrom_20 : decode cX2_copyFrom 20 = .ok (.iconst 0, 1) := by decide +kernel
theorem dX2_copyFrom_21 : decode cX2_copyFrom 21 = .ok (.aload_n 0, 1) := by decide +kernel
theorem dX2_copyFrom_22 : decode cX2_copyFrom 22 = .ok (.getfield 15, 3) := by decide +kernel
theorem dX2_copyFrom_25 : decode cX2_copyFrom 25 = .ok (.iconst 0, 1) := by decide +kernel
theorem dX2_copyFrom_26 : decode cX2_copyFrom 26 = .ok (.aload_n 0, 1) := by decide +kernel
theorem dX2_copyFrom_27 : decode cX2_copyFrom 27 = .ok (.getfield 21, 3) := by decide +kernel
theorem dX2_copyFrom_30 : decode cX2_copyFrom 30 = .ok (.invokestatic 29, 3) := by decide +kernel
theorem dX2_copyFrom_33 : decode cX2_copyFrom 33 = .ok (.return_, 1) := by decide +kernel
theorem dX3_init_0 : decode cX3_init 0 = .ok (.aload_n 0, 1) := by decide +kernel
theorem dX3_init_1 : decode cX3_init 1 = .ok (.invokespecial 3, 3) := by decide +kernel
theorem dX3_init_4 : decode cX3_init 4 = .ok (.aload_n 0, 1) := by decide +kernel
theorem dX3_init_5 : decode cX3_init 5 = .ok (.bipush 27, 2) := by decide +kernel
theorem dX3_init_7 : decode cX3_init 7 = .ok (.anewarray 9, 3) := by decide +kernel
theorem dX3_init_10 : decode cX3_init 10 = .ok (.putfield 11, 3) := by decide +kernel
theorem dX3_init_13 : decode cX3_init 13 = .ok (.aload_n 0, 1) := by decide +kernel
theorem dX3_init_14 : decode cX3_init 14 = .ok (.iconst 3, 1) := by decide +kernel
theorem dX3_init_15 : decode cX3_init 15 = .ok (.anewarray 17, 3) := by decide +kernel
theorem dX3_init_18 : decode cX3_init 18 = .ok (.putfield 19, 3) := by decide +kernel
theorem dX3_init_21 : decode cX3_init 21 = .ok (.aload_n 0, 1) := by decide +kernel
theorem dX3_init_22 : decode cX3_init 22 = .ok (.new 9, 3) := by decide +kernel
theorem dX3_init_25 : decode cX3_init 25 = .ok (.dup, 1) := by decide +kernel
theorem dX3_init_26 : decode cX3_init 26 = .ok (.sipush 250, 3) := by decide +kernel
theorem dX3_init_29 : decode cX3_init 29 = .ok (.invokespecial 23, 3) := by decide +kernel
theorem dX3_init_32 : decode cX3_init 32 = .ok (.putfield 26, 3) := by decide +kernel
theorem dX3_init_35 : decode cX3_init 35 = .ok (.aload_n 0, 1) := by decide +kernel
theorem dX3_init_36 : decode cX3_init 36 = .ok (.iconst 3, 1) := by decide +kernel
theorem dX3_init_37 : decode cX3_init 37 = .ok (.putfield 30, 3) := by decide +kernel
theorem dX3_init_40 : decode cX3_init 40 = .ok (.iconst 0, 1) := by decide +kernel
theorem dX3_init_41 : decode cX3_init 41 = .ok (.istore_n 1, 1) := by decide +kernel
theorem dX3_init_42 : decode cX3_init 42 = .ok (.iload_n 1, 1) := by decide +kernel
theorem dX3_init_43 : decode cX3_init 43 = .ok (.bipush 27, 2) := by decide +kernel
theorem dX3_init_45 : decode cX3_init 45 = .ok (.if_icmp .ge 25, 3) := by decide +kernel
theorem dX3_init_48 : decode cX3_init 48 = .ok (.aload_n 0, 1) := by decide +kernel
theorem dX3_init_49 : decode cX3_init 49 = .ok (.getfield 11, 3) := by decide +kernel
theorem dX3_init_52 : decode cX3_init 52 = .ok (.iload_n 1, 1) := by decide +kernel
theorem dX3_init_53 : decode cX3_init 53 = .ok (.new 9, 3) := by decide +kernel
theorem dX3_init_56 : decode cX3_init 56 = .ok (.dup, 1) := by decide +kernel
theorem dX3_init_57 : decode cX3_init 57 = .ok (.sipush 250, 3) := by decide +kernel
theorem dX3_init_60 : decode cX3_init 60 = .ok (.invokespecial 23, 3) := by decide +kernel
theorem dX3_init_63 : decode cX3_init 63 = .ok (.aastore, 1) := by decide +kernel
theorem dX3_init_64 : decode cX3_init 64 = .ok (.iinc 1 1, 3) := by decide +kernel
theorem dX3_init_67 : decode cX3_init 67 = .ok (.goto (-25), 3) := by decide +kernel
theorem dX3_init_70 : decode cX3_init 70 = .ok (.iconst 0, 1) := by decide +kernel
theorem dX3_init_71 : decode cX3_init 71 = .ok (.istore_n 1, 1) := by decide +kernel
theorem dX3_init_72 : decode cX3_init 72 = .ok (.iload_n 1, 1) := by decide +kernel
theorem dX3_init_73 : decode cX3_init 73 = .ok (.iconst 3, 1) := by decide +kernel
theorem dX3_init_74 : decode cX3_init 74 = .ok (.if_icmp .ge 22, 3) := by decide +kernel
theorem dX3_init_77 : decode cX3_init 77 = .ok (.aload_n 0, 1) := by decide +kernel
theorem dX3_init_78 : decode cX3_init 78 = .ok (.getfield 19, 3) := by decide +kernel
theorem dX3_init_81 : decode cX3_init 81 = .ok (.iload_n 1, 1) := by decide +kernel
theorem dX3_init_82 : decode cX3_init 82 = .ok (.new 17, 3) := by decide +kernel
theorem dX3_init_85 : decode cX3_init 85 = .ok (.dup, 1) := by decide +kernel
theorem dX3_init_86 : decode cX3_init 86 = .ok (.invokespecial 34, 3) := by decide +kernel
theorem dX3_init_89 : decode cX3_init 89 = .ok (.aastore, 1) := by decide +kernel
theorem dX3_init_90 : decode cX3_init 90 = .ok (.iinc 1 1, 3) := by decide +kernel
theorem dX3_init_93 : decode cX3_init 93 = .ok (.goto (-21), 3) := by decide +kernel
theorem dX3_init_96 : decode cX3_init 96 = .ok (.return_, 1) := by decide +kernel
theorem dX3_boxOf_0 : decode cX3_boxOf 0 = .ok (.aload_n 0, 1) := by decide +kernel
theorem dX3_boxOf_1 : decode cX3_boxOf 1 = .ok (.getfield 11, 3) := by decide +kernel
theorem dX3_boxOf_4 : decode cX3_boxOf 4 = .ok (.iload_n 1, 1) := by decide +kernel
theorem dX3_boxOf_5 : decode cX3_boxOf 5 = .ok (.bipush 27, 2) := by decide +kernel
theorem dX3_boxOf_7 : decode cX3_boxOf 7 = .ok (.invokestatic 35, 3) := by decide +kernel
theorem dX3_boxOf_10 : decode cX3_boxOf 10 = .ok (.aaload, 1) := by decide +kernel
theorem dX3_boxOf_11 : decode cX3_boxOf 11 = .ok (.areturn, 1) := by decide +kernel
theorem dX3_formeOf_0 : decode cX3_formeOf 0 = .ok (.aload_n 0, 1) := by decide +kernel
theorem dX3_formeOf_1 : decode cX3_formeOf 1 = .ok (.getfield 19, 3) := by decide +kernel
theorem dX3_formeOf_4 : decode cX3_formeOf 4 = .ok (.iload_n 1, 1) := by decide +kernel
theorem dX3_formeOf_5 : decode cX3_formeOf 5 = .ok (.iconst 3, 1) := by decide +kernel
theorem dX3_formeOf_6 : decode cX3_formeOf 6 = .ok (.invokestatic 35, 3) := by decide +kernel
theorem dX3_formeOf_9 : decode cX3_formeOf 9 = .ok (.aaload, 1) := by decide +kernel
theorem dX3_formeOf_10 : decode cX3_formeOf 10 = .ok (.areturn, 1) := by decide +kernel
theorem dX3_putBack_0 : decode cX3_putBack 0 = .ok (.aload_n 0, 1) := by decide +kernel
theorem dX3_putBack_1 : decode cX3_putBack 1 = .ok (.iload_n 1, 1) := by decide +kernel
theorem dX3_putBack_2 : decode cX3_putBack 2 = .ok (.invokevirtual 41, 3) := by decide +kernel
theorem dX3_putBack_5 : decode cX3_putBack 5 = .ok (.iload_n 1, 1) := by decide +kernel
theorem dX3_putBack_6 : decode cX3_putBack 6 = .ok (.invokevirtual 45, 3) := by decide +kernel
theorem dX3_putBack_9 : decode cX3_putBack 9 = .ok (.return_, 1) := by decide +kernel
theorem dX3_buySorts_0 : decode cX3_buySorts 0 = .ok (.iconst 0, 1) := by decide +kernel
theorem dX3_buySorts_1 : decode cX3_buySorts 1 = .ok (.istore_n 3, 1) := by decide +kernel
theorem dX3_buySorts_2 : decode cX3_buySorts 2 = .ok (.iload_n 3, 1) := by decide +kernel
theorem dX3_buySorts_3 : decode cX3_buySorts 3 = .ok (.iload_n 2, 1) := by decide +kernel
theorem dX3_buySorts_4 : decode cX3_buySorts 4 = .ok (.if_icmp .ge 14, 3) := by decide +kernel
theorem dX3_buySorts_7 : decode cX3_buySorts 7 = .ok (.aload_n 0, 1) := by decide +kernel
theorem dX3_buySorts_8 : decode cX3_buySorts 8 = .ok (.iload_n 1, 1) := by decide +kernel
theorem dX3_buySorts_9 : decode cX3_buySorts 9 = .ok (.invokevirtual 48, 3) := by decide +kernel
theorem dX3_buySorts_12 : decode cX3_buySorts 12 = .ok (.iinc 3 1, 3) := by decide +kernel
theorem dX3_buySorts_15 : decode cX3_buySorts 15 = .ok (.goto (-13), 3) := by decide +kernel
theorem dX3_buySorts_18 : decode cX3_buySorts 18 = .ok (.aload_n 0, 1) := by decide +kernel
theorem dX3_buySorts_19 : decode cX3_buySorts 19 = .ok (.dup, 1) := by decide +kernel
theorem dX3_buySorts_20 : decode cX3_buySorts 20 = .ok (.getfield 51, 3) := by decide +kernel
theorem dX3_buySorts_23 : decode cX3_buySorts 23 = .ok (.aload_n 0, 1) := by decide +kernel
theorem dX3_buySorts_24 : decode cX3_buySorts 24 = .ok (.getfield 30, 3) := by decide +kernel
theorem dX3_buySorts_27 : decode cX3_buySorts 27 = .ok (.iload_n 2, 1) := by decide +kernel
theorem dX3_buySorts_28 : decode cX3_buySorts 28 = .ok (.imul, 1) := by decide +kernel
theorem dX3_buySorts_29 : decode cX3_buySorts 29 = .ok (.iadd, 1) := by decide +kernel
theorem dX3_buySorts_30 : decode cX3_buySorts 30 = .ok (.putfield 51, 3) := by decide +kernel
theorem dX3_buySorts_33 : decode cX3_buySorts 33 = .ok (.return_, 1) := by decide +kernel
theorem dX3_spillSorts_0 : decode cX3_spillSorts 0 = .ok (.iconst 0, 1) := by decide +kernel
theorem dX3_spillSorts_1 : decode cX3_spillSorts 1 = .ok (.istore 4, 2) := by decide +kernel
theorem dX3_spillSorts_3 : decode cX3_spillSorts 3 = .ok (.iload 4, 2) := by decide +kernel
theorem dX3_spillSorts_5 : decode cX3_spillSorts 5 = .ok (.iload_n 3, 1) := by decide +kernel
theorem dX3_spillSorts_6 : decode cX3_spillSorts 6 = .ok (.if_icmp .ge 25, 3) := by decide +kernel
theorem dX3_spillSorts_9 : decode cX3_spillSorts 9 = .ok (.aload_n 0, 1) := by decide +kernel
theorem dX3_spillSorts_10 : decode cX3_spillSorts 10 = .ok (.iload_n 2, 1) := by decide +kernel
theorem dX3_spillSorts_11 : decode cX3_spillSorts 11 = .ok (.invokevirtual 41, 3) := by decide +kernel
theorem dX3_spillSorts_14 : decode cX3_spillSorts 14 = .ok (.aload_n 0, 1) := by decide +kernel
theorem dX3_spillSorts_15 : decode cX3_spillSorts 15 = .ok (.iload_n 1, 1) := by decide +kernel
theorem dX3_spillSorts_16 : decode cX3_spillSorts 16 = .ok (.invokevirtual 41, 3) := by decide +kernel
theorem dX3_spillSorts_19 : decode cX3_spillSorts 19 = .ok (.invokevirtual 54, 3) := by decide +kernel
theorem dX3_spillSorts_22 : decode cX3_spillSorts 22 = .ok (.invokevirtual 45, 3) := by decide +kernel
theorem dX3_spillSorts_25 : decode cX3_spillSorts 25 = .ok (.iinc 4 1, 3) := by decide +kernel
theorem dX3_spillSorts_28 : decode cX3_spillSorts 28 = .ok (.goto (-25), 3) := by decide +kernel
theorem dX3_spillSorts_31 : decode cX3_spillSorts 31 = .ok (.return_, 1) := by decide +kernel
theorem dX3_cleanBox_0 : decode cX3_cleanBox 0 = .ok (.aload_n 0, 1) := by decide +kernel
theorem dX3_cleanBox_1 : decode cX3_cleanBox 1 = .ok (.iload_n 1, 1) := by decide +kernel
theorem dX3_cleanBox_2 : decode cX3_cleanBox 2 = .ok (.invokevirtual 41, 3) := by decide +kernel
theorem dX3_cleanBox_5 : decode cX3_cleanBox 5 = .ok (.astore_n 2, 1) := by decide +kernel
theorem dX3_cleanBox_6 : decode cX3_cleanBox 6 = .ok (.aload_n 2, 1) := by decide +kernel
theorem dX3_cleanBox_7 : decode cX3_cleanBox 7 = .ok (.invokevirtual 58, 3) := by decide +kernel
theorem dX3_cleanBox_10 : decode cX3_cleanBox 10 = .ok (.istore_n 3, 1) := by decide +kernel
theorem dX3_cleanBox_11 : decode cX3_cleanBox 11 = .ok (.iconst 0, 1) := by decide +kernel
theorem dX3_cleanBox_12 : decode cX3_cleanBox 12 = .ok (.istore 4, 2) := by decide +kernel
theorem dX3_cleanBox_14 : decode cX3_cleanBox 14 = .ok (.iconst 0, 1) := by decide +kernel
theorem dX3_cleanBox_15 : decode cX3_cleanBox 15 = .ok (.istore 5, 2) := by decide +kernel
theorem dX3_cleanBox_17 : decode cX3_cleanBox 17 = .ok (.iload 5, 2) := by decide +kernel
theorem dX3_cleanBox_19 : decode cX3_cleanBox 19 = .ok (.iload_n 3, 1) := by decide +kernel
theorem dX3_cleanBox_20 : decode cX3_cleanBox 20 = .ok (.if_icmp .ge 35, 3) := by decide +kernel
theorem dX3_cleanBox_23 : decode cX3_cleanBox 23 = .ok (.aload_n 2, 1) := by decide +kernel
theorem dX3_cleanBox_24 : decode cX3_cleanBox 24 = .ok (.iload 4, 2) := by decide +kernel
theorem dX3_cleanBox_26 : decode cX3_cleanBox 26 = .ok (.invokevirtual 61, 3) := by decide +kernel
theorem dX3_cleanBox_29 : decode cX3_cleanBox 29 = .ok (.iload_n 1, 1) := by decide +kernel
theorem dX3_cleanBox_30 : decode cX3_cleanBox 30 = .ok (.if_icmp .ne 9, 3) := by decide +kernel
theorem dX3_cleanBox_33 : decode cX3_cleanBox 33 = .ok (.iinc 4 1, 3) := by decide +kernel
theorem dX3_cleanBox_36 : decode cX3_cleanBox 36 = .ok (.goto 13, 3) := by decide +kernel
theorem dX3_cleanBox_39 : decode cX3_cleanBox 39 = .ok (.aload_n 0, 1) := by decide +kernel
theorem dX3_cleanBox_40 : decode cX3_cleanBox 40 = .ok (.aload_n 2, 1) := by decide +kernel
theorem dX3_cleanBox_41 : decode cX3_cleanBox 41 = .ok (.iload 4, 2) := by decide +kernel
theorem dX3_cleanBox_43 : decode cX3_cleanBox 43 = .ok (.invokevirtual 65, 3) := by decide +kernel
theorem dX3_cleanBox_46 : decode cX3_cleanBox 46 = .ok (.invokevirtual 48, 3) := by decide +kernel
theorem dX3_cleanBox_49 : decode cX3_cleanBox 49 = .ok (.iinc 5 1, 3) := by decide +kernel
theorem dX3_cleanBox_52 : decode cX3_cleanBox 52 = .ok (.goto (-35), 3) := by decide +kernel
theorem dX3_cleanBox_55 : decode cX3_cleanBox 55 = .ok (.aload_n 0, 1) := by decide +kernel
theorem dX3_cleanBox_56 : decode cX3_cleanBox 56 = .ok (.dup, 1) := by decide +kernel
theorem dX3_cleanBox_57 : decode cX3_cleanBox 57 = .ok (.getfield 68, 3) := by decide +kernel
theorem dX3_cleanBox_60 : decode cX3_cleanBox 60 = .ok (.iconst 2, 1) := by decide +kernel
theorem dX3_cleanBox_61 : decode cX3_cleanBox 61 = .ok (.iload_n 3, 1) := by decide +kernel
theorem dX3_cleanBox_62 : decode cX3_cleanBox 62 = .ok (.iload 4, 2) := by decide +kernel
theorem dX3_cleanBox_64 : decode cX3_cleanBox 64 = .ok (.isub, 1) := by decide +kernel
theorem dX3_cleanBox_65 : decode cX3_cleanBox 65 = .ok (.imul, 1) := by decide +kernel
theorem dX3_cleanBox_66 : decode cX3_cleanBox 66 = .ok (.iadd, 1) := by decide +kernel
theorem dX3_cleanBox_67 : decode cX3_cleanBox 67 = .ok (.putfield 68, 3) := by decide +kernel
theorem dX3_cleanBox_70 : decode cX3_cleanBox 70 = .ok (.iload_n 3, 1) := by decide +kernel
theorem dX3_cleanBox_71 : decode cX3_cleanBox 71 = .ok (.iload 4, 2) := by decide +kernel
theorem dX3_cleanBox_73 : decode cX3_cleanBox 73 = .ok (.isub, 1) := by decide +kernel
theorem dX3_cleanBox_74 : decode cX3_cleanBox 74 = .ok (.ireturn, 1) := by decide +kernel
theorem dX3_setText_0 : decode cX3_setText 0 = .ok (.iconst 0, 1) := by decide +kernel
theorem dX3_setText_1 : decode cX3_setText 1 = .ok (.istore_n 3, 1) := by decide +kernel
theorem dX3_setText_2 : decode cX3_setText 2 = .ok (.iload_n 3, 1) := by decide +kernel
theorem dX3_setText_3 : decode cX3_setText 3 = .ok (.aload_n 1, 1) := by decide +kernel
theorem dX3_setText_4 : decode cX3_setText 4 = .ok (.invokevirtual 58, 3) := by decide +kernel
theorem dX3_setText_7 : decode cX3_setText 7 = .ok (.if_icmp .ge 80, 3) := by decide +kernel
theorem dX3_setText_10 : decode cX3_setText 10 = .ok (.aload_n 1, 1) := by decide +kernel
theorem dX3_setText_11 : decode cX3_setText 11 = .ok (.iload_n 3, 1) := by decide +kernel
theorem dX3_setText_12 : decode cX3_setText 12 = .ok (.invokevirtual 61, 3) := by decide +kernel
theorem dX3_setText_15 : decode cX3_setText 15 = .ok (.istore 4, 2) := by decide +kernel
theorem dX3_setText_17 : decode cX3_setText 17 = .ok (.aload_n 0, 1) := by decide +kernel
theorem dX3_setText_18 : decode cX3_setText 18 = .ok (.iload 4, 2) := by decide +kernel
theorem dX3_setText_20 : decode cX3_setText 20 = .ok (.invokevirtual 41, 3) := by decide +kernel
theorem dX3_setText_23 : decode cX3_setText 23 = .ok (.invokevirtual 58, 3) := by decide +kernel
theorem dX3_setText_26 : decode cX3_setText 26 = .ok (.ifCond .ne 7, 3) := by decide +kernel
theorem dX3_setText_29 : decode cX3_setText 29 = .ok (.iconst 1, 1) := by decide +kernel
theorem dX3_setText_30 : decode cX3_setText 30 = .ok (.goto 4, 3) := by decide +kernel
theorem dX3_setText_33 : decode cX3_setText 33 = .ok (.iconst 0, 1) := by decide +kernel
theorem dX3_setText_34 : decode cX3_setText 34 = .ok (.istore 5, 2) := by decide +kernel
theorem dX3_setText_36 : decode cX3_setText 36 = .ok (.iload 5, 2) := by decide +kernel
theorem dX3_setText_38 : decode cX3_setText 38 = .ok (.ifCond .eq 12, 3) := by decide +kernel
theorem dX3_setText_41 : decode cX3_setText 41 = .ok (.aload_n 0, 1) := by decide +kernel
theorem dX3_setText_42 : decode cX3_setText 42 = .ok (.iload 4, 2) := by decide +kernel
theorem dX3_setText_44 : decode cX3_setText 44 = .ok (.invokevirtual 71, 3) := by decide +kernel
theorem dX3_setText_47 : decode cX3_setText 47 = .ok (.goto 9, 3) := by decide +kernel
theorem dX3_setText_50 : decode cX3_setText 50 = .ok (.aload_n 0, 1) := by decide +kernel
theorem dX3_setText_51 : decode cX3_setText 51 = .ok (.iload 4, 2) := by decide +kernel
theorem dX3_setText_53 : decode cX3_setText 53 = .ok (.invokevirtual 41, 3) := by decide +kernel
theorem dX3_setText_56 : decode cX3_setText 56 = .ok (.astore 6, 2) := by decide +kernel
theorem dX3_setText_58 : decode cX3_setText 58 = .ok (.aload 6, 2) := by decide +kernel
theorem dX3_setText_60 : decode cX3_setText 60 = .ok (.invokevirtual 58, 3) := by decide +kernel
theorem dX3_setText_63 : decode cX3_setText 63 = .ok (.ifCond .ne 5, 3) := by decide +kernel
theorem dX3_setText_66 : decode cX3_setText 66 = .ok (.iconst 0, 1) := by decide +kernel
theorem dX3_setText_67 : decode cX3_setText 67 = .ok (.ireturn, 1) := by decide +kernel
theorem dX3_setText_68 : decode cX3_setText 68 = .ok (.aload_n 2, 1) := by decide +kernel
theorem dX3_setText_69 : decode cX3_setText 69 = .ok (.iload 4, 2) := by decide +kernel
theorem dX3_setText_71 : decode cX3_setText 71 = .ok (.aload 6, 2) := by decide +kernel
theorem dX3_setText_73 : decode cX3_setText 73 = .ok (.invokevirtual 54, 3) := by decide +kernel
theorem dX3_setText_76 : decode cX3_setText 76 = .ok (.iload 5, 2) := by decide +kernel
theorem dX3_setText_78 : decode cX3_setText 78 = .ok (.invokevirtual 74, 3) := by decide +kernel
theorem dX3_setText_81 : decode cX3_setText 81 = .ok (.iinc 3 1, 3) := by decide +kernel
theorem dX3_setText_84 : decode cX3_setText 84 = .ok (.goto (-82), 3) := by decide +kernel
theorem dX3_setText_87 : decode cX3_setText 87 = .ok (.aload_n 2, 1) := by decide +kernel
theorem dX3_setText_88 : decode cX3_setText 88 = .ok (.invokevirtual 78, 3) := by decide +kernel
theorem dX3_setText_91 : decode cX3_setText 91 = .ok (.aload_n 0, 1) := by decide +kernel
theorem dX3_setText_92 : decode cX3_setText 92 = .ok (.dup, 1) := by decide +kernel
theorem dX3_setText_93 : decode cX3_setText 93 = .ok (.getfield 68, 3) := by decide +kernel
theorem dX3_setText_96 : decode cX3_setText 96 = .ok (.aload_n 1, 1) := by decide +kernel
theorem dX3_setText_97 : decode cX3_setText 97 = .ok (.invokevirtual 58, 3) := by decide +kernel
theorem dX3_setText_100 : decode cX3_setText 100 = .ok (.iadd, 1) := by decide +kernel
theorem dX3_setText_101 : decode cX3_setText 101 = .ok (.putfield 68, 3) := by decide +kernel
theorem dX3_setText_104 : decode cX3_setText 104 = .ok (.iconst 1, 1) := by decide +kernel
theorem dX3_setText_105 : decode cX3_setText 105 = .ok (.ireturn, 1) := by decide +kernel
theorem dX3_lenderFor_0 : decode cX3_lenderFor 0 = .ok (.aload_n 0, 1) := by decide +kernel
theorem dX3_lenderFor_1 : decode cX3_lenderFor 1 = .ok (.iload_n 1, 1) := by decide +kernel
theorem dX3_lenderFor_2 : decode cX3_lenderFor 2 = .ok (.invokevirtual 41, 3) := by decide +kernel
theorem dX3_lenderFor_5 : decode cX3_lenderFor 5 = .ok (.astore_n 2, 1) := by decide +kernel
theorem dX3_lenderFor_6 : decode cX3_lenderFor 6 = .ok (.iconst 0, 1) := by decide +kernel
theorem dX3_lenderFor_7 : decode cX3_lenderFor 7 = .ok (.istore_n 3, 1) := by decide +kernel
theorem dX3_lenderFor_8 : decode cX3_lenderFor 8 = .ok (.iload_n 3, 1) := by decide +kernel
theorem dX3_lenderFor_9 : decode cX3_lenderFor 9 = .ok (.bipush 27, 2) := by decide +kernel
theorem dX3_lenderFor_11 : decode cX3_lenderFor 11 = .ok (.if_icmp .ge 41, 3) := by decide +kernel
theorem dX3_lenderFor_14 : decode cX3_lenderFor 14 = .ok (.iload_n 3, 1) := by decide +kernel
theorem dX3_lenderFor_15 : decode cX3_lenderFor 15 = .ok (.invokestatic 81, 3) := by decide +kernel
theorem dX3_lenderFor_18 : decode cX3_lenderFor 18 = .ok (.iload_n 1, 1) := by decide +kernel
theorem dX3_lenderFor_19 : decode cX3_lenderFor 19 = .ok (.invokestatic 81, 3) := by decide +kernel
theorem dX3_lenderFor_22 : decode cX3_lenderFor 22 = .ok (.if_icmp .ne 24, 3) := by decide +kernel
theorem dX3_lenderFor_25 : decode cX3_lenderFor 25 = .ok (.aload_n 0, 1) := by decide +kernel
theorem dX3_lenderFor_26 : decode cX3_lenderFor 26 = .ok (.iload_n 3, 1) := by decide +kernel
theorem dX3_lenderFor_27 : decode cX3_lenderFor 27 = .ok (.invokevirtual 41, 3) := by decide +kernel
theorem dX3_lenderFor_30 : decode cX3_lenderFor 30 = .ok (.invokevirtual 58, 3) := by decide +kernel
theorem dX3_lenderFor_33 : decode cX3_lenderFor 33 = .ok (.aload_n 2, 1) := by decide +kernel
theorem dX3_lenderFor_34 : decode cX3_lenderFor 34 = .ok (.invokevirtual 58, 3) := by decide +kernel
theorem dX3_lenderFor_37 : decode cX3_lenderFor 37 = .ok (.if_icmp .le 9, 3) := by decide +kernel
theorem dX3_lenderFor_40 : decode cX3_lenderFor 40 = .ok (.aload_n 0, 1) := by decide +kernel
theorem dX3_lenderFor_41 : decode cX3_lenderFor 41 = .ok (.iload_n 3, 1) := by decide +kernel
theorem dX3_lenderFor_42 : decode cX3_lenderFor 42 = .ok (.invokevirtual 41, 3) := by decide +kernel
theorem dX3_lenderFor_45 : decode cX3_lenderFor 45 = .ok (.astore_n 2, 1) := by decide +kernel
theorem dX3_lenderFor_46 : decode cX3_lenderFor 46 = .ok (.iinc 3 1, 3) := by decide +kernel
theorem dX3_lenderFor_49 : decode cX3_lenderFor 49 = .ok (.goto (-41), 3) := by decide +kernel
theorem dX3_lenderFor_52 : decode cX3_lenderFor 52 = .ok (.aload_n 2, 1) := by decide +kernel
theorem dX3_lenderFor_53 : decode cX3_lenderFor 53 = .ok (.areturn, 1) := by decide +kernel
theorem dX3_correctForme_0 : decode cX3_correctForme 0 = .ok (.iconst 0, 1) := by decide +kernel
theorem dX3_correctForme_1 : decode cX3_correctForme 1 = .ok (.istore_n 2, 1) := by decide +kernel
theorem dX3_correctForme_2 : decode cX3_correctForme 2 = .ok (.iconst 0, 1) := by decide +kernel
theorem dX3_correctForme_3 : decode cX3_correctForme 3 = .ok (.istore_n 3, 1) := by decide +kernel
theorem dX3_correctForme_4 : decode cX3_correctForme 4 = .ok (.iload_n 3, 1) := by decide +kernel
theorem dX3_correctForme_5 : decode cX3_correctForme 5 = .ok (.aload_n 1, 1) := by decide +kernel
theorem dX3_correctForme_6 : decode cX3_correctForme 6 = .ok (.invokevirtual 84, 3) := by decide +kernel
theorem dX3_correctForme_9 : decode cX3_correctForme 9 = .ok (.if_icmp .ge 29, 3) := by decide +kernel
theorem dX3_correctForme_12 : decode cX3_correctForme 12 = .ok (.aload_n 1, 1) := by decide +kernel
theorem dX3_correctForme_13 : decode cX3_correctForme 13 = .ok (.iload_n 3, 1) := by decide +kernel
theorem dX3_correctForme_14 : decode cX3_correctForme 14 = .ok (.invokevirtual 85, 3) := by decide +kernel
theorem dX3_correctForme_17 : decode cX3_correctForme 17 = .ok (.ifCond .eq 15, 3) := by decide +kernel
theorem dX3_correctForme_20 : decode cX3_correctForme 20 = .ok (.aload_n 0, 1) := by decide +kernel
theorem dX3_correctForme_21 : decode cX3_correctForme 21 = .ok (.aload_n 1, 1) := by decide +kernel
theorem dX3_correctForme_22 : decode cX3_correctForme 22 = .ok (.iload_n 3, 1) := by decide +kernel
theorem dX3_correctForme_23 : decode cX3_correctForme 23 = .ok (.invokevirtual 89, 3) := by decide +kernel
theorem dX3_correctForme_26 : decode cX3_correctForme 26 = .ok (.ifCond .eq 6, 3) := by decide +kernel
theorem dX3_correctForme_29 : decode cX3_correctForme 29 = .ok (.iinc 2 1, 3) := by decide +kernel
theorem dX3_correctForme_32 : decode cX3_correctForme 32 = .ok (.iinc 3 1, 3) := by decide +kernel
theorem dX3_correctForme_35 : decode cX3_correctForme 35 = .ok (.goto (-31), 3) := by decide +kernel
theorem dX3_correctForme_38 : decode cX3_correctForme 38 = .ok (.aload_n 0, 1) := by decide +kernel
theorem dX3_correctForme_39 : decode cX3_correctForme 39 = .ok (.dup, 1) := by decide +kernel
theorem dX3_correctForme_40 : decode cX3_correctForme 40 = .ok (.getfield 68, 3) := by decide +kernel
theorem dX3_correctForme_43 : decode cX3_correctForme 43 = .ok (.iconst 3, 1) := by decide +kernel
theorem dX3_correctForme_44 : decode cX3_correctForme 44 = .ok (.iload_n 2, 1) := by decide +kernel
theorem dX3_correctForme_45 : decode cX3_correctForme 45 = .ok (.imul, 1) := by decide +kernel
theorem dX3_correctForme_46 : decode cX3_correctForme 46 = .ok (.iadd, 1) := by decide +kernel
theorem dX3_correctForme_47 : decode cX3_correctForme 47 = .ok (.putfield 68, 3) := by decide +kernel
theorem dX3_correctForme_50 : decode cX3_correctForme 50 = .ok (.iload_n 2, 1) := by decide +kernel
theorem dX3_correctForme_51 : decode cX3_correctForme 51 = .ok (.ireturn, 1) := by decide +kernel
theorem dX3_correctPlace_0 : decode cX3_correctPlace 0 = .ok (.aload_n 1, 1) := by decide +kernel
theorem dX3_correctPlace_1 : decode cX3_correctPlace 1 = .ok (.iload_n 2, 1) := by decide +kernel
theorem dX3_correctPlace_2 : decode cX3_correctPlace 2 = .ok (.invokevirtual 93, 3) := by decide +kernel
theorem dX3_correctPlace_5 : decode cX3_correctPlace 5 = .ok (.istore_n 3, 1) := by decide +kernel
theorem dX3_correctPlace_6 : decode cX3_correctPlace 6 = .ok (.aload_n 1, 1) := by decide +kernel
theorem dX3_correctPlace_7 : decode cX3_correctPlace 7 = .ok (.iload_n 2, 1) := by decide +kernel
theorem dX3_correctPlace_8 : decode cX3_correctPlace 8 = .ok (.invokevirtual 96, 3) := by decide +kernel
theorem dX3_correctPlace_11 : decode cX3_correctPlace 11 = .ok (.istore 4, 2) := by decide +kernel
theorem dX3_correctPlace_13 : decode cX3_correctPlace 13 = .ok (.aload_n 0, 1) := by decide +kernel
theorem dX3_correctPlace_14 : decode cX3_correctPlace 14 = .ok (.iload_n 3, 1) := by decide +kernel
theorem dX3_correctPlace_15 : decode cX3_correctPlace 15 = .ok (.invokevirtual 41, 3) := by decide +kernel
theorem dX3_correctPlace_18 : decode cX3_correctPlace 18 = .ok (.astore 5, 2) := by decide +kernel
theorem dX3_correctPlace_20 : decode cX3_correctPlace 20 = .ok (.aload 5, 2) := by decide +kernel
theorem dX3_correctPlace_22 : decode cX3_correctPlace 22 = .ok (.iload_n 3, 1) := by decide +kernel
theorem dX3_correctPlace_23 : decode cX3_correctPlace 23 = .ok (.invokevirtual 99, 3) := by decide +kernel
theorem dX3_correctPlace_26 : decode cX3_correctPlace 26 = .ok (.istore 6, 2) := by decide +kernel
theorem dX3_correctPlace_28 : decode cX3_correctPlace 28 = .ok (.iload 6, 2) := by decide +kernel
theorem dX3_correctPlace_30 : decode cX3_correctPlace 30 = .ok (.iconst (-1), 1) := by decide +kernel
theorem dX3_correctPlace_31 : decode cX3_correctPlace 31 = .ok (.if_icmp .ne 5, 3) := by decide +kernel
theorem dX3_correctPlace_34 : decode cX3_correctPlace 34 = .ok (.iconst 0, 1) := by decide +kernel
theorem dX3_correctPlace_35 : decode cX3_correctPlace 35 = .ok (.ireturn, 1) := by decide +kernel
theorem dX3_correctPlace_36 : decode cX3_correctPlace 36 = .ok (.aload 5, 2) := by decide +kernel
theorem dX3_correctPlace_38 : decode cX3_correctPlace 38 = .ok (.iload 6, 2) := by decide +kernel
theorem dX3_correctPlace_40 : decode cX3_correctPlace 40 = .ok (.invokevirtual 65, 3) := by decide +kernel
theorem dX3_correctPlace_43 : decode cX3_correctPlace 43 = .ok (.pop, 1) := by decide +kernel
theorem dX3_correctPlace_44 : decode cX3_correctPlace 44 = .ok (.aload_n 1, 1) := by decide +kernel
theorem dX3_correctPlace_45 : decode cX3_correctPlace 45 = .ok (.iload_n 2, 1) := by decide +kernel
theorem dX3_correctPlace_46 : decode cX3_correctPlace 46 = .ok (.invokevirtual 102, 3) := by decide +kernel
theorem dX3_correctPlace_49 : decode cX3_correctPlace 49 = .ok (.aload_n 0, 1) := by decide +kernel
theorem dX3_correctPlace_50 : decode cX3_correctPlace 50 = .ok (.iload 4, 2) := by decide +kernel
theorem dX3_correctPlace_52 : decode cX3_correctPlace 52 = .ok (.invokevirtual 48, 3) := by decide +kernel
theorem dX3_correctPlace_55 : decode cX3_correctPlace 55 = .ok (.iconst 1, 1) := by decide +kernel
theorem dX3_correctPlace_56 : decode cX3_correctPlace 56 = .ok (.ireturn, 1) := by decide +kernel
theorem dX3_distributeForme_0 : decode cX3_distributeForme 0 = .ok (.aload_n 1, 1) := by decide +kernel
theorem dX3_distributeForme_1 : decode cX3_distributeForme 1 = .ok (.invokevirtual 84, 3) := by decide +kernel
theorem dX3_distributeForme_4 : decode cX3_distributeForme 4 = .ok (.istore_n 2, 1) := by decide +kernel
theorem dX3_distributeForme_5 : decode cX3_distributeForme 5 = .ok (.iconst 0, 1) := by decide +kernel
theorem dX3_distributeForme_6 : decode cX3_distributeForme 6 = .ok (.istore_n 3, 1) := by decide +kernel
theorem dX3_distributeForme_7 : decode cX3_distributeForme 7 = .ok (.iload_n 3, 1) := by decide +kernel
theorem dX3_distributeForme_8 : decode cX3_distributeForme 8 = .ok (.iload_n 2, 1) := by decide +kernel
theorem dX3_distributeForme_9 : decode cX3_distributeForme 9 = .ok (.if_icmp .ge 55, 3) := by decide +kernel
theorem dX3_distributeForme_12 : decode cX3_distributeForme 12 = .ok (.aload_n 1, 1) := by decide +kernel
theorem dX3_distributeForme_13 : decode cX3_distributeForme 13 = .ok (.iload_n 3, 1) := by decide +kernel
theorem dX3_distributeForme_14 : decode cX3_distributeForme 14 = .ok (.invokevirtual 96, 3) := by decide +kernel
theorem dX3_distributeForme_17 : decode cX3_distributeForme 17 = .ok (.istore 4, 2) := by decide +kernel
theorem dX3_distributeForme_19 : decode cX3_distributeForme 19 = .ok (.aload_n 0, 1) := by decide +kernel
theorem dX3_distributeForme_20 : decode cX3_distributeForme 20 = .ok (.dup, 1) := by decide +kernel
theorem dX3_distributeForme_21 : decode cX3_distributeForme 21 = .ok (.getfield 105, 3) := by decide +kernel
theorem dX3_distributeForme_24 : decode cX3_distributeForme 24 = .ok (.iconst 1, 1) := by decide +kernel
theorem dX3_distributeForme_25 : decode cX3_distributeForme 25 = .ok (.iadd, 1) := by decide +kernel
theorem dX3_distributeForme_26 : decode cX3_distributeForme 26 = .ok (.putfield 105, 3) := by decide +kernel
theorem dX3_distributeForme_29 : decode cX3_distributeForme 29 = .ok (.aload_n 0, 1) := by decide +kernel
theorem dX3_distributeForme_30 : decode cX3_distributeForme 30 = .ok (.aload_n 0, 1) := by decide +kernel
theorem dX3_distributeForme_31 : decode cX3_distributeForme 31 = .ok (.aload_n 0, 1) := by decide +kernel
theorem dX3_distributeForme_32 : decode cX3_distributeForme 32 = .ok (.getfield 105, 3) := by decide +kernel
theorem dX3_distributeForme_35 : decode cX3_distributeForme 35 = .ok (.invokevirtual 108, 3) := by decide +kernel
theorem dX3_distributeForme_38 : decode cX3_distributeForme 38 = .ok (.ifCond .eq 10, 3) := by decide +kernel
theorem dX3_distributeForme_41 : decode cX3_distributeForme 41 = .ok (.iload 4, 2) := by decide +kernel
theorem dX3_distributeForme_43 : decode cX3_distributeForme 43 = .ok (.iconst 1, 1) := by decide +kernel
theorem dX3_distributeForme_44 : decode cX3_distributeForme 44 = .ok (.iadd, 1) := by decide +kernel
theorem dX3_distributeForme_45 : decode cX3_distributeForme 45 = .ok (.goto 5, 3) := by decide +kernel
theorem dX3_distributeForme_48 : decode cX3_distributeForme 48 = .ok (.iload 4, 2) := by decide +kernel
theorem dX3_distributeForme_50 : decode cX3_distributeForme 50 = .ok (.invokevirtual 41, 3) := by decide +kernel
theorem dX3_distributeForme_53 : decode cX3_distributeForme 53 = .ok (.iload 4, 2) := by decide +kernel
theorem dX3_distributeForme_55 : decode cX3_distributeForme 55 = .ok (.invokevirtual 45, 3) := by decide +kernel
theorem dX3_distributeForme_58 : decode cX3_distributeForme 58 = .ok (.iinc 3 1, 3) := by decide +kernel
theorem dX3_distributeForme_61 : decode cX3_distributeForme 61 = .ok (.goto (-54), 3) := by decide +kernel
theorem dX3_distributeForme_64 : decode cX3_distributeForme 64 = .ok (.aload_n 0, 1) := by decide +kernel
theorem dX3_distributeForme_65 : decode cX3_distributeForme 65 = .ok (.dup, 1) := by decide +kernel
theorem dX3_distributeForme_66 : decode cX3_distributeForme 66 = .ok (.getfield 68, 3) := by decide +kernel
theorem dX3_distributeForme_69 : decode cX3_distributeForme 69 = .ok (.iload_n 2, 1) := by decide +kernel
theorem dX3_distributeForme_70 : decode cX3_distributeForme 70 = .ok (.iadd, 1) := by decide +kernel
theorem dX3_distributeForme_71 : decode cX3_distributeForme 71 = .ok (.putfield 68, 3) := by decide +kernel
theorem dX3_distributeForme_74 : decode cX3_distributeForme 74 = .ok (.aload_n 1, 1) := by decide +kernel
theorem dX3_distributeForme_75 : decode cX3_distributeForme 75 = .ok (.invokevirtual 111, 3) := by decide +kernel
theorem dX3_distributeForme_78 : decode cX3_distributeForme 78 = .ok (.iload_n 2, 1) := by decide +kernel
theorem dX3_distributeForme_79 : decode cX3_distributeForme 79 = .ok (.ireturn, 1) := by decide +kernel
theorem dX3_slips_0 : decode cX3_slips 0 = .ok (.aload_n 0, 1) := by decide +kernel
theorem dX3_slips_1 : decode cX3_slips 1 = .ok (.getfield 114, 3) := by decide +kernel
theorem dX3_slips_4 : decode cX3_slips 4 = .ok (.ifCond .le 16, 3) := by decide +kernel
theorem dX3_slips_7 : decode cX3_slips 7 = .ok (.iload_n 1, 1) := by decide +kernel
theorem dX3_slips_8 : decode cX3_slips 8 = .ok (.aload_n 0, 1) := by decide +kernel
theorem dX3_slips_9 : decode cX3_slips 9 = .ok (.getfield 114, 3) := by decide +kernel
theorem dX3_slips_12 : decode cX3_slips 12 = .ok (.irem, 1) := by decide +kernel
theorem dX3_slips_13 : decode cX3_slips 13 = .ok (.ifCond .ne 7, 3) := by decide +kernel
theorem dX3_slips_16 : decode cX3_slips 16 = .ok (.iconst 1, 1) := by decide +kernel
theorem dX3_slips_17 : decode cX3_slips 17 = .ok (.goto 4, 3) := by decide +kernel
theorem dX3_slips_20 : decode cX3_slips 20 = .ok (.iconst 0, 1) := by decide +kernel
theorem dX3_slips_21 : decode cX3_slips 21 = .ok (.ireturn, 1) := by decide +kernel
theorem dX3_pieForme_0 : decode cX3_pieForme 0 = .ok (.iconst 0, 1) := by decide +kernel
theorem dX3_pieForme_1 : decode cX3_pieForme 1 = .ok (.istore_n 2, 1) := by decide +kernel
theorem dX3_pieForme_2 : decode cX3_pieForme 2 = .ok (.iload_n 2, 1) := by decide +kernel
theorem dX3_pieForme_3 : decode cX3_pieForme 3 = .ok (.aload_n 1, 1) := by decide +kernel
theorem dX3_pieForme_4 : decode cX3_pieForme 4 = .ok (.invokevirtual 84, 3) := by decide +kernel
theorem dX3_pieForme_7 : decode cX3_pieForme 7 = .ok (.if_icmp .ge 21, 3) := by decide +kernel
theorem dX3_pieForme_10 : decode cX3_pieForme 10 = .ok (.aload_n 0, 1) := by decide +kernel
theorem dX3_pieForme_11 : decode cX3_pieForme 11 = .ok (.getfield 26, 3) := by decide +kernel
theorem dX3_pieForme_14 : decode cX3_pieForme 14 = .ok (.aload_n 1, 1) := by decide +kernel
theorem dX3_pieForme_15 : decode cX3_pieForme 15 = .ok (.iload_n 2, 1) := by decide +kernel
theorem dX3_pieForme_16 : decode cX3_pieForme 16 = .ok (.invokevirtual 96, 3) := by decide +kernel
theorem dX3_pieForme_19 : decode cX3_pieForme 19 = .ok (.invokevirtual 45, 3) := by decide +kernel
theorem dX3_pieForme_22 : decode cX3_pieForme 22 = .ok (.iinc 2 1, 3) := by decide +kernel
theorem dX3_pieForme_25 : decode cX3_pieForme 25 = .ok (.goto (-23), 3) := by decide +kernel
theorem dX3_pieForme_28 : decode cX3_pieForme 28 = .ok (.aload_n 1, 1) := by decide +kernel
theorem dX3_pieForme_29 : decode cX3_pieForme 29 = .ok (.invokevirtual 111, 3) := by decide +kernel
theorem dX3_pieForme_32 : decode cX3_pieForme 32 = .ok (.return_, 1) := by decide +kernel
theorem dX3_sortFromHeap_0 : decode cX3_sortFromHeap 0 = .ok (.iload_n 1, 1) := by decide +kernel
theorem dX3_sortFromHeap_1 : decode cX3_sortFromHeap 1 = .ok (.aload_n 0, 1) := by decide +kernel
theorem dX3_sortFromHeap_2 : decode cX3_sortFromHeap 2 = .ok (.getfield 26, 3) := by decide +kernel
theorem dX3_sortFromHeap_5 : decode cX3_sortFromHeap 5 = .ok (.invokevirtual 58, 3) := by decide +kernel
theorem dX3_sortFromHeap_8 : decode cX3_sortFromHeap 8 = .ok (.invokestatic 117, 3) := by decide +kernel
theorem dX3_sortFromHeap_11 : decode cX3_sortFromHeap 11 = .ok (.istore_n 2, 1) := by decide +kernel
theorem dX3_sortFromHeap_12 : decode cX3_sortFromHeap 12 = .ok (.iconst 0, 1) := by decide +kernel
theorem dX3_sortFromHeap_13 : decode cX3_sortFromHeap 13 = .ok (.istore_n 3, 1) := by decide +kernel
theorem dX3_sortFromHeap_14 : decode cX3_sortFromHeap 14 = .ok (.iload_n 3, 1) := by decide +kernel
theorem dX3_sortFromHeap_15 : decode cX3_sortFromHeap 15 = .ok (.iload_n 2, 1) := by decide +kernel
theorem dX3_sortFromHeap_16 : decode cX3_sortFromHeap 16 = .ok (.if_icmp .ge 21, 3) := by decide +kernel
theorem dX3_sortFromHeap_19 : decode cX3_sortFromHeap 19 = .ok (.aload_n 0, 1) := by decide +kernel
theorem dX3_sortFromHeap_20 : decode cX3_sortFromHeap 20 = .ok (.aload_n 0, 1) := by decide +kernel
theorem dX3_sortFromHeap_21 : decode cX3_sortFromHeap 21 = .ok (.getfield 26, 3) := by decide +kernel
theorem dX3_sortFromHeap_24 : decode cX3_sortFromHeap 24 = .ok (.iload_n 3, 1) := by decide +kernel
theorem dX3_sortFromHeap_25 : decode cX3_sortFromHeap 25 = .ok (.invokevirtual 61, 3) := by decide +kernel
theorem dX3_sortFromHeap_28 : decode cX3_sortFromHeap 28 = .ok (.invokevirtual 48, 3) := by decide +kernel
theorem dX3_sortFromHeap_31 : decode cX3_sortFromHeap 31 = .ok (.iinc 3 1, 3) := by decide +kernel
theorem dX3_sortFromHeap_34 : decode cX3_sortFromHeap 34 = .ok (.goto (-20), 3) := by decide +kernel
theorem dX3_sortFromHeap_37 : decode cX3_sortFromHeap 37 = .ok (.aload_n 0, 1) := by decide +kernel
theorem dX3_sortFromHeap_38 : decode cX3_sortFromHeap 38 = .ok (.getfield 26, 3) := by decide +kernel
theorem dX3_sortFromHeap_41 : decode cX3_sortFromHeap 41 = .ok (.iload_n 2, 1) := by decide +kernel
theorem dX3_sortFromHeap_42 : decode cX3_sortFromHeap 42 = .ok (.invokevirtual 120, 3) := by decide +kernel
theorem dX3_sortFromHeap_45 : decode cX3_sortFromHeap 45 = .ok (.aload_n 0, 1) := by decide +kernel
theorem dX3_sortFromHeap_46 : decode cX3_sortFromHeap 46 = .ok (.dup, 1) := by decide +kernel
theorem dX3_sortFromHeap_47 : decode cX3_sortFromHeap 47 = .ok (.getfield 68, 3) := by decide +kernel
theorem dX3_sortFromHeap_50 : decode cX3_sortFromHeap 50 = .ok (.iload_n 2, 1) := by decide +kernel
theorem dX3_sortFromHeap_51 : decode cX3_sortFromHeap 51 = .ok (.iadd, 1) := by decide +kernel
theorem dX3_sortFromHeap_52 : decode cX3_sortFromHeap 52 = .ok (.putfield 68, 3) := by decide +kernel
theorem dX3_sortFromHeap_55 : decode cX3_sortFromHeap 55 = .ok (.iload_n 2, 1) := by decide +kernel
theorem dX3_sortFromHeap_56 : decode cX3_sortFromHeap 56 = .ok (.ireturn, 1) := by decide +kernel
theorem dX3_number_0 : decode cX3_number 0 = .ok (.iload_n 1, 1) := by decide +kernel
theorem dX3_number_1 : decode cX3_number 1 = .ok (.tableswitch 117 0 10 #[59, 64, 69, 77, 82, 87, 92, 97, 102, 107, 112], 59) := by decide +kernel
theorem dX3_number_60 : decode cX3_number 60 = .ok (.aload_n 0, 1) := by decide +kernel
theorem dX3_number_61 : decode cX3_number 61 = .ok (.invokevirtual 123, 3) := by decide +kernel
theorem dX3_number_64 : decode cX3_number 64 = .ok (.ireturn, 1) := by decide +kernel
theorem dX3_number_65 : decode cX3_number 65 = .ok (.aload_n 0, 1) := by decide +kernel
theorem dX3_number_66 : decode cX3_number 66 = .ok (.invokevirtual 126, 3) := by decide +kernel
theorem dX3_number_69 : decode cX3_number 69 = .ok (.ireturn, 1) := by decide +kernel
theorem dX3_number_70 : decode cX3_number 70 = .ok (.aload_n 0, 1) := by decide +kernel
theorem dX3_number_71 : decode cX3_number 71 = .ok (.getfield 26, 3) := by decide +kernel
theorem dX3_number_74 : decode cX3_number 74 = .ok (.invokevirtual 58, 3) := by decide +kernel
theorem dX3_number_77 : decode cX3_number 77 = .ok (.ireturn, 1) := by decide +kernel
theorem dX3_number_78 : decode cX3_number 78 = .ok (.aload_n 0, 1) := by decide +kernel
theorem dX3_number_79 : decode cX3_number 79 = .ok (.invokevirtual 129, 3) := by decide +kernel
theorem dX3_number_82 : decode cX3_number 82 = .ok (.ireturn, 1) := by decide +kernel
theorem dX3_number_83 : decode cX3_number 83 = .ok (.aload_n 0, 1) := by decide +kernel
theorem dX3_number_84 : decode cX3_number 84 = .ok (.getfield 114, 3) := by decide +kernel
theorem dX3_number_87 : decode cX3_number 87 = .ok (.ireturn, 1) := by decide +kernel
theorem dX3_number_88 : decode cX3_number 88 = .ok (.aload_n 0, 1) := by decide +kernel
theorem dX3_number_89 : decode cX3_number 89 = .ok (.getfield 30, 3) := by decide +kernel
theorem dX3_number_92 : decode cX3_number 92 = .ok (.ireturn, 1) := by decide +kernel
theorem dX3_number_93 : decode cX3_number 93 = .ok (.aload_n 0, 1) := by decide +kernel
theorem dX3_number_94 : decode cX3_number 94 = .ok (.getfield 51, 3) := by decide +kernel
theorem dX3_number_97 : decode cX3_number 97 = .ok (.ireturn, 1) := by decide +kernel
theorem dX3_number_98 : decode cX3_number 98 = .ok (.aload_n 0, 1) := by decide +kernel
theorem dX3_number_99 : decode cX3_number 99 = .ok (.getfield 68, 3) := by decide +kernel
theorem dX3_number_102 : decode cX3_number 102 = .ok (.ireturn, 1) := by decide +kernel
theorem dX3_number_103 : decode cX3_number 103 = .ok (.aload_n 0, 1) := by decide +kernel
theorem dX3_number_104 : decode cX3_number 104 = .ok (.getfield 105, 3) := by decide +kernel
theorem dX3_number_107 : decode cX3_number 107 = .ok (.ireturn, 1) := by decide +kernel
theorem dX3_number_108 : decode cX3_number 108 = .ok (.aload_n 0, 1) := by decide +kernel
theorem dX3_number_109 : decode cX3_number 109 = .ok (.invokevirtual 132, 3) := by decide +kernel
theorem dX3_number_112 : decode cX3_number 112 = .ok (.ireturn, 1) := by decide +kernel
theorem dX3_number_113 : decode cX3_number 113 = .ok (.aload_n 0, 1) := by decide +kernel
theorem dX3_number_114 : decode cX3_number 114 = .ok (.invokevirtual 135, 3) := by decide +kernel
theorem dX3_number_117 : decode cX3_number 117 = .ok (.ireturn, 1) := by decide +kernel
theorem dX3_number_118 : decode cX3_number 118 = .ok (.aload_n 0, 1) := by decide +kernel
theorem dX3_number_119 : decode cX3_number 119 = .ok (.invokevirtual 138, 3) := by decide +kernel
theorem dX3_number_122 : decode cX3_number 122 = .ok (.ireturn, 1) := by decide +kernel
theorem dX3_allSorts_0 : decode cX3_allSorts 0 = .ok (.aload_n 0, 1) := by decide +kernel
theorem dX3_allSorts_1 : decode cX3_allSorts 1 = .ok (.invokevirtual 123, 3) := by decide +kernel
theorem dX3_allSorts_4 : decode cX3_allSorts 4 = .ok (.aload_n 0, 1) := by decide +kernel
theorem dX3_allSorts_5 : decode cX3_allSorts 5 = .ok (.invokevirtual 126, 3) := by decide +kernel
theorem dX3_allSorts_8 : decode cX3_allSorts 8 = .ok (.iadd, 1) := by decide +kernel
theorem dX3_allSorts_9 : decode cX3_allSorts 9 = .ok (.aload_n 0, 1) := by decide +kernel
theorem dX3_allSorts_10 : decode cX3_allSorts 10 = .ok (.getfield 26, 3) := by decide +kernel
theorem dX3_allSorts_13 : decode cX3_allSorts 13 = .ok (.invokevirtual 58, 3) := by decide +kernel
theorem dX3_allSorts_16 : decode cX3_allSorts 16 = .ok (.iadd, 1) := by decide +kernel
theorem dX3_allSorts_17 : decode cX3_allSorts 17 = .ok (.ireturn, 1) := by decide +kernel
theorem dX3_sortsInBoxes_0 : decode cX3_sortsInBoxes 0 = .ok (.iconst 0, 1) := by decide +kernel
theorem dX3_sortsInBoxes_1 : decode cX3_sortsInBoxes 1 = .ok (.istore_n 1, 1) := by decide +kernel
theorem dX3_sortsInBoxes_2 : decode cX3_sortsInBoxes 2 = .ok (.aload_n 0, 1) := by decide +kernel
theorem dX3_sortsInBoxes_3 : decode cX3_sortsInBoxes 3 = .ok (.getfield 11, 3) := by decide +kernel
theorem dX3_sortsInBoxes_6 : decode cX3_sortsInBoxes 6 = .ok (.astore_n 2, 1) := by decide +kernel
theorem dX3_sortsInBoxes_7 : decode cX3_sortsInBoxes 7 = .ok (.aload_n 2, 1) := by decide +kernel
theorem dX3_sortsInBoxes_8 : decode cX3_sortsInBoxes 8 = .ok (.arraylength, 1) := by decide +kernel
theorem dX3_sortsInBoxes_9 : decode cX3_sortsInBoxes 9 = .ok (.istore_n 3, 1) := by decide +kernel
theorem dX3_sortsInBoxes_10 : decode cX3_sortsInBoxes 10 = .ok (.iconst 0, 1) := by decide +kernel
theorem dX3_sortsInBoxes_11 : decode cX3_sortsInBoxes 11 = .ok (.istore 4, 2) := by decide +kernel
theorem dX3_sortsInBoxes_13 : decode cX3_sortsInBoxes 13 = .ok (.iload 4, 2) := by decide +kernel
theorem dX3_sortsInBoxes_15 : decode cX3_sortsInBoxes 15 = .ok (.iload_n 3, 1) := by decide +kernel
theorem dX3_sortsInBoxes_16 : decode cX3_sortsInBoxes 16 = .ok (.if_icmp .ge 23, 3) := by decide +kernel
theorem dX3_sortsInBoxes_19 : decode cX3_sortsInBoxes 19 = .ok (.aload_n 2, 1) := by decide +kernel
theorem dX3_sortsInBoxes_20 : decode cX3_sortsInBoxes 20 = .ok (.iload 4, 2) := by decide +kernel
theorem dX3_sortsInBoxes_22 : decode cX3_sortsInBoxes 22 = .ok (.aaload, 1) := by decide +kernel
theorem dX3_sortsInBoxes_23 : decode cX3_sortsInBoxes 23 = .ok (.astore 5, 2) := by decide +kernel
theorem dX3_sortsInBoxes_25 : decode cX3_sortsInBoxes 25 = .ok (.iload_n 1, 1) := by decide +kernel
theorem dX3_sortsInBoxes_26 : decode cX3_sortsInBoxes 26 = .ok (.aload 5, 2) := by decide +kernel
theorem dX3_sortsInBoxes_28 : decode cX3_sortsInBoxes 28 = .ok (.invokevirtual 58, 3) := by decide +kernel
theorem dX3_sortsInBoxes_31 : decode cX3_sortsInBoxes 31 = .ok (.iadd, 1) := by decide +kernel
theorem dX3_sortsInBoxes_32 : decode cX3_sortsInBoxes 32 = .ok (.istore_n 1, 1) := by decide +kernel
theorem dX3_sortsInBoxes_33 : decode cX3_sortsInBoxes 33 = .ok (.iinc 4 1, 3) := by decide +kernel
theorem dX3_sortsInBoxes_36 : decode cX3_sortsInBoxes 36 = .ok (.goto (-23), 3) := by decide +kernel
theorem dX3_sortsInBoxes_39 : decode cX3_sortsInBoxes 39 = .ok (.iload_n 1, 1) := by decide +kernel
theorem dX3_sortsInBoxes_40 : decode cX3_sortsInBoxes 40 = .ok (.ireturn, 1) := by decide +kernel
theorem dX3_foulSorts_0 : decode cX3_foulSorts 0 = .ok (.iconst 0, 1) := by decide +kernel
theorem dX3_foulSorts_1 : decode cX3_foulSorts 1 = .ok (.istore_n 1, 1) := by decide +kernel
theorem dX3_foulSorts_2 : decode cX3_foulSorts 2 = .ok (.iconst 0, 1) := by decide +kernel
theorem dX3_foulSorts_3 : decode cX3_foulSorts 3 = .ok (.istore_n 2, 1) := by decide +kernel
theorem dX3_foulSorts_4 : decode cX3_foulSorts 4 = .ok (.iload_n 2, 1) := by decide +kernel
theorem dX3_foulSorts_5 : decode cX3_foulSorts 5 = .ok (.bipush 27, 2) := by decide +kernel
theorem dX3_foulSorts_7 : decode cX3_foulSorts 7 = .ok (.if_icmp .ge 30, 3) := by decide +kernel
theorem dX3_foulSorts_10 : decode cX3_foulSorts 10 = .ok (.iload_n 1, 1) := by decide +kernel
theorem dX3_foulSorts_11 : decode cX3_foulSorts 11 = .ok (.aload_n 0, 1) := by decide +kernel
theorem dX3_foulSorts_12 : decode cX3_foulSorts 12 = .ok (.iload_n 2, 1) := by decide +kernel
theorem dX3_foulSorts_13 : decode cX3_foulSorts 13 = .ok (.invokevirtual 41, 3) := by decide +kernel
theorem dX3_foulSorts_16 : decode cX3_foulSorts 16 = .ok (.invokevirtual 58, 3) := by decide +kernel
theorem dX3_foulSorts_19 : decode cX3_foulSorts 19 = .ok (.aload_n 0, 1) := by decide +kernel
theorem dX3_foulSorts_20 : decode cX3_foulSorts 20 = .ok (.iload_n 2, 1) := by decide +kernel
theorem dX3_foulSorts_21 : decode cX3_foulSorts 21 = .ok (.invokevirtual 41, 3) := by decide +kernel
theorem dX3_foulSorts_24 : decode cX3_foulSorts 24 = .ok (.iload_n 2, 1) := by decide +kernel
theorem dX3_foulSorts_25 : decode cX3_foulSorts 25 = .ok (.invokevirtual 141, 3) := by decide +kernel
theorem dX3_foulSorts_28 : decode cX3_foulSorts 28 = .ok (.isub, 1) := by decide +kernel
theorem dX3_foulSorts_29 : decode cX3_foulSorts 29 = .ok (.iadd, 1) := by decide +kernel
theorem dX3_foulSorts_30 : decode cX3_foulSorts 30 = .ok (.istore_n 1, 1) := by decide +kernel
theorem dX3_foulSorts_31 : decode cX3_foulSorts 31 = .ok (.iinc 2 1, 3) := by decide +kernel
theorem dX3_foulSorts_34 : decode cX3_foulSorts 34 = .ok (.goto (-30), 3) := by decide +kernel
theorem dX3_foulSorts_37 : decode cX3_foulSorts 37 = .ok (.iload_n 1, 1) := by decide +kernel
theorem dX3_foulSorts_38 : decode cX3_foulSorts 38 = .ok (.ireturn, 1) := by decide +kernel
theorem dX3_countInBoxes_0 : decode cX3_countInBoxes 0 = .ok (.iconst 0, 1) := by decide +kernel
theorem dX3_countInBoxes_1 : decode cX3_countInBoxes 1 = .ok (.istore_n 2, 1) := by decide +kernel
theorem dX3_countInBoxes_2 : decode cX3_countInBoxes 2 = .ok (.aload_n 0, 1) := by decide +kernel
theorem dX3_countInBoxes_3 : decode cX3_countInBoxes 3 = .ok (.getfield 11, 3) := by decide +kernel
theorem dX3_countInBoxes_6 : decode cX3_countInBoxes 6 = .ok (.astore_n 3, 1) := by decide +kernel
theorem dX3_countInBoxes_7 : decode cX3_countInBoxes 7 = .ok (.aload_n 3, 1) := by decide +kernel
theorem dX3_countInBoxes_8 : decode cX3_countInBoxes 8 = .ok (.arraylength, 1) := by decide +kernel
theorem dX3_countInBoxes_9 : decode cX3_countInBoxes 9 = .ok (.istore 4, 2) := by decide +kernel
theorem dX3_countInBoxes_11 : decode cX3_countInBoxes 11 = .ok (.iconst 0, 1) := by decide +kernel
theorem dX3_countInBoxes_12 : decode cX3_countInBoxes 12 = .ok (.istore 5, 2) := by decide +kernel
theorem dX3_countInBoxes_14 : decode cX3_countInBoxes 14 = .ok (.iload 5, 2) := by decide +kernel
theorem dX3_countInBoxes_16 : decode cX3_countInBoxes 16 = .ok (.iload 4, 2) := by decide +kernel
theorem dX3_countInBoxes_18 : decode cX3_countInBoxes 18 = .ok (.if_icmp .ge 24, 3) := by decide +kernel
theorem dX3_countInBoxes_21 : decode cX3_countInBoxes 21 = .ok (.aload_n 3, 1) := by decide +kernel
theorem dX3_countInBoxes_22 : decode cX3_countInBoxes 22 = .ok (.iload 5, 2) := by decide +kernel
theorem dX3_countInBoxes_24 : decode cX3_countInBoxes 24 = .ok (.aaload, 1) := by decide +kernel
theorem dX3_countInBoxes_25 : decode cX3_countInBoxes 25 = .ok (.astore 6, 2) := by decide +kernel
theorem dX3_countInBoxes_27 : decode cX3_countInBoxes 27 = .ok (.iload_n 2, 1) := by decide +kernel
theorem dX3_countInBoxes_28 : decode cX3_countInBoxes 28 = .ok (.aload 6, 2) := by decide +kernel
theorem dX3_countInBoxes_30 : decode cX3_countInBoxes 30 = .ok (.iload_n 1, 1) := by decide +kernel
theorem dX3_countInBoxes_31 : decode cX3_countInBoxes 31 = .ok (.invokevirtual 141, 3) := by decide +kernel
theorem dX3_countInBoxes_34 : decode cX3_countInBoxes 34 = .ok (.iadd, 1) := by decide +kernel
theorem dX3_countInBoxes_35 : decode cX3_countInBoxes 35 = .ok (.istore_n 2, 1) := by decide +kernel
theorem dX3_countInBoxes_36 : decode cX3_countInBoxes 36 = .ok (.iinc 5 1, 3) := by decide +kernel
theorem dX3_countInBoxes_39 : decode cX3_countInBoxes 39 = .ok (.goto (-25), 3) := by decide +kernel
theorem dX3_countInBoxes_42 : decode cX3_countInBoxes 42 = .ok (.iload_n 2, 1) := by decide +kernel
theorem dX3_countInBoxes_43 : decode cX3_countInBoxes 43 = .ok (.ireturn, 1) := by decide +kernel
theorem dX3_sortsInFormes_0 : decode cX3_sortsInFormes 0 = .ok (.iconst 0, 1) := by decide +kernel
theorem dX3_sortsInFormes_1 : decode cX3_sortsInFormes 1 = .ok (.istore_n 1, 1) := by decide +kernel
theorem dX3_sortsInFormes_2 : decode cX3_sortsInFormes 2 = .ok (.aload_n 0, 1) := by decide +kernel
theorem dX3_sortsInFormes_3 : decode cX3_sortsInFormes 3 = .ok (.getfield 19, 3) := by decide +kernel
theorem dX3_sortsInFormes_6 : decode cX3_sortsInFormes 6 = .ok (.astore_n 2, 1) := by decide +kernel
theorem dX3_sortsInFormes_7 : decode cX3_sortsInFormes 7 = .ok (.aload_n 2, 1) := by decide +kernel
theorem dX3_sortsInFormes_8 : decode cX3_sortsInFormes 8 = .ok (.arraylength, 1) := by decide +kernel
theorem dX3_sortsInFormes_9 : decode cX3_sortsInFormes 9 = .ok (.istore_n 3, 1) := by decide +kernel
theorem dX3_sortsInFormes_10 : decode cX3_sortsInFormes 10 = .ok (.iconst 0, 1) := by decide +kernel
theorem dX3_sortsInFormes_11 : decode cX3_sortsInFormes 11 = .ok (.istore 4, 2) := by decide +kernel
theorem dX3_sortsInFormes_13 : decode cX3_sortsInFormes 13 = .ok (.iload 4, 2) := by decide +kernel
theorem dX3_sortsInFormes_15 : decode cX3_sortsInFormes 15 = .ok (.iload_n 3, 1) := by decide +kernel
theorem dX3_sortsInFormes_16 : decode cX3_sortsInFormes 16 = .ok (.if_icmp .ge 23, 3) := by decide +kernel
theorem dX3_sortsInFormes_19 : decode cX3_sortsInFormes 19 = .ok (.aload_n 2, 1) := by decide +kernel
theorem dX3_sortsInFormes_20 : decode cX3_sortsInFormes 20 = .ok (.iload 4, 2) := by decide +kernel
theorem dX3_sortsInFormes_22 : decode cX3_sortsInFormes 22 = .ok (.aaload, 1) := by decide +kernel
theorem dX3_sortsInFormes_23 : decode cX3_sortsInFormes 23 = .ok (.astore 5, 2) := by decide +kernel
theorem dX3_sortsInFormes_25 : decode cX3_sortsInFormes 25 = .ok (.iload_n 1, 1) := by decide +kernel
theorem dX3_sortsInFormes_26 : decode cX3_sortsInFormes 26 = .ok (.aload 5, 2) := by decide +kernel
theorem dX3_sortsInFormes_28 : decode cX3_sortsInFormes 28 = .ok (.invokevirtual 84, 3) := by decide +kernel
theorem dX3_sortsInFormes_31 : decode cX3_sortsInFormes 31 = .ok (.iadd, 1) := by decide +kernel
theorem dX3_sortsInFormes_32 : decode cX3_sortsInFormes 32 = .ok (.istore_n 1, 1) := by decide +kernel
theorem dX3_sortsInFormes_33 : decode cX3_sortsInFormes 33 = .ok (.iinc 4 1, 3) := by decide +kernel
theorem dX3_sortsInFormes_36 : decode cX3_sortsInFormes 36 = .ok (.goto (-23), 3) := by decide +kernel
theorem dX3_sortsInFormes_39 : decode cX3_sortsInFormes 39 = .ok (.iload_n 1, 1) := by decide +kernel
theorem dX3_sortsInFormes_40 : decode cX3_sortsInFormes 40 = .ok (.ireturn, 1) := by decide +kernel
theorem dX3_countInFormes_0 : decode cX3_countInFormes 0 = .ok (.iconst 0, 1) := by decide +kernel
theorem dX3_countInFormes_1 : decode cX3_countInFormes 1 = .ok (.istore_n 2, 1) := by decide +kernel
theorem dX3_countInFormes_2 : decode cX3_countInFormes 2 = .ok (.aload_n 0, 1) := by decide +kernel
theorem dX3_countInFormes_3 : decode cX3_countInFormes 3 = .ok (.getfield 19, 3) := by decide +kernel
theorem dX3_countInFormes_6 : decode cX3_countInFormes 6 = .ok (.astore_n 3, 1) := by decide +kernel
theorem dX3_countInFormes_7 : decode cX3_countInFormes 7 = .ok (.aload_n 3, 1) := by decide +kernel
theorem dX3_countInFormes_8 : decode cX3_countInFormes 8 = .ok (.arraylength, 1) := by decide +kernel
theorem dX3_countInFormes_9 : decode cX3_countInFormes 9 = .ok (.istore 4, 2) := by decide +kernel
theorem dX3_countInFormes_11 : decode cX3_countInFormes 11 = .ok (.iconst 0, 1) := by decide +kernel
theorem dX3_countInFormes_12 : decode cX3_countInFormes 12 = .ok (.istore 5, 2) := by decide +kernel
theorem dX3_countInFormes_14 : decode cX3_countInFormes 14 = .ok (.iload 5, 2) := by decide +kernel
theorem dX3_countInFormes_16 : decode cX3_countInFormes 16 = .ok (.iload 4, 2) := by decide +kernel
theorem dX3_countInFormes_18 : decode cX3_countInFormes 18 = .ok (.if_icmp .ge 24, 3) := by decide +kernel
theorem dX3_countInFormes_21 : decode cX3_countInFormes 21 = .ok (.aload_n 3, 1) := by decide +kernel
theorem dX3_countInFormes_22 : decode cX3_countInFormes 22 = .ok (.iload 5, 2) := by decide +kernel
theorem dX3_countInFormes_24 : decode cX3_countInFormes 24 = .ok (.aaload, 1) := by decide +kernel
theorem dX3_countInFormes_25 : decode cX3_countInFormes 25 = .ok (.astore 6, 2) := by decide +kernel
theorem dX3_countInFormes_27 : decode cX3_countInFormes 27 = .ok (.iload_n 2, 1) := by decide +kernel
theorem dX3_countInFormes_28 : decode cX3_countInFormes 28 = .ok (.aload 6, 2) := by decide +kernel
theorem dX3_countInFormes_30 : decode cX3_countInFormes 30 = .ok (.iload_n 1, 1) := by decide +kernel
theorem dX3_countInFormes_31 : decode cX3_countInFormes 31 = .ok (.invokevirtual 144, 3) := by decide +kernel
theorem dX3_countInFormes_34 : decode cX3_countInFormes 34 = .ok (.iadd, 1) := by decide +kernel
theorem dX3_countInFormes_35 : decode cX3_countInFormes 35 = .ok (.istore_n 2, 1) := by decide +kernel
theorem dX3_countInFormes_36 : decode cX3_countInFormes 36 = .ok (.iinc 5 1, 3) := by decide +kernel
theorem dX3_countInFormes_39 : decode cX3_countInFormes 39 = .ok (.goto (-25), 3) := by decide +kernel
theorem dX3_countInFormes_42 : decode cX3_countInFormes 42 = .ok (.iload_n 2, 1) := by decide +kernel
theorem dX3_countInFormes_43 : decode cX3_countInFormes 43 = .ok (.ireturn, 1) := by decide +kernel
theorem dX3_errorsInFormes_0 : decode cX3_errorsInFormes 0 = .ok (.iconst 0, 1) := by decide +kernel
theorem dX3_errorsInFormes_1 : decode cX3_errorsInFormes 1 = .ok (.istore_n 1, 1) := by decide +kernel
theorem dX3_errorsInFormes_2 : decode cX3_errorsInFormes 2 = .ok (.aload_n 0, 1) := by decide +kernel
theorem dX3_errorsInFormes_3 : decode cX3_errorsInFormes 3 = .ok (.getfield 19, 3) := by decide +kernel
theorem dX3_errorsInFormes_6 : decode cX3_errorsInFormes 6 = .ok (.astore_n 2, 1) := by decide +kernel
theorem dX3_errorsInFormes_7 : decode cX3_errorsInFormes 7 = .ok (.aload_n 2, 1) := by decide +kernel
theorem dX3_errorsInFormes_8 : decode cX3_errorsInFormes 8 = .ok (.arraylength, 1) := by decide +kernel
theorem dX3_errorsInFormes_9 : decode cX3_errorsInFormes 9 = .ok (.istore_n 3, 1) := by decide +kernel
theorem dX3_errorsInFormes_10 : decode cX3_errorsInFormes 10 = .ok (.iconst 0, 1) := by decide +kernel
theorem dX3_errorsInFormes_11 : decode cX3_errorsInFormes 11 = .ok (.istore 4, 2) := by decide +kernel
theorem dX3_errorsInFormes_13 : decode cX3_errorsInFormes 13 = .ok (.iload 4, 2) := by decide +kernel
theorem dX3_errorsInFormes_15 : decode cX3_errorsInFormes 15 = .ok (.iload_n 3, 1) := by decide +kernel
theorem dX3_errorsInFormes_16 : decode cX3_errorsInFormes 16 = .ok (.if_icmp .ge 23, 3) := by decide +kernel
theorem dX3_errorsInFormes_19 : decode cX3_errorsInFormes 19 = .ok (.aload_n 2, 1) := by decide +kernel
theorem dX3_errorsInFormes_20 : decode cX3_errorsInFormes 20 = .ok (.iload 4, 2) := by decide +kernel
theorem dX3_errorsInFormes_22 : decode cX3_errorsInFormes 22 = .ok (.aaload, 1) := by decide +kernel
theorem dX3_errorsInFormes_23 : decode cX3_errorsInFormes 23 = .ok (.astore 5, 2) := by decide +kernel
theorem dX3_errorsInFormes_25 : decode cX3_errorsInFormes 25 = .ok (.iload_n 1, 1) := by decide +kernel
theorem dX3_errorsInFormes_26 : decode cX3_errorsInFormes 26 = .ok (.aload 5, 2) := by decide +kernel
theorem dX3_errorsInFormes_28 : decode cX3_errorsInFormes 28 = .ok (.invokevirtual 145, 3) := by decide +kernel
theorem dX3_errorsInFormes_31 : decode cX3_errorsInFormes 31 = .ok (.iadd, 1) := by decide +kernel
theorem dX3_errorsInFormes_32 : decode cX3_errorsInFormes 32 = .ok (.istore_n 1, 1) := by decide +kernel
theorem dX3_errorsInFormes_33 : decode cX3_errorsInFormes 33 = .ok (.iinc 4 1, 3) := by decide +kernel
theorem dX3_errorsInFormes_36 : decode cX3_errorsInFormes 36 = .ok (.goto (-23), 3) := by decide +kernel
theorem dX3_errorsInFormes_39 : decode cX3_errorsInFormes 39 = .ok (.iload_n 1, 1) := by decide +kernel
theorem dX3_errorsInFormes_40 : decode cX3_errorsInFormes 40 = .ok (.ireturn, 1) := by decide +kernel
theorem dX3_turnedInFormes_0 : decode cX3_turnedInFormes 0 = .ok (.iconst 0, 1) := by decide +kernel
theorem dX3_turnedInFormes_1 : decode cX3_turnedInFormes 1 = .ok (.istore_n 1, 1) := by decide +kernel
theorem dX3_turnedInFormes_2 : decode cX3_turnedInFormes 2 = .ok (.aload_n 0, 1) := by decide +kernel
theorem dX3_turnedInFormes_3 : decode cX3_turnedInFormes 3 = .ok (.getfield 19, 3) := by decide +kernel
theorem dX3_turnedInFormes_6 : decode cX3_turnedInFormes 6 = .ok (.astore_n 2, 1) := by decide +kernel
theorem dX3_turnedInFormes_7 : decode cX3_turnedInFormes 7 = .ok (.aload_n 2, 1) := by decide +kernel
theorem dX3_turnedInFormes_8 : decode cX3_turnedInFormes 8 = .ok (.arraylength, 1) := by decide +kernel
theorem dX3_turnedInFormes_9 : decode cX3_turnedInFormes 9 = .ok (.istore_n 3, 1) := by decide +kernel
theorem dX3_turnedInFormes_10 : decode cX3_turnedInFormes 10 = .ok (.iconst 0, 1) := by decide +kernel
theorem dX3_turnedInFormes_11 : decode cX3_turnedInFormes 11 = .ok (.istore 4, 2) := by decide +kernel
theorem dX3_turnedInFormes_13 : decode cX3_turnedInFormes 13 = .ok (.iload 4, 2) := by decide +kernel
theorem dX3_turnedInFormes_15 : decode cX3_turnedInFormes 15 = .ok (.iload_n 3, 1) := by decide +kernel
theorem dX3_turnedInFormes_16 : decode cX3_turnedInFormes 16 = .ok (.if_icmp .ge 23, 3) := by decide +kernel
theorem dX3_turnedInFormes_19 : decode cX3_turnedInFormes 19 = .ok (.aload_n 2, 1) := by decide +kernel
theorem dX3_turnedInFormes_20 : decode cX3_turnedInFormes 20 = .ok (.iload 4, 2) := by decide +kernel
theorem dX3_turnedInFormes_22 : decode cX3_turnedInFormes 22 = .ok (.aaload, 1) := by decide +kernel
theorem dX3_turnedInFormes_23 : decode cX3_turnedInFormes 23 = .ok (.astore 5, 2) := by decide +kernel
theorem dX3_turnedInFormes_25 : decode cX3_turnedInFormes 25 = .ok (.iload_n 1, 1) := by decide +kernel
theorem dX3_turnedInFormes_26 : decode cX3_turnedInFormes 26 = .ok (.aload 5, 2) := by decide +kernel
theorem dX3_turnedInFormes_28 : decode cX3_turnedInFormes 28 = .ok (.invokevirtual 148, 3) := by decide +kernel
theorem dX3_turnedInFormes_31 : decode cX3_turnedInFormes 31 = .ok (.iadd, 1) := by decide +kernel
theorem dX3_turnedInFormes_32 : decode cX3_turnedInFormes 32 = .ok (.istore_n 1, 1) := by decide +kernel
theorem dX3_turnedInFormes_33 : decode cX3_turnedInFormes 33 = .ok (.iinc 4 1, 3) := by decide +kernel
theorem dX3_turnedInFormes_36 : decode cX3_turnedInFormes 36 = .ok (.goto (-23), 3) := by decide +kernel
theorem dX3_turnedInFormes_39 : decode cX3_turnedInFormes 39 = .ok (.iload_n 1, 1) := by decide +kernel
theorem dX3_turnedInFormes_40 : decode cX3_turnedInFormes 40 = .ok (.ireturn, 1) := by decide +kernel
theorem dX3_copyFrom_0 : decode cX3_copyFrom 0 = .ok (.iconst 0, 1) := by decide +kernel
theorem dX3_copyFrom_1 : decode cX3_copyFrom 1 = .ok (.istore_n 2, 1) := by decide +kernel
theorem dX3_copyFrom_2 : decode cX3_copyFrom 2 = .ok (.iload_n 2, 1) := by decide +kernel
theorem dX3_copyFrom_3 : decode cX3_copyFrom 3 = .ok (.bipush 27, 2) := by decide +kernel
theorem dX3_copyFrom_5 : decode cX3_copyFrom 5 = .ok (.if_icmp .ge 22, 3) := by decide +kernel
theorem dX3_copyFrom_8 : decode cX3_copyFrom 8 = .ok (.aload_n 0, 1) := by decide +kernel
theorem dX3_copyFrom_9 : decode cX3_copyFrom 9 = .ok (.iload_n 2, 1) := by decide +kernel
theorem dX3_copyFrom_10 : decode cX3_copyFrom 10 = .ok (.invokevirtual 41, 3) := by decide +kernel
theorem dX3_copyFrom_13 : decode cX3_copyFrom 13 = .ok (.aload_n 1, 1) := by decide +kernel
theorem dX3_copyFrom_14 : decode cX3_copyFrom 14 = .ok (.iload_n 2, 1) := by decide +kernel
theorem dX3_copyFrom_15 : decode cX3_copyFrom 15 = .ok (.invokevirtual 41, 3) := by decide +kernel
theorem dX3_copyFrom_18 : decode cX3_copyFrom 18 = .ok (.invokevirtual 151, 3) := by decide +kernel
theorem dX3_copyFrom_21 : decode cX3_copyFrom 21 = .ok (.iinc 2 1, 3) := by decide +kernel
theorem dX3_copyFrom_24 : decode cX3_copyFrom 24 = .ok (.goto (-22), 3) := by decide +kernel
theorem dX3_copyFrom_27 : decode cX3_copyFrom 27 = .ok (.iconst 0, 1) := by decide +kernel
theorem dX3_copyFrom_28 : decode cX3_copyFrom 28 = .ok (.istore_n 2, 1) := by decide +kernel
theorem dX3_copyFrom_29 : decode cX3_copyFrom 29 = .ok (.iload_n 2, 1) := by decide +kernel
theorem dX3_copyFrom_30 : decode cX3_copyFrom 30 = .ok (.iconst 3, 1) := by decide +kernel
theorem dX3_copyFrom_31 : decode cX3_copyFrom 31 = .ok (.if_icmp .ge 22, 3) := by decide +kernel
theorem dX3_copyFrom_34 : decode cX3_copyFrom 34 = .ok (.aload_n 0, 1) := by decide +kernel
theorem dX3_copyFrom_35 : decode cX3_copyFrom 35 = .ok (.iload_n 2, 1) := by decide +kernel
theorem dX3_copyFrom_36 : decode cX3_copyFrom 36 = .ok (.invokevirtual 155, 3) := by decide +kernel
theorem dX3_copyFrom_39 : decode cX3_copyFrom 39 = .ok (.aload_n 1, 1) := by decide +kernel
theorem dX3_copyFrom_40 : decode cX3_copyFrom 40 = .ok (.iload_n 2, 1) := by decide +kernel
theorem dX3_copyFrom_41 : decode cX3_copyFrom 41 = .ok (.invokevirtual 155, 3) := by decide +kernel
theorem dX3_copyFrom_44 : decode cX3_copyFrom 44 = .ok (.invokevirtual 159, 3) := by decide +kernel
theorem dX3_copyFrom_47 : decode cX3_copyFrom 47 = .ok (.iinc 2 1, 3) := by decide +kernel
theorem dX3_copyFrom_50 : decode cX3_copyFrom 50 = .ok (.goto (-21), 3) := by decide +kernel
theorem dX3_copyFrom_53 : decode cX3_copyFrom 53 = .ok (.aload_n 0, 1) := by decide +kernel
theorem dX3_copyFrom_54 : decode cX3_copyFrom 54 = .ok (.getfield 26, 3) := by decide +kernel
theorem dX3_copyFrom_57 : decode cX3_copyFrom 57 = .ok (.aload_n 1, 1) := by decide +kernel
theorem dX3_copyFrom_58 : decode cX3_copyFrom 58 = .ok (.getfield 26, 3) := by decide +kernel
theorem dX3_copyFrom_61 : decode cX3_copyFrom 61 = .ok (.invokevirtual 151, 3) := by decide +kernel
theorem dX3_copyFrom_64 : decode cX3_copyFrom 64 = .ok (.aload_n 0, 1) := by decide +kernel
theorem dX3_copyFrom_65 : decode cX3_copyFrom 65 = .ok (.aload_n 1, 1) := by decide +kernel
theorem dX3_copyFrom_66 : decode cX3_copyFrom 66 = .ok (.getfield 114, 3) := by decide +kernel
theorem dX3_copyFrom_69 : decode cX3_copyFrom 69 = .ok (.putfield 114, 3) := by decide +kernel
theorem dX3_copyFrom_72 : decode cX3_copyFrom 72 = .ok (.aload_n 0, 1) := by decide +kernel
theorem dX3_copyFrom_73 : decode cX3_copyFrom 73 = .ok (.aload_n 1, 1) := by decide +kernel
theorem dX3_copyFrom_74 : decode cX3_copyFrom 74 = .ok (.getfield 30, 3) := by decide +kernel
theorem dX3_copyFrom_77 : decode cX3_copyFrom 77 = .ok (.putfield 30, 3) := by decide +kernel
theorem dX3_copyFrom_80 : decode cX3_copyFrom 80 = .ok (.aload_n 0, 1) := by decide +kernel
theorem dX3_copyFrom_81 : decode cX3_copyFrom 81 = .ok (.aload_n 1, 1) := by decide +kernel
theorem dX3_copyFrom_82 : decode cX3_copyFrom 82 = .ok (.getfield 51, 3) := by decide +kernel
theorem dX3_copyFrom_85 : decode cX3_copyFrom 85 = .ok (.putfield 51, 3) := by decide +kernel
theorem dX3_copyFrom_88 : decode cX3_copyFrom 88 = .ok (.aload_n 0, 1) := by decide +kernel
theorem dX3_copyFrom_89 : decode cX3_copyFrom 89 = .ok (.aload_n 1, 1) := by decide +kernel
theorem dX3_copyFrom_90 : decode cX3_copyFrom 90 = .ok (.getfield 68, 3) := by decide +kernel
theorem dX3_copyFrom_93 : decode cX3_copyFrom 93 = .ok (.putfield 68, 3) := by decide +kernel
theorem dX3_copyFrom_96 : decode cX3_copyFrom 96 = .ok (.aload_n 0, 1) := by decide +kernel
theorem dX3_copyFrom_97 : decode cX3_copyFrom 97 = .ok (.aload_n 1, 1) := by decide +kernel
theorem dX3_copyFrom_98 : decode cX3_copyFrom 98 = .ok (.getfield 105, 3) := by decide +kernel
theorem dX3_copyFrom_101 : decode cX3_copyFrom 101 = .ok (.putfield 105, 3) := by decide +kernel
theorem dX3_copyFrom_104 : decode cX3_copyFrom 104 = .ok (.return_, 1) := by decide +kernel
theorem dX4_init_0 : decode cX4_init 0 = .ok (.aload_n 0, 1) := by decide +kernel
theorem dX4_init_1 : decode cX4_init 1 = .ok (.invokespecial 1, 3) := by decide +kernel
theorem dX4_init_4 : decode cX4_init 4 = .ok (.aload_n 0, 1) := by decide +kernel
theorem dX4_init_5 : decode cX4_init 5 = .ok (.new 7, 3) := by decide +kernel
theorem dX4_init_8 : decode cX4_init 8 = .ok (.dup, 1) := by decide +kernel
theorem dX4_init_9 : decode cX4_init 9 = .ok (.invokespecial 9, 3) := by decide +kernel
theorem dX4_init_12 : decode cX4_init 12 = .ok (.putfield 10, 3) := by decide +kernel
theorem dX4_init_15 : decode cX4_init 15 = .ok (.aload_n 0, 1) := by decide +kernel
theorem dX4_init_16 : decode cX4_init 16 = .ok (.new 16, 3) := by decide +kernel
theorem dX4_init_19 : decode cX4_init 19 = .ok (.dup, 1) := by decide +kernel
theorem dX4_init_20 : decode cX4_init 20 = .ok (.bipush 16, 2) := by decide +kernel
theorem dX4_init_22 : decode cX4_init 22 = .ok (.invokespecial 18, 3) := by decide +kernel
theorem dX4_init_25 : decode cX4_init 25 = .ok (.putfield 21, 3) := by decide +kernel
theorem dX4_init_28 : decode cX4_init 28 = .ok (.aload_n 0, 1) := by decide +kernel
theorem dX4_init_29 : decode cX4_init 29 = .ok (.new 25, 3) := by decide +kernel
theorem dX4_init_32 : decode cX4_init 32 = .ok (.dup, 1) := by decide +kernel
theorem dX4_init_33 : decode cX4_init 33 = .ok (.invokespecial 27, 3) := by decide +kernel
theorem dX4_init_36 : decode cX4_init 36 = .ok (.putfield 28, 3) := by decide +kernel
theorem dX4_init_39 : decode cX4_init 39 = .ok (.aload_n 0, 1) := by decide +kernel
theorem dX4_init_40 : decode cX4_init 40 = .ok (.new 7, 3) := by decide +kernel
theorem dX4_init_43 : decode cX4_init 43 = .ok (.dup, 1) := by decide +kernel
theorem dX4_init_44 : decode cX4_init 44 = .ok (.invokespecial 9, 3) := by decide +kernel
theorem dX4_init_47 : decode cX4_init 47 = .ok (.putfield 32, 3) := by decide +kernel
theorem dX4_init_50 : decode cX4_init 50 = .ok (.aload_n 0, 1) := by decide +kernel
theorem dX4_init_51 : decode cX4_init 51 = .ok (.new 35, 3) := by decide +kernel
theorem dX4_init_54 : decode cX4_init 54 = .ok (.dup, 1) := by decide +kernel
theorem dX4_init_55 : decode cX4_init 55 = .ok (.invokespecial 37, 3) := by decide +kernel
theorem dX4_init_58 : decode cX4_init 58 = .ok (.putfield 38, 3) := by decide +kernel
theorem dX4_init_61 : decode cX4_init 61 = .ok (.return_, 1) := by decide +kernel
theorem dX4_buy_0 : decode cX4_buy 0 = .ok (.iload_n 1, 1) := by decide +kernel
theorem dX4_buy_1 : decode cX4_buy 1 = .ok (.invokestatic 42, 3) := by decide +kernel
theorem dX4_buy_4 : decode cX4_buy 4 = .ok (.iload_n 2, 1) := by decide +kernel
theorem dX4_buy_5 : decode cX4_buy 5 = .ok (.iconst 1, 1) := by decide +kernel
theorem dX4_buy_6 : decode cX4_buy 6 = .ok (.bipush 30, 2) := by decide +kernel
theorem dX4_buy_8 : decode cX4_buy 8 = .ok (.invokestatic 45, 3) := by decide +kernel
theorem dX4_buy_11 : decode cX4_buy 11 = .ok (.aload_n 0, 1) := by decide +kernel
theorem dX4_buy_12 : decode cX4_buy 12 = .ok (.iload_n 2, 1) := by decide +kernel
theorem dX4_buy_13 : decode cX4_buy 13 = .ok (.invokevirtual 49, 3) := by decide +kernel
theorem dX4_buy_16 : decode cX4_buy 16 = .ok (.aload_n 0, 1) := by decide +kernel
theorem dX4_buy_17 : decode cX4_buy 17 = .ok (.getfield 28, 3) := by decide +kernel
theorem dX4_buy_20 : decode cX4_buy 20 = .ok (.aload_n 0, 1) := by decide +kernel
theorem dX4_buy_21 : decode cX4_buy 21 = .ok (.getfield 10, 3) := by decide +kernel
theorem dX4_buy_24 : decode cX4_buy 24 = .ok (.invokevirtual 52, 3) := by decide +kernel
theorem dX4_buy_27 : decode cX4_buy 27 = .ok (.aload_n 0, 1) := by decide +kernel
theorem dX4_buy_28 : decode cX4_buy 28 = .ok (.getfield 10, 3) := by decide +kernel
theorem dX4_buy_31 : decode cX4_buy 31 = .ok (.iload_n 1, 1) := by decide +kernel
theorem dX4_buy_32 : decode cX4_buy 32 = .ok (.iload_n 2, 1) := by decide +kernel
theorem dX4_buy_33 : decode cX4_buy 33 = .ok (.invokevirtual 56, 3) := by decide +kernel
theorem dX4_buy_36 : decode cX4_buy 36 = .ok (.aload_n 0, 1) := by decide +kernel
theorem dX4_buy_37 : decode cX4_buy 37 = .ok (.getfield 10, 3) := by decide +kernel
theorem dX4_buy_40 : decode cX4_buy 40 = .ok (.iload_n 1, 1) := by decide +kernel
theorem dX4_buy_41 : decode cX4_buy 41 = .ok (.invokevirtual 60, 3) := by decide +kernel
theorem dX4_buy_44 : decode cX4_buy 44 = .ok (.invokevirtual 64, 3) := by decide +kernel
theorem dX4_buy_47 : decode cX4_buy 47 = .ok (.ireturn, 1) := by decide +kernel
theorem dX4_buyLacking_0 : decode cX4_buyLacking 0 = .ok (.iconst 0, 1) := by decide +kernel
theorem dX4_buyLacking_1 : decode cX4_buyLacking 1 = .ok (.istore_n 1, 1) := by decide +kernel
theorem dX4_buyLacking_2 : decode cX4_buyLacking 2 = .ok (.iconst 0, 1) := by decide +kernel
theorem dX4_buyLacking_3 : decode cX4_buyLacking 3 = .ok (.istore_n 2, 1) := by decide +kernel
theorem dX4_buyLacking_4 : decode cX4_buyLacking 4 = .ok (.iload_n 2, 1) := by decide +kernel
theorem dX4_buyLacking_5 : decode cX4_buyLacking 5 = .ok (.bipush 27, 2) := by decide +kernel
theorem dX4_buyLacking_7 : decode cX4_buyLacking 7 = .ok (.if_icmp .ge 17, 3) := by decide +kernel
theorem dX4_buyLacking_10 : decode cX4_buyLacking 10 = .ok (.iload_n 1, 1) := by decide +kernel
theorem dX4_buyLacking_11 : decode cX4_buyLacking 11 = .ok (.aload_n 0, 1) := by decide +kernel
theorem dX4_buyLacking_12 : decode cX4_buyLacking 12 = .ok (.iload_n 2, 1) := by decide +kernel
theorem dX4_buyLacking_13 : decode cX4_buyLacking 13 = .ok (.invokevirtual 68, 3) := by decide +kernel
theorem dX4_buyLacking_16 : decode cX4_buyLacking 16 = .ok (.iadd, 1) := by decide +kernel
theorem dX4_buyLacking_17 : decode cX4_buyLacking 17 = .ok (.istore_n 1, 1) := by decide +kernel
theorem dX4_buyLacking_18 : decode cX4_buyLacking 18 = .ok (.iinc 2 1, 3) := by decide +kernel
theorem dX4_buyLacking_21 : decode cX4_buyLacking 21 = .ok (.goto (-17), 3) := by decide +kernel
theorem dX4_buyLacking_24 : decode cX4_buyLacking 24 = .ok (.aload_n 0, 1) := by decide +kernel
theorem dX4_buyLacking_25 : decode cX4_buyLacking 25 = .ok (.iload_n 1, 1) := by decide +kernel
theorem dX4_buyLacking_26 : decode cX4_buyLacking 26 = .ok (.invokevirtual 49, 3) := by decide +kernel
theorem dX4_buyLacking_29 : decode cX4_buyLacking 29 = .ok (.aload_n 0, 1) := by decide +kernel
theorem dX4_buyLacking_30 : decode cX4_buyLacking 30 = .ok (.getfield 28, 3) := by decide +kernel
theorem dX4_buyLacking_33 : decode cX4_buyLacking 33 = .ok (.aload_n 0, 1) := by decide +kernel
theorem dX4_buyLacking_34 : decode cX4_buyLacking 34 = .ok (.getfield 10, 3) := by decide +kernel
theorem dX4_buyLacking_37 : decode cX4_buyLacking 37 = .ok (.invokevirtual 52, 3) := by decide +kernel
theorem dX4_buyLacking_40 : decode cX4_buyLacking 40 = .ok (.iconst 0, 1) := by decide +kernel
theorem dX4_buyLacking_41 : decode cX4_buyLacking 41 = .ok (.istore_n 2, 1) := by decide +kernel
theorem dX4_buyLacking_42 : decode cX4_buyLacking 42 = .ok (.iload_n 2, 1) := by decide +kernel
theorem dX4_buyLacking_43 : decode cX4_buyLacking 43 = .ok (.bipush 27, 2) := by decide +kernel
theorem dX4_buyLacking_45 : decode cX4_buyLacking 45 = .ok (.if_icmp .ge 22, 3) := by decide +kernel
theorem dX4_buyLacking_48 : decode cX4_buyLacking 48 = .ok (.aload_n 0, 1) := by decide +kernel
theorem dX4_buyLacking_49 : decode cX4_buyLacking 49 = .ok (.getfield 10, 3) := by decide +kernel
theorem dX4_buyLacking_52 : decode cX4_buyLacking 52 = .ok (.iload_n 2, 1) := by decide +kernel
theorem dX4_buyLacking_53 : decode cX4_buyLacking 53 = .ok (.aload_n 0, 1) := by decide +kernel
theorem dX4_buyLacking_54 : decode cX4_buyLacking 54 = .ok (.iload_n 2, 1) := by decide +kernel
theorem dX4_buyLacking_55 : decode cX4_buyLacking 55 = .ok (.invokevirtual 68, 3) := by decide +kernel
theorem dX4_buyLacking_58 : decode cX4_buyLacking 58 = .ok (.invokevirtual 56, 3) := by decide +kernel
theorem dX4_buyLacking_61 : decode cX4_buyLacking 61 = .ok (.iinc 2 1, 3) := by decide +kernel
theorem dX4_buyLacking_64 : decode cX4_buyLacking 64 = .ok (.goto (-22), 3) := by decide +kernel
theorem dX4_buyLacking_67 : decode cX4_buyLacking 67 = .ok (.iload_n 1, 1) := by decide +kernel
theorem dX4_buyLacking_68 : decode cX4_buyLacking 68 = .ok (.ireturn, 1) := by decide +kernel
theorem dX4_spill_0 : decode cX4_spill 0 = .ok (.iload_n 1, 1) := by decide +kernel
theorem dX4_spill_1 : decode cX4_spill 1 = .ok (.invokestatic 42, 3) := by decide +kernel
theorem dX4_spill_4 : decode cX4_spill 4 = .ok (.iload_n 2, 1) := by decide +kernel
theorem dX4_spill_5 : decode cX4_spill 5 = .ok (.invokestatic 42, 3) := by decide +kernel
theorem dX4_spill_8 : decode cX4_spill 8 = .ok (.iload_n 1, 1) := by decide +kernel
theorem dX4_spill_9 : decode cX4_spill 9 = .ok (.iload_n 2, 1) := by decide +kernel
theorem dX4_spill_10 : decode cX4_spill 10 = .ok (.if_icmp .ne 13, 3) := by decide +kernel
theorem dX4_spill_13 : decode cX4_spill 13 = .ok (.new 72, 3) := by decide +kernel
theorem dX4_spill_16 : decode cX4_spill 16 = .ok (.dup, 1) := by decide +kernel
end
section
theorem dX4_spill_17 : decode cX4_spill 17 = .ok (.ldc 74, 2) := by decide +kernel
theorem dX4_spill_19 : decode cX4_spill 19 = .ok (.invokespecial 76, 3) := by decide +kernel
theorem dX4_spill_22 : decode cX4_spill 22 = .ok (.athrow, 1) := by decide +kernel
theorem dX4_spill_23 : decode cX4_spill 23 = .ok (.iload_n 3, 1) := by decide +kernel
theorem dX4_spill_24 : decode cX4_spill 24 = .ok (.iconst 1, 1) := by decide +kernel
theorem dX4_spill_25 : decode cX4_spill 25 = .ok (.bipush 30, 2) := by decide +kernel
theorem dX4_spill_27 : decode cX4_spill 27 = .ok (.invokestatic 45, 3) := by decide +kernel
theorem dX4_spill_30 : decode cX4_spill 30 = .ok (.aload_n 0, 1) := by decide +kernel
theorem dX4_spill_31 : decode cX4_spill 31 = .ok (.getfield 10, 3) := by decide +kernel
theorem dX4_spill_34 : decode cX4_spill 34 = .ok (.iload_n 1, 1) := by decide +kernel
theorem dX4_spill_35 : decode cX4_spill 35 = .ok (.invokevirtual 60, 3) := by decide +kernel
theorem dX4_spill_38 : decode cX4_spill 38 = .ok (.invokevirtual 64, 3) := by decide +kernel
theorem dX4_spill_41 : decode cX4_spill 41 = .ok (.iload_n 3, 1) := by decide +kernel
theorem dX4_spill_42 : decode cX4_spill 42 = .ok (.if_icmp .ge 13, 3) := by decide +kernel
theorem dX4_spill_45 : decode cX4_spill 45 = .ok (.new 79, 3) := by decide +kernel
theorem dX4_spill_48 : decode cX4_spill 48 = .ok (.dup, 1) := by decide +kernel
theorem dX4_spill_49 : decode cX4_spill 49 = .ok (.ldc 81, 2) := by decide +kernel
theorem dX4_spill_51 : decode cX4_spill 51 = .ok (.invokespecial 83, 3) := by decide +kernel
theorem dX4_spill_54 : decode cX4_spill 54 = .ok (.athrow, 1) := by decide +kernel
theorem dX4_spill_55 : decode cX4_spill 55 = .ok (.aload_n 0, 1) := by decide +kernel
theorem dX4_spill_56 : decode cX4_spill 56 = .ok (.getfield 28, 3) := by decide +kernel
theorem dX4_spill_59 : decode cX4_spill 59 = .ok (.aload_n 0, 1) := by decide +kernel
theorem dX4_spill_60 : decode cX4_spill 60 = .ok (.getfield 10, 3) := by decide +kernel
theorem dX4_spill_63 : decode cX4_spill 63 = .ok (.invokevirtual 52, 3) := by decide +kernel
theorem dX4_spill_66 : decode cX4_spill 66 = .ok (.aload_n 0, 1) := by decide +kernel
theorem dX4_spill_67 : decode cX4_spill 67 = .ok (.getfield 10, 3) := by decide +kernel
theorem dX4_spill_70 : decode cX4_spill 70 = .ok (.iload_n 1, 1) := by decide +kernel
theorem dX4_spill_71 : decode cX4_spill 71 = .ok (.iload_n 2, 1) := by decide +kernel
theorem dX4_spill_72 : decode cX4_spill 72 = .ok (.iload_n 3, 1) := by decide +kernel
theorem dX4_spill_73 : decode cX4_spill 73 = .ok (.invokevirtual 84, 3) := by decide +kernel
theorem dX4_spill_76 : decode cX4_spill 76 = .ok (.aload_n 0, 1) := by decide +kernel
theorem dX4_spill_77 : decode cX4_spill 77 = .ok (.getfield 10, 3) := by decide +kernel
theorem dX4_spill_80 : decode cX4_spill 80 = .ok (.iload_n 1, 1) := by decide +kernel
theorem dX4_spill_81 : decode cX4_spill 81 = .ok (.invokevirtual 60, 3) := by decide +kernel
theorem dX4_spill_84 : decode cX4_spill 84 = .ok (.invokevirtual 64, 3) := by decide +kernel
theorem dX4_spill_87 : decode cX4_spill 87 = .ok (.ireturn, 1) := by decide +kernel
theorem dX4_clean_0 : decode cX4_clean 0 = .ok (.iload_n 1, 1) := by decide +kernel
theorem dX4_clean_1 : decode cX4_clean 1 = .ok (.invokestatic 42, 3) := by decide +kernel
theorem dX4_clean_4 : decode cX4_clean 4 = .ok (.aload_n 0, 1) := by decide +kernel
theorem dX4_clean_5 : decode cX4_clean 5 = .ok (.getfield 28, 3) := by decide +kernel
theorem dX4_clean_8 : decode cX4_clean 8 = .ok (.aload_n 0, 1) := by decide +kernel
theorem dX4_clean_9 : decode cX4_clean 9 = .ok (.getfield 10, 3) := by decide +kernel
theorem dX4_clean_12 : decode cX4_clean 12 = .ok (.invokevirtual 52, 3) := by decide +kernel
theorem dX4_clean_15 : decode cX4_clean 15 = .ok (.aload_n 0, 1) := by decide +kernel
theorem dX4_clean_16 : decode cX4_clean 16 = .ok (.getfield 10, 3) := by decide +kernel
theorem dX4_clean_19 : decode cX4_clean 19 = .ok (.iload_n 1, 1) := by decide +kernel
theorem dX4_clean_20 : decode cX4_clean 20 = .ok (.invokevirtual 87, 3) := by decide +kernel
theorem dX4_clean_23 : decode cX4_clean 23 = .ok (.ireturn, 1) := by decide +kernel
theorem dX4_set_0 : decode cX4_set 0 = .ok (.iload_n 1, 1) := by decide +kernel
theorem dX4_set_1 : decode cX4_set 1 = .ok (.ifCond .eq 10, 3) := by decide +kernel
theorem dX4_set_4 : decode cX4_set 4 = .ok (.iload_n 1, 1) := by decide +kernel
theorem dX4_set_5 : decode cX4_set 5 = .ok (.iconst 2, 1) := by decide +kernel
theorem dX4_set_6 : decode cX4_set 6 = .ok (.bipush 50, 2) := by decide +kernel
theorem dX4_set_8 : decode cX4_set 8 = .ok (.invokestatic 45, 3) := by decide +kernel
theorem dX4_set_11 : decode cX4_set 11 = .ok (.iload_n 2, 1) := by decide +kernel
theorem dX4_set_12 : decode cX4_set 12 = .ok (.iconst 0, 1) := by decide +kernel
theorem dX4_set_13 : decode cX4_set 13 = .ok (.bipush 99, 2) := by decide +kernel
theorem dX4_set_15 : decode cX4_set 15 = .ok (.invokestatic 45, 3) := by decide +kernel
theorem dX4_set_18 : decode cX4_set 18 = .ok (.aload_n 0, 1) := by decide +kernel
theorem dX4_set_19 : decode cX4_set 19 = .ok (.getfield 28, 3) := by decide +kernel
theorem dX4_set_22 : decode cX4_set 22 = .ok (.aload_n 0, 1) := by decide +kernel
theorem dX4_set_23 : decode cX4_set 23 = .ok (.getfield 10, 3) := by decide +kernel
theorem dX4_set_26 : decode cX4_set 26 = .ok (.invokevirtual 52, 3) := by decide +kernel
theorem dX4_set_29 : decode cX4_set 29 = .ok (.aload_n 0, 1) := by decide +kernel
theorem dX4_set_30 : decode cX4_set 30 = .ok (.getfield 10, 3) := by decide +kernel
theorem dX4_set_33 : decode cX4_set 33 = .ok (.getfield 90, 3) := by decide +kernel
theorem dX4_set_36 : decode cX4_set 36 = .ok (.istore_n 3, 1) := by decide +kernel
theorem dX4_set_37 : decode cX4_set 37 = .ok (.aload_n 0, 1) := by decide +kernel
theorem dX4_set_38 : decode cX4_set 38 = .ok (.getfield 10, 3) := by decide +kernel
theorem dX4_set_41 : decode cX4_set 41 = .ok (.iload_n 1, 1) := by decide +kernel
theorem dX4_set_42 : decode cX4_set 42 = .ok (.putfield 90, 3) := by decide +kernel
theorem dX4_set_45 : decode cX4_set 45 = .ok (.aload_n 0, 1) := by decide +kernel
theorem dX4_set_46 : decode cX4_set 46 = .ok (.getfield 10, 3) := by decide +kernel
theorem dX4_set_49 : decode cX4_set 49 = .ok (.iload_n 2, 1) := by decide +kernel
theorem dX4_set_50 : decode cX4_set 50 = .ok (.putfield 94, 3) := by decide +kernel
theorem dX4_set_53 : decode cX4_set 53 = .ok (.iload_n 3, 1) := by decide +kernel
theorem dX4_set_54 : decode cX4_set 54 = .ok (.ireturn, 1) := by decide +kernel
theorem dX4_letter_0 : decode cX4_letter 0 = .ok (.iload_n 1, 1) := by decide +kernel
theorem dX4_letter_1 : decode cX4_letter 1 = .ok (.invokestatic 42, 3) := by decide +kernel
theorem dX4_letter_4 : decode cX4_letter 4 = .ok (.iload_n 2, 1) := by decide +kernel
theorem dX4_letter_5 : decode cX4_letter 5 = .ok (.iconst 0, 1) := by decide +kernel
theorem dX4_letter_6 : decode cX4_letter 6 = .ok (.bipush 7, 2) := by decide +kernel
theorem dX4_letter_8 : decode cX4_letter 8 = .ok (.invokestatic 45, 3) := by decide +kernel
theorem dX4_letter_11 : decode cX4_letter 11 = .ok (.aload_n 0, 1) := by decide +kernel
theorem dX4_letter_12 : decode cX4_letter 12 = .ok (.iload_n 1, 1) := by decide +kernel
theorem dX4_letter_13 : decode cX4_letter 13 = .ok (.iload_n 2, 1) := by decide +kernel
theorem dX4_letter_14 : decode cX4_letter 14 = .ok (.invokevirtual 97, 3) := by decide +kernel
theorem dX4_letter_17 : decode cX4_letter 17 = .ok (.ireturn, 1) := by decide +kernel
theorem dX4_inBox_0 : decode cX4_inBox 0 = .ok (.iload_n 1, 1) := by decide +kernel
theorem dX4_inBox_1 : decode cX4_inBox 1 = .ok (.invokestatic 42, 3) := by decide +kernel
theorem dX4_inBox_4 : decode cX4_inBox 4 = .ok (.aload_n 0, 1) := by decide +kernel
theorem dX4_inBox_5 : decode cX4_inBox 5 = .ok (.getfield 10, 3) := by decide +kernel
theorem dX4_inBox_8 : decode cX4_inBox 8 = .ok (.iload_n 1, 1) := by decide +kernel
theorem dX4_inBox_9 : decode cX4_inBox 9 = .ok (.invokevirtual 60, 3) := by decide +kernel
theorem dX4_inBox_12 : decode cX4_inBox 12 = .ok (.astore_n 3, 1) := by decide +kernel
theorem dX4_inBox_13 : decode cX4_inBox 13 = .ok (.iload_n 2, 1) := by decide +kernel
theorem dX4_inBox_14 : decode cX4_inBox 14 = .ok (.aload_n 3, 1) := by decide +kernel
theorem dX4_inBox_15 : decode cX4_inBox 15 = .ok (.invokevirtual 64, 3) := by decide +kernel
theorem dX4_inBox_18 : decode cX4_inBox 18 = .ok (.invokestatic 101, 3) := by decide +kernel
theorem dX4_inBox_21 : decode cX4_inBox 21 = .ok (.aload_n 3, 1) := by decide +kernel
theorem dX4_inBox_22 : decode cX4_inBox 22 = .ok (.aload_n 3, 1) := by decide +kernel
theorem dX4_inBox_23 : decode cX4_inBox 23 = .ok (.invokevirtual 64, 3) := by decide +kernel
theorem dX4_inBox_26 : decode cX4_inBox 26 = .ok (.iconst 1, 1) := by decide +kernel
theorem dX4_inBox_27 : decode cX4_inBox 27 = .ok (.isub, 1) := by decide +kernel
theorem dX4_inBox_28 : decode cX4_inBox 28 = .ok (.iload_n 2, 1) := by decide +kernel
theorem dX4_inBox_29 : decode cX4_inBox 29 = .ok (.isub, 1) := by decide +kernel
theorem dX4_inBox_30 : decode cX4_inBox 30 = .ok (.invokevirtual 104, 3) := by decide +kernel
theorem dX4_inBox_33 : decode cX4_inBox 33 = .ok (.ireturn, 1) := by decide +kernel
theorem dX4_value_0 : decode cX4_value 0 = .ok (.iload_n 1, 1) := by decide +kernel
theorem dX4_value_1 : decode cX4_value 1 = .ok (.iconst 0, 1) := by decide +kernel
theorem dX4_value_2 : decode cX4_value 2 = .ok (.bipush 11, 2) := by decide +kernel
theorem dX4_value_4 : decode cX4_value 4 = .ok (.invokestatic 45, 3) := by decide +kernel
theorem dX4_value_7 : decode cX4_value 7 = .ok (.aload_n 0, 1) := by decide +kernel
theorem dX4_value_8 : decode cX4_value 8 = .ok (.getfield 10, 3) := by decide +kernel
theorem dX4_value_11 : decode cX4_value 11 = .ok (.iload_n 1, 1) := by decide +kernel
theorem dX4_value_12 : decode cX4_value 12 = .ok (.invokevirtual 107, 3) := by decide +kernel
theorem dX4_value_15 : decode cX4_value 15 = .ok (.ireturn, 1) := by decide +kernel
theorem dX4_setLine_0 : decode cX4_setLine 0 = .ok (.iload_n 1, 1) := by decide +kernel
theorem dX4_setLine_1 : decode cX4_setLine 1 = .ok (.invokestatic 110, 3) := by decide +kernel
theorem dX4_setLine_4 : decode cX4_setLine 4 = .ok (.aload_n 0, 1) := by decide +kernel
theorem dX4_setLine_5 : decode cX4_setLine 5 = .ok (.getfield 10, 3) := by decide +kernel
theorem dX4_setLine_8 : decode cX4_setLine 8 = .ok (.iload_n 1, 1) := by decide +kernel
theorem dX4_setLine_9 : decode cX4_setLine 9 = .ok (.invokevirtual 113, 3) := by decide +kernel
theorem dX4_setLine_12 : decode cX4_setLine 12 = .ok (.astore_n 2, 1) := by decide +kernel
theorem dX4_setLine_13 : decode cX4_setLine 13 = .ok (.aload_n 0, 1) := by decide +kernel
theorem dX4_setLine_14 : decode cX4_setLine 14 = .ok (.getfield 21, 3) := by decide +kernel
theorem dX4_setLine_17 : decode cX4_setLine 17 = .ok (.invokevirtual 64, 3) := by decide +kernel
theorem dX4_setLine_20 : decode cX4_setLine 20 = .ok (.ifCond .eq 18, 3) := by decide +kernel
theorem dX4_setLine_23 : decode cX4_setLine 23 = .ok (.aload_n 2, 1) := by decide +kernel
theorem dX4_setLine_24 : decode cX4_setLine 24 = .ok (.invokevirtual 117, 3) := by decide +kernel
theorem dX4_setLine_27 : decode cX4_setLine 27 = .ok (.iconst 5, 1) := by decide +kernel
theorem dX4_setLine_28 : decode cX4_setLine 28 = .ok (.if_icmp .ge 10, 3) := by decide +kernel
theorem dX4_setLine_31 : decode cX4_setLine 31 = .ok (.aload_n 0, 1) := by decide +kernel
theorem dX4_setLine_32 : decode cX4_setLine 32 = .ok (.invokevirtual 120, 3) := by decide +kernel
theorem dX4_setLine_35 : decode cX4_setLine 35 = .ok (.ifCond .ne 13, 3) := by decide +kernel
theorem dX4_setLine_38 : decode cX4_setLine 38 = .ok (.new 79, 3) := by decide +kernel
theorem dX4_setLine_41 : decode cX4_setLine 41 = .ok (.dup, 1) := by decide +kernel
theorem dX4_setLine_42 : decode cX4_setLine 42 = .ok (.ldc 124, 2) := by decide +kernel
theorem dX4_setLine_44 : decode cX4_setLine 44 = .ok (.invokespecial 83, 3) := by decide +kernel
theorem dX4_setLine_47 : decode cX4_setLine 47 = .ok (.athrow, 1) := by decide +kernel
theorem dX4_setLine_48 : decode cX4_setLine 48 = .ok (.aload_n 0, 1) := by decide +kernel
theorem dX4_setLine_49 : decode cX4_setLine 49 = .ok (.getfield 28, 3) := by decide +kernel
theorem dX4_setLine_52 : decode cX4_setLine 52 = .ok (.aload_n 0, 1) := by decide +kernel
theorem dX4_setLine_53 : decode cX4_setLine 53 = .ok (.getfield 10, 3) := by decide +kernel
theorem dX4_setLine_56 : decode cX4_setLine 56 = .ok (.invokevirtual 52, 3) := by decide +kernel
theorem dX4_setLine_59 : decode cX4_setLine 59 = .ok (.aload_n 0, 1) := by decide +kernel
theorem dX4_setLine_60 : decode cX4_setLine 60 = .ok (.getfield 10, 3) := by decide +kernel
theorem dX4_setLine_63 : decode cX4_setLine 63 = .ok (.aload_n 0, 1) := by decide +kernel
theorem dX4_setLine_64 : decode cX4_setLine 64 = .ok (.getfield 21, 3) := by decide +kernel
theorem dX4_setLine_67 : decode cX4_setLine 67 = .ok (.aload_n 2, 1) := by decide +kernel
theorem dX4_setLine_68 : decode cX4_setLine 68 = .ok (.invokevirtual 126, 3) := by decide +kernel
theorem dX4_setLine_71 : decode cX4_setLine 71 = .ok (.pop, 1) := by decide +kernel
theorem dX4_setLine_72 : decode cX4_setLine 72 = .ok (.aload_n 2, 1) := by decide +kernel
theorem dX4_setLine_73 : decode cX4_setLine 73 = .ok (.invokevirtual 117, 3) := by decide +kernel
theorem dX4_setLine_76 : decode cX4_setLine 76 = .ok (.iconst 1, 1) := by decide +kernel
theorem dX4_setLine_77 : decode cX4_setLine 77 = .ok (.isub, 1) := by decide +kernel
theorem dX4_setLine_78 : decode cX4_setLine 78 = .ok (.ireturn, 1) := by decide +kernel
theorem dX4_correct_0 : decode cX4_correct 0 = .ok (.iload_n 1, 1) := by decide +kernel
theorem dX4_correct_1 : decode cX4_correct 1 = .ok (.invokestatic 110, 3) := by decide +kernel
theorem dX4_correct_4 : decode cX4_correct 4 = .ok (.aload_n 0, 1) := by decide +kernel
theorem dX4_correct_5 : decode cX4_correct 5 = .ok (.getfield 28, 3) := by decide +kernel
theorem dX4_correct_8 : decode cX4_correct 8 = .ok (.aload_n 0, 1) := by decide +kernel
theorem dX4_correct_9 : decode cX4_correct 9 = .ok (.getfield 10, 3) := by decide +kernel
theorem dX4_correct_12 : decode cX4_correct 12 = .ok (.invokevirtual 52, 3) := by decide +kernel
theorem dX4_correct_15 : decode cX4_correct 15 = .ok (.aload_n 0, 1) := by decide +kernel
theorem dX4_correct_16 : decode cX4_correct 16 = .ok (.getfield 10, 3) := by decide +kernel
theorem dX4_correct_19 : decode cX4_correct 19 = .ok (.aload_n 0, 1) := by decide +kernel
theorem dX4_correct_20 : decode cX4_correct 20 = .ok (.getfield 10, 3) := by decide +kernel
theorem dX4_correct_23 : decode cX4_correct 23 = .ok (.iload_n 1, 1) := by decide +kernel
theorem dX4_correct_24 : decode cX4_correct 24 = .ok (.invokevirtual 113, 3) := by decide +kernel
theorem dX4_correct_27 : decode cX4_correct 27 = .ok (.invokevirtual 130, 3) := by decide +kernel
theorem dX4_correct_30 : decode cX4_correct 30 = .ok (.ireturn, 1) := by decide +kernel
theorem dX4_distribute_0 : decode cX4_distribute 0 = .ok (.iload_n 1, 1) := by decide +kernel
theorem dX4_distribute_1 : decode cX4_distribute 1 = .ok (.invokestatic 110, 3) := by decide +kernel
theorem dX4_distribute_4 : decode cX4_distribute 4 = .ok (.aload_n 0, 1) := by decide +kernel
theorem dX4_distribute_5 : decode cX4_distribute 5 = .ok (.getfield 28, 3) := by decide +kernel
theorem dX4_distribute_8 : decode cX4_distribute 8 = .ok (.aload_n 0, 1) := by decide +kernel
theorem dX4_distribute_9 : decode cX4_distribute 9 = .ok (.getfield 10, 3) := by decide +kernel
theorem dX4_distribute_12 : decode cX4_distribute 12 = .ok (.invokevirtual 52, 3) := by decide +kernel
theorem dX4_distribute_15 : decode cX4_distribute 15 = .ok (.aload_n 0, 1) := by decide +kernel
theorem dX4_distribute_16 : decode cX4_distribute 16 = .ok (.getfield 10, 3) := by decide +kernel
theorem dX4_distribute_19 : decode cX4_distribute 19 = .ok (.aload_n 0, 1) := by decide +kernel
theorem dX4_distribute_20 : decode cX4_distribute 20 = .ok (.getfield 10, 3) := by decide +kernel
theorem dX4_distribute_23 : decode cX4_distribute 23 = .ok (.iload_n 1, 1) := by decide +kernel
theorem dX4_distribute_24 : decode cX4_distribute 24 = .ok (.invokevirtual 113, 3) := by decide +kernel
theorem dX4_distribute_27 : decode cX4_distribute 27 = .ok (.invokevirtual 134, 3) := by decide +kernel
theorem dX4_distribute_30 : decode cX4_distribute 30 = .ok (.ireturn, 1) := by decide +kernel
theorem dX4_pie_0 : decode cX4_pie 0 = .ok (.iload_n 1, 1) := by decide +kernel
theorem dX4_pie_1 : decode cX4_pie 1 = .ok (.invokestatic 110, 3) := by decide +kernel
theorem dX4_pie_4 : decode cX4_pie 4 = .ok (.aload_n 0, 1) := by decide +kernel
theorem dX4_pie_5 : decode cX4_pie 5 = .ok (.getfield 28, 3) := by decide +kernel
theorem dX4_pie_8 : decode cX4_pie 8 = .ok (.aload_n 0, 1) := by decide +kernel
theorem dX4_pie_9 : decode cX4_pie 9 = .ok (.getfield 10, 3) := by decide +kernel
theorem dX4_pie_12 : decode cX4_pie 12 = .ok (.invokevirtual 52, 3) := by decide +kernel
theorem dX4_pie_15 : decode cX4_pie 15 = .ok (.aload_n 0, 1) := by decide +kernel
theorem dX4_pie_16 : decode cX4_pie 16 = .ok (.getfield 10, 3) := by decide +kernel
theorem dX4_pie_19 : decode cX4_pie 19 = .ok (.aload_n 0, 1) := by decide +kernel
theorem dX4_pie_20 : decode cX4_pie 20 = .ok (.getfield 10, 3) := by decide +kernel
theorem dX4_pie_23 : decode cX4_pie 23 = .ok (.iload_n 1, 1) := by decide +kernel
theorem dX4_pie_24 : decode cX4_pie 24 = .ok (.invokevirtual 113, 3) := by decide +kernel
theorem dX4_pie_27 : decode cX4_pie 27 = .ok (.invokevirtual 137, 3) := by decide +kernel
theorem dX4_pie_30 : decode cX4_pie 30 = .ok (.aload_n 0, 1) := by decide +kernel
theorem dX4_pie_31 : decode cX4_pie 31 = .ok (.getfield 10, 3) := by decide +kernel
theorem dX4_pie_34 : decode cX4_pie 34 = .ok (.getfield 141, 3) := by decide +kernel
theorem dX4_pie_37 : decode cX4_pie 37 = .ok (.invokevirtual 64, 3) := by decide +kernel
theorem dX4_pie_40 : decode cX4_pie 40 = .ok (.ireturn, 1) := by decide +kernel
theorem dX4_sortHeap_0 : decode cX4_sortHeap 0 = .ok (.iload_n 1, 1) := by decide +kernel
theorem dX4_sortHeap_1 : decode cX4_sortHeap 1 = .ok (.iconst 1, 1) := by decide +kernel
theorem dX4_sortHeap_2 : decode cX4_sortHeap 2 = .ok (.bipush 99, 2) := by decide +kernel
theorem dX4_sortHeap_4 : decode cX4_sortHeap 4 = .ok (.invokestatic 45, 3) := by decide +kernel
theorem dX4_sortHeap_7 : decode cX4_sortHeap 7 = .ok (.aload_n 0, 1) := by decide +kernel
theorem dX4_sortHeap_8 : decode cX4_sortHeap 8 = .ok (.getfield 28, 3) := by decide +kernel
theorem dX4_sortHeap_11 : decode cX4_sortHeap 11 = .ok (.aload_n 0, 1) := by decide +kernel
theorem dX4_sortHeap_12 : decode cX4_sortHeap 12 = .ok (.getfield 10, 3) := by decide +kernel
theorem dX4_sortHeap_15 : decode cX4_sortHeap 15 = .ok (.invokevirtual 52, 3) := by decide +kernel
theorem dX4_sortHeap_18 : decode cX4_sortHeap 18 = .ok (.aload_n 0, 1) := by decide +kernel
theorem dX4_sortHeap_19 : decode cX4_sortHeap 19 = .ok (.getfield 10, 3) := by decide +kernel
theorem dX4_sortHeap_22 : decode cX4_sortHeap 22 = .ok (.iload_n 1, 1) := by decide +kernel
theorem dX4_sortHeap_23 : decode cX4_sortHeap 23 = .ok (.invokevirtual 144, 3) := by decide +kernel
theorem dX4_sortHeap_26 : decode cX4_sortHeap 26 = .ok (.ireturn, 1) := by decide +kernel
theorem dX4_forme_0 : decode cX4_forme 0 = .ok (.iload_n 1, 1) := by decide +kernel
theorem dX4_forme_1 : decode cX4_forme 1 = .ok (.invokestatic 110, 3) := by decide +kernel
theorem dX4_forme_4 : decode cX4_forme 4 = .ok (.iload_n 2, 1) := by decide +kernel
theorem dX4_forme_5 : decode cX4_forme 5 = .ok (.iconst 0, 1) := by decide +kernel
theorem dX4_forme_6 : decode cX4_forme 6 = .ok (.iconst 4, 1) := by decide +kernel
theorem dX4_forme_7 : decode cX4_forme 7 = .ok (.invokestatic 45, 3) := by decide +kernel
theorem dX4_forme_10 : decode cX4_forme 10 = .ok (.aload_n 0, 1) := by decide +kernel
theorem dX4_forme_11 : decode cX4_forme 11 = .ok (.iload_n 1, 1) := by decide +kernel
theorem dX4_forme_12 : decode cX4_forme 12 = .ok (.iload_n 2, 1) := by decide +kernel
theorem dX4_forme_13 : decode cX4_forme 13 = .ok (.invokevirtual 147, 3) := by decide +kernel
theorem dX4_forme_16 : decode cX4_forme 16 = .ok (.ireturn, 1) := by decide +kernel
theorem dX4_places_0 : decode cX4_places 0 = .ok (.iload_n 1, 1) := by decide +kernel
theorem dX4_places_1 : decode cX4_places 1 = .ok (.invokestatic 110, 3) := by decide +kernel
theorem dX4_places_4 : decode cX4_places 4 = .ok (.aload_n 0, 1) := by decide +kernel
theorem dX4_places_5 : decode cX4_places 5 = .ok (.getfield 10, 3) := by decide +kernel
theorem dX4_places_8 : decode cX4_places 8 = .ok (.iload_n 1, 1) := by decide +kernel
theorem dX4_places_9 : decode cX4_places 9 = .ok (.invokevirtual 113, 3) := by decide +kernel
theorem dX4_places_12 : decode cX4_places 12 = .ok (.astore_n 3, 1) := by decide +kernel
theorem dX4_places_13 : decode cX4_places 13 = .ok (.iload_n 2, 1) := by decide +kernel
theorem dX4_places_14 : decode cX4_places 14 = .ok (.aload_n 3, 1) := by decide +kernel
theorem dX4_places_15 : decode cX4_places 15 = .ok (.invokevirtual 117, 3) := by decide +kernel
theorem dX4_places_18 : decode cX4_places 18 = .ok (.invokestatic 101, 3) := by decide +kernel
theorem dX4_places_21 : decode cX4_places 21 = .ok (.aload_n 3, 1) := by decide +kernel
theorem dX4_places_22 : decode cX4_places 22 = .ok (.iload_n 2, 1) := by decide +kernel
theorem dX4_places_23 : decode cX4_places 23 = .ok (.invokevirtual 150, 3) := by decide +kernel
theorem dX4_places_26 : decode cX4_places 26 = .ok (.ireturn, 1) := by decide +kernel
theorem dX4_place_0 : decode cX4_place 0 = .ok (.iload_n 1, 1) := by decide +kernel
theorem dX4_place_1 : decode cX4_place 1 = .ok (.invokestatic 110, 3) := by decide +kernel
theorem dX4_place_4 : decode cX4_place 4 = .ok (.aload_n 0, 1) := by decide +kernel
theorem dX4_place_5 : decode cX4_place 5 = .ok (.getfield 10, 3) := by decide +kernel
theorem dX4_place_8 : decode cX4_place 8 = .ok (.iload_n 1, 1) := by decide +kernel
theorem dX4_place_9 : decode cX4_place 9 = .ok (.invokevirtual 113, 3) := by decide +kernel
theorem dX4_place_12 : decode cX4_place 12 = .ok (.astore 5, 2) := by decide +kernel
theorem dX4_place_14 : decode cX4_place 14 = .ok (.iload_n 2, 1) := by decide +kernel
theorem dX4_place_15 : decode cX4_place 15 = .ok (.aload 5, 2) := by decide +kernel
theorem dX4_place_17 : decode cX4_place 17 = .ok (.invokevirtual 117, 3) := by decide +kernel
theorem dX4_place_20 : decode cX4_place 20 = .ok (.invokestatic 101, 3) := by decide +kernel
theorem dX4_place_23 : decode cX4_place 23 = .ok (.iload_n 3, 1) := by decide +kernel
theorem dX4_place_24 : decode cX4_place 24 = .ok (.aload 5, 2) := by decide +kernel
theorem dX4_place_26 : decode cX4_place 26 = .ok (.iload_n 2, 1) := by decide +kernel
theorem dX4_place_27 : decode cX4_place 27 = .ok (.invokevirtual 150, 3) := by decide +kernel
theorem dX4_place_30 : decode cX4_place 30 = .ok (.invokestatic 101, 3) := by decide +kernel
theorem dX4_place_33 : decode cX4_place 33 = .ok (.iload 4, 2) := by decide +kernel
theorem dX4_place_35 : decode cX4_place 35 = .ok (.iconst 0, 1) := by decide +kernel
theorem dX4_place_36 : decode cX4_place 36 = .ok (.iconst 3, 1) := by decide +kernel
theorem dX4_place_37 : decode cX4_place 37 = .ok (.invokestatic 45, 3) := by decide +kernel
theorem dX4_place_40 : decode cX4_place 40 = .ok (.aload 5, 2) := by decide +kernel
theorem dX4_place_42 : decode cX4_place 42 = .ok (.aload 5, 2) := by decide +kernel
theorem dX4_place_44 : decode cX4_place 44 = .ok (.iload_n 2, 1) := by decide +kernel
theorem dX4_place_45 : decode cX4_place 45 = .ok (.invokevirtual 153, 3) := by decide +kernel
theorem dX4_place_48 : decode cX4_place 48 = .ok (.iload_n 3, 1) := by decide +kernel
theorem dX4_place_49 : decode cX4_place 49 = .ok (.iadd, 1) := by decide +kernel
theorem dX4_place_50 : decode cX4_place 50 = .ok (.iload 4, 2) := by decide +kernel
theorem dX4_place_52 : decode cX4_place 52 = .ok (.invokevirtual 156, 3) := by decide +kernel
theorem dX4_place_55 : decode cX4_place 55 = .ok (.ireturn, 1) := by decide +kernel
theorem dX4_proof_0 : decode cX4_proof 0 = .ok (.iload_n 1, 1) := by decide +kernel
theorem dX4_proof_1 : decode cX4_proof 1 = .ok (.invokestatic 110, 3) := by decide +kernel
theorem dX4_proof_4 : decode cX4_proof 4 = .ok (.iload_n 2, 1) := by decide +kernel
theorem dX4_proof_5 : decode cX4_proof 5 = .ok (.ifCond .ge 13, 3) := by decide +kernel
theorem dX4_proof_8 : decode cX4_proof 8 = .ok (.new 159, 3) := by decide +kernel
theorem dX4_proof_11 : decode cX4_proof 11 = .ok (.dup, 1) := by decide +kernel
theorem dX4_proof_12 : decode cX4_proof 12 = .ok (.ldc 161, 2) := by decide +kernel
theorem dX4_proof_14 : decode cX4_proof 14 = .ok (.invokespecial 163, 3) := by decide +kernel
theorem dX4_proof_17 : decode cX4_proof 17 = .ok (.athrow, 1) := by decide +kernel
theorem dX4_proof_18 : decode cX4_proof 18 = .ok (.aload_n 0, 1) := by decide +kernel
theorem dX4_proof_19 : decode cX4_proof 19 = .ok (.getfield 10, 3) := by decide +kernel
theorem dX4_proof_22 : decode cX4_proof 22 = .ok (.iload_n 1, 1) := by decide +kernel
theorem dX4_proof_23 : decode cX4_proof 23 = .ok (.invokevirtual 113, 3) := by decide +kernel
theorem dX4_proof_26 : decode cX4_proof 26 = .ok (.iload_n 2, 1) := by decide +kernel
theorem dX4_proof_27 : decode cX4_proof 27 = .ok (.invokevirtual 164, 3) := by decide +kernel
theorem dX4_proof_30 : decode cX4_proof 30 = .ok (.ireturn, 1) := by decide +kernel
theorem dX4_inHeap_0 : decode cX4_inHeap 0 = .ok (.iload_n 1, 1) := by decide +kernel
theorem dX4_inHeap_1 : decode cX4_inHeap 1 = .ok (.aload_n 0, 1) := by decide +kernel
theorem dX4_inHeap_2 : decode cX4_inHeap 2 = .ok (.getfield 10, 3) := by decide +kernel
theorem dX4_inHeap_5 : decode cX4_inHeap 5 = .ok (.getfield 141, 3) := by decide +kernel
theorem dX4_inHeap_8 : decode cX4_inHeap 8 = .ok (.invokevirtual 64, 3) := by decide +kernel
theorem dX4_inHeap_11 : decode cX4_inHeap 11 = .ok (.invokestatic 101, 3) := by decide +kernel
theorem dX4_inHeap_14 : decode cX4_inHeap 14 = .ok (.aload_n 0, 1) := by decide +kernel
theorem dX4_inHeap_15 : decode cX4_inHeap 15 = .ok (.getfield 10, 3) := by decide +kernel
theorem dX4_inHeap_18 : decode cX4_inHeap 18 = .ok (.getfield 141, 3) := by decide +kernel
theorem dX4_inHeap_21 : decode cX4_inHeap 21 = .ok (.iload_n 1, 1) := by decide +kernel
theorem dX4_inHeap_22 : decode cX4_inHeap 22 = .ok (.invokevirtual 104, 3) := by decide +kernel
theorem dX4_inHeap_25 : decode cX4_inHeap 25 = .ok (.ireturn, 1) := by decide +kernel
theorem dX4_errorsIfSet_0 : decode cX4_errorsIfSet 0 = .ok (.aload_n 0, 1) := by decide +kernel
theorem dX4_errorsIfSet_1 : decode cX4_errorsIfSet 1 = .ok (.invokevirtual 120, 3) := by decide +kernel
theorem dX4_errorsIfSet_4 : decode cX4_errorsIfSet 4 = .ok (.ifCond .eq 13, 3) := by decide +kernel
theorem dX4_errorsIfSet_7 : decode cX4_errorsIfSet 7 = .ok (.aload_n 0, 1) := by decide +kernel
theorem dX4_errorsIfSet_8 : decode cX4_errorsIfSet 8 = .ok (.getfield 38, 3) := by decide +kernel
theorem dX4_errorsIfSet_11 : decode cX4_errorsIfSet 11 = .ok (.invokevirtual 167, 3) := by decide +kernel
theorem dX4_errorsIfSet_14 : decode cX4_errorsIfSet 14 = .ok (.goto 4, 3) := by decide +kernel
theorem dX4_errorsIfSet_17 : decode cX4_errorsIfSet 17 = .ok (.iconst (-1), 1) := by decide +kernel
theorem dX4_errorsIfSet_18 : decode cX4_errorsIfSet 18 = .ok (.ireturn, 1) := by decide +kernel
theorem dX4_turnedIfSet_0 : decode cX4_turnedIfSet 0 = .ok (.aload_n 0, 1) := by decide +kernel
theorem dX4_turnedIfSet_1 : decode cX4_turnedIfSet 1 = .ok (.invokevirtual 120, 3) := by decide +kernel
theorem dX4_turnedIfSet_4 : decode cX4_turnedIfSet 4 = .ok (.ifCond .eq 13, 3) := by decide +kernel
theorem dX4_turnedIfSet_7 : decode cX4_turnedIfSet 7 = .ok (.aload_n 0, 1) := by decide +kernel
theorem dX4_turnedIfSet_8 : decode cX4_turnedIfSet 8 = .ok (.getfield 38, 3) := by decide +kernel
theorem dX4_turnedIfSet_11 : decode cX4_turnedIfSet 11 = .ok (.invokevirtual 170, 3) := by decide +kernel
theorem dX4_turnedIfSet_14 : decode cX4_turnedIfSet 14 = .ok (.goto 4, 3) := by decide +kernel
theorem dX4_turnedIfSet_17 : decode cX4_turnedIfSet 17 = .ok (.iconst (-1), 1) := by decide +kernel
theorem dX4_turnedIfSet_18 : decode cX4_turnedIfSet 18 = .ok (.ireturn, 1) := by decide +kernel
theorem dX4_copies_0 : decode cX4_copies 0 = .ok (.aload_n 0, 1) := by decide +kernel
theorem dX4_copies_1 : decode cX4_copies 1 = .ok (.getfield 21, 3) := by decide +kernel
theorem dX4_copies_4 : decode cX4_copies 4 = .ok (.invokevirtual 64, 3) := by decide +kernel
theorem dX4_copies_7 : decode cX4_copies 7 = .ok (.ifCond .ne 5, 3) := by decide +kernel
theorem dX4_copies_10 : decode cX4_copies 10 = .ok (.iconst (-1), 1) := by decide +kernel
theorem dX4_copies_11 : decode cX4_copies 11 = .ok (.ireturn, 1) := by decide +kernel
theorem dX4_copies_12 : decode cX4_copies 12 = .ok (.aload_n 0, 1) := by decide +kernel
theorem dX4_copies_13 : decode cX4_copies 13 = .ok (.getfield 32, 3) := by decide +kernel
theorem dX4_copies_16 : decode cX4_copies 16 = .ok (.aload_n 0, 1) := by decide +kernel
theorem dX4_copies_17 : decode cX4_copies 17 = .ok (.getfield 10, 3) := by decide +kernel
theorem dX4_copies_20 : decode cX4_copies 20 = .ok (.invokevirtual 173, 3) := by decide +kernel
theorem dX4_copies_23 : decode cX4_copies 23 = .ok (.iconst 0, 1) := by decide +kernel
theorem dX4_copies_24 : decode cX4_copies 24 = .ok (.istore_n 1, 1) := by decide +kernel
theorem dX4_copies_25 : decode cX4_copies 25 = .ok (.iload_n 1, 1) := by decide +kernel
theorem dX4_copies_26 : decode cX4_copies 26 = .ok (.sipush 250, 3) := by decide +kernel
theorem dX4_copies_29 : decode cX4_copies 29 = .ok (.if_icmp .ge 26, 3) := by decide +kernel
theorem dX4_copies_32 : decode cX4_copies 32 = .ok (.aload_n 0, 1) := by decide +kernel
theorem dX4_copies_33 : decode cX4_copies 33 = .ok (.invokevirtual 176, 3) := by decide +kernel
theorem dX4_copies_36 : decode cX4_copies 36 = .ok (.ifCond .eq 19, 3) := by decide +kernel
theorem dX4_copies_39 : decode cX4_copies 39 = .ok (.aload_n 0, 1) := by decide +kernel
theorem dX4_copies_40 : decode cX4_copies 40 = .ok (.getfield 38, 3) := by decide +kernel
theorem dX4_copies_43 : decode cX4_copies 43 = .ok (.invokevirtual 167, 3) := by decide +kernel
theorem dX4_copies_46 : decode cX4_copies 46 = .ok (.ifCond .ne 9, 3) := by decide +kernel
theorem dX4_copies_49 : decode cX4_copies 49 = .ok (.iinc 1 1, 3) := by decide +kernel
theorem dX4_copies_52 : decode cX4_copies 52 = .ok (.goto (-27), 3) := by decide +kernel
theorem dX4_copies_55 : decode cX4_copies 55 = .ok (.iload_n 1, 1) := by decide +kernel
theorem dX4_copies_56 : decode cX4_copies 56 = .ok (.ireturn, 1) := by decide +kernel
theorem dX4_bestToDistribute_0 : decode cX4_bestToDistribute 0 = .ok (.iconst (-1), 1) := by decide +kernel
theorem dX4_bestToDistribute_1 : decode cX4_bestToDistribute 1 = .ok (.istore_n 1, 1) := by decide +kernel
theorem dX4_bestToDistribute_2 : decode cX4_bestToDistribute 2 = .ok (.bipush 17, 2) := by decide +kernel
theorem dX4_bestToDistribute_4 : decode cX4_bestToDistribute 4 = .ok (.istore_n 2, 1) := by decide +kernel
theorem dX4_bestToDistribute_5 : decode cX4_bestToDistribute 5 = .ok (.iconst 0, 1) := by decide +kernel
theorem dX4_bestToDistribute_6 : decode cX4_bestToDistribute 6 = .ok (.istore_n 3, 1) := by decide +kernel
theorem dX4_bestToDistribute_7 : decode cX4_bestToDistribute 7 = .ok (.iload_n 3, 1) := by decide +kernel
theorem dX4_bestToDistribute_8 : decode cX4_bestToDistribute 8 = .ok (.iconst 3, 1) := by decide +kernel
theorem dX4_bestToDistribute_9 : decode cX4_bestToDistribute 9 = .ok (.if_icmp .ge 64, 3) := by decide +kernel
theorem dX4_bestToDistribute_12 : decode cX4_bestToDistribute 12 = .ok (.aload_n 0, 1) := by decide +kernel
theorem dX4_bestToDistribute_13 : decode cX4_bestToDistribute 13 = .ok (.getfield 32, 3) := by decide +kernel
theorem dX4_bestToDistribute_16 : decode cX4_bestToDistribute 16 = .ok (.aload_n 0, 1) := by decide +kernel
theorem dX4_bestToDistribute_17 : decode cX4_bestToDistribute 17 = .ok (.getfield 10, 3) := by decide +kernel
theorem dX4_bestToDistribute_20 : decode cX4_bestToDistribute 20 = .ok (.invokevirtual 173, 3) := by decide +kernel
theorem dX4_bestToDistribute_23 : decode cX4_bestToDistribute 23 = .ok (.aload_n 0, 1) := by decide +kernel
theorem dX4_bestToDistribute_24 : decode cX4_bestToDistribute 24 = .ok (.getfield 32, 3) := by decide +kernel
theorem dX4_bestToDistribute_27 : decode cX4_bestToDistribute 27 = .ok (.aload_n 0, 1) := by decide +kernel
theorem dX4_bestToDistribute_28 : decode cX4_bestToDistribute 28 = .ok (.getfield 32, 3) := by decide +kernel
theorem dX4_bestToDistribute_31 : decode cX4_bestToDistribute 31 = .ok (.iload_n 3, 1) := by decide +kernel
theorem dX4_bestToDistribute_32 : decode cX4_bestToDistribute 32 = .ok (.invokevirtual 113, 3) := by decide +kernel
theorem dX4_bestToDistribute_35 : decode cX4_bestToDistribute 35 = .ok (.invokevirtual 134, 3) := by decide +kernel
theorem dX4_bestToDistribute_38 : decode cX4_bestToDistribute 38 = .ok (.pop, 1) := by decide +kernel
theorem dX4_bestToDistribute_39 : decode cX4_bestToDistribute 39 = .ok (.aload_n 0, 1) := by decide +kernel
theorem dX4_bestToDistribute_40 : decode cX4_bestToDistribute 40 = .ok (.invokevirtual 176, 3) := by decide +kernel
theorem dX4_bestToDistribute_43 : decode cX4_bestToDistribute 43 = .ok (.ifCond .eq 24, 3) := by decide +kernel
theorem dX4_bestToDistribute_46 : decode cX4_bestToDistribute 46 = .ok (.aload_n 0, 1) := by decide +kernel
theorem dX4_bestToDistribute_47 : decode cX4_bestToDistribute 47 = .ok (.getfield 38, 3) := by decide +kernel
theorem dX4_bestToDistribute_50 : decode cX4_bestToDistribute 50 = .ok (.invokevirtual 167, 3) := by decide +kernel
theorem dX4_bestToDistribute_53 : decode cX4_bestToDistribute 53 = .ok (.iload_n 2, 1) := by decide +kernel
theorem dX4_bestToDistribute_54 : decode cX4_bestToDistribute 54 = .ok (.if_icmp .ge 13, 3) := by decide +kernel
theorem dX4_bestToDistribute_57 : decode cX4_bestToDistribute 57 = .ok (.iload_n 3, 1) := by decide +kernel
theorem dX4_bestToDistribute_58 : decode cX4_bestToDistribute 58 = .ok (.istore_n 1, 1) := by decide +kernel
theorem dX4_bestToDistribute_59 : decode cX4_bestToDistribute 59 = .ok (.aload_n 0, 1) := by decide +kernel
theorem dX4_bestToDistribute_60 : decode cX4_bestToDistribute 60 = .ok (.getfield 38, 3) := by decide +kernel
theorem dX4_bestToDistribute_63 : decode cX4_bestToDistribute 63 = .ok (.invokevirtual 167, 3) := by decide +kernel
theorem dX4_bestToDistribute_66 : decode cX4_bestToDistribute 66 = .ok (.istore_n 2, 1) := by decide +kernel
theorem dX4_bestToDistribute_67 : decode cX4_bestToDistribute 67 = .ok (.iinc 3 1, 3) := by decide +kernel
theorem dX4_bestToDistribute_70 : decode cX4_bestToDistribute 70 = .ok (.goto (-63), 3) := by decide +kernel
theorem dX4_bestToDistribute_73 : decode cX4_bestToDistribute 73 = .ok (.iload_n 1, 1) := by decide +kernel
theorem dX4_bestToDistribute_74 : decode cX4_bestToDistribute 74 = .ok (.ireturn, 1) := by decide +kernel
theorem dX4_order_0 : decode cX4_order 0 = .ok (.aload_n 0, 1) := by decide +kernel
theorem dX4_order_1 : decode cX4_order 1 = .ok (.getfield 10, 3) := by decide +kernel
theorem dX4_order_4 : decode cX4_order 4 = .ok (.invokevirtual 179, 3) := by decide +kernel
theorem dX4_order_7 : decode cX4_order 7 = .ok (.istore_n 1, 1) := by decide +kernel
theorem dX4_order_8 : decode cX4_order 8 = .ok (.iload_n 1, 1) := by decide +kernel
theorem dX4_order_9 : decode cX4_order 9 = .ok (.ifCond .ne 5, 3) := by decide +kernel
theorem dX4_order_12 : decode cX4_order 12 = .ok (.dconst 1, 1) := by decide +kernel
theorem dX4_order_13 : decode cX4_order 13 = .ok (.dreturn, 1) := by decide +kernel
theorem dX4_order_14 : decode cX4_order 14 = .ok (.iload_n 1, 1) := by decide +kernel
theorem dX4_order_15 : decode cX4_order 15 = .ok (.aload_n 0, 1) := by decide +kernel
theorem dX4_order_16 : decode cX4_order 16 = .ok (.getfield 10, 3) := by decide +kernel
theorem dX4_order_19 : decode cX4_order 19 = .ok (.invokevirtual 182, 3) := by decide +kernel
theorem dX4_order_22 : decode cX4_order 22 = .ok (.isub, 1) := by decide +kernel
theorem dX4_order_23 : decode cX4_order 23 = .ok (.i2d, 1) := by decide +kernel
theorem dX4_order_24 : decode cX4_order 24 = .ok (.iload_n 1, 1) := by decide +kernel
theorem dX4_order_25 : decode cX4_order 25 = .ok (.i2d, 1) := by decide +kernel
theorem dX4_order_26 : decode cX4_order 26 = .ok (.ddiv, 1) := by decide +kernel
theorem dX4_order_27 : decode cX4_order 27 = .ok (.dreturn, 1) := by decide +kernel
theorem dX4_append_0 : decode cX4_append 0 = .ok (.iload_n 1, 1) := by decide +kernel
theorem dX4_append_1 : decode cX4_append 1 = .ok (.bipush 32, 2) := by decide +kernel
theorem dX4_append_3 : decode cX4_append 3 = .ok (.if_icmp .eq 25, 3) := by decide +kernel
theorem dX4_append_6 : decode cX4_append 6 = .ok (.iload_n 1, 1) := by decide +kernel
theorem dX4_append_7 : decode cX4_append 7 = .ok (.bipush 97, 2) := by decide +kernel
theorem dX4_append_9 : decode cX4_append 9 = .ok (.if_icmp .lt 9, 3) := by decide +kernel
theorem dX4_append_12 : decode cX4_append 12 = .ok (.iload_n 1, 1) := by decide +kernel
theorem dX4_append_13 : decode cX4_append 13 = .ok (.bipush 122, 2) := by decide +kernel
theorem dX4_append_15 : decode cX4_append 15 = .ok (.if_icmp .le 13, 3) := by decide +kernel
theorem dX4_append_18 : decode cX4_append 18 = .ok (.new 72, 3) := by decide +kernel
theorem dX4_append_21 : decode cX4_append 21 = .ok (.dup, 1) := by decide +kernel
theorem dX4_append_22 : decode cX4_append 22 = .ok (.ldc 185, 2) := by decide +kernel
theorem dX4_append_24 : decode cX4_append 24 = .ok (.invokespecial 76, 3) := by decide +kernel
theorem dX4_append_27 : decode cX4_append 27 = .ok (.athrow, 1) := by decide +kernel
theorem dX4_append_28 : decode cX4_append 28 = .ok (.aload_n 0, 1) := by decide +kernel
theorem dX4_append_29 : decode cX4_append 29 = .ok (.getfield 21, 3) := by decide +kernel
theorem dX4_append_32 : decode cX4_append 32 = .ok (.invokevirtual 64, 3) := by decide +kernel
theorem dX4_append_35 : decode cX4_append 35 = .ok (.bipush 16, 2) := by decide +kernel
theorem dX4_append_37 : decode cX4_append 37 = .ok (.if_icmp .lt 13, 3) := by decide +kernel
theorem dX4_append_40 : decode cX4_append 40 = .ok (.new 79, 3) := by decide +kernel
theorem dX4_append_43 : decode cX4_append 43 = .ok (.dup, 1) := by decide +kernel
theorem dX4_append_44 : decode cX4_append 44 = .ok (.ldc 187, 2) := by decide +kernel
theorem dX4_append_46 : decode cX4_append 46 = .ok (.invokespecial 83, 3) := by decide +kernel
theorem dX4_append_49 : decode cX4_append 49 = .ok (.athrow, 1) := by decide +kernel
theorem dX4_append_50 : decode cX4_append 50 = .ok (.aload_n 0, 1) := by decide +kernel
theorem dX4_append_51 : decode cX4_append 51 = .ok (.getfield 21, 3) := by decide +kernel
theorem dX4_append_54 : decode cX4_append 54 = .ok (.iload_n 1, 1) := by decide +kernel
theorem dX4_append_55 : decode cX4_append 55 = .ok (.bipush 32, 2) := by decide +kernel
theorem dX4_append_57 : decode cX4_append 57 = .ok (.if_icmp .ne 8, 3) := by decide +kernel
theorem dX4_append_60 : decode cX4_append 60 = .ok (.bipush 26, 2) := by decide +kernel
theorem dX4_append_62 : decode cX4_append 62 = .ok (.goto 7, 3) := by decide +kernel
theorem dX4_append_65 : decode cX4_append 65 = .ok (.iload_n 1, 1) := by decide +kernel
theorem dX4_append_66 : decode cX4_append 66 = .ok (.bipush 97, 2) := by decide +kernel
theorem dX4_append_68 : decode cX4_append 68 = .ok (.isub, 1) := by decide +kernel
theorem dX4_append_69 : decode cX4_append 69 = .ok (.invokevirtual 189, 3) := by decide +kernel
theorem dX4_append_72 : decode cX4_append 72 = .ok (.aload_n 0, 1) := by decide +kernel
theorem dX4_append_73 : decode cX4_append 73 = .ok (.getfield 21, 3) := by decide +kernel
theorem dX4_append_76 : decode cX4_append 76 = .ok (.invokevirtual 64, 3) := by decide +kernel
theorem dX4_append_79 : decode cX4_append 79 = .ok (.ireturn, 1) := by decide +kernel
theorem dX4_clearText_0 : decode cX4_clearText 0 = .ok (.aload_n 0, 1) := by decide +kernel
theorem dX4_clearText_1 : decode cX4_clearText 1 = .ok (.getfield 21, 3) := by decide +kernel
theorem dX4_clearText_4 : decode cX4_clearText 4 = .ok (.invokevirtual 64, 3) := by decide +kernel
theorem dX4_clearText_7 : decode cX4_clearText 7 = .ok (.istore_n 1, 1) := by decide +kernel
theorem dX4_clearText_8 : decode cX4_clearText 8 = .ok (.aload_n 0, 1) := by decide +kernel
theorem dX4_clearText_9 : decode cX4_clearText 9 = .ok (.getfield 21, 3) := by decide +kernel
theorem dX4_clearText_12 : decode cX4_clearText 12 = .ok (.invokevirtual 192, 3) := by decide +kernel
theorem dX4_clearText_15 : decode cX4_clearText 15 = .ok (.iload_n 1, 1) := by decide +kernel
theorem dX4_clearText_16 : decode cX4_clearText 16 = .ok (.ireturn, 1) := by decide +kernel
theorem dX4_undo_0 : decode cX4_undo 0 = .ok (.aload_n 0, 1) := by decide +kernel
theorem dX4_undo_1 : decode cX4_undo 1 = .ok (.getfield 28, 3) := by decide +kernel
theorem dX4_undo_4 : decode cX4_undo 4 = .ok (.invokevirtual 195, 3) := by decide +kernel
theorem dX4_undo_7 : decode cX4_undo 7 = .ok (.ifCond .ne 13, 3) := by decide +kernel
theorem dX4_undo_10 : decode cX4_undo 10 = .ok (.new 79, 3) := by decide +kernel
theorem dX4_undo_13 : decode cX4_undo 13 = .ok (.dup, 1) := by decide +kernel
theorem dX4_undo_14 : decode cX4_undo 14 = .ok (.ldc 196, 2) := by decide +kernel
theorem dX4_undo_16 : decode cX4_undo 16 = .ok (.invokespecial 83, 3) := by decide +kernel
theorem dX4_undo_19 : decode cX4_undo 19 = .ok (.athrow, 1) := by decide +kernel
theorem dX4_undo_20 : decode cX4_undo 20 = .ok (.aload_n 0, 1) := by decide +kernel
theorem dX4_undo_21 : decode cX4_undo 21 = .ok (.getfield 28, 3) := by decide +kernel
theorem dX4_undo_24 : decode cX4_undo 24 = .ok (.aload_n 0, 1) := by decide +kernel
theorem dX4_undo_25 : decode cX4_undo 25 = .ok (.getfield 10, 3) := by decide +kernel
theorem dX4_undo_28 : decode cX4_undo 28 = .ok (.invokevirtual 198, 3) := by decide +kernel
theorem dX4_undo_31 : decode cX4_undo 31 = .ok (.aload_n 0, 1) := by decide +kernel
theorem dX4_undo_32 : decode cX4_undo 32 = .ok (.getfield 28, 3) := by decide +kernel
theorem dX4_undo_35 : decode cX4_undo 35 = .ok (.invokevirtual 195, 3) := by decide +kernel
theorem dX4_undo_38 : decode cX4_undo 38 = .ok (.ireturn, 1) := by decide +kernel
theorem dX4_digest_0 : decode cX4_digest 0 = .ok (.ldc2_w 201, 3) := by decide +kernel
theorem dX4_digest_3 : decode cX4_digest 3 = .ok (.aload_n 0, 1) := by decide +kernel
theorem dX4_digest_4 : decode cX4_digest 4 = .ok (.getfield 21, 3) := by decide +kernel
theorem dX4_digest_7 : decode cX4_digest 7 = .ok (.invokevirtual 64, 3) := by decide +kernel
theorem dX4_digest_10 : decode cX4_digest 10 = .ok (.i2l, 1) := by decide +kernel
theorem dX4_digest_11 : decode cX4_digest 11 = .ok (.invokestatic 203, 3) := by decide +kernel
theorem dX4_digest_14 : decode cX4_digest 14 = .ok (.lstore_n 1, 1) := by decide +kernel
theorem dX4_digest_15 : decode cX4_digest 15 = .ok (.aload_n 0, 1) := by decide +kernel
theorem dX4_digest_16 : decode cX4_digest 16 = .ok (.getfield 21, 3) := by decide +kernel
theorem dX4_digest_19 : decode cX4_digest 19 = .ok (.lload_n 1, 1) := by decide +kernel
theorem dX4_digest_20 : decode cX4_digest 20 = .ok (.invokevirtual 207, 3) := by decide +kernel
theorem dX4_digest_23 : decode cX4_digest 23 = .ok (.lstore_n 1, 1) := by decide +kernel
theorem dX4_digest_24 : decode cX4_digest 24 = .ok (.iconst 0, 1) := by decide +kernel
theorem dX4_digest_25 : decode cX4_digest 25 = .ok (.istore_n 3, 1) := by decide +kernel
theorem dX4_digest_26 : decode cX4_digest 26 = .ok (.iload_n 3, 1) := by decide +kernel
theorem dX4_digest_27 : decode cX4_digest 27 = .ok (.bipush 11, 2) := by decide +kernel
theorem dX4_digest_29 : decode cX4_digest 29 = .ok (.if_icmp .gt 23, 3) := by decide +kernel
theorem dX4_digest_32 : decode cX4_digest 32 = .ok (.lload_n 1, 1) := by decide +kernel
theorem dX4_digest_33 : decode cX4_digest 33 = .ok (.aload_n 0, 1) := by decide +kernel
theorem dX4_digest_34 : decode cX4_digest 34 = .ok (.getfield 10, 3) := by decide +kernel
theorem dX4_digest_37 : decode cX4_digest 37 = .ok (.iload_n 3, 1) := by decide +kernel
theorem dX4_digest_38 : decode cX4_digest 38 = .ok (.invokevirtual 107, 3) := by decide +kernel
theorem dX4_digest_41 : decode cX4_digest 41 = .ok (.i2l, 1) := by decide +kernel
theorem dX4_digest_42 : decode cX4_digest 42 = .ok (.invokestatic 203, 3) := by decide +kernel
theorem dX4_digest_45 : decode cX4_digest 45 = .ok (.lstore_n 1, 1) := by decide +kernel
theorem dX4_digest_46 : decode cX4_digest 46 = .ok (.iinc 3 1, 3) := by decide +kernel
theorem dX4_digest_49 : decode cX4_digest 49 = .ok (.goto (-23), 3) := by decide +kernel
theorem dX4_digest_52 : decode cX4_digest 52 = .ok (.iconst 0, 1) := by decide +kernel
theorem dX4_digest_53 : decode cX4_digest 53 = .ok (.istore_n 3, 1) := by decide +kernel
theorem dX4_digest_54 : decode cX4_digest 54 = .ok (.iload_n 3, 1) := by decide +kernel
theorem dX4_digest_55 : decode cX4_digest 55 = .ok (.bipush 27, 2) := by decide +kernel
theorem dX4_digest_57 : decode cX4_digest 57 = .ok (.if_icmp .ge 51, 3) := by decide +kernel
theorem dX4_digest_60 : decode cX4_digest 60 = .ok (.iconst 0, 1) := by decide +kernel
theorem dX4_digest_61 : decode cX4_digest 61 = .ok (.istore 4, 2) := by decide +kernel
theorem dX4_digest_63 : decode cX4_digest 63 = .ok (.iload 4, 2) := by decide +kernel
theorem dX4_digest_65 : decode cX4_digest 65 = .ok (.bipush 7, 2) := by decide +kernel
theorem dX4_digest_67 : decode cX4_digest 67 = .ok (.if_icmp .gt 22, 3) := by decide +kernel
theorem dX4_digest_70 : decode cX4_digest 70 = .ok (.lload_n 1, 1) := by decide +kernel
theorem dX4_digest_71 : decode cX4_digest 71 = .ok (.aload_n 0, 1) := by decide +kernel
theorem dX4_digest_72 : decode cX4_digest 72 = .ok (.iload_n 3, 1) := by decide +kernel
theorem dX4_digest_73 : decode cX4_digest 73 = .ok (.iload 4, 2) := by decide +kernel
theorem dX4_digest_75 : decode cX4_digest 75 = .ok (.invokevirtual 97, 3) := by decide +kernel
theorem dX4_digest_78 : decode cX4_digest 78 = .ok (.i2l, 1) := by decide +kernel
theorem dX4_digest_79 : decode cX4_digest 79 = .ok (.invokestatic 203, 3) := by decide +kernel
theorem dX4_digest_82 : decode cX4_digest 82 = .ok (.lstore_n 1, 1) := by decide +kernel
theorem dX4_digest_83 : decode cX4_digest 83 = .ok (.iinc 4 1, 3) := by decide +kernel
theorem dX4_digest_86 : decode cX4_digest 86 = .ok (.goto (-23), 3) := by decide +kernel
theorem dX4_digest_89 : decode cX4_digest 89 = .ok (.aload_n 0, 1) := by decide +kernel
theorem dX4_digest_90 : decode cX4_digest 90 = .ok (.getfield 10, 3) := by decide +kernel
theorem dX4_digest_93 : decode cX4_digest 93 = .ok (.iload_n 3, 1) := by decide +kernel
theorem dX4_digest_94 : decode cX4_digest 94 = .ok (.invokevirtual 60, 3) := by decide +kernel
theorem dX4_digest_97 : decode cX4_digest 97 = .ok (.lload_n 1, 1) := by decide +kernel
theorem dX4_digest_98 : decode cX4_digest 98 = .ok (.invokevirtual 207, 3) := by decide +kernel
theorem dX4_digest_101 : decode cX4_digest 101 = .ok (.lstore_n 1, 1) := by decide +kernel
theorem dX4_digest_102 : decode cX4_digest 102 = .ok (.iinc 3 1, 3) := by decide +kernel
theorem dX4_digest_105 : decode cX4_digest 105 = .ok (.goto (-51), 3) := by decide +kernel
theorem dX4_digest_108 : decode cX4_digest 108 = .ok (.iconst 0, 1) := by decide +kernel
theorem dX4_digest_109 : decode cX4_digest 109 = .ok (.istore_n 3, 1) := by decide +kernel
theorem dX4_digest_110 : decode cX4_digest 110 = .ok (.iload_n 3, 1) := by decide +kernel
theorem dX4_digest_111 : decode cX4_digest 111 = .ok (.iconst 3, 1) := by decide +kernel
theorem dX4_digest_112 : decode cX4_digest 112 = .ok (.if_icmp .ge 50, 3) := by decide +kernel
theorem dX4_digest_115 : decode cX4_digest 115 = .ok (.iconst 0, 1) := by decide +kernel
theorem dX4_digest_116 : decode cX4_digest 116 = .ok (.istore 4, 2) := by decide +kernel
theorem dX4_digest_118 : decode cX4_digest 118 = .ok (.iload 4, 2) := by decide +kernel
theorem dX4_digest_120 : decode cX4_digest 120 = .ok (.iconst 4, 1) := by decide +kernel
theorem dX4_digest_121 : decode cX4_digest 121 = .ok (.if_icmp .gt 22, 3) := by decide +kernel
theorem dX4_digest_124 : decode cX4_digest 124 = .ok (.lload_n 1, 1) := by decide +kernel
theorem dX4_digest_125 : decode cX4_digest 125 = .ok (.aload_n 0, 1) := by decide +kernel
theorem dX4_digest_126 : decode cX4_digest 126 = .ok (.iload_n 3, 1) := by decide +kernel
theorem dX4_digest_127 : decode cX4_digest 127 = .ok (.iload 4, 2) := by decide +kernel
theorem dX4_digest_129 : decode cX4_digest 129 = .ok (.invokevirtual 147, 3) := by decide +kernel
theorem dX4_digest_132 : decode cX4_digest 132 = .ok (.i2l, 1) := by decide +kernel
theorem dX4_digest_133 : decode cX4_digest 133 = .ok (.invokestatic 203, 3) := by decide +kernel
theorem dX4_digest_136 : decode cX4_digest 136 = .ok (.lstore_n 1, 1) := by decide +kernel
theorem dX4_digest_137 : decode cX4_digest 137 = .ok (.iinc 4 1, 3) := by decide +kernel
theorem dX4_digest_140 : decode cX4_digest 140 = .ok (.goto (-22), 3) := by decide +kernel
theorem dX4_digest_143 : decode cX4_digest 143 = .ok (.aload_n 0, 1) := by decide +kernel
theorem dX4_digest_144 : decode cX4_digest 144 = .ok (.getfield 10, 3) := by decide +kernel
theorem dX4_digest_147 : decode cX4_digest 147 = .ok (.iload_n 3, 1) := by decide +kernel
theorem dX4_digest_148 : decode cX4_digest 148 = .ok (.invokevirtual 113, 3) := by decide +kernel
theorem dX4_digest_151 : decode cX4_digest 151 = .ok (.lload_n 1, 1) := by decide +kernel
theorem dX4_digest_152 : decode cX4_digest 152 = .ok (.invokevirtual 211, 3) := by decide +kernel
theorem dX4_digest_155 : decode cX4_digest 155 = .ok (.lstore_n 1, 1) := by decide +kernel
theorem dX4_digest_156 : decode cX4_digest 156 = .ok (.iinc 3 1, 3) := by decide +kernel
theorem dX4_digest_159 : decode cX4_digest 159 = .ok (.goto (-49), 3) := by decide +kernel
theorem dX4_digest_162 : decode cX4_digest 162 = .ok (.aload_n 0, 1) := by decide +kernel
theorem dX4_digest_163 : decode cX4_digest 163 = .ok (.getfield 10, 3) := by decide +kernel
theorem dX4_digest_166 : decode cX4_digest 166 = .ok (.getfield 141, 3) := by decide +kernel
theorem dX4_digest_169 : decode cX4_digest 169 = .ok (.lload_n 1, 1) := by decide +kernel
theorem dX4_digest_170 : decode cX4_digest 170 = .ok (.invokevirtual 207, 3) := by decide +kernel
theorem dX4_digest_173 : decode cX4_digest 173 = .ok (.lstore_n 1, 1) := by decide +kernel
theorem dX4_digest_174 : decode cX4_digest 174 = .ok (.lload_n 1, 1) := by decide +kernel
theorem dX4_digest_175 : decode cX4_digest 175 = .ok (.aload_n 0, 1) := by decide +kernel
theorem dX4_digest_176 : decode cX4_digest 176 = .ok (.getfield 28, 3) := by decide +kernel
theorem dX4_digest_179 : decode cX4_digest 179 = .ok (.invokevirtual 195, 3) := by decide +kernel
theorem dX4_digest_182 : decode cX4_digest 182 = .ok (.i2l, 1) := by decide +kernel
theorem dX4_digest_183 : decode cX4_digest 183 = .ok (.invokestatic 203, 3) := by decide +kernel
theorem dX4_digest_186 : decode cX4_digest 186 = .ok (.lreturn, 1) := by decide +kernel
theorem dX4_aboutLetter_0 : decode cX4_aboutLetter 0 = .ok (.aload_n 0, 1) := by decide +kernel
theorem dX4_aboutLetter_1 : decode cX4_aboutLetter 1 = .ok (.getfield 10, 3) := by decide +kernel
theorem dX4_aboutLetter_4 : decode cX4_aboutLetter 4 = .ok (.iload_n 1, 1) := by decide +kernel
theorem dX4_aboutLetter_5 : decode cX4_aboutLetter 5 = .ok (.invokevirtual 60, 3) := by decide +kernel
theorem dX4_aboutLetter_8 : decode cX4_aboutLetter 8 = .ok (.astore_n 3, 1) := by decide +kernel
theorem dX4_aboutLetter_9 : decode cX4_aboutLetter 9 = .ok (.iload_n 2, 1) := by decide +kernel
theorem dX4_aboutLetter_10 : decode cX4_aboutLetter 10 = .ok (.tableswitch 104 0 6 #[42, 47, 58, 67, 76, 88, 93], 42) := by decide +kernel
theorem dX4_aboutLetter_52 : decode cX4_aboutLetter 52 = .ok (.aload_n 3, 1) := by decide +kernel
theorem dX4_aboutLetter_53 : decode cX4_aboutLetter 53 = .ok (.invokevirtual 64, 3) := by decide +kernel
theorem dX4_aboutLetter_56 : decode cX4_aboutLetter 56 = .ok (.ireturn, 1) := by decide +kernel
theorem dX4_aboutLetter_57 : decode cX4_aboutLetter 57 = .ok (.aload_n 3, 1) := by decide +kernel
theorem dX4_aboutLetter_58 : decode cX4_aboutLetter 58 = .ok (.invokevirtual 64, 3) := by decide +kernel
theorem dX4_aboutLetter_61 : decode cX4_aboutLetter 61 = .ok (.aload_n 3, 1) := by decide +kernel
theorem dX4_aboutLetter_62 : decode cX4_aboutLetter 62 = .ok (.iload_n 1, 1) := by decide +kernel
theorem dX4_aboutLetter_63 : decode cX4_aboutLetter 63 = .ok (.invokevirtual 212, 3) := by decide +kernel
theorem dX4_aboutLetter_66 : decode cX4_aboutLetter 66 = .ok (.isub, 1) := by decide +kernel
theorem dX4_aboutLetter_67 : decode cX4_aboutLetter 67 = .ok (.ireturn, 1) := by decide +kernel
theorem dX4_aboutLetter_68 : decode cX4_aboutLetter 68 = .ok (.aload_n 0, 1) := by decide +kernel
theorem dX4_aboutLetter_69 : decode cX4_aboutLetter 69 = .ok (.getfield 10, 3) := by decide +kernel
theorem dX4_aboutLetter_72 : decode cX4_aboutLetter 72 = .ok (.iload_n 1, 1) := by decide +kernel
theorem dX4_aboutLetter_73 : decode cX4_aboutLetter 73 = .ok (.invokevirtual 215, 3) := by decide +kernel
theorem dX4_aboutLetter_76 : decode cX4_aboutLetter 76 = .ok (.ireturn, 1) := by decide +kernel
theorem dX4_aboutLetter_77 : decode cX4_aboutLetter 77 = .ok (.aload_n 0, 1) := by decide +kernel
theorem dX4_aboutLetter_78 : decode cX4_aboutLetter 78 = .ok (.getfield 10, 3) := by decide +kernel
theorem dX4_aboutLetter_81 : decode cX4_aboutLetter 81 = .ok (.iload_n 1, 1) := by decide +kernel
theorem dX4_aboutLetter_82 : decode cX4_aboutLetter 82 = .ok (.invokevirtual 218, 3) := by decide +kernel
theorem dX4_aboutLetter_85 : decode cX4_aboutLetter 85 = .ok (.ireturn, 1) := by decide +kernel
theorem dX4_aboutLetter_86 : decode cX4_aboutLetter 86 = .ok (.aload_n 0, 1) := by decide +kernel
theorem dX4_aboutLetter_87 : decode cX4_aboutLetter 87 = .ok (.getfield 10, 3) := by decide +kernel
theorem dX4_aboutLetter_90 : decode cX4_aboutLetter 90 = .ok (.getfield 141, 3) := by decide +kernel
theorem dX4_aboutLetter_93 : decode cX4_aboutLetter 93 = .ok (.iload_n 1, 1) := by decide +kernel
theorem dX4_aboutLetter_94 : decode cX4_aboutLetter 94 = .ok (.invokevirtual 212, 3) := by decide +kernel
theorem dX4_aboutLetter_97 : decode cX4_aboutLetter 97 = .ok (.ireturn, 1) := by decide +kernel
theorem dX4_aboutLetter_98 : decode cX4_aboutLetter 98 = .ok (.iload_n 1, 1) := by decide +kernel
theorem dX4_aboutLetter_99 : decode cX4_aboutLetter 99 = .ok (.invokestatic 221, 3) := by decide +kernel
theorem dX4_aboutLetter_102 : decode cX4_aboutLetter 102 = .ok (.ireturn, 1) := by decide +kernel
theorem dX4_aboutLetter_103 : decode cX4_aboutLetter 103 = .ok (.aload_n 3, 1) := by decide +kernel
theorem dX4_aboutLetter_104 : decode cX4_aboutLetter 104 = .ok (.aload_n 3, 1) := by decide +kernel
theorem dX4_aboutLetter_105 : decode cX4_aboutLetter 105 = .ok (.invokevirtual 64, 3) := by decide +kernel
theorem dX4_aboutLetter_108 : decode cX4_aboutLetter 108 = .ok (.iconst 1, 1) := by decide +kernel
theorem dX4_aboutLetter_109 : decode cX4_aboutLetter 109 = .ok (.isub, 1) := by decide +kernel
theorem dX4_aboutLetter_110 : decode cX4_aboutLetter 110 = .ok (.invokevirtual 104, 3) := by decide +kernel
theorem dX4_aboutLetter_113 : decode cX4_aboutLetter 113 = .ok (.ireturn, 1) := by decide +kernel
theorem dX4_aboutLetter_114 : decode cX4_aboutLetter 114 = .ok (.aload_n 0, 1) := by decide +kernel
theorem dX4_aboutLetter_115 : decode cX4_aboutLetter 115 = .ok (.iload_n 1, 1) := by decide +kernel
theorem dX4_aboutLetter_116 : decode cX4_aboutLetter 116 = .ok (.invokevirtual 68, 3) := by decide +kernel
theorem dX4_aboutLetter_119 : decode cX4_aboutLetter 119 = .ok (.ireturn, 1) := by decide +kernel
theorem dX4_aboutForme_0 : decode cX4_aboutForme 0 = .ok (.aload_n 0, 1) := by decide +kernel
theorem dX4_aboutForme_1 : decode cX4_aboutForme 1 = .ok (.getfield 10, 3) := by decide +kernel
theorem dX4_aboutForme_4 : decode cX4_aboutForme 4 = .ok (.iload_n 1, 1) := by decide +kernel
theorem dX4_aboutForme_5 : decode cX4_aboutForme 5 = .ok (.invokevirtual 113, 3) := by decide +kernel
theorem dX4_aboutForme_8 : decode cX4_aboutForme 8 = .ok (.astore_n 3, 1) := by decide +kernel
theorem dX4_aboutForme_9 : decode cX4_aboutForme 9 = .ok (.iload_n 2, 1) := by decide +kernel
theorem dX4_aboutForme_10 : decode cX4_aboutForme 10 = .ok (.tableswitch 50 0 3 #[30, 35, 40, 45], 30) := by decide +kernel
theorem dX4_aboutForme_40 : decode cX4_aboutForme 40 = .ok (.aload_n 3, 1) := by decide +kernel
theorem dX4_aboutForme_41 : decode cX4_aboutForme 41 = .ok (.invokevirtual 117, 3) := by decide +kernel
theorem dX4_aboutForme_44 : decode cX4_aboutForme 44 = .ok (.ireturn, 1) := by decide +kernel
theorem dX4_aboutForme_45 : decode cX4_aboutForme 45 = .ok (.aload_n 3, 1) := by decide +kernel
theorem dX4_aboutForme_46 : decode cX4_aboutForme 46 = .ok (.invokevirtual 224, 3) := by decide +kernel
theorem dX4_aboutForme_49 : decode cX4_aboutForme 49 = .ok (.ireturn, 1) := by decide +kernel
theorem dX4_aboutForme_50 : decode cX4_aboutForme 50 = .ok (.aload_n 3, 1) := by decide +kernel
theorem dX4_aboutForme_51 : decode cX4_aboutForme 51 = .ok (.invokevirtual 167, 3) := by decide +kernel
theorem dX4_aboutForme_54 : decode cX4_aboutForme 54 = .ok (.ireturn, 1) := by decide +kernel
theorem dX4_aboutForme_55 : decode cX4_aboutForme 55 = .ok (.aload_n 3, 1) := by decide +kernel
theorem dX4_aboutForme_56 : decode cX4_aboutForme 56 = .ok (.invokevirtual 170, 3) := by decide +kernel
theorem dX4_aboutForme_59 : decode cX4_aboutForme 59 = .ok (.ireturn, 1) := by decide +kernel
theorem dX4_aboutForme_60 : decode cX4_aboutForme 60 = .ok (.aload_n 0, 1) := by decide +kernel
theorem dX4_aboutForme_61 : decode cX4_aboutForme 61 = .ok (.getfield 32, 3) := by decide +kernel
theorem dX4_aboutForme_64 : decode cX4_aboutForme 64 = .ok (.aload_n 0, 1) := by decide +kernel
theorem dX4_aboutForme_65 : decode cX4_aboutForme 65 = .ok (.getfield 10, 3) := by decide +kernel
theorem dX4_aboutForme_68 : decode cX4_aboutForme 68 = .ok (.invokevirtual 173, 3) := by decide +kernel
theorem dX4_aboutForme_71 : decode cX4_aboutForme 71 = .ok (.aload_n 0, 1) := by decide +kernel
theorem dX4_aboutForme_72 : decode cX4_aboutForme 72 = .ok (.getfield 32, 3) := by decide +kernel
theorem dX4_aboutForme_75 : decode cX4_aboutForme 75 = .ok (.aload_n 0, 1) := by decide +kernel
theorem dX4_aboutForme_76 : decode cX4_aboutForme 76 = .ok (.getfield 32, 3) := by decide +kernel
theorem dX4_aboutForme_79 : decode cX4_aboutForme 79 = .ok (.iload_n 1, 1) := by decide +kernel
theorem dX4_aboutForme_80 : decode cX4_aboutForme 80 = .ok (.invokevirtual 113, 3) := by decide +kernel
theorem dX4_aboutForme_83 : decode cX4_aboutForme 83 = .ok (.invokevirtual 130, 3) := by decide +kernel
theorem dX4_aboutForme_86 : decode cX4_aboutForme 86 = .ok (.ireturn, 1) := by decide +kernel
theorem dX4_lackingOf_0 : decode cX4_lackingOf 0 = .ok (.iconst 0, 1) := by decide +kernel
theorem dX4_lackingOf_1 : decode cX4_lackingOf 1 = .ok (.aload_n 0, 1) := by decide +kernel
theorem dX4_lackingOf_2 : decode cX4_lackingOf 2 = .ok (.getfield 21, 3) := by decide +kernel
theorem dX4_lackingOf_5 : decode cX4_lackingOf 5 = .ok (.iload_n 1, 1) := by decide +kernel
theorem dX4_lackingOf_6 : decode cX4_lackingOf 6 = .ok (.invokevirtual 212, 3) := by decide +kernel
theorem dX4_lackingOf_9 : decode cX4_lackingOf 9 = .ok (.aload_n 0, 1) := by decide +kernel
theorem dX4_lackingOf_10 : decode cX4_lackingOf 10 = .ok (.getfield 10, 3) := by decide +kernel
theorem dX4_lackingOf_13 : decode cX4_lackingOf 13 = .ok (.iload_n 1, 1) := by decide +kernel
theorem dX4_lackingOf_14 : decode cX4_lackingOf 14 = .ok (.invokevirtual 60, 3) := by decide +kernel
theorem dX4_lackingOf_17 : decode cX4_lackingOf 17 = .ok (.iload_n 1, 1) := by decide +kernel
theorem dX4_lackingOf_18 : decode cX4_lackingOf 18 = .ok (.invokevirtual 212, 3) := by decide +kernel
theorem dX4_lackingOf_21 : decode cX4_lackingOf 21 = .ok (.isub, 1) := by decide +kernel
theorem dX4_lackingOf_22 : decode cX4_lackingOf 22 = .ok (.invokestatic 225, 3) := by decide +kernel
theorem dX4_lackingOf_25 : decode cX4_lackingOf 25 = .ok (.ireturn, 1) := by decide +kernel
theorem dX4_settingGoes_0 : decode cX4_settingGoes 0 = .ok (.aload_n 0, 1) := by decide +kernel
theorem dX4_settingGoes_1 : decode cX4_settingGoes 1 = .ok (.getfield 32, 3) := by decide +kernel
theorem dX4_settingGoes_4 : decode cX4_settingGoes 4 = .ok (.aload_n 0, 1) := by decide +kernel
theorem dX4_settingGoes_5 : decode cX4_settingGoes 5 = .ok (.getfield 10, 3) := by decide +kernel
theorem dX4_settingGoes_8 : decode cX4_settingGoes 8 = .ok (.invokevirtual 173, 3) := by decide +kernel
theorem dX4_settingGoes_11 : decode cX4_settingGoes 11 = .ok (.aload_n 0, 1) := by decide +kernel
theorem dX4_settingGoes_12 : decode cX4_settingGoes 12 = .ok (.invokevirtual 176, 3) := by decide +kernel
theorem dX4_settingGoes_15 : decode cX4_settingGoes 15 = .ok (.ireturn, 1) := by decide +kernel
theorem dX4_trialGoes_0 : decode cX4_trialGoes 0 = .ok (.aload_n 0, 1) := by decide +kernel
theorem dX4_trialGoes_1 : decode cX4_trialGoes 1 = .ok (.getfield 38, 3) := by decide +kernel
theorem dX4_trialGoes_4 : decode cX4_trialGoes 4 = .ok (.invokevirtual 230, 3) := by decide +kernel
theorem dX4_trialGoes_7 : decode cX4_trialGoes 7 = .ok (.aload_n 0, 1) := by decide +kernel
theorem dX4_trialGoes_8 : decode cX4_trialGoes 8 = .ok (.getfield 21, 3) := by decide +kernel
theorem dX4_trialGoes_11 : decode cX4_trialGoes 11 = .ok (.invokevirtual 64, 3) := by decide +kernel
theorem dX4_trialGoes_14 : decode cX4_trialGoes 14 = .ok (.ifCond .le 25, 3) := by decide +kernel
theorem dX4_trialGoes_17 : decode cX4_trialGoes 17 = .ok (.aload_n 0, 1) := by decide +kernel
theorem dX4_trialGoes_18 : decode cX4_trialGoes 18 = .ok (.getfield 32, 3) := by decide +kernel
theorem dX4_trialGoes_21 : decode cX4_trialGoes 21 = .ok (.aload_n 0, 1) := by decide +kernel
theorem dX4_trialGoes_22 : decode cX4_trialGoes 22 = .ok (.getfield 21, 3) := by decide +kernel
theorem dX4_trialGoes_25 : decode cX4_trialGoes 25 = .ok (.aload_n 0, 1) := by decide +kernel
theorem dX4_trialGoes_26 : decode cX4_trialGoes 26 = .ok (.getfield 38, 3) := by decide +kernel
theorem dX4_trialGoes_29 : decode cX4_trialGoes 29 = .ok (.invokevirtual 126, 3) := by decide +kernel
theorem dX4_trialGoes_32 : decode cX4_trialGoes 32 = .ok (.ifCond .eq 7, 3) := by decide +kernel
theorem dX4_trialGoes_35 : decode cX4_trialGoes 35 = .ok (.iconst 1, 1) := by decide +kernel
theorem dX4_trialGoes_36 : decode cX4_trialGoes 36 = .ok (.goto 4, 3) := by decide +kernel
theorem dX4_trialGoes_39 : decode cX4_trialGoes 39 = .ok (.iconst 0, 1) := by decide +kernel
theorem dX4_trialGoes_40 : decode cX4_trialGoes 40 = .ok (.ireturn, 1) := by decide +kernel
theorem dX4_requireLetter_0 : decode cX4_requireLetter 0 = .ok (.iload_n 0, 1) := by decide +kernel
theorem dX4_requireLetter_1 : decode cX4_requireLetter 1 = .ok (.bipush 27, 2) := by decide +kernel
theorem dX4_requireLetter_3 : decode cX4_requireLetter 3 = .ok (.invokestatic 101, 3) := by decide +kernel
theorem dX4_requireLetter_6 : decode cX4_requireLetter 6 = .ok (.return_, 1) := by decide +kernel
theorem dX4_requireForme_0 : decode cX4_requireForme 0 = .ok (.iload_n 0, 1) := by decide +kernel
theorem dX4_requireForme_1 : decode cX4_requireForme 1 = .ok (.iconst 3, 1) := by decide +kernel
theorem dX4_requireForme_2 : decode cX4_requireForme 2 = .ok (.invokestatic 101, 3) := by decide +kernel
theorem dX4_requireForme_5 : decode cX4_requireForme 5 = .ok (.return_, 1) := by decide +kernel
theorem dX4_requireIndex_0 : decode cX4_requireIndex 0 = .ok (.iload_n 0, 1) := by decide +kernel
theorem dX4_requireIndex_1 : decode cX4_requireIndex 1 = .ok (.ifCond .lt 8, 3) := by decide +kernel
theorem dX4_requireIndex_4 : decode cX4_requireIndex 4 = .ok (.iload_n 0, 1) := by decide +kernel
theorem dX4_requireIndex_5 : decode cX4_requireIndex 5 = .ok (.iload_n 1, 1) := by decide +kernel
theorem dX4_requireIndex_6 : decode cX4_requireIndex 6 = .ok (.if_icmp .lt 13, 3) := by decide +kernel
theorem dX4_requireIndex_9 : decode cX4_requireIndex 9 = .ok (.new 159, 3) := by decide +kernel
theorem dX4_requireIndex_12 : decode cX4_requireIndex 12 = .ok (.dup, 1) := by decide +kernel
theorem dX4_requireIndex_13 : decode cX4_requireIndex 13 = .ok (.ldc 231, 2) := by decide +kernel
theorem dX4_requireIndex_15 : decode cX4_requireIndex 15 = .ok (.invokespecial 163, 3) := by decide +kernel
theorem dX4_requireIndex_18 : decode cX4_requireIndex 18 = .ok (.athrow, 1) := by decide +kernel
theorem dX4_requireIndex_19 : decode cX4_requireIndex 19 = .ok (.return_, 1) := by decide +kernel
theorem dX4_requireRange_0 : decode cX4_requireRange 0 = .ok (.iload_n 0, 1) := by decide +kernel
theorem dX4_requireRange_1 : decode cX4_requireRange 1 = .ok (.iload_n 1, 1) := by decide +kernel
theorem dX4_requireRange_2 : decode cX4_requireRange 2 = .ok (.if_icmp .lt 8, 3) := by decide +kernel
theorem dX4_requireRange_5 : decode cX4_requireRange 5 = .ok (.iload_n 0, 1) := by decide +kernel
theorem dX4_requireRange_6 : decode cX4_requireRange 6 = .ok (.iload_n 2, 1) := by decide +kernel
theorem dX4_requireRange_7 : decode cX4_requireRange 7 = .ok (.if_icmp .le 13, 3) := by decide +kernel
theorem dX4_requireRange_10 : decode cX4_requireRange 10 = .ok (.new 72, 3) := by decide +kernel
theorem dX4_requireRange_13 : decode cX4_requireRange 13 = .ok (.dup, 1) := by decide +kernel
theorem dX4_requireRange_14 : decode cX4_requireRange 14 = .ok (.ldc 233, 2) := by decide +kernel
theorem dX4_requireRange_16 : decode cX4_requireRange 16 = .ok (.invokespecial 76, 3) := by decide +kernel
theorem dX4_requireRange_19 : decode cX4_requireRange 19 = .ok (.athrow, 1) := by decide +kernel
theorem dX4_requireRange_20 : decode cX4_requireRange 20 = .ok (.return_, 1) := by decide +kernel
theorem dX4_requireRoomFor_0 : decode cX4_requireRoomFor 0 = .ok (.aload_n 0, 1) := by decide +kernel
theorem dX4_requireRoomFor_1 : decode cX4_requireRoomFor 1 = .ok (.getfield 10, 3) := by decide +kernel
theorem dX4_requireRoomFor_4 : decode cX4_requireRoomFor 4 = .ok (.invokevirtual 235, 3) := by decide +kernel
theorem dX4_requireRoomFor_7 : decode cX4_requireRoomFor 7 = .ok (.iload_n 1, 1) := by decide +kernel
theorem dX4_requireRoomFor_8 : decode cX4_requireRoomFor 8 = .ok (.iadd, 1) := by decide +kernel
theorem dX4_requireRoomFor_9 : decode cX4_requireRoomFor 9 = .ok (.sipush 250, 3) := by decide +kernel
theorem dX4_requireRoomFor_12 : decode cX4_requireRoomFor 12 = .ok (.if_icmp .le 13, 3) := by decide +kernel
theorem dX4_requireRoomFor_15 : decode cX4_requireRoomFor 15 = .ok (.new 79, 3) := by decide +kernel
theorem dX4_requireRoomFor_18 : decode cX4_requireRoomFor 18 = .ok (.dup, 1) := by decide +kernel
theorem dX4_requireRoomFor_19 : decode cX4_requireRoomFor 19 = .ok (.ldc 238, 2) := by decide +kernel
theorem dX4_requireRoomFor_21 : decode cX4_requireRoomFor 21 = .ok (.invokespecial 83, 3) := by decide +kernel
theorem dX4_requireRoomFor_24 : decode cX4_requireRoomFor 24 = .ok (.athrow, 1) := by decide +kernel
theorem dX4_requireRoomFor_25 : decode cX4_requireRoomFor 25 = .ok (.return_, 1) := by decide +kernel
theorem dX4_widthOf_0 : decode cX4_widthOf 0 = .ok (.iload_n 0, 1) := by decide +kernel
theorem dX4_widthOf_1 : decode cX4_widthOf 1 = .ok (.ifCond .lt 19, 3) := by decide +kernel
theorem dX4_widthOf_4 : decode cX4_widthOf 4 = .ok (.iload_n 0, 1) := by decide +kernel
theorem dX4_widthOf_5 : decode cX4_widthOf 5 = .ok (.getstatic 240, 3) := by decide +kernel
theorem dX4_widthOf_8 : decode cX4_widthOf 8 = .ok (.arraylength, 1) := by decide +kernel
theorem dX4_widthOf_9 : decode cX4_widthOf 9 = .ok (.if_icmp .ge 11, 3) := by decide +kernel
theorem dX4_widthOf_12 : decode cX4_widthOf 12 = .ok (.getstatic 240, 3) := by decide +kernel
theorem dX4_widthOf_15 : decode cX4_widthOf 15 = .ok (.iload_n 0, 1) := by decide +kernel
theorem dX4_widthOf_16 : decode cX4_widthOf 16 = .ok (.iaload, 1) := by decide +kernel
theorem dX4_widthOf_17 : decode cX4_widthOf 17 = .ok (.goto 4, 3) := by decide +kernel
theorem dX4_widthOf_20 : decode cX4_widthOf 20 = .ok (.iconst (-1), 1) := by decide +kernel
theorem dX4_widthOf_21 : decode cX4_widthOf 21 = .ok (.ireturn, 1) := by decide +kernel
theorem dX4_mixed_0 : decode cX4_mixed 0 = .ok (.ldc2_w 244, 3) := by decide +kernel
theorem dX4_mixed_3 : decode cX4_mixed 3 = .ok (.lload_n 0, 1) := by decide +kernel
theorem dX4_mixed_4 : decode cX4_mixed 4 = .ok (.lmul, 1) := by decide +kernel
theorem dX4_mixed_5 : decode cX4_mixed 5 = .ok (.lload_n 2, 1) := by decide +kernel
theorem dX4_mixed_6 : decode cX4_mixed 6 = .ok (.ladd, 1) := by decide +kernel
theorem dX4_mixed_7 : decode cX4_mixed 7 = .ok (.lreturn, 1) := by decide +kernel
theorem dX5_init_0 : decode cX5_init 0 = .ok (.aload_n 0, 1) := by decide +kernel
theorem dX5_init_1 : decode cX5_init 1 = .ok (.invokespecial 1, 3) := by decide +kernel
theorem dX5_init_4 : decode cX5_init 4 = .ok (.aload_n 0, 1) := by decide +kernel
theorem dX5_init_5 : decode cX5_init 5 = .ok (.sipush 1542, 3) := by decide +kernel
theorem dX5_init_8 : decode cX5_init 8 = .ok (.newarray .int, 2) := by decide +kernel
theorem dX5_init_10 : decode cX5_init 10 = .ok (.putfield 7, 3) := by decide +kernel
theorem dX5_init_13 : decode cX5_init 13 = .ok (.aload_n 0, 1) := by decide +kernel
theorem dX5_init_14 : decode cX5_init 14 = .ok (.sipush 6168, 3) := by decide +kernel
theorem dX5_init_17 : decode cX5_init 17 = .ok (.newarray .int, 2) := by decide +kernel
theorem dX5_init_19 : decode cX5_init 19 = .ok (.putfield 13, 3) := by decide +kernel
theorem dX5_init_22 : decode cX5_init 22 = .ok (.aload_n 0, 1) := by decide +kernel
theorem dX5_init_23 : decode cX5_init 23 = .ok (.sipush 1542, 3) := by decide +kernel
theorem dX5_init_26 : decode cX5_init 26 = .ok (.newarray .int, 2) := by decide +kernel
theorem dX5_init_28 : decode cX5_init 28 = .ok (.putfield 16, 3) := by decide +kernel
theorem dX5_init_31 : decode cX5_init 31 = .ok (.aload_n 0, 1) := by decide +kernel
theorem dX5_init_32 : decode cX5_init 32 = .ok (.bipush 16, 2) := by decide +kernel
theorem dX5_init_34 : decode cX5_init 34 = .ok (.newarray .int, 2) := by decide +kernel
theorem dX5_init_36 : decode cX5_init 36 = .ok (.putfield 19, 3) := by decide +kernel
theorem dX5_init_39 : decode cX5_init 39 = .ok (.aload_n 0, 1) := by decide +kernel
theorem dX5_init_40 : decode cX5_init 40 = .ok (.sipush 250, 3) := by decide +kernel
theorem dX5_init_43 : decode cX5_init 43 = .ok (.newarray .int, 2) := by decide +kernel
theorem dX5_init_45 : decode cX5_init 45 = .ok (.putfield 22, 3) := by decide +kernel
theorem dX5_init_48 : decode cX5_init 48 = .ok (.aload_n 0, 1) := by decide +kernel
theorem dX5_init_49 : decode cX5_init 49 = .ok (.bipush 16, 2) := by decide +kernel
theorem dX5_init_51 : decode cX5_init 51 = .ok (.newarray .int, 2) := by decide +kernel
theorem dX5_init_53 : decode cX5_init 53 = .ok (.putfield 25, 3) := by decide +kernel
theorem dX5_init_56 : decode cX5_init 56 = .ok (.aload_n 0, 1) := by decide +kernel
theorem dX5_init_57 : decode cX5_init 57 = .ok (.bipush 16, 2) := by decide +kernel
theorem dX5_init_59 : decode cX5_init 59 = .ok (.newarray .int, 2) := by decide +kernel
theorem dX5_init_61 : decode cX5_init 61 = .ok (.putfield 28, 3) := by decide +kernel
theorem dX5_init_64 : decode cX5_init 64 = .ok (.iconst 0, 1) := by decide +kernel
theorem dX5_init_65 : decode cX5_init 65 = .ok (.istore_n 1, 1) := by decide +kernel
theorem dX5_init_66 : decode cX5_init 66 = .ok (.iload_n 1, 1) := by decide +kernel
theorem dX5_init_67 : decode cX5_init 67 = .ok (.sipush 250, 3) := by decide +kernel
theorem dX5_init_70 : decode cX5_init 70 = .ok (.if_icmp .ge 18, 3) := by decide +kernel
theorem dX5_init_73 : decode cX5_init 73 = .ok (.aload_n 0, 1) := by decide +kernel
theorem dX5_init_74 : decode cX5_init 74 = .ok (.getfield 7, 3) := by decide +kernel
theorem dX5_init_77 : decode cX5_init 77 = .ok (.iconst 0, 1) := by decide +kernel
theorem dX5_init_78 : decode cX5_init 78 = .ok (.iload_n 1, 1) := by decide +kernel
theorem dX5_init_79 : decode cX5_init 79 = .ok (.iadd, 1) := by decide +kernel
theorem dX5_init_80 : decode cX5_init 80 = .ok (.iconst (-1), 1) := by decide +kernel
theorem dX5_init_81 : decode cX5_init 81 = .ok (.iastore, 1) := by decide +kernel
theorem dX5_init_82 : decode cX5_init 82 = .ok (.iinc 1 1, 3) := by decide +kernel
theorem dX5_init_85 : decode cX5_init 85 = .ok (.goto (-19), 3) := by decide +kernel
theorem dX5_init_88 : decode cX5_init 88 = .ok (.iconst 0, 1) := by decide +kernel
theorem dX5_init_89 : decode cX5_init 89 = .ok (.istore_n 1, 1) := by decide +kernel
theorem dX5_init_90 : decode cX5_init 90 = .ok (.iload_n 1, 1) := by decide +kernel
theorem dX5_init_91 : decode cX5_init 91 = .ok (.bipush 27, 2) := by decide +kernel
theorem dX5_init_93 : decode cX5_init 93 = .ok (.if_icmp .ge 20, 3) := by decide +kernel
theorem dX5_init_96 : decode cX5_init 96 = .ok (.aload_n 0, 1) := by decide +kernel
theorem dX5_init_97 : decode cX5_init 97 = .ok (.getfield 7, 3) := by decide +kernel
theorem dX5_init_100 : decode cX5_init 100 = .ok (.sipush 500, 3) := by decide +kernel
theorem dX5_init_103 : decode cX5_init 103 = .ok (.iload_n 1, 1) := by decide +kernel
theorem dX5_init_104 : decode cX5_init 104 = .ok (.iadd, 1) := by decide +kernel
theorem dX5_init_105 : decode cX5_init 105 = .ok (.iconst (-1), 1) := by decide +kernel
theorem dX5_init_106 : decode cX5_init 106 = .ok (.iastore, 1) := by decide +kernel
theorem dX5_init_107 : decode cX5_init 107 = .ok (.iinc 1 1, 3) := by decide +kernel
theorem dX5_init_110 : decode cX5_init 110 = .ok (.goto (-20), 3) := by decide +kernel
theorem dX5_init_113 : decode cX5_init 113 = .ok (.aload_n 0, 1) := by decide +kernel
theorem dX5_init_114 : decode cX5_init 114 = .ok (.getfield 7, 3) := by decide +kernel
theorem dX5_init_117 : decode cX5_init 117 = .ok (.sipush 1517, 3) := by decide +kernel
theorem dX5_init_120 : decode cX5_init 120 = .ok (.iconst 3, 1) := by decide +kernel
theorem dX5_init_121 : decode cX5_init 121 = .ok (.iastore, 1) := by decide +kernel
theorem dX5_init_122 : decode cX5_init 122 = .ok (.return_, 1) := by decide +kernel
theorem dX5_thrown_0 : decode cX5_thrown 0 = .ok (.aload_n 0, 1) := by decide +kernel
theorem dX5_thrown_1 : decode cX5_thrown 1 = .ok (.getfield 31, 3) := by decide +kernel
theorem dX5_thrown_4 : decode cX5_thrown 4 = .ok (.ireturn, 1) := by decide +kernel
theorem dX5_in_0 : decode cX5_in 0 = .ok (.lload_n 0, 1) := by decide +kernel
theorem dX5_in_1 : decode cX5_in 1 = .ok (.lload_n 2, 1) := by decide +kernel
theorem dX5_in_2 : decode cX5_in 2 = .ok (.lcmp, 1) := by decide +kernel
theorem dX5_in_3 : decode cX5_in 3 = .ok (.ifCond .lt 14, 3) := by decide +kernel
theorem dX5_in_6 : decode cX5_in 6 = .ok (.lload_n 0, 1) := by decide +kernel
theorem dX5_in_7 : decode cX5_in 7 = .ok (.lload 4, 2) := by decide +kernel
theorem dX5_in_9 : decode cX5_in 9 = .ok (.lcmp, 1) := by decide +kernel
theorem dX5_in_10 : decode cX5_in 10 = .ok (.ifCond .gt 7, 3) := by decide +kernel
theorem dX5_in_13 : decode cX5_in 13 = .ok (.iconst 1, 1) := by decide +kernel
theorem dX5_in_14 : decode cX5_in 14 = .ok (.goto 4, 3) := by decide +kernel
theorem dX5_in_17 : decode cX5_in 17 = .ok (.iconst 0, 1) := by decide +kernel
theorem dX5_in_18 : decode cX5_in 18 = .ok (.ireturn, 1) := by decide +kernel
theorem dX5_fine_0 : decode cX5_fine 0 = .ok (.aload_n 0, 1) := by decide +kernel
theorem dX5_fine_1 : decode cX5_fine 1 = .ok (.iconst 0, 1) := by decide +kernel
theorem dX5_fine_2 : decode cX5_fine 2 = .ok (.putfield 31, 3) := by decide +kernel
theorem dX5_fine_5 : decode cX5_fine 5 = .ok (.iload_n 1, 1) := by decide +kernel
theorem dX5_fine_6 : decode cX5_fine 6 = .ok (.ireturn, 1) := by decide +kernel
theorem dX5_throwing_0 : decode cX5_throwing 0 = .ok (.aload_n 0, 1) := by decide +kernel
theorem dX5_throwing_1 : decode cX5_throwing 1 = .ok (.iload_n 1, 1) := by decide +kernel
theorem dX5_throwing_2 : decode cX5_throwing 2 = .ok (.putfield 31, 3) := by decide +kernel
theorem dX5_throwing_5 : decode cX5_throwing 5 = .ok (.iconst 0, 1) := by decide +kernel
theorem dX5_throwing_6 : decode cX5_throwing 6 = .ok (.ireturn, 1) := by decide +kernel
theorem dX5_save_0 : decode cX5_save 0 = .ok (.aload_n 0, 1) := by decide +kernel
theorem dX5_save_1 : decode cX5_save 1 = .ok (.getfield 35, 3) := by decide +kernel
theorem dX5_save_4 : decode cX5_save 4 = .ok (.iconst 4, 1) := by decide +kernel
theorem dX5_save_5 : decode cX5_save 5 = .ok (.if_icmp .ne 44, 3) := by decide +kernel
theorem dX5_save_8 : decode cX5_save 8 = .ok (.iconst 0, 1) := by decide +kernel
theorem dX5_save_9 : decode cX5_save 9 = .ok (.istore_n 1, 1) := by decide +kernel
theorem dX5_save_10 : decode cX5_save 10 = .ok (.iload_n 1, 1) := by decide +kernel
theorem dX5_save_11 : decode cX5_save 11 = .ok (.sipush 4626, 3) := by decide +kernel
theorem dX5_save_14 : decode cX5_save 14 = .ok (.if_icmp .ge 25, 3) := by decide +kernel
theorem dX5_save_17 : decode cX5_save 17 = .ok (.aload_n 0, 1) := by decide +kernel
theorem dX5_save_18 : decode cX5_save 18 = .ok (.getfield 13, 3) := by decide +kernel
theorem dX5_save_21 : decode cX5_save 21 = .ok (.iload_n 1, 1) := by decide +kernel
theorem dX5_save_22 : decode cX5_save 22 = .ok (.aload_n 0, 1) := by decide +kernel
theorem dX5_save_23 : decode cX5_save 23 = .ok (.getfield 13, 3) := by decide +kernel
theorem dX5_save_26 : decode cX5_save 26 = .ok (.iload_n 1, 1) := by decide +kernel
theorem dX5_save_27 : decode cX5_save 27 = .ok (.sipush 1542, 3) := by decide +kernel
theorem dX5_save_30 : decode cX5_save 30 = .ok (.iadd, 1) := by decide +kernel
theorem dX5_save_31 : decode cX5_save 31 = .ok (.iaload, 1) := by decide +kernel
theorem dX5_save_32 : decode cX5_save 32 = .ok (.iastore, 1) := by decide +kernel
theorem dX5_save_33 : decode cX5_save 33 = .ok (.iinc 1 1, 3) := by decide +kernel
theorem dX5_save_36 : decode cX5_save 36 = .ok (.goto (-26), 3) := by decide +kernel
theorem dX5_save_39 : decode cX5_save 39 = .ok (.aload_n 0, 1) := by decide +kernel
theorem dX5_save_40 : decode cX5_save 40 = .ok (.dup, 1) := by decide +kernel
theorem dX5_save_41 : decode cX5_save 41 = .ok (.getfield 35, 3) := by decide +kernel
theorem dX5_save_44 : decode cX5_save 44 = .ok (.iconst 1, 1) := by decide +kernel
theorem dX5_save_45 : decode cX5_save 45 = .ok (.isub, 1) := by decide +kernel
theorem dX5_save_46 : decode cX5_save 46 = .ok (.putfield 35, 3) := by decide +kernel
theorem dX5_save_49 : decode cX5_save 49 = .ok (.iconst 0, 1) := by decide +kernel
theorem dX5_save_50 : decode cX5_save 50 = .ok (.istore_n 1, 1) := by decide +kernel
theorem dX5_save_51 : decode cX5_save 51 = .ok (.iload_n 1, 1) := by decide +kernel
theorem dX5_save_52 : decode cX5_save 52 = .ok (.sipush 1542, 3) := by decide +kernel
theorem dX5_save_55 : decode cX5_save 55 = .ok (.if_icmp .ge 30, 3) := by decide +kernel
theorem dX5_save_58 : decode cX5_save 58 = .ok (.aload_n 0, 1) := by decide +kernel
theorem dX5_save_59 : decode cX5_save 59 = .ok (.getfield 13, 3) := by decide +kernel
theorem dX5_save_62 : decode cX5_save 62 = .ok (.sipush 1542, 3) := by decide +kernel
theorem dX5_save_65 : decode cX5_save 65 = .ok (.aload_n 0, 1) := by decide +kernel
theorem dX5_save_66 : decode cX5_save 66 = .ok (.getfield 35, 3) := by decide +kernel
theorem dX5_save_69 : decode cX5_save 69 = .ok (.imul, 1) := by decide +kernel
theorem dX5_save_70 : decode cX5_save 70 = .ok (.iload_n 1, 1) := by decide +kernel
theorem dX5_save_71 : decode cX5_save 71 = .ok (.iadd, 1) := by decide +kernel
theorem dX5_save_72 : decode cX5_save 72 = .ok (.aload_n 0, 1) := by decide +kernel
theorem dX5_save_73 : decode cX5_save 73 = .ok (.getfield 7, 3) := by decide +kernel
theorem dX5_save_76 : decode cX5_save 76 = .ok (.iload_n 1, 1) := by decide +kernel
theorem dX5_save_77 : decode cX5_save 77 = .ok (.iaload, 1) := by decide +kernel
theorem dX5_save_78 : decode cX5_save 78 = .ok (.iastore, 1) := by decide +kernel
theorem dX5_save_79 : decode cX5_save 79 = .ok (.iinc 1 1, 3) := by decide +kernel
theorem dX5_save_82 : decode cX5_save 82 = .ok (.goto (-31), 3) := by decide +kernel
theorem dX5_save_85 : decode cX5_save 85 = .ok (.aload_n 0, 1) := by decide +kernel
theorem dX5_save_86 : decode cX5_save 86 = .ok (.dup, 1) := by decide +kernel
theorem dX5_save_87 : decode cX5_save 87 = .ok (.getfield 35, 3) := by decide +kernel
theorem dX5_save_90 : decode cX5_save 90 = .ok (.iconst 1, 1) := by decide +kernel
theorem dX5_save_91 : decode cX5_save 91 = .ok (.iadd, 1) := by decide +kernel
theorem dX5_save_92 : decode cX5_save 92 = .ok (.putfield 35, 3) := by decide +kernel
theorem dX5_save_95 : decode cX5_save 95 = .ok (.return_, 1) := by decide +kernel
theorem dX5_laysAside_0 : decode cX5_laysAside 0 = .ok (.iconst 0, 1) := by decide +kernel
theorem dX5_laysAside_1 : decode cX5_laysAside 1 = .ok (.istore_n 1, 1) := by decide +kernel
theorem dX5_laysAside_2 : decode cX5_laysAside 2 = .ok (.iload_n 1, 1) := by decide +kernel
theorem dX5_laysAside_3 : decode cX5_laysAside 3 = .ok (.sipush 1542, 3) := by decide +kernel
theorem dX5_laysAside_6 : decode cX5_laysAside 6 = .ok (.if_icmp .ge 21, 3) := by decide +kernel
theorem dX5_laysAside_9 : decode cX5_laysAside 9 = .ok (.aload_n 0, 1) := by decide +kernel
theorem dX5_laysAside_10 : decode cX5_laysAside 10 = .ok (.getfield 16, 3) := by decide +kernel
theorem dX5_laysAside_13 : decode cX5_laysAside 13 = .ok (.iload_n 1, 1) := by decide +kernel
theorem dX5_laysAside_14 : decode cX5_laysAside 14 = .ok (.aload_n 0, 1) := by decide +kernel
theorem dX5_laysAside_15 : decode cX5_laysAside 15 = .ok (.getfield 7, 3) := by decide +kernel
theorem dX5_laysAside_18 : decode cX5_laysAside 18 = .ok (.iload_n 1, 1) := by decide +kernel
theorem dX5_laysAside_19 : decode cX5_laysAside 19 = .ok (.iaload, 1) := by decide +kernel
theorem dX5_laysAside_20 : decode cX5_laysAside 20 = .ok (.iastore, 1) := by decide +kernel
theorem dX5_laysAside_21 : decode cX5_laysAside 21 = .ok (.iinc 1 1, 3) := by decide +kernel
theorem dX5_laysAside_24 : decode cX5_laysAside 24 = .ok (.goto (-22), 3) := by decide +kernel
theorem dX5_laysAside_27 : decode cX5_laysAside 27 = .ok (.return_, 1) := by decide +kernel
theorem dX5_takesBack_0 : decode cX5_takesBack 0 = .ok (.iconst 0, 1) := by decide +kernel
theorem dX5_takesBack_1 : decode cX5_takesBack 1 = .ok (.istore_n 1, 1) := by decide +kernel
theorem dX5_takesBack_2 : decode cX5_takesBack 2 = .ok (.iload_n 1, 1) := by decide +kernel
theorem dX5_takesBack_3 : decode cX5_takesBack 3 = .ok (.sipush 1542, 3) := by decide +kernel
theorem dX5_takesBack_6 : decode cX5_takesBack 6 = .ok (.if_icmp .ge 21, 3) := by decide +kernel
theorem dX5_takesBack_9 : decode cX5_takesBack 9 = .ok (.aload_n 0, 1) := by decide +kernel
theorem dX5_takesBack_10 : decode cX5_takesBack 10 = .ok (.getfield 7, 3) := by decide +kernel
theorem dX5_takesBack_13 : decode cX5_takesBack 13 = .ok (.iload_n 1, 1) := by decide +kernel
theorem dX5_takesBack_14 : decode cX5_takesBack 14 = .ok (.aload_n 0, 1) := by decide +kernel
theorem dX5_takesBack_15 : decode cX5_takesBack 15 = .ok (.getfield 16, 3) := by decide +kernel
theorem dX5_takesBack_18 : decode cX5_takesBack 18 = .ok (.iload_n 1, 1) := by decide +kernel
theorem dX5_takesBack_19 : decode cX5_takesBack 19 = .ok (.iaload, 1) := by decide +kernel
theorem dX5_takesBack_20 : decode cX5_takesBack 20 = .ok (.iastore, 1) := by decide +kernel
theorem dX5_takesBack_21 : decode cX5_takesBack 21 = .ok (.iinc 1 1, 3) := by decide +kernel
theorem dX5_takesBack_24 : decode cX5_takesBack 24 = .ok (.goto (-22), 3) := by decide +kernel
theorem dX5_takesBack_27 : decode cX5_takesBack 27 = .ok (.return_, 1) := by decide +kernel
theorem dX5_isLetter_0 : decode cX5_isLetter 0 = .ok (.iload_n 0, 1) := by decide +kernel
theorem dX5_isLetter_1 : decode cX5_isLetter 1 = .ok (.i2l, 1) := by decide +kernel
theorem dX5_isLetter_2 : decode cX5_isLetter 2 = .ok (.lconst 0, 1) := by decide +kernel
theorem dX5_isLetter_3 : decode cX5_isLetter 3 = .ok (.ldc2_w 38, 3) := by decide +kernel
theorem dX5_isLetter_6 : decode cX5_isLetter 6 = .ok (.invokestatic 40, 3) := by decide +kernel
theorem dX5_isLetter_9 : decode cX5_isLetter 9 = .ok (.ireturn, 1) := by decide +kernel
theorem dX5_isForme_0 : decode cX5_isForme 0 = .ok (.iload_n 0, 1) := by decide +kernel
theorem dX5_isForme_1 : decode cX5_isForme 1 = .ok (.i2l, 1) := by decide +kernel
theorem dX5_isForme_2 : decode cX5_isForme 2 = .ok (.lconst 0, 1) := by decide +kernel
theorem dX5_isForme_3 : decode cX5_isForme 3 = .ok (.ldc2_w 44, 3) := by decide +kernel
theorem dX5_isForme_6 : decode cX5_isForme 6 = .ok (.invokestatic 40, 3) := by decide +kernel
theorem dX5_isForme_9 : decode cX5_isForme 9 = .ok (.ireturn, 1) := by decide +kernel
theorem dX5_widthOf_0 : decode cX5_widthOf 0 = .ok (.bipush 97, 2) := by decide +kernel
theorem dX5_widthOf_2 : decode cX5_widthOf 2 = .ok (.iload_n 0, 1) := by decide +kernel
theorem dX5_widthOf_3 : decode cX5_widthOf 3 = .ok (.iadd, 1) := by decide +kernel
theorem dX5_widthOf_4 : decode cX5_widthOf 4 = .ok (.istore_n 1, 1) := by decide +kernel
theorem dX5_widthOf_5 : decode cX5_widthOf 5 = .ok (.iload_n 0, 1) := by decide +kernel
theorem dX5_widthOf_6 : decode cX5_widthOf 6 = .ok (.bipush 26, 2) := by decide +kernel
theorem dX5_widthOf_8 : decode cX5_widthOf 8 = .ok (.if_icmp .ne 5, 3) := by decide +kernel
theorem dX5_widthOf_11 : decode cX5_widthOf 11 = .ok (.iconst 3, 1) := by decide +kernel
theorem dX5_widthOf_12 : decode cX5_widthOf 12 = .ok (.ireturn, 1) := by decide +kernel
theorem dX5_widthOf_13 : decode cX5_widthOf 13 = .ok (.iload_n 1, 1) := by decide +kernel
theorem dX5_widthOf_14 : decode cX5_widthOf 14 = .ok (.bipush 102, 2) := by decide +kernel
theorem dX5_widthOf_16 : decode cX5_widthOf 16 = .ok (.if_icmp .eq 27, 3) := by decide +kernel
theorem dX5_widthOf_19 : decode cX5_widthOf 19 = .ok (.iload_n 1, 1) := by decide +kernel
theorem dX5_widthOf_20 : decode cX5_widthOf 20 = .ok (.bipush 105, 2) := by decide +kernel
theorem dX5_widthOf_22 : decode cX5_widthOf 22 = .ok (.if_icmp .eq 21, 3) := by decide +kernel
theorem dX5_widthOf_25 : decode cX5_widthOf 25 = .ok (.iload_n 1, 1) := by decide +kernel
theorem dX5_widthOf_26 : decode cX5_widthOf 26 = .ok (.bipush 106, 2) := by decide +kernel
theorem dX5_widthOf_28 : decode cX5_widthOf 28 = .ok (.if_icmp .eq 15, 3) := by decide +kernel
theorem dX5_widthOf_31 : decode cX5_widthOf 31 = .ok (.iload_n 1, 1) := by decide +kernel
theorem dX5_widthOf_32 : decode cX5_widthOf 32 = .ok (.bipush 108, 2) := by decide +kernel
theorem dX5_widthOf_34 : decode cX5_widthOf 34 = .ok (.if_icmp .eq 9, 3) := by decide +kernel
theorem dX5_widthOf_37 : decode cX5_widthOf 37 = .ok (.iload_n 1, 1) := by decide +kernel
theorem dX5_widthOf_38 : decode cX5_widthOf 38 = .ok (.bipush 116, 2) := by decide +kernel
theorem dX5_widthOf_40 : decode cX5_widthOf 40 = .ok (.if_icmp .ne 7, 3) := by decide +kernel
theorem dX5_widthOf_43 : decode cX5_widthOf 43 = .ok (.iconst 0, 1) := by decide +kernel
theorem dX5_widthOf_44 : decode cX5_widthOf 44 = .ok (.goto 20, 3) := by decide +kernel
theorem dX5_widthOf_47 : decode cX5_widthOf 47 = .ok (.iload_n 1, 1) := by decide +kernel
theorem dX5_widthOf_48 : decode cX5_widthOf 48 = .ok (.bipush 109, 2) := by decide +kernel
theorem dX5_widthOf_50 : decode cX5_widthOf 50 = .ok (.if_icmp .eq 9, 3) := by decide +kernel
theorem dX5_widthOf_53 : decode cX5_widthOf 53 = .ok (.iload_n 1, 1) := by decide +kernel
theorem dX5_widthOf_54 : decode cX5_widthOf 54 = .ok (.bipush 119, 2) := by decide +kernel
theorem dX5_widthOf_56 : decode cX5_widthOf 56 = .ok (.if_icmp .ne 7, 3) := by decide +kernel
theorem dX5_widthOf_59 : decode cX5_widthOf 59 = .ok (.iconst 2, 1) := by decide +kernel
theorem dX5_widthOf_60 : decode cX5_widthOf 60 = .ok (.goto 4, 3) := by decide +kernel
theorem dX5_widthOf_63 : decode cX5_widthOf 63 = .ok (.iconst 1, 1) := by decide +kernel
theorem dX5_widthOf_64 : decode cX5_widthOf 64 = .ok (.ireturn, 1) := by decide +kernel
theorem dX5_puts_0 : decode cX5_puts 0 = .ok (.iconst 0, 1) := by decide +kernel
theorem dX5_puts_1 : decode cX5_puts 1 = .ok (.istore_n 3, 1) := by decide +kernel
theorem dX5_puts_2 : decode cX5_puts 2 = .ok (.aload_n 0, 1) := by decide +kernel
theorem dX5_puts_3 : decode cX5_puts 3 = .ok (.getfield 7, 3) := by decide +kernel
theorem dX5_puts_6 : decode cX5_puts 6 = .ok (.iconst 0, 1) := by decide +kernel
theorem dX5_puts_7 : decode cX5_puts 7 = .ok (.iload_n 3, 1) := by decide +kernel
theorem dX5_puts_8 : decode cX5_puts 8 = .ok (.iadd, 1) := by decide +kernel
theorem dX5_puts_9 : decode cX5_puts 9 = .ok (.iaload, 1) := by decide +kernel
theorem dX5_puts_10 : decode cX5_puts 10 = .ok (.iconst (-1), 1) := by decide +kernel
theorem dX5_puts_11 : decode cX5_puts 11 = .ok (.if_icmp .eq 9, 3) := by decide +kernel
theorem dX5_puts_14 : decode cX5_puts 14 = .ok (.iinc 3 1, 3) := by decide +kernel
theorem dX5_puts_17 : decode cX5_puts 17 = .ok (.goto (-15), 3) := by decide +kernel
theorem dX5_puts_20 : decode cX5_puts 20 = .ok (.aload_n 0, 1) := by decide +kernel
theorem dX5_puts_21 : decode cX5_puts 21 = .ok (.getfield 7, 3) := by decide +kernel
theorem dX5_puts_24 : decode cX5_puts 24 = .ok (.iconst 0, 1) := by decide +kernel
theorem dX5_puts_25 : decode cX5_puts 25 = .ok (.iload_n 3, 1) := by decide +kernel
theorem dX5_puts_26 : decode cX5_puts 26 = .ok (.iadd, 1) := by decide +kernel
theorem dX5_puts_27 : decode cX5_puts 27 = .ok (.iload_n 2, 1) := by decide +kernel
theorem dX5_puts_28 : decode cX5_puts 28 = .ok (.iastore, 1) := by decide +kernel
theorem dX5_puts_29 : decode cX5_puts 29 = .ok (.aload_n 0, 1) := by decide +kernel
theorem dX5_puts_30 : decode cX5_puts 30 = .ok (.getfield 7, 3) := by decide +kernel
theorem dX5_puts_33 : decode cX5_puts 33 = .ok (.sipush 250, 3) := by decide +kernel
theorem dX5_puts_36 : decode cX5_puts 36 = .ok (.iload_n 3, 1) := by decide +kernel
theorem dX5_puts_37 : decode cX5_puts 37 = .ok (.iadd, 1) := by decide +kernel
theorem dX5_puts_38 : decode cX5_puts 38 = .ok (.aload_n 0, 1) := by decide +kernel
theorem dX5_puts_39 : decode cX5_puts 39 = .ok (.getfield 7, 3) := by decide +kernel
theorem dX5_puts_42 : decode cX5_puts 42 = .ok (.sipush 500, 3) := by decide +kernel
theorem dX5_puts_45 : decode cX5_puts 45 = .ok (.iload_n 1, 1) := by decide +kernel
theorem dX5_puts_46 : decode cX5_puts 46 = .ok (.iadd, 1) := by decide +kernel
theorem dX5_puts_47 : decode cX5_puts 47 = .ok (.iaload, 1) := by decide +kernel
theorem dX5_puts_48 : decode cX5_puts 48 = .ok (.iastore, 1) := by decide +kernel
theorem dX5_puts_49 : decode cX5_puts 49 = .ok (.aload_n 0, 1) := by decide +kernel
theorem dX5_puts_50 : decode cX5_puts 50 = .ok (.getfield 7, 3) := by decide +kernel
theorem dX5_puts_53 : decode cX5_puts 53 = .ok (.sipush 500, 3) := by decide +kernel
theorem dX5_puts_56 : decode cX5_puts 56 = .ok (.iload_n 1, 1) := by decide +kernel
theorem dX5_puts_57 : decode cX5_puts 57 = .ok (.iadd, 1) := by decide +kernel
theorem dX5_puts_58 : decode cX5_puts 58 = .ok (.iload_n 3, 1) := by decide +kernel
theorem dX5_puts_59 : decode cX5_puts 59 = .ok (.iastore, 1) := by decide +kernel
theorem dX5_puts_60 : decode cX5_puts 60 = .ok (.return_, 1) := by decide +kernel
theorem dX5_takes_0 : decode cX5_takes 0 = .ok (.aload_n 0, 1) := by decide +kernel
theorem dX5_takes_1 : decode cX5_takes 1 = .ok (.getfield 7, 3) := by decide +kernel
theorem dX5_takes_4 : decode cX5_takes 4 = .ok (.sipush 500, 3) := by decide +kernel
theorem dX5_takes_7 : decode cX5_takes 7 = .ok (.iload_n 1, 1) := by decide +kernel
theorem dX5_takes_8 : decode cX5_takes 8 = .ok (.iadd, 1) := by decide +kernel
theorem dX5_takes_9 : decode cX5_takes 9 = .ok (.iaload, 1) := by decide +kernel
theorem dX5_takes_10 : decode cX5_takes 10 = .ok (.istore_n 2, 1) := by decide +kernel
theorem dX5_takes_11 : decode cX5_takes 11 = .ok (.aload_n 0, 1) := by decide +kernel
theorem dX5_takes_12 : decode cX5_takes 12 = .ok (.getfield 7, 3) := by decide +kernel
theorem dX5_takes_15 : decode cX5_takes 15 = .ok (.iconst 0, 1) := by decide +kernel
theorem dX5_takes_16 : decode cX5_takes 16 = .ok (.iload_n 2, 1) := by decide +kernel
theorem dX5_takes_17 : decode cX5_takes 17 = .ok (.iadd, 1) := by decide +kernel
theorem dX5_takes_18 : decode cX5_takes 18 = .ok (.iaload, 1) := by decide +kernel
theorem dX5_takes_19 : decode cX5_takes 19 = .ok (.istore_n 3, 1) := by decide +kernel
theorem dX5_takes_20 : decode cX5_takes 20 = .ok (.aload_n 0, 1) := by decide +kernel
theorem dX5_takes_21 : decode cX5_takes 21 = .ok (.getfield 7, 3) := by decide +kernel
theorem dX5_takes_24 : decode cX5_takes 24 = .ok (.sipush 500, 3) := by decide +kernel
theorem dX5_takes_27 : decode cX5_takes 27 = .ok (.iload_n 1, 1) := by decide +kernel
theorem dX5_takes_28 : decode cX5_takes 28 = .ok (.iadd, 1) := by decide +kernel
theorem dX5_takes_29 : decode cX5_takes 29 = .ok (.aload_n 0, 1) := by decide +kernel
theorem dX5_takes_30 : decode cX5_takes 30 = .ok (.getfield 7, 3) := by decide +kernel
theorem dX5_takes_33 : decode cX5_takes 33 = .ok (.sipush 250, 3) := by decide +kernel
theorem dX5_takes_36 : decode cX5_takes 36 = .ok (.iload_n 2, 1) := by decide +kernel
theorem dX5_takes_37 : decode cX5_takes 37 = .ok (.iadd, 1) := by decide +kernel
theorem dX5_takes_38 : decode cX5_takes 38 = .ok (.iaload, 1) := by decide +kernel
theorem dX5_takes_39 : decode cX5_takes 39 = .ok (.iastore, 1) := by decide +kernel
theorem dX5_takes_40 : decode cX5_takes 40 = .ok (.aload_n 0, 1) := by decide +kernel
theorem dX5_takes_41 : decode cX5_takes 41 = .ok (.getfield 7, 3) := by decide +kernel
theorem dX5_takes_44 : decode cX5_takes 44 = .ok (.iconst 0, 1) := by decide +kernel
theorem dX5_takes_45 : decode cX5_takes 45 = .ok (.iload_n 2, 1) := by decide +kernel
theorem dX5_takes_46 : decode cX5_takes 46 = .ok (.iadd, 1) := by decide +kernel
theorem dX5_takes_47 : decode cX5_takes 47 = .ok (.iconst (-1), 1) := by decide +kernel
theorem dX5_takes_48 : decode cX5_takes 48 = .ok (.iastore, 1) := by decide +kernel
theorem dX5_takes_49 : decode cX5_takes 49 = .ok (.aload_n 0, 1) := by decide +kernel
theorem dX5_takes_50 : decode cX5_takes 50 = .ok (.getfield 7, 3) := by decide +kernel
theorem dX5_takes_53 : decode cX5_takes 53 = .ok (.sipush 250, 3) := by decide +kernel
theorem dX5_takes_56 : decode cX5_takes 56 = .ok (.iload_n 2, 1) := by decide +kernel
theorem dX5_takes_57 : decode cX5_takes 57 = .ok (.iadd, 1) := by decide +kernel
theorem dX5_takes_58 : decode cX5_takes 58 = .ok (.iconst 0, 1) := by decide +kernel
theorem dX5_takes_59 : decode cX5_takes 59 = .ok (.iastore, 1) := by decide +kernel
theorem dX5_takes_60 : decode cX5_takes 60 = .ok (.iload_n 3, 1) := by decide +kernel
theorem dX5_takes_61 : decode cX5_takes 61 = .ok (.ireturn, 1) := by decide +kernel
theorem dX5_countIn_0 : decode cX5_countIn 0 = .ok (.iconst 0, 1) := by decide +kernel
theorem dX5_countIn_1 : decode cX5_countIn 1 = .ok (.istore_n 3, 1) := by decide +kernel
theorem dX5_countIn_2 : decode cX5_countIn 2 = .ok (.aload_n 0, 1) := by decide +kernel
theorem dX5_countIn_3 : decode cX5_countIn 3 = .ok (.getfield 7, 3) := by decide +kernel
theorem dX5_countIn_6 : decode cX5_countIn 6 = .ok (.sipush 500, 3) := by decide +kernel
theorem dX5_countIn_9 : decode cX5_countIn 9 = .ok (.iload_n 1, 1) := by decide +kernel
theorem dX5_countIn_10 : decode cX5_countIn 10 = .ok (.iadd, 1) := by decide +kernel
theorem dX5_countIn_11 : decode cX5_countIn 11 = .ok (.iaload, 1) := by decide +kernel
theorem dX5_countIn_12 : decode cX5_countIn 12 = .ok (.istore 4, 2) := by decide +kernel
theorem dX5_countIn_14 : decode cX5_countIn 14 = .ok (.iload 4, 2) := by decide +kernel
theorem dX5_countIn_16 : decode cX5_countIn 16 = .ok (.iconst (-1), 1) := by decide +kernel
theorem dX5_countIn_17 : decode cX5_countIn 17 = .ok (.if_icmp .eq 45, 3) := by decide +kernel
theorem dX5_countIn_20 : decode cX5_countIn 20 = .ok (.iload_n 3, 1) := by decide +kernel
theorem dX5_countIn_21 : decode cX5_countIn 21 = .ok (.iload_n 2, 1) := by decide +kernel
theorem dX5_countIn_22 : decode cX5_countIn 22 = .ok (.iconst (-1), 1) := by decide +kernel
theorem dX5_countIn_23 : decode cX5_countIn 23 = .ok (.if_icmp .eq 16, 3) := by decide +kernel
theorem dX5_countIn_26 : decode cX5_countIn 26 = .ok (.aload_n 0, 1) := by decide +kernel
theorem dX5_countIn_27 : decode cX5_countIn 27 = .ok (.getfield 7, 3) := by decide +kernel
theorem dX5_countIn_30 : decode cX5_countIn 30 = .ok (.iconst 0, 1) := by decide +kernel
theorem dX5_countIn_31 : decode cX5_countIn 31 = .ok (.iload 4, 2) := by decide +kernel
theorem dX5_countIn_33 : decode cX5_countIn 33 = .ok (.iadd, 1) := by decide +kernel
theorem dX5_countIn_34 : decode cX5_countIn 34 = .ok (.iaload, 1) := by decide +kernel
theorem dX5_countIn_35 : decode cX5_countIn 35 = .ok (.iload_n 2, 1) := by decide +kernel
theorem dX5_countIn_36 : decode cX5_countIn 36 = .ok (.if_icmp .ne 7, 3) := by decide +kernel
theorem dX5_countIn_39 : decode cX5_countIn 39 = .ok (.iconst 1, 1) := by decide +kernel
theorem dX5_countIn_40 : decode cX5_countIn 40 = .ok (.goto 4, 3) := by decide +kernel
theorem dX5_countIn_43 : decode cX5_countIn 43 = .ok (.iconst 0, 1) := by decide +kernel
theorem dX5_countIn_44 : decode cX5_countIn 44 = .ok (.iadd, 1) := by decide +kernel
theorem dX5_countIn_45 : decode cX5_countIn 45 = .ok (.istore_n 3, 1) := by decide +kernel
theorem dX5_countIn_46 : decode cX5_countIn 46 = .ok (.aload_n 0, 1) := by decide +kernel
theorem dX5_countIn_47 : decode cX5_countIn 47 = .ok (.getfield 7, 3) := by decide +kernel
theorem dX5_countIn_50 : decode cX5_countIn 50 = .ok (.sipush 250, 3) := by decide +kernel
theorem dX5_countIn_53 : decode cX5_countIn 53 = .ok (.iload 4, 2) := by decide +kernel
theorem dX5_countIn_55 : decode cX5_countIn 55 = .ok (.iadd, 1) := by decide +kernel
theorem dX5_countIn_56 : decode cX5_countIn 56 = .ok (.iaload, 1) := by decide +kernel
theorem dX5_countIn_57 : decode cX5_countIn 57 = .ok (.istore 4, 2) := by decide +kernel
theorem dX5_countIn_59 : decode cX5_countIn 59 = .ok (.goto (-45), 3) := by decide +kernel
theorem dX5_countIn_62 : decode cX5_countIn 62 = .ok (.iload_n 3, 1) := by decide +kernel
theorem dX5_countIn_63 : decode cX5_countIn 63 = .ok (.ireturn, 1) := by decide +kernel
theorem dX5_foulIn_0 : decode cX5_foulIn 0 = .ok (.aload_n 0, 1) := by decide +kernel
theorem dX5_foulIn_1 : decode cX5_foulIn 1 = .ok (.iload_n 1, 1) := by decide +kernel
theorem dX5_foulIn_2 : decode cX5_foulIn 2 = .ok (.iconst (-1), 1) := by decide +kernel
theorem dX5_foulIn_3 : decode cX5_foulIn 3 = .ok (.invokevirtual 46, 3) := by decide +kernel
theorem dX5_foulIn_6 : decode cX5_foulIn 6 = .ok (.aload_n 0, 1) := by decide +kernel
theorem dX5_foulIn_7 : decode cX5_foulIn 7 = .ok (.iload_n 1, 1) := by decide +kernel
theorem dX5_foulIn_8 : decode cX5_foulIn 8 = .ok (.iload_n 1, 1) := by decide +kernel
theorem dX5_foulIn_9 : decode cX5_foulIn 9 = .ok (.invokevirtual 46, 3) := by decide +kernel
theorem dX5_foulIn_12 : decode cX5_foulIn 12 = .ok (.isub, 1) := by decide +kernel
theorem dX5_foulIn_13 : decode cX5_foulIn 13 = .ok (.ireturn, 1) := by decide +kernel
theorem dX5_inBoxes_0 : decode cX5_inBoxes 0 = .ok (.iconst 0, 1) := by decide +kernel
theorem dX5_inBoxes_1 : decode cX5_inBoxes 1 = .ok (.istore_n 1, 1) := by decide +kernel
theorem dX5_inBoxes_2 : decode cX5_inBoxes 2 = .ok (.iconst 0, 1) := by decide +kernel
theorem dX5_inBoxes_3 : decode cX5_inBoxes 3 = .ok (.istore_n 2, 1) := by decide +kernel
theorem dX5_inBoxes_4 : decode cX5_inBoxes 4 = .ok (.iload_n 2, 1) := by decide +kernel
theorem dX5_inBoxes_5 : decode cX5_inBoxes 5 = .ok (.sipush 250, 3) := by decide +kernel
theorem dX5_inBoxes_8 : decode cX5_inBoxes 8 = .ok (.if_icmp .ge 29, 3) := by decide +kernel
theorem dX5_inBoxes_11 : decode cX5_inBoxes 11 = .ok (.iload_n 1, 1) := by decide +kernel
theorem dX5_inBoxes_12 : decode cX5_inBoxes 12 = .ok (.aload_n 0, 1) := by decide +kernel
theorem dX5_inBoxes_13 : decode cX5_inBoxes 13 = .ok (.getfield 7, 3) := by decide +kernel
theorem dX5_inBoxes_16 : decode cX5_inBoxes 16 = .ok (.iconst 0, 1) := by decide +kernel
theorem dX5_inBoxes_17 : decode cX5_inBoxes 17 = .ok (.iload_n 2, 1) := by decide +kernel
theorem dX5_inBoxes_18 : decode cX5_inBoxes 18 = .ok (.iadd, 1) := by decide +kernel
theorem dX5_inBoxes_19 : decode cX5_inBoxes 19 = .ok (.iaload, 1) := by decide +kernel
theorem dX5_inBoxes_20 : decode cX5_inBoxes 20 = .ok (.iconst (-1), 1) := by decide +kernel
theorem dX5_inBoxes_21 : decode cX5_inBoxes 21 = .ok (.if_icmp .ne 7, 3) := by decide +kernel
theorem dX5_inBoxes_24 : decode cX5_inBoxes 24 = .ok (.iconst 0, 1) := by decide +kernel
theorem dX5_inBoxes_25 : decode cX5_inBoxes 25 = .ok (.goto 4, 3) := by decide +kernel
theorem dX5_inBoxes_28 : decode cX5_inBoxes 28 = .ok (.iconst 1, 1) := by decide +kernel
theorem dX5_inBoxes_29 : decode cX5_inBoxes 29 = .ok (.iadd, 1) := by decide +kernel
theorem dX5_inBoxes_30 : decode cX5_inBoxes 30 = .ok (.istore_n 1, 1) := by decide +kernel
theorem dX5_inBoxes_31 : decode cX5_inBoxes 31 = .ok (.iinc 2 1, 3) := by decide +kernel
theorem dX5_inBoxes_34 : decode cX5_inBoxes 34 = .ok (.goto (-30), 3) := by decide +kernel
theorem dX5_inBoxes_37 : decode cX5_inBoxes 37 = .ok (.iload_n 1, 1) := by decide +kernel
theorem dX5_inBoxes_38 : decode cX5_inBoxes 38 = .ok (.ireturn, 1) := by decide +kernel
theorem dX5_takesOwn_0 : decode cX5_takesOwn 0 = .ok (.iconst (-1), 1) := by decide +kernel
theorem dX5_takesOwn_1 : decode cX5_takesOwn 1 = .ok (.istore_n 2, 1) := by decide +kernel
theorem dX5_takesOwn_2 : decode cX5_takesOwn 2 = .ok (.aload_n 0, 1) := by decide +kernel
theorem dX5_takesOwn_3 : decode cX5_takesOwn 3 = .ok (.getfield 7, 3) := by decide +kernel
theorem dX5_takesOwn_6 : decode cX5_takesOwn 6 = .ok (.sipush 500, 3) := by decide +kernel
theorem dX5_takesOwn_9 : decode cX5_takesOwn 9 = .ok (.iload_n 1, 1) := by decide +kernel
theorem dX5_takesOwn_10 : decode cX5_takesOwn 10 = .ok (.iadd, 1) := by decide +kernel
theorem dX5_takesOwn_11 : decode cX5_takesOwn 11 = .ok (.iaload, 1) := by decide +kernel
theorem dX5_takesOwn_12 : decode cX5_takesOwn 12 = .ok (.istore_n 3, 1) := by decide +kernel
theorem dX5_takesOwn_13 : decode cX5_takesOwn 13 = .ok (.iload_n 3, 1) := by decide +kernel
theorem dX5_takesOwn_14 : decode cX5_takesOwn 14 = .ok (.iconst (-1), 1) := by decide +kernel
theorem dX5_takesOwn_15 : decode cX5_takesOwn 15 = .ok (.if_icmp .eq 31, 3) := by decide +kernel
theorem dX5_takesOwn_18 : decode cX5_takesOwn 18 = .ok (.aload_n 0, 1) := by decide +kernel
theorem dX5_takesOwn_19 : decode cX5_takesOwn 19 = .ok (.getfield 7, 3) := by decide +kernel
theorem dX5_takesOwn_22 : decode cX5_takesOwn 22 = .ok (.iconst 0, 1) := by decide +kernel
theorem dX5_takesOwn_23 : decode cX5_takesOwn 23 = .ok (.iload_n 3, 1) := by decide +kernel
theorem dX5_takesOwn_24 : decode cX5_takesOwn 24 = .ok (.iadd, 1) := by decide +kernel
theorem dX5_takesOwn_25 : decode cX5_takesOwn 25 = .ok (.iaload, 1) := by decide +kernel
theorem dX5_takesOwn_26 : decode cX5_takesOwn 26 = .ok (.iload_n 1, 1) := by decide +kernel
theorem dX5_takesOwn_27 : decode cX5_takesOwn 27 = .ok (.if_icmp .eq 19, 3) := by decide +kernel
theorem dX5_takesOwn_30 : decode cX5_takesOwn 30 = .ok (.iload_n 3, 1) := by decide +kernel
theorem dX5_takesOwn_31 : decode cX5_takesOwn 31 = .ok (.istore_n 2, 1) := by decide +kernel
theorem dX5_takesOwn_32 : decode cX5_takesOwn 32 = .ok (.aload_n 0, 1) := by decide +kernel
theorem dX5_takesOwn_33 : decode cX5_takesOwn 33 = .ok (.getfield 7, 3) := by decide +kernel
theorem dX5_takesOwn_36 : decode cX5_takesOwn 36 = .ok (.sipush 250, 3) := by decide +kernel
theorem dX5_takesOwn_39 : decode cX5_takesOwn 39 = .ok (.iload_n 3, 1) := by decide +kernel
theorem dX5_takesOwn_40 : decode cX5_takesOwn 40 = .ok (.iadd, 1) := by decide +kernel
theorem dX5_takesOwn_41 : decode cX5_takesOwn 41 = .ok (.iaload, 1) := by decide +kernel
theorem dX5_takesOwn_42 : decode cX5_takesOwn 42 = .ok (.istore_n 3, 1) := by decide +kernel
theorem dX5_takesOwn_43 : decode cX5_takesOwn 43 = .ok (.goto (-30), 3) := by decide +kernel
theorem dX5_takesOwn_46 : decode cX5_takesOwn 46 = .ok (.iload_n 3, 1) := by decide +kernel
theorem dX5_takesOwn_47 : decode cX5_takesOwn 47 = .ok (.iconst (-1), 1) := by decide +kernel
theorem dX5_takesOwn_48 : decode cX5_takesOwn 48 = .ok (.if_icmp .ne 5, 3) := by decide +kernel
theorem dX5_takesOwn_51 : decode cX5_takesOwn 51 = .ok (.iconst 0, 1) := by decide +kernel
theorem dX5_takesOwn_52 : decode cX5_takesOwn 52 = .ok (.ireturn, 1) := by decide +kernel
theorem dX5_takesOwn_53 : decode cX5_takesOwn 53 = .ok (.iload_n 2, 1) := by decide +kernel
theorem dX5_takesOwn_54 : decode cX5_takesOwn 54 = .ok (.iconst (-1), 1) := by decide +kernel
theorem dX5_takesOwn_55 : decode cX5_takesOwn 55 = .ok (.if_icmp .ne 26, 3) := by decide +kernel
theorem dX5_takesOwn_58 : decode cX5_takesOwn 58 = .ok (.aload_n 0, 1) := by decide +kernel
theorem dX5_takesOwn_59 : decode cX5_takesOwn 59 = .ok (.getfield 7, 3) := by decide +kernel
theorem dX5_takesOwn_62 : decode cX5_takesOwn 62 = .ok (.sipush 500, 3) := by decide +kernel
theorem dX5_takesOwn_65 : decode cX5_takesOwn 65 = .ok (.iload_n 1, 1) := by decide +kernel
theorem dX5_takesOwn_66 : decode cX5_takesOwn 66 = .ok (.iadd, 1) := by decide +kernel
theorem dX5_takesOwn_67 : decode cX5_takesOwn 67 = .ok (.aload_n 0, 1) := by decide +kernel
theorem dX5_takesOwn_68 : decode cX5_takesOwn 68 = .ok (.getfield 7, 3) := by decide +kernel
theorem dX5_takesOwn_71 : decode cX5_takesOwn 71 = .ok (.sipush 250, 3) := by decide +kernel
theorem dX5_takesOwn_74 : decode cX5_takesOwn 74 = .ok (.iload_n 3, 1) := by decide +kernel
theorem dX5_takesOwn_75 : decode cX5_takesOwn 75 = .ok (.iadd, 1) := by decide +kernel
theorem dX5_takesOwn_76 : decode cX5_takesOwn 76 = .ok (.iaload, 1) := by decide +kernel
theorem dX5_takesOwn_77 : decode cX5_takesOwn 77 = .ok (.iastore, 1) := by decide +kernel
theorem dX5_takesOwn_78 : decode cX5_takesOwn 78 = .ok (.goto 23, 3) := by decide +kernel
theorem dX5_takesOwn_81 : decode cX5_takesOwn 81 = .ok (.aload_n 0, 1) := by decide +kernel
theorem dX5_takesOwn_82 : decode cX5_takesOwn 82 = .ok (.getfield 7, 3) := by decide +kernel
theorem dX5_takesOwn_85 : decode cX5_takesOwn 85 = .ok (.sipush 250, 3) := by decide +kernel
theorem dX5_takesOwn_88 : decode cX5_takesOwn 88 = .ok (.iload_n 2, 1) := by decide +kernel
theorem dX5_takesOwn_89 : decode cX5_takesOwn 89 = .ok (.iadd, 1) := by decide +kernel
theorem dX5_takesOwn_90 : decode cX5_takesOwn 90 = .ok (.aload_n 0, 1) := by decide +kernel
theorem dX5_takesOwn_91 : decode cX5_takesOwn 91 = .ok (.getfield 7, 3) := by decide +kernel
theorem dX5_takesOwn_94 : decode cX5_takesOwn 94 = .ok (.sipush 250, 3) := by decide +kernel
theorem dX5_takesOwn_97 : decode cX5_takesOwn 97 = .ok (.iload_n 3, 1) := by decide +kernel
theorem dX5_takesOwn_98 : decode cX5_takesOwn 98 = .ok (.iadd, 1) := by decide +kernel
theorem dX5_takesOwn_99 : decode cX5_takesOwn 99 = .ok (.iaload, 1) := by decide +kernel
theorem dX5_takesOwn_100 : decode cX5_takesOwn 100 = .ok (.iastore, 1) := by decide +kernel
theorem dX5_takesOwn_101 : decode cX5_takesOwn 101 = .ok (.aload_n 0, 1) := by decide +kernel
theorem dX5_takesOwn_102 : decode cX5_takesOwn 102 = .ok (.getfield 7, 3) := by decide +kernel
theorem dX5_takesOwn_105 : decode cX5_takesOwn 105 = .ok (.iconst 0, 1) := by decide +kernel
theorem dX5_takesOwn_106 : decode cX5_takesOwn 106 = .ok (.iload_n 3, 1) := by decide +kernel
theorem dX5_takesOwn_107 : decode cX5_takesOwn 107 = .ok (.iadd, 1) := by decide +kernel
theorem dX5_takesOwn_108 : decode cX5_takesOwn 108 = .ok (.iconst (-1), 1) := by decide +kernel
theorem dX5_takesOwn_109 : decode cX5_takesOwn 109 = .ok (.iastore, 1) := by decide +kernel
theorem dX5_takesOwn_110 : decode cX5_takesOwn 110 = .ok (.aload_n 0, 1) := by decide +kernel
theorem dX5_takesOwn_111 : decode cX5_takesOwn 111 = .ok (.getfield 7, 3) := by decide +kernel
theorem dX5_takesOwn_114 : decode cX5_takesOwn 114 = .ok (.sipush 250, 3) := by decide +kernel
theorem dX5_takesOwn_117 : decode cX5_takesOwn 117 = .ok (.iload_n 3, 1) := by decide +kernel
theorem dX5_takesOwn_118 : decode cX5_takesOwn 118 = .ok (.iadd, 1) := by decide +kernel
theorem dX5_takesOwn_119 : decode cX5_takesOwn 119 = .ok (.iconst 0, 1) := by decide +kernel
theorem dX5_takesOwn_120 : decode cX5_takesOwn 120 = .ok (.iastore, 1) := by decide +kernel
theorem dX5_takesOwn_121 : decode cX5_takesOwn 121 = .ok (.iconst 1, 1) := by decide +kernel
theorem dX5_takesOwn_122 : decode cX5_takesOwn 122 = .ok (.ireturn, 1) := by decide +kernel
theorem dX5_empties_0 : decode cX5_empties 0 = .ok (.aload_n 0, 1) := by decide +kernel
theorem dX5_empties_1 : decode cX5_empties 1 = .ok (.iload_n 1, 1) := by decide +kernel
theorem dX5_empties_2 : decode cX5_empties 2 = .ok (.iconst (-1), 1) := by decide +kernel
theorem dX5_empties_3 : decode cX5_empties 3 = .ok (.invokevirtual 46, 3) := by decide +kernel
theorem dX5_empties_6 : decode cX5_empties 6 = .ok (.istore_n 2, 1) := by decide +kernel
theorem dX5_empties_7 : decode cX5_empties 7 = .ok (.iload_n 2, 1) := by decide +kernel
theorem dX5_empties_8 : decode cX5_empties 8 = .ok (.iconst 1, 1) := by decide +kernel
theorem dX5_empties_9 : decode cX5_empties 9 = .ok (.isub, 1) := by decide +kernel
theorem dX5_empties_10 : decode cX5_empties 10 = .ok (.istore_n 3, 1) := by decide +kernel
theorem dX5_empties_11 : decode cX5_empties 11 = .ok (.iload_n 3, 1) := by decide +kernel
theorem dX5_empties_12 : decode cX5_empties 12 = .ok (.ifCond .lt 20, 3) := by decide +kernel
theorem dX5_empties_15 : decode cX5_empties 15 = .ok (.aload_n 0, 1) := by decide +kernel
theorem dX5_empties_16 : decode cX5_empties 16 = .ok (.getfield 22, 3) := by decide +kernel
theorem dX5_empties_19 : decode cX5_empties 19 = .ok (.iload_n 3, 1) := by decide +kernel
theorem dX5_empties_20 : decode cX5_empties 20 = .ok (.aload_n 0, 1) := by decide +kernel
theorem dX5_empties_21 : decode cX5_empties 21 = .ok (.iload_n 1, 1) := by decide +kernel
theorem dX5_empties_22 : decode cX5_empties 22 = .ok (.invokevirtual 50, 3) := by decide +kernel
theorem dX5_empties_25 : decode cX5_empties 25 = .ok (.iastore, 1) := by decide +kernel
theorem dX5_empties_26 : decode cX5_empties 26 = .ok (.iinc 3 (-1), 3) := by decide +kernel
theorem dX5_empties_29 : decode cX5_empties 29 = .ok (.goto (-18), 3) := by decide +kernel
theorem dX5_empties_32 : decode cX5_empties 32 = .ok (.iload_n 2, 1) := by decide +kernel
theorem dX5_empties_33 : decode cX5_empties 33 = .ok (.ireturn, 1) := by decide +kernel
theorem dX5_lineAt_0 : decode cX5_lineAt 0 = .ok (.sipush 527, 3) := by decide +kernel
theorem dX5_lineAt_3 : decode cX5_lineAt 3 = .ok (.bipush 49, 2) := by decide +kernel
theorem dX5_lineAt_5 : decode cX5_lineAt 5 = .ok (.iconst 5, 1) := by decide +kernel
theorem dX5_lineAt_6 : decode cX5_lineAt 6 = .ok (.iload_n 0, 1) := by decide +kernel
theorem dX5_lineAt_7 : decode cX5_lineAt 7 = .ok (.imul, 1) := by decide +kernel
theorem dX5_lineAt_8 : decode cX5_lineAt 8 = .ok (.iload_n 1, 1) := by decide +kernel
theorem dX5_lineAt_9 : decode cX5_lineAt 9 = .ok (.iadd, 1) := by decide +kernel
theorem dX5_lineAt_10 : decode cX5_lineAt 10 = .ok (.imul, 1) := by decide +kernel
theorem dX5_lineAt_11 : decode cX5_lineAt 11 = .ok (.iadd, 1) := by decide +kernel
theorem dX5_lineAt_12 : decode cX5_lineAt 12 = .ok (.ireturn, 1) := by decide +kernel
theorem dX5_places0_0 : decode cX5_places0 0 = .ok (.aload_n 0, 1) := by decide +kernel
theorem dX5_places0_1 : decode cX5_places0 1 = .ok (.getfield 7, 3) := by decide +kernel
theorem dX5_places0_4 : decode cX5_places0 4 = .ok (.iload_n 1, 1) := by decide +kernel
theorem dX5_places0_5 : decode cX5_places0 5 = .ok (.iload_n 2, 1) := by decide +kernel
theorem dX5_places0_6 : decode cX5_places0 6 = .ok (.invokestatic 54, 3) := by decide +kernel
theorem dX5_places0_9 : decode cX5_places0 9 = .ok (.iaload, 1) := by decide +kernel
theorem dX5_places0_10 : decode cX5_places0 10 = .ok (.ireturn, 1) := by decide +kernel
theorem dX5_of_0 : decode cX5_of 0 = .ok (.aload_n 0, 1) := by decide +kernel
theorem dX5_of_1 : decode cX5_of 1 = .ok (.getfield 7, 3) := by decide +kernel
theorem dX5_of_4 : decode cX5_of 4 = .ok (.iload_n 1, 1) := by decide +kernel
theorem dX5_of_5 : decode cX5_of 5 = .ok (.iload_n 2, 1) := by decide +kernel
theorem dX5_of_6 : decode cX5_of 6 = .ok (.invokestatic 54, 3) := by decide +kernel
theorem dX5_of_9 : decode cX5_of 9 = .ok (.iconst 1, 1) := by decide +kernel
theorem dX5_of_10 : decode cX5_of 10 = .ok (.iadd, 1) := by decide +kernel
theorem dX5_of_11 : decode cX5_of 11 = .ok (.iconst 3, 1) := by decide +kernel
theorem dX5_of_12 : decode cX5_of 12 = .ok (.iload_n 3, 1) := by decide +kernel
theorem dX5_of_13 : decode cX5_of 13 = .ok (.imul, 1) := by decide +kernel
theorem dX5_of_14 : decode cX5_of 14 = .ok (.iadd, 1) := by decide +kernel
theorem dX5_of_15 : decode cX5_of 15 = .ok (.iload 4, 2) := by decide +kernel
theorem dX5_of_17 : decode cX5_of 17 = .ok (.iadd, 1) := by decide +kernel
theorem dX5_of_18 : decode cX5_of 18 = .ok (.iaload, 1) := by decide +kernel
theorem dX5_of_19 : decode cX5_of 19 = .ok (.ireturn, 1) := by decide +kernel
theorem dX5_isWrong_0 : decode cX5_isWrong 0 = .ok (.aload_n 0, 1) := by decide +kernel
theorem dX5_isWrong_1 : decode cX5_isWrong 1 = .ok (.iload_n 1, 1) := by decide +kernel
theorem dX5_isWrong_2 : decode cX5_isWrong 2 = .ok (.iload_n 2, 1) := by decide +kernel
theorem dX5_isWrong_3 : decode cX5_isWrong 3 = .ok (.iload_n 3, 1) := by decide +kernel
theorem dX5_isWrong_4 : decode cX5_isWrong 4 = .ok (.iconst 2, 1) := by decide +kernel
theorem dX5_isWrong_5 : decode cX5_isWrong 5 = .ok (.invokevirtual 57, 3) := by decide +kernel
theorem dX5_isWrong_8 : decode cX5_isWrong 8 = .ok (.iconst 1, 1) := by decide +kernel
theorem dX5_isWrong_9 : decode cX5_isWrong 9 = .ok (.if_icmp .eq 22, 3) := by decide +kernel
theorem dX5_isWrong_12 : decode cX5_isWrong 12 = .ok (.aload_n 0, 1) := by decide +kernel
theorem dX5_isWrong_13 : decode cX5_isWrong 13 = .ok (.iload_n 1, 1) := by decide +kernel
theorem dX5_isWrong_14 : decode cX5_isWrong 14 = .ok (.iload_n 2, 1) := by decide +kernel
theorem dX5_isWrong_15 : decode cX5_isWrong 15 = .ok (.iload_n 3, 1) := by decide +kernel
theorem dX5_isWrong_16 : decode cX5_isWrong 16 = .ok (.iconst 0, 1) := by decide +kernel
theorem dX5_isWrong_17 : decode cX5_isWrong 17 = .ok (.invokevirtual 57, 3) := by decide +kernel
theorem dX5_isWrong_20 : decode cX5_isWrong 20 = .ok (.aload_n 0, 1) := by decide +kernel
theorem dX5_isWrong_21 : decode cX5_isWrong 21 = .ok (.iload_n 1, 1) := by decide +kernel
theorem dX5_isWrong_22 : decode cX5_isWrong 22 = .ok (.iload_n 2, 1) := by decide +kernel
theorem dX5_isWrong_23 : decode cX5_isWrong 23 = .ok (.iload_n 3, 1) := by decide +kernel
theorem dX5_isWrong_24 : decode cX5_isWrong 24 = .ok (.iconst 1, 1) := by decide +kernel
theorem dX5_isWrong_25 : decode cX5_isWrong 25 = .ok (.invokevirtual 57, 3) := by decide +kernel
theorem dX5_isWrong_28 : decode cX5_isWrong 28 = .ok (.if_icmp .eq 7, 3) := by decide +kernel
theorem dX5_isWrong_31 : decode cX5_isWrong 31 = .ok (.iconst 1, 1) := by decide +kernel
theorem dX5_isWrong_32 : decode cX5_isWrong 32 = .ok (.goto 4, 3) := by decide +kernel
theorem dX5_isWrong_35 : decode cX5_isWrong 35 = .ok (.iconst 0, 1) := by decide +kernel
theorem dX5_isWrong_36 : decode cX5_isWrong 36 = .ok (.ireturn, 1) := by decide +kernel
theorem dX5_countOf_0 : decode cX5_countOf 0 = .ok (.iconst 0, 1) := by decide +kernel
theorem dX5_countOf_1 : decode cX5_countOf 1 = .ok (.istore_n 3, 1) := by decide +kernel
theorem dX5_countOf_2 : decode cX5_countOf 2 = .ok (.iconst 0, 1) := by decide +kernel
theorem dX5_countOf_3 : decode cX5_countOf 3 = .ok (.istore 4, 2) := by decide +kernel
theorem dX5_countOf_5 : decode cX5_countOf 5 = .ok (.iload 4, 2) := by decide +kernel
theorem dX5_countOf_7 : decode cX5_countOf 7 = .ok (.aload_n 0, 1) := by decide +kernel
theorem dX5_countOf_8 : decode cX5_countOf 8 = .ok (.getfield 7, 3) := by decide +kernel
theorem dX5_countOf_11 : decode cX5_countOf 11 = .ok (.sipush 1262, 3) := by decide +kernel
theorem dX5_countOf_14 : decode cX5_countOf 14 = .ok (.iload_n 1, 1) := by decide +kernel
theorem dX5_countOf_15 : decode cX5_countOf 15 = .ok (.iadd, 1) := by decide +kernel
theorem dX5_countOf_16 : decode cX5_countOf 16 = .ok (.iaload, 1) := by decide +kernel
theorem dX5_countOf_17 : decode cX5_countOf 17 = .ok (.if_icmp .ge 113, 3) := by decide +kernel
theorem dX5_countOf_20 : decode cX5_countOf 20 = .ok (.iconst 0, 1) := by decide +kernel
theorem dX5_countOf_21 : decode cX5_countOf 21 = .ok (.istore 5, 2) := by decide +kernel
theorem dX5_countOf_23 : decode cX5_countOf 23 = .ok (.iload 5, 2) := by decide +kernel
theorem dX5_countOf_25 : decode cX5_countOf 25 = .ok (.aload_n 0, 1) := by decide +kernel
theorem dX5_countOf_26 : decode cX5_countOf 26 = .ok (.iload_n 1, 1) := by decide +kernel
theorem dX5_countOf_27 : decode cX5_countOf 27 = .ok (.iload 4, 2) := by decide +kernel
theorem dX5_countOf_29 : decode cX5_countOf 29 = .ok (.invokevirtual 61, 3) := by decide +kernel
theorem dX5_countOf_32 : decode cX5_countOf 32 = .ok (.if_icmp .ge 92, 3) := by decide +kernel
theorem dX5_countOf_35 : decode cX5_countOf 35 = .ok (.iload_n 2, 1) := by decide +kernel
theorem dX5_countOf_36 : decode cX5_countOf 36 = .ok (.ifCond .eq 62, 3) := by decide +kernel
theorem dX5_countOf_39 : decode cX5_countOf 39 = .ok (.iload_n 2, 1) := by decide +kernel
theorem dX5_countOf_40 : decode cX5_countOf 40 = .ok (.iconst 1, 1) := by decide +kernel
theorem dX5_countOf_41 : decode cX5_countOf 41 = .ok (.if_icmp .ne 15, 3) := by decide +kernel
theorem dX5_countOf_44 : decode cX5_countOf 44 = .ok (.aload_n 0, 1) := by decide +kernel
theorem dX5_countOf_45 : decode cX5_countOf 45 = .ok (.iload_n 1, 1) := by decide +kernel
theorem dX5_countOf_46 : decode cX5_countOf 46 = .ok (.iload 4, 2) := by decide +kernel
theorem dX5_countOf_48 : decode cX5_countOf 48 = .ok (.iload 5, 2) := by decide +kernel
theorem dX5_countOf_50 : decode cX5_countOf 50 = .ok (.invokevirtual 64, 3) := by decide +kernel
theorem dX5_countOf_53 : decode cX5_countOf 53 = .ok (.ifCond .ne 45, 3) := by decide +kernel
theorem dX5_countOf_56 : decode cX5_countOf 56 = .ok (.iload_n 2, 1) := by decide +kernel
theorem dX5_countOf_57 : decode cX5_countOf 57 = .ok (.iconst 2, 1) := by decide +kernel
theorem dX5_countOf_58 : decode cX5_countOf 58 = .ok (.if_icmp .ne 17, 3) := by decide +kernel
theorem dX5_countOf_61 : decode cX5_countOf 61 = .ok (.aload_n 0, 1) := by decide +kernel
theorem dX5_countOf_62 : decode cX5_countOf 62 = .ok (.iload_n 1, 1) := by decide +kernel
theorem dX5_countOf_63 : decode cX5_countOf 63 = .ok (.iload 4, 2) := by decide +kernel
theorem dX5_countOf_65 : decode cX5_countOf 65 = .ok (.iload 5, 2) := by decide +kernel
theorem dX5_countOf_67 : decode cX5_countOf 67 = .ok (.iconst 2, 1) := by decide +kernel
theorem dX5_countOf_68 : decode cX5_countOf 68 = .ok (.invokevirtual 57, 3) := by decide +kernel
theorem dX5_countOf_71 : decode cX5_countOf 71 = .ok (.iconst 1, 1) := by decide +kernel
theorem dX5_countOf_72 : decode cX5_countOf 72 = .ok (.if_icmp .eq 26, 3) := by decide +kernel
theorem dX5_countOf_75 : decode cX5_countOf 75 = .ok (.iload_n 2, 1) := by decide +kernel
theorem dX5_countOf_76 : decode cX5_countOf 76 = .ok (.bipush 10, 2) := by decide +kernel
theorem dX5_countOf_78 : decode cX5_countOf 78 = .ok (.if_icmp .lt 24, 3) := by decide +kernel
theorem dX5_countOf_81 : decode cX5_countOf 81 = .ok (.aload_n 0, 1) := by decide +kernel
theorem dX5_countOf_82 : decode cX5_countOf 82 = .ok (.iload_n 1, 1) := by decide +kernel
theorem dX5_countOf_83 : decode cX5_countOf 83 = .ok (.iload 4, 2) := by decide +kernel
theorem dX5_countOf_85 : decode cX5_countOf 85 = .ok (.iload 5, 2) := by decide +kernel
theorem dX5_countOf_87 : decode cX5_countOf 87 = .ok (.iconst 1, 1) := by decide +kernel
theorem dX5_countOf_88 : decode cX5_countOf 88 = .ok (.invokevirtual 57, 3) := by decide +kernel
theorem dX5_countOf_91 : decode cX5_countOf 91 = .ok (.iload_n 2, 1) := by decide +kernel
theorem dX5_countOf_92 : decode cX5_countOf 92 = .ok (.bipush 10, 2) := by decide +kernel
theorem dX5_countOf_94 : decode cX5_countOf 94 = .ok (.isub, 1) := by decide +kernel
theorem dX5_countOf_95 : decode cX5_countOf 95 = .ok (.if_icmp .ne 7, 3) := by decide +kernel
theorem dX5_countOf_98 : decode cX5_countOf 98 = .ok (.iconst 1, 1) := by decide +kernel
theorem dX5_countOf_99 : decode cX5_countOf 99 = .ok (.goto 4, 3) := by decide +kernel
theorem dX5_countOf_102 : decode cX5_countOf 102 = .ok (.iconst 0, 1) := by decide +kernel
theorem dX5_countOf_103 : decode cX5_countOf 103 = .ok (.istore 6, 2) := by decide +kernel
theorem dX5_countOf_105 : decode cX5_countOf 105 = .ok (.iload_n 3, 1) := by decide +kernel
theorem dX5_countOf_106 : decode cX5_countOf 106 = .ok (.iload 6, 2) := by decide +kernel
theorem dX5_countOf_108 : decode cX5_countOf 108 = .ok (.ifCond .eq 7, 3) := by decide +kernel
theorem dX5_countOf_111 : decode cX5_countOf 111 = .ok (.iconst 1, 1) := by decide +kernel
theorem dX5_countOf_112 : decode cX5_countOf 112 = .ok (.goto 4, 3) := by decide +kernel
theorem dX5_countOf_115 : decode cX5_countOf 115 = .ok (.iconst 0, 1) := by decide +kernel
theorem dX5_countOf_116 : decode cX5_countOf 116 = .ok (.iadd, 1) := by decide +kernel
theorem dX5_countOf_117 : decode cX5_countOf 117 = .ok (.istore_n 3, 1) := by decide +kernel
theorem dX5_countOf_118 : decode cX5_countOf 118 = .ok (.iinc 5 1, 3) := by decide +kernel
theorem dX5_countOf_121 : decode cX5_countOf 121 = .ok (.goto (-98), 3) := by decide +kernel
theorem dX5_countOf_124 : decode cX5_countOf 124 = .ok (.iinc 4 1, 3) := by decide +kernel
theorem dX5_countOf_127 : decode cX5_countOf 127 = .ok (.goto (-122), 3) := by decide +kernel
theorem dX5_countOf_130 : decode cX5_countOf 130 = .ok (.iload_n 3, 1) := by decide +kernel
theorem dX5_countOf_131 : decode cX5_countOf 131 = .ok (.ireturn, 1) := by decide +kernel
theorem dX5_countAll_0 : decode cX5_countAll 0 = .ok (.aload_n 0, 1) := by decide +kernel
theorem dX5_countAll_1 : decode cX5_countAll 1 = .ok (.iconst 0, 1) := by decide +kernel
theorem dX5_countAll_2 : decode cX5_countAll 2 = .ok (.iload_n 1, 1) := by decide +kernel
theorem dX5_countAll_3 : decode cX5_countAll 3 = .ok (.invokevirtual 68, 3) := by decide +kernel
theorem dX5_countAll_6 : decode cX5_countAll 6 = .ok (.aload_n 0, 1) := by decide +kernel
theorem dX5_countAll_7 : decode cX5_countAll 7 = .ok (.iconst 1, 1) := by decide +kernel
theorem dX5_countAll_8 : decode cX5_countAll 8 = .ok (.iload_n 1, 1) := by decide +kernel
theorem dX5_countAll_9 : decode cX5_countAll 9 = .ok (.invokevirtual 68, 3) := by decide +kernel
theorem dX5_countAll_12 : decode cX5_countAll 12 = .ok (.iadd, 1) := by decide +kernel
theorem dX5_countAll_13 : decode cX5_countAll 13 = .ok (.aload_n 0, 1) := by decide +kernel
theorem dX5_countAll_14 : decode cX5_countAll 14 = .ok (.iconst 2, 1) := by decide +kernel
theorem dX5_countAll_15 : decode cX5_countAll 15 = .ok (.iload_n 1, 1) := by decide +kernel
theorem dX5_countAll_16 : decode cX5_countAll 16 = .ok (.invokevirtual 68, 3) := by decide +kernel
theorem dX5_countAll_19 : decode cX5_countAll 19 = .ok (.iadd, 1) := by decide +kernel
theorem dX5_countAll_20 : decode cX5_countAll 20 = .ok (.ireturn, 1) := by decide +kernel
theorem dX5_sorts_0 : decode cX5_sorts 0 = .ok (.aload_n 0, 1) := by decide +kernel
theorem dX5_sorts_1 : decode cX5_sorts 1 = .ok (.invokevirtual 71, 3) := by decide +kernel
theorem dX5_sorts_4 : decode cX5_sorts 4 = .ok (.aload_n 0, 1) := by decide +kernel
theorem dX5_sorts_5 : decode cX5_sorts 5 = .ok (.iconst 0, 1) := by decide +kernel
theorem dX5_sorts_6 : decode cX5_sorts 6 = .ok (.invokevirtual 75, 3) := by decide +kernel
theorem dX5_sorts_9 : decode cX5_sorts 9 = .ok (.iadd, 1) := by decide +kernel
theorem dX5_sorts_10 : decode cX5_sorts 10 = .ok (.aload_n 0, 1) := by decide +kernel
theorem dX5_sorts_11 : decode cX5_sorts 11 = .ok (.getfield 7, 3) := by decide +kernel
theorem dX5_sorts_14 : decode cX5_sorts 14 = .ok (.sipush 1265, 3) := by decide +kernel
theorem dX5_sorts_17 : decode cX5_sorts 17 = .ok (.iaload, 1) := by decide +kernel
theorem dX5_sorts_18 : decode cX5_sorts 18 = .ok (.iadd, 1) := by decide +kernel
theorem dX5_sorts_19 : decode cX5_sorts 19 = .ok (.ireturn, 1) := by decide +kernel
theorem dX5_loosens_0 : decode cX5_loosens 0 = .ok (.iconst 0, 1) := by decide +kernel
theorem dX5_loosens_1 : decode cX5_loosens 1 = .ok (.istore_n 2, 1) := by decide +kernel
theorem dX5_loosens_2 : decode cX5_loosens 2 = .ok (.iload_n 2, 1) := by decide +kernel
theorem dX5_loosens_3 : decode cX5_loosens 3 = .ok (.sipush 245, 3) := by decide +kernel
theorem dX5_loosens_6 : decode cX5_loosens 6 = .ok (.if_icmp .ge 22, 3) := by decide +kernel
theorem dX5_loosens_9 : decode cX5_loosens 9 = .ok (.aload_n 0, 1) := by decide +kernel
theorem dX5_loosens_10 : decode cX5_loosens 10 = .ok (.getfield 7, 3) := by decide +kernel
theorem dX5_loosens_13 : decode cX5_loosens 13 = .ok (.iload_n 1, 1) := by decide +kernel
theorem dX5_loosens_14 : decode cX5_loosens 14 = .ok (.iconst 0, 1) := by decide +kernel
theorem dX5_loosens_15 : decode cX5_loosens 15 = .ok (.invokestatic 54, 3) := by decide +kernel
theorem dX5_loosens_18 : decode cX5_loosens 18 = .ok (.iload_n 2, 1) := by decide +kernel
theorem dX5_loosens_19 : decode cX5_loosens 19 = .ok (.iadd, 1) := by decide +kernel
theorem dX5_loosens_20 : decode cX5_loosens 20 = .ok (.iconst 0, 1) := by decide +kernel
theorem dX5_loosens_21 : decode cX5_loosens 21 = .ok (.iastore, 1) := by decide +kernel
theorem dX5_loosens_22 : decode cX5_loosens 22 = .ok (.iinc 2 1, 3) := by decide +kernel
theorem dX5_loosens_25 : decode cX5_loosens 25 = .ok (.goto (-23), 3) := by decide +kernel
theorem dX5_loosens_28 : decode cX5_loosens 28 = .ok (.aload_n 0, 1) := by decide +kernel
theorem dX5_loosens_29 : decode cX5_loosens 29 = .ok (.getfield 7, 3) := by decide +kernel
theorem dX5_loosens_32 : decode cX5_loosens 32 = .ok (.sipush 1262, 3) := by decide +kernel
theorem dX5_loosens_35 : decode cX5_loosens 35 = .ok (.iload_n 1, 1) := by decide +kernel
theorem dX5_loosens_36 : decode cX5_loosens 36 = .ok (.iadd, 1) := by decide +kernel
theorem dX5_loosens_37 : decode cX5_loosens 37 = .ok (.iconst 0, 1) := by decide +kernel
theorem dX5_loosens_38 : decode cX5_loosens 38 = .ok (.iastore, 1) := by decide +kernel
theorem dX5_loosens_39 : decode cX5_loosens 39 = .ok (.return_, 1) := by decide +kernel
theorem dX5_buys_0 : decode cX5_buys 0 = .ok (.iconst 0, 1) := by decide +kernel
theorem dX5_buys_1 : decode cX5_buys 1 = .ok (.istore_n 3, 1) := by decide +kernel
theorem dX5_buys_2 : decode cX5_buys 2 = .ok (.iload_n 3, 1) := by decide +kernel
theorem dX5_buys_3 : decode cX5_buys 3 = .ok (.iload_n 2, 1) := by decide +kernel
theorem dX5_buys_4 : decode cX5_buys 4 = .ok (.if_icmp .ge 15, 3) := by decide +kernel
theorem dX5_buys_7 : decode cX5_buys 7 = .ok (.aload_n 0, 1) := by decide +kernel
theorem dX5_buys_8 : decode cX5_buys 8 = .ok (.iload_n 1, 1) := by decide +kernel
theorem dX5_buys_9 : decode cX5_buys 9 = .ok (.iload_n 1, 1) := by decide +kernel
theorem dX5_buys_10 : decode cX5_buys 10 = .ok (.invokevirtual 78, 3) := by decide +kernel
theorem dX5_buys_13 : decode cX5_buys 13 = .ok (.iinc 3 1, 3) := by decide +kernel
theorem dX5_buys_16 : decode cX5_buys 16 = .ok (.goto (-14), 3) := by decide +kernel
theorem dX5_buys_19 : decode cX5_buys 19 = .ok (.aload_n 0, 1) := by decide +kernel
theorem dX5_buys_20 : decode cX5_buys 20 = .ok (.getfield 7, 3) := by decide +kernel
theorem dX5_buys_23 : decode cX5_buys 23 = .ok (.sipush 1518, 3) := by decide +kernel
theorem dX5_buys_26 : decode cX5_buys 26 = .ok (.dup2, 1) := by decide +kernel
theorem dX5_buys_27 : decode cX5_buys 27 = .ok (.iaload, 1) := by decide +kernel
theorem dX5_buys_28 : decode cX5_buys 28 = .ok (.iload_n 2, 1) := by decide +kernel
theorem dX5_buys_29 : decode cX5_buys 29 = .ok (.aload_n 0, 1) := by decide +kernel
theorem dX5_buys_30 : decode cX5_buys 30 = .ok (.getfield 7, 3) := by decide +kernel
theorem dX5_buys_33 : decode cX5_buys 33 = .ok (.sipush 1517, 3) := by decide +kernel
theorem dX5_buys_36 : decode cX5_buys 36 = .ok (.iaload, 1) := by decide +kernel
theorem dX5_buys_37 : decode cX5_buys 37 = .ok (.imul, 1) := by decide +kernel
theorem dX5_buys_38 : decode cX5_buys 38 = .ok (.iadd, 1) := by decide +kernel
theorem dX5_buys_39 : decode cX5_buys 39 = .ok (.iastore, 1) := by decide +kernel
theorem dX5_buys_40 : decode cX5_buys 40 = .ok (.return_, 1) := by decide +kernel
theorem dX5_buy_0 : decode cX5_buy 0 = .ok (.iload_n 1, 1) := by decide +kernel
theorem dX5_buy_1 : decode cX5_buy 1 = .ok (.invokestatic 82, 3) := by decide +kernel
theorem dX5_buy_4 : decode cX5_buy 4 = .ok (.ifCond .ne 9, 3) := by decide +kernel
theorem dX5_buy_7 : decode cX5_buy 7 = .ok (.aload_n 0, 1) := by decide +kernel
theorem dX5_buy_8 : decode cX5_buy 8 = .ok (.iconst 1, 1) := by decide +kernel
theorem dX5_buy_9 : decode cX5_buy 9 = .ok (.invokevirtual 86, 3) := by decide +kernel
theorem dX5_buy_12 : decode cX5_buy 12 = .ok (.ireturn, 1) := by decide +kernel
theorem dX5_buy_13 : decode cX5_buy 13 = .ok (.iload_n 2, 1) := by decide +kernel
theorem dX5_buy_14 : decode cX5_buy 14 = .ok (.i2l, 1) := by decide +kernel
theorem dX5_buy_15 : decode cX5_buy 15 = .ok (.lconst 1, 1) := by decide +kernel
theorem dX5_buy_16 : decode cX5_buy 16 = .ok (.ldc2_w 89, 3) := by decide +kernel
theorem dX5_buy_19 : decode cX5_buy 19 = .ok (.invokestatic 40, 3) := by decide +kernel
theorem dX5_buy_22 : decode cX5_buy 22 = .ok (.ifCond .ne 9, 3) := by decide +kernel
theorem dX5_buy_25 : decode cX5_buy 25 = .ok (.aload_n 0, 1) := by decide +kernel
theorem dX5_buy_26 : decode cX5_buy 26 = .ok (.iconst 2, 1) := by decide +kernel
theorem dX5_buy_27 : decode cX5_buy 27 = .ok (.invokevirtual 86, 3) := by decide +kernel
theorem dX5_buy_30 : decode cX5_buy 30 = .ok (.ireturn, 1) := by decide +kernel
theorem dX5_buy_31 : decode cX5_buy 31 = .ok (.aload_n 0, 1) := by decide +kernel
theorem dX5_buy_32 : decode cX5_buy 32 = .ok (.invokevirtual 91, 3) := by decide +kernel
theorem dX5_buy_35 : decode cX5_buy 35 = .ok (.iload_n 2, 1) := by decide +kernel
theorem dX5_buy_36 : decode cX5_buy 36 = .ok (.iadd, 1) := by decide +kernel
theorem dX5_buy_37 : decode cX5_buy 37 = .ok (.sipush 250, 3) := by decide +kernel
theorem dX5_buy_40 : decode cX5_buy 40 = .ok (.if_icmp .le 9, 3) := by decide +kernel
theorem dX5_buy_43 : decode cX5_buy 43 = .ok (.aload_n 0, 1) := by decide +kernel
theorem dX5_buy_44 : decode cX5_buy 44 = .ok (.iconst 3, 1) := by decide +kernel
theorem dX5_buy_45 : decode cX5_buy 45 = .ok (.invokevirtual 86, 3) := by decide +kernel
theorem dX5_buy_48 : decode cX5_buy 48 = .ok (.ireturn, 1) := by decide +kernel
theorem dX5_buy_49 : decode cX5_buy 49 = .ok (.aload_n 0, 1) := by decide +kernel
theorem dX5_buy_50 : decode cX5_buy 50 = .ok (.invokevirtual 94, 3) := by decide +kernel
theorem dX5_buy_53 : decode cX5_buy 53 = .ok (.aload_n 0, 1) := by decide +kernel
theorem dX5_buy_54 : decode cX5_buy 54 = .ok (.iload_n 1, 1) := by decide +kernel
theorem dX5_buy_55 : decode cX5_buy 55 = .ok (.iload_n 2, 1) := by decide +kernel
theorem dX5_buy_56 : decode cX5_buy 56 = .ok (.invokevirtual 97, 3) := by decide +kernel
theorem dX5_buy_59 : decode cX5_buy 59 = .ok (.aload_n 0, 1) := by decide +kernel
theorem dX5_buy_60 : decode cX5_buy 60 = .ok (.aload_n 0, 1) := by decide +kernel
theorem dX5_buy_61 : decode cX5_buy 61 = .ok (.iload_n 1, 1) := by decide +kernel
theorem dX5_buy_62 : decode cX5_buy 62 = .ok (.iconst (-1), 1) := by decide +kernel
theorem dX5_buy_63 : decode cX5_buy 63 = .ok (.invokevirtual 46, 3) := by decide +kernel
theorem dX5_buy_66 : decode cX5_buy 66 = .ok (.invokevirtual 100, 3) := by decide +kernel
theorem dX5_buy_69 : decode cX5_buy 69 = .ok (.ireturn, 1) := by decide +kernel
theorem dX5_lacking_0 : decode cX5_lacking 0 = .ok (.iconst 0, 1) := by decide +kernel
theorem dX5_lacking_1 : decode cX5_lacking 1 = .ok (.istore_n 2, 1) := by decide +kernel
theorem dX5_lacking_2 : decode cX5_lacking 2 = .ok (.iconst 0, 1) := by decide +kernel
theorem dX5_lacking_3 : decode cX5_lacking 3 = .ok (.istore_n 3, 1) := by decide +kernel
theorem dX5_lacking_4 : decode cX5_lacking 4 = .ok (.iload_n 3, 1) := by decide +kernel
theorem dX5_lacking_5 : decode cX5_lacking 5 = .ok (.aload_n 0, 1) := by decide +kernel
theorem dX5_lacking_6 : decode cX5_lacking 6 = .ok (.getfield 103, 3) := by decide +kernel
theorem dX5_lacking_9 : decode cX5_lacking 9 = .ok (.if_icmp .ge 27, 3) := by decide +kernel
theorem dX5_lacking_12 : decode cX5_lacking 12 = .ok (.iload_n 2, 1) := by decide +kernel
theorem dX5_lacking_13 : decode cX5_lacking 13 = .ok (.aload_n 0, 1) := by decide +kernel
theorem dX5_lacking_14 : decode cX5_lacking 14 = .ok (.getfield 19, 3) := by decide +kernel
theorem dX5_lacking_17 : decode cX5_lacking 17 = .ok (.iload_n 3, 1) := by decide +kernel
theorem dX5_lacking_18 : decode cX5_lacking 18 = .ok (.iaload, 1) := by decide +kernel
theorem dX5_lacking_19 : decode cX5_lacking 19 = .ok (.iload_n 1, 1) := by decide +kernel
theorem dX5_lacking_20 : decode cX5_lacking 20 = .ok (.if_icmp .ne 7, 3) := by decide +kernel
theorem dX5_lacking_23 : decode cX5_lacking 23 = .ok (.iconst 1, 1) := by decide +kernel
theorem dX5_lacking_24 : decode cX5_lacking 24 = .ok (.goto 4, 3) := by decide +kernel
theorem dX5_lacking_27 : decode cX5_lacking 27 = .ok (.iconst 0, 1) := by decide +kernel
theorem dX5_lacking_28 : decode cX5_lacking 28 = .ok (.iadd, 1) := by decide +kernel
theorem dX5_lacking_29 : decode cX5_lacking 29 = .ok (.istore_n 2, 1) := by decide +kernel
theorem dX5_lacking_30 : decode cX5_lacking 30 = .ok (.iinc 3 1, 3) := by decide +kernel
theorem dX5_lacking_33 : decode cX5_lacking 33 = .ok (.goto (-29), 3) := by decide +kernel
theorem dX5_lacking_36 : decode cX5_lacking 36 = .ok (.aload_n 0, 1) := by decide +kernel
theorem dX5_lacking_37 : decode cX5_lacking 37 = .ok (.iload_n 1, 1) := by decide +kernel
theorem dX5_lacking_38 : decode cX5_lacking 38 = .ok (.iload_n 1, 1) := by decide +kernel
theorem dX5_lacking_39 : decode cX5_lacking 39 = .ok (.invokevirtual 46, 3) := by decide +kernel
theorem dX5_lacking_42 : decode cX5_lacking 42 = .ok (.istore_n 3, 1) := by decide +kernel
theorem dX5_lacking_43 : decode cX5_lacking 43 = .ok (.iload_n 2, 1) := by decide +kernel
theorem dX5_lacking_44 : decode cX5_lacking 44 = .ok (.iload_n 3, 1) := by decide +kernel
theorem dX5_lacking_45 : decode cX5_lacking 45 = .ok (.if_icmp .le 9, 3) := by decide +kernel
theorem dX5_lacking_48 : decode cX5_lacking 48 = .ok (.iload_n 2, 1) := by decide +kernel
theorem dX5_lacking_49 : decode cX5_lacking 49 = .ok (.iload_n 3, 1) := by decide +kernel
theorem dX5_lacking_50 : decode cX5_lacking 50 = .ok (.isub, 1) := by decide +kernel
theorem dX5_lacking_51 : decode cX5_lacking 51 = .ok (.goto 4, 3) := by decide +kernel
theorem dX5_lacking_54 : decode cX5_lacking 54 = .ok (.iconst 0, 1) := by decide +kernel
end
section
theorem dX5_lacking_55 : decode cX5_lacking 55 = .ok (.ireturn, 1) := by decide +kernel
theorem dX5_buyLacking_0 : decode cX5_buyLacking 0 = .ok (.iconst 0, 1) := by decide +kernel
theorem dX5_buyLacking_1 : decode cX5_buyLacking 1 = .ok (.istore_n 1, 1) := by decide +kernel
theorem dX5_buyLacking_2 : decode cX5_buyLacking 2 = .ok (.iconst 0, 1) := by decide +kernel
theorem dX5_buyLacking_3 : decode cX5_buyLacking 3 = .ok (.istore_n 2, 1) := by decide +kernel
theorem dX5_buyLacking_4 : decode cX5_buyLacking 4 = .ok (.iload_n 2, 1) := by decide +kernel
theorem dX5_buyLacking_5 : decode cX5_buyLacking 5 = .ok (.bipush 27, 2) := by decide +kernel
theorem dX5_buyLacking_7 : decode cX5_buyLacking 7 = .ok (.if_icmp .ge 17, 3) := by decide +kernel
theorem dX5_buyLacking_10 : decode cX5_buyLacking 10 = .ok (.iload_n 1, 1) := by decide +kernel
theorem dX5_buyLacking_11 : decode cX5_buyLacking 11 = .ok (.aload_n 0, 1) := by decide +kernel
theorem dX5_buyLacking_12 : decode cX5_buyLacking 12 = .ok (.iload_n 2, 1) := by decide +kernel
theorem dX5_buyLacking_13 : decode cX5_buyLacking 13 = .ok (.invokevirtual 106, 3) := by decide +kernel
theorem dX5_buyLacking_16 : decode cX5_buyLacking 16 = .ok (.iadd, 1) := by decide +kernel
theorem dX5_buyLacking_17 : decode cX5_buyLacking 17 = .ok (.istore_n 1, 1) := by decide +kernel
theorem dX5_buyLacking_18 : decode cX5_buyLacking 18 = .ok (.iinc 2 1, 3) := by decide +kernel
theorem dX5_buyLacking_21 : decode cX5_buyLacking 21 = .ok (.goto (-17), 3) := by decide +kernel
theorem dX5_buyLacking_24 : decode cX5_buyLacking 24 = .ok (.aload_n 0, 1) := by decide +kernel
theorem dX5_buyLacking_25 : decode cX5_buyLacking 25 = .ok (.invokevirtual 91, 3) := by decide +kernel
theorem dX5_buyLacking_28 : decode cX5_buyLacking 28 = .ok (.iload_n 1, 1) := by decide +kernel
theorem dX5_buyLacking_29 : decode cX5_buyLacking 29 = .ok (.iadd, 1) := by decide +kernel
theorem dX5_buyLacking_30 : decode cX5_buyLacking 30 = .ok (.sipush 250, 3) := by decide +kernel
theorem dX5_buyLacking_33 : decode cX5_buyLacking 33 = .ok (.if_icmp .le 9, 3) := by decide +kernel
theorem dX5_buyLacking_36 : decode cX5_buyLacking 36 = .ok (.aload_n 0, 1) := by decide +kernel
theorem dX5_buyLacking_37 : decode cX5_buyLacking 37 = .ok (.iconst 1, 1) := by decide +kernel
theorem dX5_buyLacking_38 : decode cX5_buyLacking 38 = .ok (.invokevirtual 86, 3) := by decide +kernel
theorem dX5_buyLacking_41 : decode cX5_buyLacking 41 = .ok (.ireturn, 1) := by decide +kernel
theorem dX5_buyLacking_42 : decode cX5_buyLacking 42 = .ok (.aload_n 0, 1) := by decide +kernel
theorem dX5_buyLacking_43 : decode cX5_buyLacking 43 = .ok (.invokevirtual 94, 3) := by decide +kernel
theorem dX5_buyLacking_46 : decode cX5_buyLacking 46 = .ok (.iconst 0, 1) := by decide +kernel
theorem dX5_buyLacking_47 : decode cX5_buyLacking 47 = .ok (.istore_n 2, 1) := by decide +kernel
theorem dX5_buyLacking_48 : decode cX5_buyLacking 48 = .ok (.iload_n 2, 1) := by decide +kernel
theorem dX5_buyLacking_49 : decode cX5_buyLacking 49 = .ok (.bipush 27, 2) := by decide +kernel
theorem dX5_buyLacking_51 : decode cX5_buyLacking 51 = .ok (.if_icmp .ge 19, 3) := by decide +kernel
theorem dX5_buyLacking_54 : decode cX5_buyLacking 54 = .ok (.aload_n 0, 1) := by decide +kernel
theorem dX5_buyLacking_55 : decode cX5_buyLacking 55 = .ok (.iload_n 2, 1) := by decide +kernel
theorem dX5_buyLacking_56 : decode cX5_buyLacking 56 = .ok (.aload_n 0, 1) := by decide +kernel
theorem dX5_buyLacking_57 : decode cX5_buyLacking 57 = .ok (.iload_n 2, 1) := by decide +kernel
theorem dX5_buyLacking_58 : decode cX5_buyLacking 58 = .ok (.invokevirtual 106, 3) := by decide +kernel
theorem dX5_buyLacking_61 : decode cX5_buyLacking 61 = .ok (.invokevirtual 97, 3) := by decide +kernel
theorem dX5_buyLacking_64 : decode cX5_buyLacking 64 = .ok (.iinc 2 1, 3) := by decide +kernel
theorem dX5_buyLacking_67 : decode cX5_buyLacking 67 = .ok (.goto (-19), 3) := by decide +kernel
theorem dX5_buyLacking_70 : decode cX5_buyLacking 70 = .ok (.aload_n 0, 1) := by decide +kernel
theorem dX5_buyLacking_71 : decode cX5_buyLacking 71 = .ok (.iload_n 1, 1) := by decide +kernel
theorem dX5_buyLacking_72 : decode cX5_buyLacking 72 = .ok (.invokevirtual 100, 3) := by decide +kernel
theorem dX5_buyLacking_75 : decode cX5_buyLacking 75 = .ok (.ireturn, 1) := by decide +kernel
theorem dX5_spill_0 : decode cX5_spill 0 = .ok (.iload_n 1, 1) := by decide +kernel
theorem dX5_spill_1 : decode cX5_spill 1 = .ok (.invokestatic 82, 3) := by decide +kernel
theorem dX5_spill_4 : decode cX5_spill 4 = .ok (.ifCond .eq 10, 3) := by decide +kernel
theorem dX5_spill_7 : decode cX5_spill 7 = .ok (.iload_n 2, 1) := by decide +kernel
theorem dX5_spill_8 : decode cX5_spill 8 = .ok (.invokestatic 82, 3) := by decide +kernel
theorem dX5_spill_11 : decode cX5_spill 11 = .ok (.ifCond .ne 9, 3) := by decide +kernel
theorem dX5_spill_14 : decode cX5_spill 14 = .ok (.aload_n 0, 1) := by decide +kernel
theorem dX5_spill_15 : decode cX5_spill 15 = .ok (.iconst 1, 1) := by decide +kernel
theorem dX5_spill_16 : decode cX5_spill 16 = .ok (.invokevirtual 86, 3) := by decide +kernel
theorem dX5_spill_19 : decode cX5_spill 19 = .ok (.ireturn, 1) := by decide +kernel
theorem dX5_spill_20 : decode cX5_spill 20 = .ok (.iload_n 1, 1) := by decide +kernel
theorem dX5_spill_21 : decode cX5_spill 21 = .ok (.iload_n 2, 1) := by decide +kernel
theorem dX5_spill_22 : decode cX5_spill 22 = .ok (.if_icmp .eq 15, 3) := by decide +kernel
theorem dX5_spill_25 : decode cX5_spill 25 = .ok (.iload_n 3, 1) := by decide +kernel
theorem dX5_spill_26 : decode cX5_spill 26 = .ok (.i2l, 1) := by decide +kernel
theorem dX5_spill_27 : decode cX5_spill 27 = .ok (.lconst 1, 1) := by decide +kernel
theorem dX5_spill_28 : decode cX5_spill 28 = .ok (.ldc2_w 89, 3) := by decide +kernel
theorem dX5_spill_31 : decode cX5_spill 31 = .ok (.invokestatic 40, 3) := by decide +kernel
theorem dX5_spill_34 : decode cX5_spill 34 = .ok (.ifCond .ne 9, 3) := by decide +kernel
theorem dX5_spill_37 : decode cX5_spill 37 = .ok (.aload_n 0, 1) := by decide +kernel
theorem dX5_spill_38 : decode cX5_spill 38 = .ok (.iconst 2, 1) := by decide +kernel
theorem dX5_spill_39 : decode cX5_spill 39 = .ok (.invokevirtual 86, 3) := by decide +kernel
theorem dX5_spill_42 : decode cX5_spill 42 = .ok (.ireturn, 1) := by decide +kernel
theorem dX5_spill_43 : decode cX5_spill 43 = .ok (.aload_n 0, 1) := by decide +kernel
theorem dX5_spill_44 : decode cX5_spill 44 = .ok (.iload_n 1, 1) := by decide +kernel
theorem dX5_spill_45 : decode cX5_spill 45 = .ok (.iconst (-1), 1) := by decide +kernel
theorem dX5_spill_46 : decode cX5_spill 46 = .ok (.invokevirtual 46, 3) := by decide +kernel
theorem dX5_spill_49 : decode cX5_spill 49 = .ok (.iload_n 3, 1) := by decide +kernel
theorem dX5_spill_50 : decode cX5_spill 50 = .ok (.if_icmp .ge 9, 3) := by decide +kernel
theorem dX5_spill_53 : decode cX5_spill 53 = .ok (.aload_n 0, 1) := by decide +kernel
theorem dX5_spill_54 : decode cX5_spill 54 = .ok (.iconst 3, 1) := by decide +kernel
theorem dX5_spill_55 : decode cX5_spill 55 = .ok (.invokevirtual 86, 3) := by decide +kernel
theorem dX5_spill_58 : decode cX5_spill 58 = .ok (.ireturn, 1) := by decide +kernel
theorem dX5_spill_59 : decode cX5_spill 59 = .ok (.aload_n 0, 1) := by decide +kernel
theorem dX5_spill_60 : decode cX5_spill 60 = .ok (.invokevirtual 94, 3) := by decide +kernel
theorem dX5_spill_63 : decode cX5_spill 63 = .ok (.iconst 0, 1) := by decide +kernel
theorem dX5_spill_64 : decode cX5_spill 64 = .ok (.istore 4, 2) := by decide +kernel
theorem dX5_spill_66 : decode cX5_spill 66 = .ok (.iload 4, 2) := by decide +kernel
theorem dX5_spill_68 : decode cX5_spill 68 = .ok (.iload_n 3, 1) := by decide +kernel
theorem dX5_spill_69 : decode cX5_spill 69 = .ok (.if_icmp .ge 19, 3) := by decide +kernel
theorem dX5_spill_72 : decode cX5_spill 72 = .ok (.aload_n 0, 1) := by decide +kernel
theorem dX5_spill_73 : decode cX5_spill 73 = .ok (.iload_n 2, 1) := by decide +kernel
theorem dX5_spill_74 : decode cX5_spill 74 = .ok (.aload_n 0, 1) := by decide +kernel
theorem dX5_spill_75 : decode cX5_spill 75 = .ok (.iload_n 1, 1) := by decide +kernel
theorem dX5_spill_76 : decode cX5_spill 76 = .ok (.invokevirtual 50, 3) := by decide +kernel
theorem dX5_spill_79 : decode cX5_spill 79 = .ok (.invokevirtual 78, 3) := by decide +kernel
theorem dX5_spill_82 : decode cX5_spill 82 = .ok (.iinc 4 1, 3) := by decide +kernel
theorem dX5_spill_85 : decode cX5_spill 85 = .ok (.goto (-19), 3) := by decide +kernel
theorem dX5_spill_88 : decode cX5_spill 88 = .ok (.aload_n 0, 1) := by decide +kernel
theorem dX5_spill_89 : decode cX5_spill 89 = .ok (.aload_n 0, 1) := by decide +kernel
theorem dX5_spill_90 : decode cX5_spill 90 = .ok (.iload_n 1, 1) := by decide +kernel
theorem dX5_spill_91 : decode cX5_spill 91 = .ok (.iconst (-1), 1) := by decide +kernel
theorem dX5_spill_92 : decode cX5_spill 92 = .ok (.invokevirtual 46, 3) := by decide +kernel
theorem dX5_spill_95 : decode cX5_spill 95 = .ok (.invokevirtual 100, 3) := by decide +kernel
theorem dX5_spill_98 : decode cX5_spill 98 = .ok (.ireturn, 1) := by decide +kernel
theorem dX5_clean_0 : decode cX5_clean 0 = .ok (.iload_n 1, 1) := by decide +kernel
theorem dX5_clean_1 : decode cX5_clean 1 = .ok (.invokestatic 82, 3) := by decide +kernel
theorem dX5_clean_4 : decode cX5_clean 4 = .ok (.ifCond .ne 9, 3) := by decide +kernel
theorem dX5_clean_7 : decode cX5_clean 7 = .ok (.aload_n 0, 1) := by decide +kernel
theorem dX5_clean_8 : decode cX5_clean 8 = .ok (.iconst 1, 1) := by decide +kernel
theorem dX5_clean_9 : decode cX5_clean 9 = .ok (.invokevirtual 86, 3) := by decide +kernel
theorem dX5_clean_12 : decode cX5_clean 12 = .ok (.ireturn, 1) := by decide +kernel
theorem dX5_clean_13 : decode cX5_clean 13 = .ok (.aload_n 0, 1) := by decide +kernel
theorem dX5_clean_14 : decode cX5_clean 14 = .ok (.invokevirtual 94, 3) := by decide +kernel
theorem dX5_clean_17 : decode cX5_clean 17 = .ok (.aload_n 0, 1) := by decide +kernel
theorem dX5_clean_18 : decode cX5_clean 18 = .ok (.iload_n 1, 1) := by decide +kernel
theorem dX5_clean_19 : decode cX5_clean 19 = .ok (.invokevirtual 109, 3) := by decide +kernel
theorem dX5_clean_22 : decode cX5_clean 22 = .ok (.istore_n 2, 1) := by decide +kernel
theorem dX5_clean_23 : decode cX5_clean 23 = .ok (.iconst 0, 1) := by decide +kernel
theorem dX5_clean_24 : decode cX5_clean 24 = .ok (.istore_n 3, 1) := by decide +kernel
theorem dX5_clean_25 : decode cX5_clean 25 = .ok (.iconst 0, 1) := by decide +kernel
theorem dX5_clean_26 : decode cX5_clean 26 = .ok (.istore 4, 2) := by decide +kernel
theorem dX5_clean_28 : decode cX5_clean 28 = .ok (.iload 4, 2) := by decide +kernel
theorem dX5_clean_30 : decode cX5_clean 30 = .ok (.iload_n 2, 1) := by decide +kernel
theorem dX5_clean_31 : decode cX5_clean 31 = .ok (.if_icmp .ge 46, 3) := by decide +kernel
theorem dX5_clean_34 : decode cX5_clean 34 = .ok (.aload_n 0, 1) := by decide +kernel
theorem dX5_clean_35 : decode cX5_clean 35 = .ok (.aload_n 0, 1) := by decide +kernel
theorem dX5_clean_36 : decode cX5_clean 36 = .ok (.getfield 22, 3) := by decide +kernel
theorem dX5_clean_39 : decode cX5_clean 39 = .ok (.iload 4, 2) := by decide +kernel
theorem dX5_clean_41 : decode cX5_clean 41 = .ok (.iaload, 1) := by decide +kernel
theorem dX5_clean_42 : decode cX5_clean 42 = .ok (.aload_n 0, 1) := by decide +kernel
theorem dX5_clean_43 : decode cX5_clean 43 = .ok (.getfield 22, 3) := by decide +kernel
theorem dX5_clean_46 : decode cX5_clean 46 = .ok (.iload 4, 2) := by decide +kernel
theorem dX5_clean_48 : decode cX5_clean 48 = .ok (.iaload, 1) := by decide +kernel
theorem dX5_clean_49 : decode cX5_clean 49 = .ok (.invokevirtual 78, 3) := by decide +kernel
theorem dX5_clean_52 : decode cX5_clean 52 = .ok (.iload_n 3, 1) := by decide +kernel
theorem dX5_clean_53 : decode cX5_clean 53 = .ok (.aload_n 0, 1) := by decide +kernel
theorem dX5_clean_54 : decode cX5_clean 54 = .ok (.getfield 22, 3) := by decide +kernel
theorem dX5_clean_57 : decode cX5_clean 57 = .ok (.iload 4, 2) := by decide +kernel
theorem dX5_clean_59 : decode cX5_clean 59 = .ok (.iaload, 1) := by decide +kernel
theorem dX5_clean_60 : decode cX5_clean 60 = .ok (.iload_n 1, 1) := by decide +kernel
theorem dX5_clean_61 : decode cX5_clean 61 = .ok (.if_icmp .ne 7, 3) := by decide +kernel
theorem dX5_clean_64 : decode cX5_clean 64 = .ok (.iconst 0, 1) := by decide +kernel
theorem dX5_clean_65 : decode cX5_clean 65 = .ok (.goto 4, 3) := by decide +kernel
theorem dX5_clean_68 : decode cX5_clean 68 = .ok (.iconst 1, 1) := by decide +kernel
theorem dX5_clean_69 : decode cX5_clean 69 = .ok (.iadd, 1) := by decide +kernel
theorem dX5_clean_70 : decode cX5_clean 70 = .ok (.istore_n 3, 1) := by decide +kernel
theorem dX5_clean_71 : decode cX5_clean 71 = .ok (.iinc 4 1, 3) := by decide +kernel
theorem dX5_clean_74 : decode cX5_clean 74 = .ok (.goto (-46), 3) := by decide +kernel
theorem dX5_clean_77 : decode cX5_clean 77 = .ok (.aload_n 0, 1) := by decide +kernel
theorem dX5_clean_78 : decode cX5_clean 78 = .ok (.getfield 7, 3) := by decide +kernel
theorem dX5_clean_81 : decode cX5_clean 81 = .ok (.sipush 1519, 3) := by decide +kernel
theorem dX5_clean_84 : decode cX5_clean 84 = .ok (.dup2, 1) := by decide +kernel
theorem dX5_clean_85 : decode cX5_clean 85 = .ok (.iaload, 1) := by decide +kernel
theorem dX5_clean_86 : decode cX5_clean 86 = .ok (.iconst 2, 1) := by decide +kernel
theorem dX5_clean_87 : decode cX5_clean 87 = .ok (.iload_n 3, 1) := by decide +kernel
theorem dX5_clean_88 : decode cX5_clean 88 = .ok (.imul, 1) := by decide +kernel
theorem dX5_clean_89 : decode cX5_clean 89 = .ok (.iadd, 1) := by decide +kernel
theorem dX5_clean_90 : decode cX5_clean 90 = .ok (.iastore, 1) := by decide +kernel
theorem dX5_clean_91 : decode cX5_clean 91 = .ok (.aload_n 0, 1) := by decide +kernel
theorem dX5_clean_92 : decode cX5_clean 92 = .ok (.iload_n 3, 1) := by decide +kernel
theorem dX5_clean_93 : decode cX5_clean 93 = .ok (.invokevirtual 100, 3) := by decide +kernel
theorem dX5_clean_96 : decode cX5_clean 96 = .ok (.ireturn, 1) := by decide +kernel
theorem dX5_set_0 : decode cX5_set 0 = .ok (.iload_n 1, 1) := by decide +kernel
theorem dX5_set_1 : decode cX5_set 1 = .ok (.ifCond .eq 17, 3) := by decide +kernel
theorem dX5_set_4 : decode cX5_set 4 = .ok (.iload_n 1, 1) := by decide +kernel
theorem dX5_set_5 : decode cX5_set 5 = .ok (.i2l, 1) := by decide +kernel
theorem dX5_set_6 : decode cX5_set 6 = .ok (.ldc2_w 44, 3) := by decide +kernel
theorem dX5_set_9 : decode cX5_set 9 = .ok (.ldc2_w 112, 3) := by decide +kernel
theorem dX5_set_12 : decode cX5_set 12 = .ok (.invokestatic 40, 3) := by decide +kernel
theorem dX5_set_15 : decode cX5_set 15 = .ok (.ifCond .eq 15, 3) := by decide +kernel
theorem dX5_set_18 : decode cX5_set 18 = .ok (.iload_n 2, 1) := by decide +kernel
theorem dX5_set_19 : decode cX5_set 19 = .ok (.i2l, 1) := by decide +kernel
theorem dX5_set_20 : decode cX5_set 20 = .ok (.lconst 0, 1) := by decide +kernel
theorem dX5_set_21 : decode cX5_set 21 = .ok (.ldc2_w 114, 3) := by decide +kernel
theorem dX5_set_24 : decode cX5_set 24 = .ok (.invokestatic 40, 3) := by decide +kernel
theorem dX5_set_27 : decode cX5_set 27 = .ok (.ifCond .ne 9, 3) := by decide +kernel
theorem dX5_set_30 : decode cX5_set 30 = .ok (.aload_n 0, 1) := by decide +kernel
theorem dX5_set_31 : decode cX5_set 31 = .ok (.iconst 1, 1) := by decide +kernel
theorem dX5_set_32 : decode cX5_set 32 = .ok (.invokevirtual 86, 3) := by decide +kernel
theorem dX5_set_35 : decode cX5_set 35 = .ok (.ireturn, 1) := by decide +kernel
theorem dX5_set_36 : decode cX5_set 36 = .ok (.aload_n 0, 1) := by decide +kernel
theorem dX5_set_37 : decode cX5_set 37 = .ok (.invokevirtual 94, 3) := by decide +kernel
theorem dX5_set_40 : decode cX5_set 40 = .ok (.aload_n 0, 1) := by decide +kernel
theorem dX5_set_41 : decode cX5_set 41 = .ok (.getfield 7, 3) := by decide +kernel
theorem dX5_set_44 : decode cX5_set 44 = .ok (.sipush 1516, 3) := by decide +kernel
theorem dX5_set_47 : decode cX5_set 47 = .ok (.iaload, 1) := by decide +kernel
theorem dX5_set_48 : decode cX5_set 48 = .ok (.istore_n 3, 1) := by decide +kernel
theorem dX5_set_49 : decode cX5_set 49 = .ok (.aload_n 0, 1) := by decide +kernel
theorem dX5_set_50 : decode cX5_set 50 = .ok (.getfield 7, 3) := by decide +kernel
theorem dX5_set_53 : decode cX5_set 53 = .ok (.sipush 1516, 3) := by decide +kernel
theorem dX5_set_56 : decode cX5_set 56 = .ok (.iload_n 1, 1) := by decide +kernel
theorem dX5_set_57 : decode cX5_set 57 = .ok (.iastore, 1) := by decide +kernel
theorem dX5_set_58 : decode cX5_set 58 = .ok (.aload_n 0, 1) := by decide +kernel
theorem dX5_set_59 : decode cX5_set 59 = .ok (.getfield 7, 3) := by decide +kernel
theorem dX5_set_62 : decode cX5_set 62 = .ok (.sipush 1517, 3) := by decide +kernel
theorem dX5_set_65 : decode cX5_set 65 = .ok (.iload_n 2, 1) := by decide +kernel
theorem dX5_set_66 : decode cX5_set 66 = .ok (.iastore, 1) := by decide +kernel
theorem dX5_set_67 : decode cX5_set 67 = .ok (.aload_n 0, 1) := by decide +kernel
theorem dX5_set_68 : decode cX5_set 68 = .ok (.iload_n 3, 1) := by decide +kernel
theorem dX5_set_69 : decode cX5_set 69 = .ok (.invokevirtual 100, 3) := by decide +kernel
theorem dX5_set_72 : decode cX5_set 72 = .ok (.ireturn, 1) := by decide +kernel
theorem dX5_inAllBoxes_0 : decode cX5_inAllBoxes 0 = .ok (.iconst 0, 1) := by decide +kernel
theorem dX5_inAllBoxes_1 : decode cX5_inAllBoxes 1 = .ok (.istore_n 2, 1) := by decide +kernel
theorem dX5_inAllBoxes_2 : decode cX5_inAllBoxes 2 = .ok (.iconst 0, 1) := by decide +kernel
theorem dX5_inAllBoxes_3 : decode cX5_inAllBoxes 3 = .ok (.istore_n 3, 1) := by decide +kernel
theorem dX5_inAllBoxes_4 : decode cX5_inAllBoxes 4 = .ok (.iload_n 3, 1) := by decide +kernel
theorem dX5_inAllBoxes_5 : decode cX5_inAllBoxes 5 = .ok (.sipush 250, 3) := by decide +kernel
theorem dX5_inAllBoxes_8 : decode cX5_inAllBoxes 8 = .ok (.if_icmp .ge 29, 3) := by decide +kernel
theorem dX5_inAllBoxes_11 : decode cX5_inAllBoxes 11 = .ok (.iload_n 2, 1) := by decide +kernel
theorem dX5_inAllBoxes_12 : decode cX5_inAllBoxes 12 = .ok (.aload_n 0, 1) := by decide +kernel
theorem dX5_inAllBoxes_13 : decode cX5_inAllBoxes 13 = .ok (.getfield 7, 3) := by decide +kernel
theorem dX5_inAllBoxes_16 : decode cX5_inAllBoxes 16 = .ok (.iconst 0, 1) := by decide +kernel
theorem dX5_inAllBoxes_17 : decode cX5_inAllBoxes 17 = .ok (.iload_n 3, 1) := by decide +kernel
theorem dX5_inAllBoxes_18 : decode cX5_inAllBoxes 18 = .ok (.iadd, 1) := by decide +kernel
theorem dX5_inAllBoxes_19 : decode cX5_inAllBoxes 19 = .ok (.iaload, 1) := by decide +kernel
theorem dX5_inAllBoxes_20 : decode cX5_inAllBoxes 20 = .ok (.iload_n 1, 1) := by decide +kernel
theorem dX5_inAllBoxes_21 : decode cX5_inAllBoxes 21 = .ok (.if_icmp .ne 7, 3) := by decide +kernel
theorem dX5_inAllBoxes_24 : decode cX5_inAllBoxes 24 = .ok (.iconst 1, 1) := by decide +kernel
theorem dX5_inAllBoxes_25 : decode cX5_inAllBoxes 25 = .ok (.goto 4, 3) := by decide +kernel
theorem dX5_inAllBoxes_28 : decode cX5_inAllBoxes 28 = .ok (.iconst 0, 1) := by decide +kernel
theorem dX5_inAllBoxes_29 : decode cX5_inAllBoxes 29 = .ok (.iadd, 1) := by decide +kernel
theorem dX5_inAllBoxes_30 : decode cX5_inAllBoxes 30 = .ok (.istore_n 2, 1) := by decide +kernel
theorem dX5_inAllBoxes_31 : decode cX5_inAllBoxes 31 = .ok (.iinc 3 1, 3) := by decide +kernel
theorem dX5_inAllBoxes_34 : decode cX5_inAllBoxes 34 = .ok (.goto (-30), 3) := by decide +kernel
theorem dX5_inAllBoxes_37 : decode cX5_inAllBoxes 37 = .ok (.iload_n 2, 1) := by decide +kernel
theorem dX5_inAllBoxes_38 : decode cX5_inAllBoxes 38 = .ok (.ireturn, 1) := by decide +kernel
theorem dX5_inTheHeap_0 : decode cX5_inTheHeap 0 = .ok (.iconst 0, 1) := by decide +kernel
theorem dX5_inTheHeap_1 : decode cX5_inTheHeap 1 = .ok (.istore_n 2, 1) := by decide +kernel
theorem dX5_inTheHeap_2 : decode cX5_inTheHeap 2 = .ok (.iconst 0, 1) := by decide +kernel
theorem dX5_inTheHeap_3 : decode cX5_inTheHeap 3 = .ok (.istore_n 3, 1) := by decide +kernel
theorem dX5_inTheHeap_4 : decode cX5_inTheHeap 4 = .ok (.iload_n 3, 1) := by decide +kernel
theorem dX5_inTheHeap_5 : decode cX5_inTheHeap 5 = .ok (.aload_n 0, 1) := by decide +kernel
theorem dX5_inTheHeap_6 : decode cX5_inTheHeap 6 = .ok (.getfield 7, 3) := by decide +kernel
theorem dX5_inTheHeap_9 : decode cX5_inTheHeap 9 = .ok (.sipush 1265, 3) := by decide +kernel
theorem dX5_inTheHeap_12 : decode cX5_inTheHeap 12 = .ok (.iaload, 1) := by decide +kernel
theorem dX5_inTheHeap_13 : decode cX5_inTheHeap 13 = .ok (.if_icmp .ge 31, 3) := by decide +kernel
theorem dX5_inTheHeap_16 : decode cX5_inTheHeap 16 = .ok (.iload_n 2, 1) := by decide +kernel
theorem dX5_inTheHeap_17 : decode cX5_inTheHeap 17 = .ok (.aload_n 0, 1) := by decide +kernel
theorem dX5_inTheHeap_18 : decode cX5_inTheHeap 18 = .ok (.getfield 7, 3) := by decide +kernel
theorem dX5_inTheHeap_21 : decode cX5_inTheHeap 21 = .ok (.sipush 1266, 3) := by decide +kernel
theorem dX5_inTheHeap_24 : decode cX5_inTheHeap 24 = .ok (.iload_n 3, 1) := by decide +kernel
theorem dX5_inTheHeap_25 : decode cX5_inTheHeap 25 = .ok (.iadd, 1) := by decide +kernel
theorem dX5_inTheHeap_26 : decode cX5_inTheHeap 26 = .ok (.iaload, 1) := by decide +kernel
theorem dX5_inTheHeap_27 : decode cX5_inTheHeap 27 = .ok (.iload_n 1, 1) := by decide +kernel
theorem dX5_inTheHeap_28 : decode cX5_inTheHeap 28 = .ok (.if_icmp .ne 7, 3) := by decide +kernel
theorem dX5_inTheHeap_31 : decode cX5_inTheHeap 31 = .ok (.iconst 1, 1) := by decide +kernel
theorem dX5_inTheHeap_32 : decode cX5_inTheHeap 32 = .ok (.goto 4, 3) := by decide +kernel
theorem dX5_inTheHeap_35 : decode cX5_inTheHeap 35 = .ok (.iconst 0, 1) := by decide +kernel
theorem dX5_inTheHeap_36 : decode cX5_inTheHeap 36 = .ok (.iadd, 1) := by decide +kernel
theorem dX5_inTheHeap_37 : decode cX5_inTheHeap 37 = .ok (.istore_n 2, 1) := by decide +kernel
theorem dX5_inTheHeap_38 : decode cX5_inTheHeap 38 = .ok (.iinc 3 1, 3) := by decide +kernel
theorem dX5_inTheHeap_41 : decode cX5_inTheHeap 41 = .ok (.goto (-37), 3) := by decide +kernel
theorem dX5_inTheHeap_44 : decode cX5_inTheHeap 44 = .ok (.iload_n 2, 1) := by decide +kernel
theorem dX5_inTheHeap_45 : decode cX5_inTheHeap 45 = .ok (.ireturn, 1) := by decide +kernel
theorem dX5_letterOf_0 : decode cX5_letterOf 0 = .ok (.iload_n 2, 1) := by decide +kernel
theorem dX5_letterOf_1 : decode cX5_letterOf 1 = .ok (.tableswitch 118 0 6 #[43, 50, 56, 62, 71, 77, 82], 43) := by decide +kernel
theorem dX5_letterOf_44 : decode cX5_letterOf 44 = .ok (.aload_n 0, 1) := by decide +kernel
theorem dX5_letterOf_45 : decode cX5_letterOf 45 = .ok (.iload_n 1, 1) := by decide +kernel
theorem dX5_letterOf_46 : decode cX5_letterOf 46 = .ok (.iconst (-1), 1) := by decide +kernel
theorem dX5_letterOf_47 : decode cX5_letterOf 47 = .ok (.invokevirtual 46, 3) := by decide +kernel
theorem dX5_letterOf_50 : decode cX5_letterOf 50 = .ok (.ireturn, 1) := by decide +kernel
theorem dX5_letterOf_51 : decode cX5_letterOf 51 = .ok (.aload_n 0, 1) := by decide +kernel
theorem dX5_letterOf_52 : decode cX5_letterOf 52 = .ok (.iload_n 1, 1) := by decide +kernel
theorem dX5_letterOf_53 : decode cX5_letterOf 53 = .ok (.invokevirtual 116, 3) := by decide +kernel
theorem dX5_letterOf_56 : decode cX5_letterOf 56 = .ok (.ireturn, 1) := by decide +kernel
theorem dX5_letterOf_57 : decode cX5_letterOf 57 = .ok (.aload_n 0, 1) := by decide +kernel
theorem dX5_letterOf_58 : decode cX5_letterOf 58 = .ok (.iload_n 1, 1) := by decide +kernel
theorem dX5_letterOf_59 : decode cX5_letterOf 59 = .ok (.invokevirtual 119, 3) := by decide +kernel
theorem dX5_letterOf_62 : decode cX5_letterOf 62 = .ok (.ireturn, 1) := by decide +kernel
theorem dX5_letterOf_63 : decode cX5_letterOf 63 = .ok (.aload_n 0, 1) := by decide +kernel
theorem dX5_letterOf_64 : decode cX5_letterOf 64 = .ok (.bipush 10, 2) := by decide +kernel
theorem dX5_letterOf_66 : decode cX5_letterOf 66 = .ok (.iload_n 1, 1) := by decide +kernel
theorem dX5_letterOf_67 : decode cX5_letterOf 67 = .ok (.iadd, 1) := by decide +kernel
theorem dX5_letterOf_68 : decode cX5_letterOf 68 = .ok (.invokevirtual 75, 3) := by decide +kernel
theorem dX5_letterOf_71 : decode cX5_letterOf 71 = .ok (.ireturn, 1) := by decide +kernel
theorem dX5_letterOf_72 : decode cX5_letterOf 72 = .ok (.aload_n 0, 1) := by decide +kernel
theorem dX5_letterOf_73 : decode cX5_letterOf 73 = .ok (.iload_n 1, 1) := by decide +kernel
theorem dX5_letterOf_74 : decode cX5_letterOf 74 = .ok (.invokevirtual 122, 3) := by decide +kernel
theorem dX5_letterOf_77 : decode cX5_letterOf 77 = .ok (.ireturn, 1) := by decide +kernel
theorem dX5_letterOf_78 : decode cX5_letterOf 78 = .ok (.iload_n 1, 1) := by decide +kernel
theorem dX5_letterOf_79 : decode cX5_letterOf 79 = .ok (.invokestatic 125, 3) := by decide +kernel
theorem dX5_letterOf_82 : decode cX5_letterOf 82 = .ok (.ireturn, 1) := by decide +kernel
theorem dX5_letterOf_83 : decode cX5_letterOf 83 = .ok (.aload_n 0, 1) := by decide +kernel
theorem dX5_letterOf_84 : decode cX5_letterOf 84 = .ok (.getfield 7, 3) := by decide +kernel
theorem dX5_letterOf_87 : decode cX5_letterOf 87 = .ok (.sipush 500, 3) := by decide +kernel
theorem dX5_letterOf_90 : decode cX5_letterOf 90 = .ok (.iload_n 1, 1) := by decide +kernel
theorem dX5_letterOf_91 : decode cX5_letterOf 91 = .ok (.iadd, 1) := by decide +kernel
theorem dX5_letterOf_92 : decode cX5_letterOf 92 = .ok (.iaload, 1) := by decide +kernel
theorem dX5_letterOf_93 : decode cX5_letterOf 93 = .ok (.iconst (-1), 1) := by decide +kernel
theorem dX5_letterOf_94 : decode cX5_letterOf 94 = .ok (.if_icmp .ne 7, 3) := by decide +kernel
theorem dX5_letterOf_97 : decode cX5_letterOf 97 = .ok (.iconst (-1), 1) := by decide +kernel
theorem dX5_letterOf_98 : decode cX5_letterOf 98 = .ok (.goto 20, 3) := by decide +kernel
theorem dX5_letterOf_101 : decode cX5_letterOf 101 = .ok (.aload_n 0, 1) := by decide +kernel
theorem dX5_letterOf_102 : decode cX5_letterOf 102 = .ok (.getfield 7, 3) := by decide +kernel
theorem dX5_letterOf_105 : decode cX5_letterOf 105 = .ok (.iconst 0, 1) := by decide +kernel
theorem dX5_letterOf_106 : decode cX5_letterOf 106 = .ok (.aload_n 0, 1) := by decide +kernel
theorem dX5_letterOf_107 : decode cX5_letterOf 107 = .ok (.getfield 7, 3) := by decide +kernel
theorem dX5_letterOf_110 : decode cX5_letterOf 110 = .ok (.sipush 500, 3) := by decide +kernel
theorem dX5_letterOf_113 : decode cX5_letterOf 113 = .ok (.iload_n 1, 1) := by decide +kernel
theorem dX5_letterOf_114 : decode cX5_letterOf 114 = .ok (.iadd, 1) := by decide +kernel
theorem dX5_letterOf_115 : decode cX5_letterOf 115 = .ok (.iaload, 1) := by decide +kernel
theorem dX5_letterOf_116 : decode cX5_letterOf 116 = .ok (.iadd, 1) := by decide +kernel
theorem dX5_letterOf_117 : decode cX5_letterOf 117 = .ok (.iaload, 1) := by decide +kernel
theorem dX5_letterOf_118 : decode cX5_letterOf 118 = .ok (.ireturn, 1) := by decide +kernel
theorem dX5_letterOf_119 : decode cX5_letterOf 119 = .ok (.aload_n 0, 1) := by decide +kernel
theorem dX5_letterOf_120 : decode cX5_letterOf 120 = .ok (.iload_n 1, 1) := by decide +kernel
theorem dX5_letterOf_121 : decode cX5_letterOf 121 = .ok (.invokevirtual 106, 3) := by decide +kernel
theorem dX5_letterOf_124 : decode cX5_letterOf 124 = .ok (.ireturn, 1) := by decide +kernel
theorem dX5_letter_0 : decode cX5_letter 0 = .ok (.iload_n 1, 1) := by decide +kernel
theorem dX5_letter_1 : decode cX5_letter 1 = .ok (.invokestatic 82, 3) := by decide +kernel
theorem dX5_letter_4 : decode cX5_letter 4 = .ok (.ifCond .ne 9, 3) := by decide +kernel
theorem dX5_letter_7 : decode cX5_letter 7 = .ok (.aload_n 0, 1) := by decide +kernel
theorem dX5_letter_8 : decode cX5_letter 8 = .ok (.iconst 1, 1) := by decide +kernel
theorem dX5_letter_9 : decode cX5_letter 9 = .ok (.invokevirtual 86, 3) := by decide +kernel
theorem dX5_letter_12 : decode cX5_letter 12 = .ok (.ireturn, 1) := by decide +kernel
theorem dX5_letter_13 : decode cX5_letter 13 = .ok (.iload_n 2, 1) := by decide +kernel
theorem dX5_letter_14 : decode cX5_letter 14 = .ok (.i2l, 1) := by decide +kernel
theorem dX5_letter_15 : decode cX5_letter 15 = .ok (.lconst 0, 1) := by decide +kernel
theorem dX5_letter_16 : decode cX5_letter 16 = .ok (.ldc2_w 128, 3) := by decide +kernel
theorem dX5_letter_19 : decode cX5_letter 19 = .ok (.invokestatic 40, 3) := by decide +kernel
theorem dX5_letter_22 : decode cX5_letter 22 = .ok (.ifCond .eq 16, 3) := by decide +kernel
theorem dX5_letter_25 : decode cX5_letter 25 = .ok (.aload_n 0, 1) := by decide +kernel
theorem dX5_letter_26 : decode cX5_letter 26 = .ok (.aload_n 0, 1) := by decide +kernel
theorem dX5_letter_27 : decode cX5_letter 27 = .ok (.iload_n 1, 1) := by decide +kernel
theorem dX5_letter_28 : decode cX5_letter 28 = .ok (.iload_n 2, 1) := by decide +kernel
theorem dX5_letter_29 : decode cX5_letter 29 = .ok (.invokevirtual 130, 3) := by decide +kernel
theorem dX5_letter_32 : decode cX5_letter 32 = .ok (.invokevirtual 100, 3) := by decide +kernel
theorem dX5_letter_35 : decode cX5_letter 35 = .ok (.goto 8, 3) := by decide +kernel
theorem dX5_letter_38 : decode cX5_letter 38 = .ok (.aload_n 0, 1) := by decide +kernel
theorem dX5_letter_39 : decode cX5_letter 39 = .ok (.iconst 2, 1) := by decide +kernel
theorem dX5_letter_40 : decode cX5_letter 40 = .ok (.invokevirtual 86, 3) := by decide +kernel
theorem dX5_letter_43 : decode cX5_letter 43 = .ok (.ireturn, 1) := by decide +kernel
theorem dX5_inBox_0 : decode cX5_inBox 0 = .ok (.iload_n 1, 1) := by decide +kernel
theorem dX5_inBox_1 : decode cX5_inBox 1 = .ok (.invokestatic 82, 3) := by decide +kernel
theorem dX5_inBox_4 : decode cX5_inBox 4 = .ok (.ifCond .eq 17, 3) := by decide +kernel
theorem dX5_inBox_7 : decode cX5_inBox 7 = .ok (.iload_n 2, 1) := by decide +kernel
theorem dX5_inBox_8 : decode cX5_inBox 8 = .ok (.ifCond .lt 13, 3) := by decide +kernel
theorem dX5_inBox_11 : decode cX5_inBox 11 = .ok (.iload_n 2, 1) := by decide +kernel
theorem dX5_inBox_12 : decode cX5_inBox 12 = .ok (.aload_n 0, 1) := by decide +kernel
theorem dX5_inBox_13 : decode cX5_inBox 13 = .ok (.iload_n 1, 1) := by decide +kernel
theorem dX5_inBox_14 : decode cX5_inBox 14 = .ok (.iconst (-1), 1) := by decide +kernel
theorem dX5_inBox_15 : decode cX5_inBox 15 = .ok (.invokevirtual 46, 3) := by decide +kernel
theorem dX5_inBox_18 : decode cX5_inBox 18 = .ok (.if_icmp .lt 9, 3) := by decide +kernel
theorem dX5_inBox_21 : decode cX5_inBox 21 = .ok (.aload_n 0, 1) := by decide +kernel
theorem dX5_inBox_22 : decode cX5_inBox 22 = .ok (.iconst 1, 1) := by decide +kernel
theorem dX5_inBox_23 : decode cX5_inBox 23 = .ok (.invokevirtual 86, 3) := by decide +kernel
theorem dX5_inBox_26 : decode cX5_inBox 26 = .ok (.ireturn, 1) := by decide +kernel
theorem dX5_inBox_27 : decode cX5_inBox 27 = .ok (.aload_n 0, 1) := by decide +kernel
theorem dX5_inBox_28 : decode cX5_inBox 28 = .ok (.getfield 7, 3) := by decide +kernel
theorem dX5_inBox_31 : decode cX5_inBox 31 = .ok (.sipush 500, 3) := by decide +kernel
theorem dX5_inBox_34 : decode cX5_inBox 34 = .ok (.iload_n 1, 1) := by decide +kernel
theorem dX5_inBox_35 : decode cX5_inBox 35 = .ok (.iadd, 1) := by decide +kernel
theorem dX5_inBox_36 : decode cX5_inBox 36 = .ok (.iaload, 1) := by decide +kernel
theorem dX5_inBox_37 : decode cX5_inBox 37 = .ok (.istore_n 3, 1) := by decide +kernel
theorem dX5_inBox_38 : decode cX5_inBox 38 = .ok (.iconst 0, 1) := by decide +kernel
theorem dX5_inBox_39 : decode cX5_inBox 39 = .ok (.istore 4, 2) := by decide +kernel
theorem dX5_inBox_41 : decode cX5_inBox 41 = .ok (.iload 4, 2) := by decide +kernel
theorem dX5_inBox_43 : decode cX5_inBox 43 = .ok (.iload_n 2, 1) := by decide +kernel
theorem dX5_inBox_44 : decode cX5_inBox 44 = .ok (.if_icmp .ge 20, 3) := by decide +kernel
theorem dX5_inBox_47 : decode cX5_inBox 47 = .ok (.aload_n 0, 1) := by decide +kernel
theorem dX5_inBox_48 : decode cX5_inBox 48 = .ok (.getfield 7, 3) := by decide +kernel
theorem dX5_inBox_51 : decode cX5_inBox 51 = .ok (.sipush 250, 3) := by decide +kernel
theorem dX5_inBox_54 : decode cX5_inBox 54 = .ok (.iload_n 3, 1) := by decide +kernel
theorem dX5_inBox_55 : decode cX5_inBox 55 = .ok (.iadd, 1) := by decide +kernel
theorem dX5_inBox_56 : decode cX5_inBox 56 = .ok (.iaload, 1) := by decide +kernel
theorem dX5_inBox_57 : decode cX5_inBox 57 = .ok (.istore_n 3, 1) := by decide +kernel
theorem dX5_inBox_58 : decode cX5_inBox 58 = .ok (.iinc 4 1, 3) := by decide +kernel
theorem dX5_inBox_61 : decode cX5_inBox 61 = .ok (.goto (-20), 3) := by decide +kernel
theorem dX5_inBox_64 : decode cX5_inBox 64 = .ok (.aload_n 0, 1) := by decide +kernel
theorem dX5_inBox_65 : decode cX5_inBox 65 = .ok (.aload_n 0, 1) := by decide +kernel
theorem dX5_inBox_66 : decode cX5_inBox 66 = .ok (.getfield 7, 3) := by decide +kernel
theorem dX5_inBox_69 : decode cX5_inBox 69 = .ok (.iconst 0, 1) := by decide +kernel
theorem dX5_inBox_70 : decode cX5_inBox 70 = .ok (.iload_n 3, 1) := by decide +kernel
theorem dX5_inBox_71 : decode cX5_inBox 71 = .ok (.iadd, 1) := by decide +kernel
theorem dX5_inBox_72 : decode cX5_inBox 72 = .ok (.iaload, 1) := by decide +kernel
theorem dX5_inBox_73 : decode cX5_inBox 73 = .ok (.invokevirtual 100, 3) := by decide +kernel
theorem dX5_inBox_76 : decode cX5_inBox 76 = .ok (.ireturn, 1) := by decide +kernel
theorem dX5_allFoul_0 : decode cX5_allFoul 0 = .ok (.iconst 0, 1) := by decide +kernel
theorem dX5_allFoul_1 : decode cX5_allFoul 1 = .ok (.istore_n 1, 1) := by decide +kernel
theorem dX5_allFoul_2 : decode cX5_allFoul 2 = .ok (.iconst 0, 1) := by decide +kernel
theorem dX5_allFoul_3 : decode cX5_allFoul 3 = .ok (.istore_n 2, 1) := by decide +kernel
theorem dX5_allFoul_4 : decode cX5_allFoul 4 = .ok (.iload_n 2, 1) := by decide +kernel
theorem dX5_allFoul_5 : decode cX5_allFoul 5 = .ok (.bipush 27, 2) := by decide +kernel
theorem dX5_allFoul_7 : decode cX5_allFoul 7 = .ok (.if_icmp .ge 17, 3) := by decide +kernel
theorem dX5_allFoul_10 : decode cX5_allFoul 10 = .ok (.iload_n 1, 1) := by decide +kernel
theorem dX5_allFoul_11 : decode cX5_allFoul 11 = .ok (.aload_n 0, 1) := by decide +kernel
theorem dX5_allFoul_12 : decode cX5_allFoul 12 = .ok (.iload_n 2, 1) := by decide +kernel
theorem dX5_allFoul_13 : decode cX5_allFoul 13 = .ok (.invokevirtual 116, 3) := by decide +kernel
theorem dX5_allFoul_16 : decode cX5_allFoul 16 = .ok (.iadd, 1) := by decide +kernel
theorem dX5_allFoul_17 : decode cX5_allFoul 17 = .ok (.istore_n 1, 1) := by decide +kernel
theorem dX5_allFoul_18 : decode cX5_allFoul 18 = .ok (.iinc 2 1, 3) := by decide +kernel
theorem dX5_allFoul_21 : decode cX5_allFoul 21 = .ok (.goto (-17), 3) := by decide +kernel
theorem dX5_allFoul_24 : decode cX5_allFoul 24 = .ok (.iload_n 1, 1) := by decide +kernel
theorem dX5_allFoul_25 : decode cX5_allFoul 25 = .ok (.ireturn, 1) := by decide +kernel
theorem dX5_valueOf_0 : decode cX5_valueOf 0 = .ok (.iload_n 1, 1) := by decide +kernel
theorem dX5_valueOf_1 : decode cX5_valueOf 1 = .ok (.tableswitch 105 0 11 #[63, 68, 74, 83, 105, 105, 105, 105, 105, 88, 93, 99], 63) := by decide +kernel
theorem dX5_valueOf_64 : decode cX5_valueOf 64 = .ok (.aload_n 0, 1) := by decide +kernel
theorem dX5_valueOf_65 : decode cX5_valueOf 65 = .ok (.invokevirtual 71, 3) := by decide +kernel
theorem dX5_valueOf_68 : decode cX5_valueOf 68 = .ok (.ireturn, 1) := by decide +kernel
theorem dX5_valueOf_69 : decode cX5_valueOf 69 = .ok (.aload_n 0, 1) := by decide +kernel
theorem dX5_valueOf_70 : decode cX5_valueOf 70 = .ok (.iconst 0, 1) := by decide +kernel
theorem dX5_valueOf_71 : decode cX5_valueOf 71 = .ok (.invokevirtual 75, 3) := by decide +kernel
theorem dX5_valueOf_74 : decode cX5_valueOf 74 = .ok (.ireturn, 1) := by decide +kernel
theorem dX5_valueOf_75 : decode cX5_valueOf 75 = .ok (.aload_n 0, 1) := by decide +kernel
theorem dX5_valueOf_76 : decode cX5_valueOf 76 = .ok (.getfield 7, 3) := by decide +kernel
theorem dX5_valueOf_79 : decode cX5_valueOf 79 = .ok (.sipush 1265, 3) := by decide +kernel
theorem dX5_valueOf_82 : decode cX5_valueOf 82 = .ok (.iaload, 1) := by decide +kernel
theorem dX5_valueOf_83 : decode cX5_valueOf 83 = .ok (.ireturn, 1) := by decide +kernel
theorem dX5_valueOf_84 : decode cX5_valueOf 84 = .ok (.aload_n 0, 1) := by decide +kernel
theorem dX5_valueOf_85 : decode cX5_valueOf 85 = .ok (.invokevirtual 91, 3) := by decide +kernel
theorem dX5_valueOf_88 : decode cX5_valueOf 88 = .ok (.ireturn, 1) := by decide +kernel
theorem dX5_valueOf_89 : decode cX5_valueOf 89 = .ok (.aload_n 0, 1) := by decide +kernel
theorem dX5_valueOf_90 : decode cX5_valueOf 90 = .ok (.invokevirtual 133, 3) := by decide +kernel
theorem dX5_valueOf_93 : decode cX5_valueOf 93 = .ok (.ireturn, 1) := by decide +kernel
theorem dX5_valueOf_94 : decode cX5_valueOf 94 = .ok (.aload_n 0, 1) := by decide +kernel
theorem dX5_valueOf_95 : decode cX5_valueOf 95 = .ok (.iconst 1, 1) := by decide +kernel
theorem dX5_valueOf_96 : decode cX5_valueOf 96 = .ok (.invokevirtual 75, 3) := by decide +kernel
theorem dX5_valueOf_99 : decode cX5_valueOf 99 = .ok (.ireturn, 1) := by decide +kernel
theorem dX5_valueOf_100 : decode cX5_valueOf 100 = .ok (.aload_n 0, 1) := by decide +kernel
theorem dX5_valueOf_101 : decode cX5_valueOf 101 = .ok (.iconst 2, 1) := by decide +kernel
theorem dX5_valueOf_102 : decode cX5_valueOf 102 = .ok (.invokevirtual 75, 3) := by decide +kernel
theorem dX5_valueOf_105 : decode cX5_valueOf 105 = .ok (.ireturn, 1) := by decide +kernel
theorem dX5_valueOf_106 : decode cX5_valueOf 106 = .ok (.aload_n 0, 1) := by decide +kernel
theorem dX5_valueOf_107 : decode cX5_valueOf 107 = .ok (.getfield 7, 3) := by decide +kernel
theorem dX5_valueOf_110 : decode cX5_valueOf 110 = .ok (.sipush 1516, 3) := by decide +kernel
theorem dX5_valueOf_113 : decode cX5_valueOf 113 = .ok (.iload_n 1, 1) := by decide +kernel
theorem dX5_valueOf_114 : decode cX5_valueOf 114 = .ok (.iadd, 1) := by decide +kernel
theorem dX5_valueOf_115 : decode cX5_valueOf 115 = .ok (.iconst 4, 1) := by decide +kernel
theorem dX5_valueOf_116 : decode cX5_valueOf 116 = .ok (.isub, 1) := by decide +kernel
theorem dX5_valueOf_117 : decode cX5_valueOf 117 = .ok (.iaload, 1) := by decide +kernel
theorem dX5_valueOf_118 : decode cX5_valueOf 118 = .ok (.ireturn, 1) := by decide +kernel
theorem dX5_value_0 : decode cX5_value 0 = .ok (.iload_n 1, 1) := by decide +kernel
theorem dX5_value_1 : decode cX5_value 1 = .ok (.i2l, 1) := by decide +kernel
theorem dX5_value_2 : decode cX5_value 2 = .ok (.lconst 0, 1) := by decide +kernel
theorem dX5_value_3 : decode cX5_value 3 = .ok (.ldc2_w 136, 3) := by decide +kernel
theorem dX5_value_6 : decode cX5_value 6 = .ok (.invokestatic 40, 3) := by decide +kernel
theorem dX5_value_9 : decode cX5_value 9 = .ok (.ifCond .eq 15, 3) := by decide +kernel
theorem dX5_value_12 : decode cX5_value 12 = .ok (.aload_n 0, 1) := by decide +kernel
theorem dX5_value_13 : decode cX5_value 13 = .ok (.aload_n 0, 1) := by decide +kernel
theorem dX5_value_14 : decode cX5_value 14 = .ok (.iload_n 1, 1) := by decide +kernel
theorem dX5_value_15 : decode cX5_value 15 = .ok (.invokevirtual 138, 3) := by decide +kernel
theorem dX5_value_18 : decode cX5_value 18 = .ok (.invokevirtual 100, 3) := by decide +kernel
theorem dX5_value_21 : decode cX5_value 21 = .ok (.goto 8, 3) := by decide +kernel
theorem dX5_value_24 : decode cX5_value 24 = .ok (.aload_n 0, 1) := by decide +kernel
theorem dX5_value_25 : decode cX5_value 25 = .ok (.iconst 1, 1) := by decide +kernel
theorem dX5_value_26 : decode cX5_value 26 = .ok (.invokevirtual 86, 3) := by decide +kernel
theorem dX5_value_29 : decode cX5_value 29 = .ok (.ireturn, 1) := by decide +kernel
theorem dX5_lender_0 : decode cX5_lender 0 = .ok (.iconst (-1), 1) := by decide +kernel
theorem dX5_lender_1 : decode cX5_lender 1 = .ok (.istore_n 2, 1) := by decide +kernel
theorem dX5_lender_2 : decode cX5_lender 2 = .ok (.iconst 0, 1) := by decide +kernel
theorem dX5_lender_3 : decode cX5_lender 3 = .ok (.istore_n 3, 1) := by decide +kernel
theorem dX5_lender_4 : decode cX5_lender 4 = .ok (.iload_n 3, 1) := by decide +kernel
theorem dX5_lender_5 : decode cX5_lender 5 = .ok (.bipush 26, 2) := by decide +kernel
theorem dX5_lender_7 : decode cX5_lender 7 = .ok (.if_icmp .ge 72, 3) := by decide +kernel
theorem dX5_lender_10 : decode cX5_lender 10 = .ok (.iload_n 3, 1) := by decide +kernel
theorem dX5_lender_11 : decode cX5_lender 11 = .ok (.invokestatic 125, 3) := by decide +kernel
theorem dX5_lender_14 : decode cX5_lender 14 = .ok (.iload_n 1, 1) := by decide +kernel
theorem dX5_lender_15 : decode cX5_lender 15 = .ok (.invokestatic 125, 3) := by decide +kernel
theorem dX5_lender_18 : decode cX5_lender 18 = .ok (.if_icmp .ne 21, 3) := by decide +kernel
theorem dX5_lender_21 : decode cX5_lender 21 = .ok (.aload_n 0, 1) := by decide +kernel
theorem dX5_lender_22 : decode cX5_lender 22 = .ok (.getfield 7, 3) := by decide +kernel
theorem dX5_lender_25 : decode cX5_lender 25 = .ok (.sipush 500, 3) := by decide +kernel
theorem dX5_lender_28 : decode cX5_lender 28 = .ok (.iload_n 3, 1) := by decide +kernel
theorem dX5_lender_29 : decode cX5_lender 29 = .ok (.iadd, 1) := by decide +kernel
theorem dX5_lender_30 : decode cX5_lender 30 = .ok (.iaload, 1) := by decide +kernel
theorem dX5_lender_31 : decode cX5_lender 31 = .ok (.iconst (-1), 1) := by decide +kernel
theorem dX5_lender_32 : decode cX5_lender 32 = .ok (.if_icmp .eq 7, 3) := by decide +kernel
theorem dX5_lender_35 : decode cX5_lender 35 = .ok (.iconst 1, 1) := by decide +kernel
theorem dX5_lender_36 : decode cX5_lender 36 = .ok (.goto 4, 3) := by decide +kernel
theorem dX5_lender_39 : decode cX5_lender 39 = .ok (.iconst 0, 1) := by decide +kernel
theorem dX5_lender_40 : decode cX5_lender 40 = .ok (.istore 4, 2) := by decide +kernel
theorem dX5_lender_42 : decode cX5_lender 42 = .ok (.iload 4, 2) := by decide +kernel
theorem dX5_lender_44 : decode cX5_lender 44 = .ok (.ifCond .eq 27, 3) := by decide +kernel
theorem dX5_lender_47 : decode cX5_lender 47 = .ok (.iload_n 2, 1) := by decide +kernel
theorem dX5_lender_48 : decode cX5_lender 48 = .ok (.iconst (-1), 1) := by decide +kernel
theorem dX5_lender_49 : decode cX5_lender 49 = .ok (.if_icmp .eq 18, 3) := by decide +kernel
theorem dX5_lender_52 : decode cX5_lender 52 = .ok (.aload_n 0, 1) := by decide +kernel
theorem dX5_lender_53 : decode cX5_lender 53 = .ok (.iload_n 3, 1) := by decide +kernel
theorem dX5_lender_54 : decode cX5_lender 54 = .ok (.iconst (-1), 1) := by decide +kernel
theorem dX5_lender_55 : decode cX5_lender 55 = .ok (.invokevirtual 46, 3) := by decide +kernel
theorem dX5_lender_58 : decode cX5_lender 58 = .ok (.aload_n 0, 1) := by decide +kernel
theorem dX5_lender_59 : decode cX5_lender 59 = .ok (.iload_n 2, 1) := by decide +kernel
theorem dX5_lender_60 : decode cX5_lender 60 = .ok (.iconst (-1), 1) := by decide +kernel
theorem dX5_lender_61 : decode cX5_lender 61 = .ok (.invokevirtual 46, 3) := by decide +kernel
theorem dX5_lender_64 : decode cX5_lender 64 = .ok (.if_icmp .le 7, 3) := by decide +kernel
theorem dX5_lender_67 : decode cX5_lender 67 = .ok (.iload_n 3, 1) := by decide +kernel
theorem dX5_lender_68 : decode cX5_lender 68 = .ok (.goto 4, 3) := by decide +kernel
theorem dX5_lender_71 : decode cX5_lender 71 = .ok (.iload_n 2, 1) := by decide +kernel
theorem dX5_lender_72 : decode cX5_lender 72 = .ok (.istore_n 2, 1) := by decide +kernel
theorem dX5_lender_73 : decode cX5_lender 73 = .ok (.iinc 3 1, 3) := by decide +kernel
theorem dX5_lender_76 : decode cX5_lender 76 = .ok (.goto (-72), 3) := by decide +kernel
theorem dX5_lender_79 : decode cX5_lender 79 = .ok (.iload_n 2, 1) := by decide +kernel
theorem dX5_lender_80 : decode cX5_lender 80 = .ok (.ireturn, 1) := by decide +kernel
theorem dX5_sets_0 : decode cX5_sets 0 = .ok (.iconst 0, 1) := by decide +kernel
theorem dX5_sets_1 : decode cX5_sets 1 = .ok (.istore_n 1, 1) := by decide +kernel
theorem dX5_sets_2 : decode cX5_sets 2 = .ok (.iload_n 1, 1) := by decide +kernel
theorem dX5_sets_3 : decode cX5_sets 3 = .ok (.aload_n 0, 1) := by decide +kernel
theorem dX5_sets_4 : decode cX5_sets 4 = .ok (.getfield 103, 3) := by decide +kernel
theorem dX5_sets_7 : decode cX5_sets 7 = .ok (.if_icmp .ge 106, 3) := by decide +kernel
theorem dX5_sets_10 : decode cX5_sets 10 = .ok (.aload_n 0, 1) := by decide +kernel
theorem dX5_sets_11 : decode cX5_sets 11 = .ok (.getfield 7, 3) := by decide +kernel
theorem dX5_sets_14 : decode cX5_sets 14 = .ok (.sipush 500, 3) := by decide +kernel
theorem dX5_sets_17 : decode cX5_sets 17 = .ok (.aload_n 0, 1) := by decide +kernel
theorem dX5_sets_18 : decode cX5_sets 18 = .ok (.getfield 19, 3) := by decide +kernel
theorem dX5_sets_21 : decode cX5_sets 21 = .ok (.iload_n 1, 1) := by decide +kernel
theorem dX5_sets_22 : decode cX5_sets 22 = .ok (.iaload, 1) := by decide +kernel
theorem dX5_sets_23 : decode cX5_sets 23 = .ok (.iadd, 1) := by decide +kernel
theorem dX5_sets_24 : decode cX5_sets 24 = .ok (.iaload, 1) := by decide +kernel
theorem dX5_sets_25 : decode cX5_sets 25 = .ok (.iconst (-1), 1) := by decide +kernel
theorem dX5_sets_26 : decode cX5_sets 26 = .ok (.if_icmp .eq 7, 3) := by decide +kernel
theorem dX5_sets_29 : decode cX5_sets 29 = .ok (.iconst 1, 1) := by decide +kernel
theorem dX5_sets_30 : decode cX5_sets 30 = .ok (.goto 4, 3) := by decide +kernel
theorem dX5_sets_33 : decode cX5_sets 33 = .ok (.iconst 0, 1) := by decide +kernel
theorem dX5_sets_34 : decode cX5_sets 34 = .ok (.istore_n 2, 1) := by decide +kernel
theorem dX5_sets_35 : decode cX5_sets 35 = .ok (.iload_n 2, 1) := by decide +kernel
theorem dX5_sets_36 : decode cX5_sets 36 = .ok (.ifCond .eq 12, 3) := by decide +kernel
theorem dX5_sets_39 : decode cX5_sets 39 = .ok (.aload_n 0, 1) := by decide +kernel
theorem dX5_sets_40 : decode cX5_sets 40 = .ok (.getfield 19, 3) := by decide +kernel
theorem dX5_sets_43 : decode cX5_sets 43 = .ok (.iload_n 1, 1) := by decide +kernel
theorem dX5_sets_44 : decode cX5_sets 44 = .ok (.iaload, 1) := by decide +kernel
theorem dX5_sets_45 : decode cX5_sets 45 = .ok (.goto 28, 3) := by decide +kernel
theorem dX5_sets_48 : decode cX5_sets 48 = .ok (.aload_n 0, 1) := by decide +kernel
theorem dX5_sets_49 : decode cX5_sets 49 = .ok (.getfield 19, 3) := by decide +kernel
theorem dX5_sets_52 : decode cX5_sets 52 = .ok (.iload_n 1, 1) := by decide +kernel
theorem dX5_sets_53 : decode cX5_sets 53 = .ok (.iaload, 1) := by decide +kernel
theorem dX5_sets_54 : decode cX5_sets 54 = .ok (.bipush 26, 2) := by decide +kernel
theorem dX5_sets_56 : decode cX5_sets 56 = .ok (.if_icmp .ne 7, 3) := by decide +kernel
theorem dX5_sets_59 : decode cX5_sets 59 = .ok (.iconst (-1), 1) := by decide +kernel
theorem dX5_sets_60 : decode cX5_sets 60 = .ok (.goto 13, 3) := by decide +kernel
theorem dX5_sets_63 : decode cX5_sets 63 = .ok (.aload_n 0, 1) := by decide +kernel
theorem dX5_sets_64 : decode cX5_sets 64 = .ok (.aload_n 0, 1) := by decide +kernel
theorem dX5_sets_65 : decode cX5_sets 65 = .ok (.getfield 19, 3) := by decide +kernel
theorem dX5_sets_68 : decode cX5_sets 68 = .ok (.iload_n 1, 1) := by decide +kernel
theorem dX5_sets_69 : decode cX5_sets 69 = .ok (.iaload, 1) := by decide +kernel
theorem dX5_sets_70 : decode cX5_sets 70 = .ok (.invokevirtual 141, 3) := by decide +kernel
theorem dX5_sets_73 : decode cX5_sets 73 = .ok (.istore_n 3, 1) := by decide +kernel
theorem dX5_sets_74 : decode cX5_sets 74 = .ok (.iload_n 3, 1) := by decide +kernel
theorem dX5_sets_75 : decode cX5_sets 75 = .ok (.iconst (-1), 1) := by decide +kernel
theorem dX5_sets_76 : decode cX5_sets 76 = .ok (.if_icmp .ne 5, 3) := by decide +kernel
theorem dX5_sets_79 : decode cX5_sets 79 = .ok (.iconst 0, 1) := by decide +kernel
theorem dX5_sets_80 : decode cX5_sets 80 = .ok (.ireturn, 1) := by decide +kernel
theorem dX5_sets_81 : decode cX5_sets 81 = .ok (.aload_n 0, 1) := by decide +kernel
theorem dX5_sets_82 : decode cX5_sets 82 = .ok (.getfield 25, 3) := by decide +kernel
theorem dX5_sets_85 : decode cX5_sets 85 = .ok (.iload_n 1, 1) := by decide +kernel
theorem dX5_sets_86 : decode cX5_sets 86 = .ok (.aload_n 0, 1) := by decide +kernel
theorem dX5_sets_87 : decode cX5_sets 87 = .ok (.iload_n 3, 1) := by decide +kernel
theorem dX5_sets_88 : decode cX5_sets 88 = .ok (.invokevirtual 50, 3) := by decide +kernel
theorem dX5_sets_91 : decode cX5_sets 91 = .ok (.iastore, 1) := by decide +kernel
theorem dX5_sets_92 : decode cX5_sets 92 = .ok (.aload_n 0, 1) := by decide +kernel
theorem dX5_sets_93 : decode cX5_sets 93 = .ok (.getfield 28, 3) := by decide +kernel
theorem dX5_sets_96 : decode cX5_sets 96 = .ok (.iload_n 1, 1) := by decide +kernel
theorem dX5_sets_97 : decode cX5_sets 97 = .ok (.iload_n 2, 1) := by decide +kernel
theorem dX5_sets_98 : decode cX5_sets 98 = .ok (.ifCond .eq 7, 3) := by decide +kernel
theorem dX5_sets_101 : decode cX5_sets 101 = .ok (.iconst 0, 1) := by decide +kernel
theorem dX5_sets_102 : decode cX5_sets 102 = .ok (.goto 4, 3) := by decide +kernel
theorem dX5_sets_105 : decode cX5_sets 105 = .ok (.iconst 1, 1) := by decide +kernel
theorem dX5_sets_106 : decode cX5_sets 106 = .ok (.iastore, 1) := by decide +kernel
theorem dX5_sets_107 : decode cX5_sets 107 = .ok (.iinc 1 1, 3) := by decide +kernel
theorem dX5_sets_110 : decode cX5_sets 110 = .ok (.goto (-108), 3) := by decide +kernel
theorem dX5_sets_113 : decode cX5_sets 113 = .ok (.aload_n 0, 1) := by decide +kernel
theorem dX5_sets_114 : decode cX5_sets 114 = .ok (.getfield 103, 3) := by decide +kernel
theorem dX5_sets_117 : decode cX5_sets 117 = .ok (.ifCond .le 7, 3) := by decide +kernel
theorem dX5_sets_120 : decode cX5_sets 120 = .ok (.iconst 1, 1) := by decide +kernel
theorem dX5_sets_121 : decode cX5_sets 121 = .ok (.goto 4, 3) := by decide +kernel
theorem dX5_sets_124 : decode cX5_sets 124 = .ok (.iconst 0, 1) := by decide +kernel
theorem dX5_sets_125 : decode cX5_sets 125 = .ok (.ireturn, 1) := by decide +kernel
theorem dX5_wrongInLine_0 : decode cX5_wrongInLine 0 = .ok (.iconst 0, 1) := by decide +kernel
theorem dX5_wrongInLine_1 : decode cX5_wrongInLine 1 = .ok (.istore_n 1, 1) := by decide +kernel
theorem dX5_wrongInLine_2 : decode cX5_wrongInLine 2 = .ok (.iconst 0, 1) := by decide +kernel
theorem dX5_wrongInLine_3 : decode cX5_wrongInLine 3 = .ok (.istore_n 2, 1) := by decide +kernel
theorem dX5_wrongInLine_4 : decode cX5_wrongInLine 4 = .ok (.iload_n 2, 1) := by decide +kernel
theorem dX5_wrongInLine_5 : decode cX5_wrongInLine 5 = .ok (.aload_n 0, 1) := by decide +kernel
theorem dX5_wrongInLine_6 : decode cX5_wrongInLine 6 = .ok (.getfield 103, 3) := by decide +kernel
theorem dX5_wrongInLine_9 : decode cX5_wrongInLine 9 = .ok (.if_icmp .ge 42, 3) := by decide +kernel
theorem dX5_wrongInLine_12 : decode cX5_wrongInLine 12 = .ok (.iload_n 1, 1) := by decide +kernel
theorem dX5_wrongInLine_13 : decode cX5_wrongInLine 13 = .ok (.aload_n 0, 1) := by decide +kernel
theorem dX5_wrongInLine_14 : decode cX5_wrongInLine 14 = .ok (.getfield 28, 3) := by decide +kernel
theorem dX5_wrongInLine_17 : decode cX5_wrongInLine 17 = .ok (.iload_n 2, 1) := by decide +kernel
theorem dX5_wrongInLine_18 : decode cX5_wrongInLine 18 = .ok (.iaload, 1) := by decide +kernel
theorem dX5_wrongInLine_19 : decode cX5_wrongInLine 19 = .ok (.iconst 1, 1) := by decide +kernel
theorem dX5_wrongInLine_20 : decode cX5_wrongInLine 20 = .ok (.if_icmp .eq 18, 3) := by decide +kernel
theorem dX5_wrongInLine_23 : decode cX5_wrongInLine 23 = .ok (.aload_n 0, 1) := by decide +kernel
theorem dX5_wrongInLine_24 : decode cX5_wrongInLine 24 = .ok (.getfield 25, 3) := by decide +kernel
theorem dX5_wrongInLine_27 : decode cX5_wrongInLine 27 = .ok (.iload_n 2, 1) := by decide +kernel
theorem dX5_wrongInLine_28 : decode cX5_wrongInLine 28 = .ok (.iaload, 1) := by decide +kernel
theorem dX5_wrongInLine_29 : decode cX5_wrongInLine 29 = .ok (.aload_n 0, 1) := by decide +kernel
theorem dX5_wrongInLine_30 : decode cX5_wrongInLine 30 = .ok (.getfield 19, 3) := by decide +kernel
theorem dX5_wrongInLine_33 : decode cX5_wrongInLine 33 = .ok (.iload_n 2, 1) := by decide +kernel
theorem dX5_wrongInLine_34 : decode cX5_wrongInLine 34 = .ok (.iaload, 1) := by decide +kernel
theorem dX5_wrongInLine_35 : decode cX5_wrongInLine 35 = .ok (.if_icmp .eq 7, 3) := by decide +kernel
theorem dX5_wrongInLine_38 : decode cX5_wrongInLine 38 = .ok (.iconst 1, 1) := by decide +kernel
theorem dX5_wrongInLine_39 : decode cX5_wrongInLine 39 = .ok (.goto 4, 3) := by decide +kernel
theorem dX5_wrongInLine_42 : decode cX5_wrongInLine 42 = .ok (.iconst 0, 1) := by decide +kernel
theorem dX5_wrongInLine_43 : decode cX5_wrongInLine 43 = .ok (.iadd, 1) := by decide +kernel
theorem dX5_wrongInLine_44 : decode cX5_wrongInLine 44 = .ok (.istore_n 1, 1) := by decide +kernel
theorem dX5_wrongInLine_45 : decode cX5_wrongInLine 45 = .ok (.iinc 2 1, 3) := by decide +kernel
theorem dX5_wrongInLine_48 : decode cX5_wrongInLine 48 = .ok (.goto (-44), 3) := by decide +kernel
theorem dX5_wrongInLine_51 : decode cX5_wrongInLine 51 = .ok (.iload_n 1, 1) := by decide +kernel
theorem dX5_wrongInLine_52 : decode cX5_wrongInLine 52 = .ok (.ireturn, 1) := by decide +kernel
theorem dX5_turnedInLine_0 : decode cX5_turnedInLine 0 = .ok (.iconst 0, 1) := by decide +kernel
theorem dX5_turnedInLine_1 : decode cX5_turnedInLine 1 = .ok (.istore_n 1, 1) := by decide +kernel
theorem dX5_turnedInLine_2 : decode cX5_turnedInLine 2 = .ok (.iconst 0, 1) := by decide +kernel
theorem dX5_turnedInLine_3 : decode cX5_turnedInLine 3 = .ok (.istore_n 2, 1) := by decide +kernel
theorem dX5_turnedInLine_4 : decode cX5_turnedInLine 4 = .ok (.iload_n 2, 1) := by decide +kernel
theorem dX5_turnedInLine_5 : decode cX5_turnedInLine 5 = .ok (.aload_n 0, 1) := by decide +kernel
theorem dX5_turnedInLine_6 : decode cX5_turnedInLine 6 = .ok (.getfield 103, 3) := by decide +kernel
theorem dX5_turnedInLine_9 : decode cX5_turnedInLine 9 = .ok (.if_icmp .ge 18, 3) := by decide +kernel
theorem dX5_turnedInLine_12 : decode cX5_turnedInLine 12 = .ok (.iload_n 1, 1) := by decide +kernel
theorem dX5_turnedInLine_13 : decode cX5_turnedInLine 13 = .ok (.aload_n 0, 1) := by decide +kernel
theorem dX5_turnedInLine_14 : decode cX5_turnedInLine 14 = .ok (.getfield 28, 3) := by decide +kernel
theorem dX5_turnedInLine_17 : decode cX5_turnedInLine 17 = .ok (.iload_n 2, 1) := by decide +kernel
theorem dX5_turnedInLine_18 : decode cX5_turnedInLine 18 = .ok (.iaload, 1) := by decide +kernel
theorem dX5_turnedInLine_19 : decode cX5_turnedInLine 19 = .ok (.iadd, 1) := by decide +kernel
theorem dX5_turnedInLine_20 : decode cX5_turnedInLine 20 = .ok (.istore_n 1, 1) := by decide +kernel
theorem dX5_turnedInLine_21 : decode cX5_turnedInLine 21 = .ok (.iinc 2 1, 3) := by decide +kernel
theorem dX5_turnedInLine_24 : decode cX5_turnedInLine 24 = .ok (.goto (-20), 3) := by decide +kernel
theorem dX5_turnedInLine_27 : decode cX5_turnedInLine 27 = .ok (.iload_n 1, 1) := by decide +kernel
theorem dX5_turnedInLine_28 : decode cX5_turnedInLine 28 = .ok (.ireturn, 1) := by decide +kernel
theorem dX5_setLine_0 : decode cX5_setLine 0 = .ok (.iload_n 1, 1) := by decide +kernel
theorem dX5_setLine_1 : decode cX5_setLine 1 = .ok (.invokestatic 144, 3) := by decide +kernel
theorem dX5_setLine_4 : decode cX5_setLine 4 = .ok (.ifCond .ne 9, 3) := by decide +kernel
theorem dX5_setLine_7 : decode cX5_setLine 7 = .ok (.aload_n 0, 1) := by decide +kernel
theorem dX5_setLine_8 : decode cX5_setLine 8 = .ok (.iconst 1, 1) := by decide +kernel
theorem dX5_setLine_9 : decode cX5_setLine 9 = .ok (.invokevirtual 86, 3) := by decide +kernel
theorem dX5_setLine_12 : decode cX5_setLine 12 = .ok (.ireturn, 1) := by decide +kernel
theorem dX5_setLine_13 : decode cX5_setLine 13 = .ok (.aload_n 0, 1) := by decide +kernel
theorem dX5_setLine_14 : decode cX5_setLine 14 = .ok (.getfield 7, 3) := by decide +kernel
theorem dX5_setLine_17 : decode cX5_setLine 17 = .ok (.sipush 1262, 3) := by decide +kernel
theorem dX5_setLine_20 : decode cX5_setLine 20 = .ok (.iload_n 1, 1) := by decide +kernel
theorem dX5_setLine_21 : decode cX5_setLine 21 = .ok (.iadd, 1) := by decide +kernel
theorem dX5_setLine_22 : decode cX5_setLine 22 = .ok (.iaload, 1) := by decide +kernel
theorem dX5_setLine_23 : decode cX5_setLine 23 = .ok (.istore_n 2, 1) := by decide +kernel
theorem dX5_setLine_24 : decode cX5_setLine 24 = .ok (.aload_n 0, 1) := by decide +kernel
theorem dX5_setLine_25 : decode cX5_setLine 25 = .ok (.invokevirtual 147, 3) := by decide +kernel
theorem dX5_setLine_28 : decode cX5_setLine 28 = .ok (.iload_n 2, 1) := by decide +kernel
theorem dX5_setLine_29 : decode cX5_setLine 29 = .ok (.iconst 5, 1) := by decide +kernel
theorem dX5_setLine_30 : decode cX5_setLine 30 = .ok (.if_icmp .ge 14, 3) := by decide +kernel
theorem dX5_setLine_33 : decode cX5_setLine 33 = .ok (.aload_n 0, 1) := by decide +kernel
theorem dX5_setLine_34 : decode cX5_setLine 34 = .ok (.invokevirtual 150, 3) := by decide +kernel
theorem dX5_setLine_37 : decode cX5_setLine 37 = .ok (.ifCond .eq 7, 3) := by decide +kernel
theorem dX5_setLine_40 : decode cX5_setLine 40 = .ok (.iconst 1, 1) := by decide +kernel
theorem dX5_setLine_41 : decode cX5_setLine 41 = .ok (.goto 4, 3) := by decide +kernel
theorem dX5_setLine_44 : decode cX5_setLine 44 = .ok (.iconst 0, 1) := by decide +kernel
theorem dX5_setLine_45 : decode cX5_setLine 45 = .ok (.istore_n 3, 1) := by decide +kernel
theorem dX5_setLine_46 : decode cX5_setLine 46 = .ok (.aload_n 0, 1) := by decide +kernel
theorem dX5_setLine_47 : decode cX5_setLine 47 = .ok (.invokevirtual 154, 3) := by decide +kernel
theorem dX5_setLine_50 : decode cX5_setLine 50 = .ok (.iload_n 3, 1) := by decide +kernel
theorem dX5_setLine_51 : decode cX5_setLine 51 = .ok (.ifCond .ne 9, 3) := by decide +kernel
theorem dX5_setLine_54 : decode cX5_setLine 54 = .ok (.aload_n 0, 1) := by decide +kernel
theorem dX5_setLine_55 : decode cX5_setLine 55 = .ok (.iconst 2, 1) := by decide +kernel
theorem dX5_setLine_56 : decode cX5_setLine 56 = .ok (.invokevirtual 86, 3) := by decide +kernel
theorem dX5_setLine_59 : decode cX5_setLine 59 = .ok (.ireturn, 1) := by decide +kernel
theorem dX5_setLine_60 : decode cX5_setLine 60 = .ok (.aload_n 0, 1) := by decide +kernel
theorem dX5_setLine_61 : decode cX5_setLine 61 = .ok (.invokevirtual 94, 3) := by decide +kernel
theorem dX5_setLine_64 : decode cX5_setLine 64 = .ok (.aload_n 0, 1) := by decide +kernel
theorem dX5_setLine_65 : decode cX5_setLine 65 = .ok (.invokevirtual 150, 3) := by decide +kernel
theorem dX5_setLine_68 : decode cX5_setLine 68 = .ok (.istore 4, 2) := by decide +kernel
theorem dX5_setLine_70 : decode cX5_setLine 70 = .ok (.aload_n 0, 1) := by decide +kernel
theorem dX5_setLine_71 : decode cX5_setLine 71 = .ok (.getfield 7, 3) := by decide +kernel
theorem dX5_setLine_74 : decode cX5_setLine 74 = .ok (.iload_n 1, 1) := by decide +kernel
theorem dX5_setLine_75 : decode cX5_setLine 75 = .ok (.iload_n 2, 1) := by decide +kernel
theorem dX5_setLine_76 : decode cX5_setLine 76 = .ok (.invokestatic 54, 3) := by decide +kernel
theorem dX5_setLine_79 : decode cX5_setLine 79 = .ok (.iload 4, 2) := by decide +kernel
theorem dX5_setLine_81 : decode cX5_setLine 81 = .ok (.ifCond .eq 10, 3) := by decide +kernel
theorem dX5_setLine_84 : decode cX5_setLine 84 = .ok (.aload_n 0, 1) := by decide +kernel
theorem dX5_setLine_85 : decode cX5_setLine 85 = .ok (.getfield 103, 3) := by decide +kernel
theorem dX5_setLine_88 : decode cX5_setLine 88 = .ok (.goto 4, 3) := by decide +kernel
theorem dX5_setLine_91 : decode cX5_setLine 91 = .ok (.iconst 0, 1) := by decide +kernel
theorem dX5_setLine_92 : decode cX5_setLine 92 = .ok (.iastore, 1) := by decide +kernel
theorem dX5_setLine_93 : decode cX5_setLine 93 = .ok (.iconst 0, 1) := by decide +kernel
theorem dX5_setLine_94 : decode cX5_setLine 94 = .ok (.istore 5, 2) := by decide +kernel
theorem dX5_setLine_96 : decode cX5_setLine 96 = .ok (.iload 5, 2) := by decide +kernel
theorem dX5_setLine_98 : decode cX5_setLine 98 = .ok (.aload_n 0, 1) := by decide +kernel
theorem dX5_setLine_99 : decode cX5_setLine 99 = .ok (.getfield 103, 3) := by decide +kernel
theorem dX5_setLine_102 : decode cX5_setLine 102 = .ok (.if_icmp .ge 81, 3) := by decide +kernel
theorem dX5_setLine_105 : decode cX5_setLine 105 = .ok (.aload_n 0, 1) := by decide +kernel
theorem dX5_setLine_106 : decode cX5_setLine 106 = .ok (.getfield 7, 3) := by decide +kernel
theorem dX5_setLine_109 : decode cX5_setLine 109 = .ok (.iload_n 1, 1) := by decide +kernel
theorem dX5_setLine_110 : decode cX5_setLine 110 = .ok (.iload_n 2, 1) := by decide +kernel
theorem dX5_setLine_111 : decode cX5_setLine 111 = .ok (.invokestatic 54, 3) := by decide +kernel
theorem dX5_setLine_114 : decode cX5_setLine 114 = .ok (.iconst 1, 1) := by decide +kernel
theorem dX5_setLine_115 : decode cX5_setLine 115 = .ok (.iadd, 1) := by decide +kernel
theorem dX5_setLine_116 : decode cX5_setLine 116 = .ok (.iconst 3, 1) := by decide +kernel
theorem dX5_setLine_117 : decode cX5_setLine 117 = .ok (.iload 5, 2) := by decide +kernel
theorem dX5_setLine_119 : decode cX5_setLine 119 = .ok (.imul, 1) := by decide +kernel
theorem dX5_setLine_120 : decode cX5_setLine 120 = .ok (.iadd, 1) := by decide +kernel
theorem dX5_setLine_121 : decode cX5_setLine 121 = .ok (.aload_n 0, 1) := by decide +kernel
theorem dX5_setLine_122 : decode cX5_setLine 122 = .ok (.getfield 19, 3) := by decide +kernel
theorem dX5_setLine_125 : decode cX5_setLine 125 = .ok (.iload 5, 2) := by decide +kernel
theorem dX5_setLine_127 : decode cX5_setLine 127 = .ok (.iaload, 1) := by decide +kernel
theorem dX5_setLine_128 : decode cX5_setLine 128 = .ok (.iastore, 1) := by decide +kernel
theorem dX5_setLine_129 : decode cX5_setLine 129 = .ok (.aload_n 0, 1) := by decide +kernel
theorem dX5_setLine_130 : decode cX5_setLine 130 = .ok (.getfield 7, 3) := by decide +kernel
theorem dX5_setLine_133 : decode cX5_setLine 133 = .ok (.iload_n 1, 1) := by decide +kernel
theorem dX5_setLine_134 : decode cX5_setLine 134 = .ok (.iload_n 2, 1) := by decide +kernel
theorem dX5_setLine_135 : decode cX5_setLine 135 = .ok (.invokestatic 54, 3) := by decide +kernel
theorem dX5_setLine_138 : decode cX5_setLine 138 = .ok (.iconst 2, 1) := by decide +kernel
theorem dX5_setLine_139 : decode cX5_setLine 139 = .ok (.iadd, 1) := by decide +kernel
theorem dX5_setLine_140 : decode cX5_setLine 140 = .ok (.iconst 3, 1) := by decide +kernel
theorem dX5_setLine_141 : decode cX5_setLine 141 = .ok (.iload 5, 2) := by decide +kernel
theorem dX5_setLine_143 : decode cX5_setLine 143 = .ok (.imul, 1) := by decide +kernel
theorem dX5_setLine_144 : decode cX5_setLine 144 = .ok (.iadd, 1) := by decide +kernel
theorem dX5_setLine_145 : decode cX5_setLine 145 = .ok (.aload_n 0, 1) := by decide +kernel
theorem dX5_setLine_146 : decode cX5_setLine 146 = .ok (.getfield 25, 3) := by decide +kernel
theorem dX5_setLine_149 : decode cX5_setLine 149 = .ok (.iload 5, 2) := by decide +kernel
theorem dX5_setLine_151 : decode cX5_setLine 151 = .ok (.iaload, 1) := by decide +kernel
theorem dX5_setLine_152 : decode cX5_setLine 152 = .ok (.iastore, 1) := by decide +kernel
theorem dX5_setLine_153 : decode cX5_setLine 153 = .ok (.aload_n 0, 1) := by decide +kernel
theorem dX5_setLine_154 : decode cX5_setLine 154 = .ok (.getfield 7, 3) := by decide +kernel
theorem dX5_setLine_157 : decode cX5_setLine 157 = .ok (.iload_n 1, 1) := by decide +kernel
theorem dX5_setLine_158 : decode cX5_setLine 158 = .ok (.iload_n 2, 1) := by decide +kernel
theorem dX5_setLine_159 : decode cX5_setLine 159 = .ok (.invokestatic 54, 3) := by decide +kernel
theorem dX5_setLine_162 : decode cX5_setLine 162 = .ok (.iconst 3, 1) := by decide +kernel
theorem dX5_setLine_163 : decode cX5_setLine 163 = .ok (.iadd, 1) := by decide +kernel
theorem dX5_setLine_164 : decode cX5_setLine 164 = .ok (.iconst 3, 1) := by decide +kernel
theorem dX5_setLine_165 : decode cX5_setLine 165 = .ok (.iload 5, 2) := by decide +kernel
theorem dX5_setLine_167 : decode cX5_setLine 167 = .ok (.imul, 1) := by decide +kernel
theorem dX5_setLine_168 : decode cX5_setLine 168 = .ok (.iadd, 1) := by decide +kernel
theorem dX5_setLine_169 : decode cX5_setLine 169 = .ok (.aload_n 0, 1) := by decide +kernel
theorem dX5_setLine_170 : decode cX5_setLine 170 = .ok (.getfield 28, 3) := by decide +kernel
theorem dX5_setLine_173 : decode cX5_setLine 173 = .ok (.iload 5, 2) := by decide +kernel
theorem dX5_setLine_175 : decode cX5_setLine 175 = .ok (.iaload, 1) := by decide +kernel
theorem dX5_setLine_176 : decode cX5_setLine 176 = .ok (.iastore, 1) := by decide +kernel
theorem dX5_setLine_177 : decode cX5_setLine 177 = .ok (.iinc 5 1, 3) := by decide +kernel
theorem dX5_setLine_180 : decode cX5_setLine 180 = .ok (.goto (-84), 3) := by decide +kernel
theorem dX5_setLine_183 : decode cX5_setLine 183 = .ok (.aload_n 0, 1) := by decide +kernel
theorem dX5_setLine_184 : decode cX5_setLine 184 = .ok (.getfield 7, 3) := by decide +kernel
theorem dX5_setLine_187 : decode cX5_setLine 187 = .ok (.sipush 1262, 3) := by decide +kernel
theorem dX5_setLine_190 : decode cX5_setLine 190 = .ok (.iload_n 1, 1) := by decide +kernel
theorem dX5_setLine_191 : decode cX5_setLine 191 = .ok (.iadd, 1) := by decide +kernel
theorem dX5_setLine_192 : decode cX5_setLine 192 = .ok (.dup2, 1) := by decide +kernel
theorem dX5_setLine_193 : decode cX5_setLine 193 = .ok (.iaload, 1) := by decide +kernel
theorem dX5_setLine_194 : decode cX5_setLine 194 = .ok (.iconst 1, 1) := by decide +kernel
theorem dX5_setLine_195 : decode cX5_setLine 195 = .ok (.iadd, 1) := by decide +kernel
theorem dX5_setLine_196 : decode cX5_setLine 196 = .ok (.iastore, 1) := by decide +kernel
theorem dX5_setLine_197 : decode cX5_setLine 197 = .ok (.aload_n 0, 1) := by decide +kernel
theorem dX5_setLine_198 : decode cX5_setLine 198 = .ok (.getfield 7, 3) := by decide +kernel
theorem dX5_setLine_201 : decode cX5_setLine 201 = .ok (.sipush 1519, 3) := by decide +kernel
theorem dX5_setLine_204 : decode cX5_setLine 204 = .ok (.dup2, 1) := by decide +kernel
theorem dX5_setLine_205 : decode cX5_setLine 205 = .ok (.iaload, 1) := by decide +kernel
theorem dX5_setLine_206 : decode cX5_setLine 206 = .ok (.aload_n 0, 1) := by decide +kernel
theorem dX5_setLine_207 : decode cX5_setLine 207 = .ok (.getfield 103, 3) := by decide +kernel
theorem dX5_setLine_210 : decode cX5_setLine 210 = .ok (.iadd, 1) := by decide +kernel
theorem dX5_setLine_211 : decode cX5_setLine 211 = .ok (.iastore, 1) := by decide +kernel
theorem dX5_setLine_212 : decode cX5_setLine 212 = .ok (.aload_n 0, 1) := by decide +kernel
theorem dX5_setLine_213 : decode cX5_setLine 213 = .ok (.iload_n 2, 1) := by decide +kernel
theorem dX5_setLine_214 : decode cX5_setLine 214 = .ok (.invokevirtual 100, 3) := by decide +kernel
theorem dX5_setLine_217 : decode cX5_setLine 217 = .ok (.ireturn, 1) := by decide +kernel
theorem dX5_corrects_0 : decode cX5_corrects 0 = .ok (.iconst 0, 1) := by decide +kernel
theorem dX5_corrects_1 : decode cX5_corrects 1 = .ok (.istore_n 2, 1) := by decide +kernel
theorem dX5_corrects_2 : decode cX5_corrects 2 = .ok (.iconst 0, 1) := by decide +kernel
theorem dX5_corrects_3 : decode cX5_corrects 3 = .ok (.istore_n 3, 1) := by decide +kernel
theorem dX5_corrects_4 : decode cX5_corrects 4 = .ok (.iload_n 3, 1) := by decide +kernel
theorem dX5_corrects_5 : decode cX5_corrects 5 = .ok (.aload_n 0, 1) := by decide +kernel
theorem dX5_corrects_6 : decode cX5_corrects 6 = .ok (.getfield 7, 3) := by decide +kernel
theorem dX5_corrects_9 : decode cX5_corrects 9 = .ok (.sipush 1262, 3) := by decide +kernel
theorem dX5_corrects_12 : decode cX5_corrects 12 = .ok (.iload_n 1, 1) := by decide +kernel
theorem dX5_corrects_13 : decode cX5_corrects 13 = .ok (.iadd, 1) := by decide +kernel
theorem dX5_corrects_14 : decode cX5_corrects 14 = .ok (.iaload, 1) := by decide +kernel
theorem dX5_corrects_15 : decode cX5_corrects 15 = .ok (.if_icmp .ge 119, 3) := by decide +kernel
theorem dX5_corrects_18 : decode cX5_corrects 18 = .ok (.iconst 0, 1) := by decide +kernel
theorem dX5_corrects_19 : decode cX5_corrects 19 = .ok (.istore 4, 2) := by decide +kernel
theorem dX5_corrects_21 : decode cX5_corrects 21 = .ok (.iload 4, 2) := by decide +kernel
theorem dX5_corrects_23 : decode cX5_corrects 23 = .ok (.aload_n 0, 1) := by decide +kernel
theorem dX5_corrects_24 : decode cX5_corrects 24 = .ok (.iload_n 1, 1) := by decide +kernel
theorem dX5_corrects_25 : decode cX5_corrects 25 = .ok (.iload_n 3, 1) := by decide +kernel
theorem dX5_corrects_26 : decode cX5_corrects 26 = .ok (.invokevirtual 61, 3) := by decide +kernel
theorem dX5_corrects_29 : decode cX5_corrects 29 = .ok (.if_icmp .ge 99, 3) := by decide +kernel
theorem dX5_corrects_32 : decode cX5_corrects 32 = .ok (.aload_n 0, 1) := by decide +kernel
theorem dX5_corrects_33 : decode cX5_corrects 33 = .ok (.iload_n 1, 1) := by decide +kernel
theorem dX5_corrects_34 : decode cX5_corrects 34 = .ok (.iload_n 3, 1) := by decide +kernel
theorem dX5_corrects_35 : decode cX5_corrects 35 = .ok (.iload 4, 2) := by decide +kernel
theorem dX5_corrects_37 : decode cX5_corrects 37 = .ok (.iconst 0, 1) := by decide +kernel
theorem dX5_corrects_38 : decode cX5_corrects 38 = .ok (.invokevirtual 57, 3) := by decide +kernel
theorem dX5_corrects_41 : decode cX5_corrects 41 = .ok (.istore 5, 2) := by decide +kernel
theorem dX5_corrects_43 : decode cX5_corrects 43 = .ok (.aload_n 0, 1) := by decide +kernel
theorem dX5_corrects_44 : decode cX5_corrects 44 = .ok (.iload_n 1, 1) := by decide +kernel
theorem dX5_corrects_45 : decode cX5_corrects 45 = .ok (.iload_n 3, 1) := by decide +kernel
theorem dX5_corrects_46 : decode cX5_corrects 46 = .ok (.iload 4, 2) := by decide +kernel
theorem dX5_corrects_48 : decode cX5_corrects 48 = .ok (.invokevirtual 64, 3) := by decide +kernel
theorem dX5_corrects_51 : decode cX5_corrects 51 = .ok (.ifCond .eq 71, 3) := by decide +kernel
theorem dX5_corrects_54 : decode cX5_corrects 54 = .ok (.aload_n 0, 1) := by decide +kernel
theorem dX5_corrects_55 : decode cX5_corrects 55 = .ok (.iload 5, 2) := by decide +kernel
theorem dX5_corrects_57 : decode cX5_corrects 57 = .ok (.invokevirtual 157, 3) := by decide +kernel
theorem dX5_corrects_60 : decode cX5_corrects 60 = .ok (.ifCond .eq 62, 3) := by decide +kernel
theorem dX5_corrects_63 : decode cX5_corrects 63 = .ok (.aload_n 0, 1) := by decide +kernel
theorem dX5_corrects_64 : decode cX5_corrects 64 = .ok (.iload_n 1, 1) := by decide +kernel
theorem dX5_corrects_65 : decode cX5_corrects 65 = .ok (.iload_n 3, 1) := by decide +kernel
theorem dX5_corrects_66 : decode cX5_corrects 66 = .ok (.iload 4, 2) := by decide +kernel
theorem dX5_corrects_68 : decode cX5_corrects 68 = .ok (.iconst 1, 1) := by decide +kernel
theorem dX5_corrects_69 : decode cX5_corrects 69 = .ok (.invokevirtual 57, 3) := by decide +kernel
theorem dX5_corrects_72 : decode cX5_corrects 72 = .ok (.istore 6, 2) := by decide +kernel
theorem dX5_corrects_74 : decode cX5_corrects 74 = .ok (.aload_n 0, 1) := by decide +kernel
theorem dX5_corrects_75 : decode cX5_corrects 75 = .ok (.iload 6, 2) := by decide +kernel
theorem dX5_corrects_77 : decode cX5_corrects 77 = .ok (.iload 6, 2) := by decide +kernel
theorem dX5_corrects_79 : decode cX5_corrects 79 = .ok (.invokevirtual 78, 3) := by decide +kernel
theorem dX5_corrects_82 : decode cX5_corrects 82 = .ok (.aload_n 0, 1) := by decide +kernel
theorem dX5_corrects_83 : decode cX5_corrects 83 = .ok (.getfield 7, 3) := by decide +kernel
theorem dX5_corrects_86 : decode cX5_corrects 86 = .ok (.iload_n 1, 1) := by decide +kernel
theorem dX5_corrects_87 : decode cX5_corrects 87 = .ok (.iload_n 3, 1) := by decide +kernel
theorem dX5_corrects_88 : decode cX5_corrects 88 = .ok (.invokestatic 54, 3) := by decide +kernel
theorem dX5_corrects_91 : decode cX5_corrects 91 = .ok (.iconst 2, 1) := by decide +kernel
theorem dX5_corrects_92 : decode cX5_corrects 92 = .ok (.iadd, 1) := by decide +kernel
theorem dX5_corrects_93 : decode cX5_corrects 93 = .ok (.iconst 3, 1) := by decide +kernel
theorem dX5_corrects_94 : decode cX5_corrects 94 = .ok (.iload 4, 2) := by decide +kernel
theorem dX5_corrects_96 : decode cX5_corrects 96 = .ok (.imul, 1) := by decide +kernel
theorem dX5_corrects_97 : decode cX5_corrects 97 = .ok (.iadd, 1) := by decide +kernel
theorem dX5_corrects_98 : decode cX5_corrects 98 = .ok (.iload 5, 2) := by decide +kernel
theorem dX5_corrects_100 : decode cX5_corrects 100 = .ok (.iastore, 1) := by decide +kernel
theorem dX5_corrects_101 : decode cX5_corrects 101 = .ok (.aload_n 0, 1) := by decide +kernel
theorem dX5_corrects_102 : decode cX5_corrects 102 = .ok (.getfield 7, 3) := by decide +kernel
theorem dX5_corrects_105 : decode cX5_corrects 105 = .ok (.iload_n 1, 1) := by decide +kernel
theorem dX5_corrects_106 : decode cX5_corrects 106 = .ok (.iload_n 3, 1) := by decide +kernel
theorem dX5_corrects_107 : decode cX5_corrects 107 = .ok (.invokestatic 54, 3) := by decide +kernel
theorem dX5_corrects_110 : decode cX5_corrects 110 = .ok (.iconst 3, 1) := by decide +kernel
theorem dX5_corrects_111 : decode cX5_corrects 111 = .ok (.iadd, 1) := by decide +kernel
theorem dX5_corrects_112 : decode cX5_corrects 112 = .ok (.iconst 3, 1) := by decide +kernel
theorem dX5_corrects_113 : decode cX5_corrects 113 = .ok (.iload 4, 2) := by decide +kernel
theorem dX5_corrects_115 : decode cX5_corrects 115 = .ok (.imul, 1) := by decide +kernel
theorem dX5_corrects_116 : decode cX5_corrects 116 = .ok (.iadd, 1) := by decide +kernel
theorem dX5_corrects_117 : decode cX5_corrects 117 = .ok (.iconst 0, 1) := by decide +kernel
theorem dX5_corrects_118 : decode cX5_corrects 118 = .ok (.iastore, 1) := by decide +kernel
theorem dX5_corrects_119 : decode cX5_corrects 119 = .ok (.iinc 2 1, 3) := by decide +kernel
theorem dX5_corrects_122 : decode cX5_corrects 122 = .ok (.iinc 4 1, 3) := by decide +kernel
theorem dX5_corrects_125 : decode cX5_corrects 125 = .ok (.goto (-104), 3) := by decide +kernel
theorem dX5_corrects_128 : decode cX5_corrects 128 = .ok (.iinc 3 1, 3) := by decide +kernel
theorem dX5_corrects_131 : decode cX5_corrects 131 = .ok (.goto (-127), 3) := by decide +kernel
theorem dX5_corrects_134 : decode cX5_corrects 134 = .ok (.aload_n 0, 1) := by decide +kernel
theorem dX5_corrects_135 : decode cX5_corrects 135 = .ok (.getfield 7, 3) := by decide +kernel
theorem dX5_corrects_138 : decode cX5_corrects 138 = .ok (.sipush 1519, 3) := by decide +kernel
theorem dX5_corrects_141 : decode cX5_corrects 141 = .ok (.dup2, 1) := by decide +kernel
theorem dX5_corrects_142 : decode cX5_corrects 142 = .ok (.iaload, 1) := by decide +kernel
theorem dX5_corrects_143 : decode cX5_corrects 143 = .ok (.iconst 3, 1) := by decide +kernel
theorem dX5_corrects_144 : decode cX5_corrects 144 = .ok (.iload_n 2, 1) := by decide +kernel
theorem dX5_corrects_145 : decode cX5_corrects 145 = .ok (.imul, 1) := by decide +kernel
theorem dX5_corrects_146 : decode cX5_corrects 146 = .ok (.iadd, 1) := by decide +kernel
theorem dX5_corrects_147 : decode cX5_corrects 147 = .ok (.iastore, 1) := by decide +kernel
theorem dX5_corrects_148 : decode cX5_corrects 148 = .ok (.iload_n 2, 1) := by decide +kernel
theorem dX5_corrects_149 : decode cX5_corrects 149 = .ok (.ireturn, 1) := by decide +kernel
theorem dX5_correct_0 : decode cX5_correct 0 = .ok (.iload_n 1, 1) := by decide +kernel
theorem dX5_correct_1 : decode cX5_correct 1 = .ok (.invokestatic 144, 3) := by decide +kernel
theorem dX5_correct_4 : decode cX5_correct 4 = .ok (.ifCond .ne 9, 3) := by decide +kernel
theorem dX5_correct_7 : decode cX5_correct 7 = .ok (.aload_n 0, 1) := by decide +kernel
theorem dX5_correct_8 : decode cX5_correct 8 = .ok (.iconst 1, 1) := by decide +kernel
theorem dX5_correct_9 : decode cX5_correct 9 = .ok (.invokevirtual 86, 3) := by decide +kernel
theorem dX5_correct_12 : decode cX5_correct 12 = .ok (.ireturn, 1) := by decide +kernel
theorem dX5_correct_13 : decode cX5_correct 13 = .ok (.aload_n 0, 1) := by decide +kernel
theorem dX5_correct_14 : decode cX5_correct 14 = .ok (.invokevirtual 94, 3) := by decide +kernel
theorem dX5_correct_17 : decode cX5_correct 17 = .ok (.aload_n 0, 1) := by decide +kernel
theorem dX5_correct_18 : decode cX5_correct 18 = .ok (.aload_n 0, 1) := by decide +kernel
theorem dX5_correct_19 : decode cX5_correct 19 = .ok (.iload_n 1, 1) := by decide +kernel
theorem dX5_correct_20 : decode cX5_correct 20 = .ok (.invokevirtual 160, 3) := by decide +kernel
theorem dX5_correct_23 : decode cX5_correct 23 = .ok (.invokevirtual 100, 3) := by decide +kernel
theorem dX5_correct_26 : decode cX5_correct 26 = .ok (.ireturn, 1) := by decide +kernel
theorem dX5_distributes_0 : decode cX5_distributes 0 = .ok (.iconst 0, 1) := by decide +kernel
theorem dX5_distributes_1 : decode cX5_distributes 1 = .ok (.istore_n 2, 1) := by decide +kernel
theorem dX5_distributes_2 : decode cX5_distributes 2 = .ok (.iconst 0, 1) := by decide +kernel
theorem dX5_distributes_3 : decode cX5_distributes 3 = .ok (.istore_n 3, 1) := by decide +kernel
theorem dX5_distributes_4 : decode cX5_distributes 4 = .ok (.iload_n 3, 1) := by decide +kernel
theorem dX5_distributes_5 : decode cX5_distributes 5 = .ok (.aload_n 0, 1) := by decide +kernel
theorem dX5_distributes_6 : decode cX5_distributes 6 = .ok (.getfield 7, 3) := by decide +kernel
theorem dX5_distributes_9 : decode cX5_distributes 9 = .ok (.sipush 1262, 3) := by decide +kernel
theorem dX5_distributes_12 : decode cX5_distributes 12 = .ok (.iload_n 1, 1) := by decide +kernel
theorem dX5_distributes_13 : decode cX5_distributes 13 = .ok (.iadd, 1) := by decide +kernel
theorem dX5_distributes_14 : decode cX5_distributes 14 = .ok (.iaload, 1) := by decide +kernel
theorem dX5_distributes_15 : decode cX5_distributes 15 = .ok (.if_icmp .ge 116, 3) := by decide +kernel
theorem dX5_distributes_18 : decode cX5_distributes 18 = .ok (.iconst 0, 1) := by decide +kernel
theorem dX5_distributes_19 : decode cX5_distributes 19 = .ok (.istore 4, 2) := by decide +kernel
theorem dX5_distributes_21 : decode cX5_distributes 21 = .ok (.iload 4, 2) := by decide +kernel
theorem dX5_distributes_23 : decode cX5_distributes 23 = .ok (.aload_n 0, 1) := by decide +kernel
theorem dX5_distributes_24 : decode cX5_distributes 24 = .ok (.iload_n 1, 1) := by decide +kernel
theorem dX5_distributes_25 : decode cX5_distributes 25 = .ok (.iload_n 3, 1) := by decide +kernel
theorem dX5_distributes_26 : decode cX5_distributes 26 = .ok (.invokevirtual 61, 3) := by decide +kernel
theorem dX5_distributes_29 : decode cX5_distributes 29 = .ok (.if_icmp .ge 96, 3) := by decide +kernel
theorem dX5_distributes_32 : decode cX5_distributes 32 = .ok (.aload_n 0, 1) := by decide +kernel
theorem dX5_distributes_33 : decode cX5_distributes 33 = .ok (.iload_n 1, 1) := by decide +kernel
theorem dX5_distributes_34 : decode cX5_distributes 34 = .ok (.iload_n 3, 1) := by decide +kernel
theorem dX5_distributes_35 : decode cX5_distributes 35 = .ok (.iload 4, 2) := by decide +kernel
theorem dX5_distributes_37 : decode cX5_distributes 37 = .ok (.iconst 1, 1) := by decide +kernel
theorem dX5_distributes_38 : decode cX5_distributes 38 = .ok (.invokevirtual 57, 3) := by decide +kernel
theorem dX5_distributes_41 : decode cX5_distributes 41 = .ok (.istore 5, 2) := by decide +kernel
theorem dX5_distributes_43 : decode cX5_distributes 43 = .ok (.aload_n 0, 1) := by decide +kernel
theorem dX5_distributes_44 : decode cX5_distributes 44 = .ok (.getfield 7, 3) := by decide +kernel
theorem dX5_distributes_47 : decode cX5_distributes 47 = .ok (.sipush 1520, 3) := by decide +kernel
theorem dX5_distributes_50 : decode cX5_distributes 50 = .ok (.dup2, 1) := by decide +kernel
theorem dX5_distributes_51 : decode cX5_distributes 51 = .ok (.iaload, 1) := by decide +kernel
theorem dX5_distributes_52 : decode cX5_distributes 52 = .ok (.iconst 1, 1) := by decide +kernel
theorem dX5_distributes_53 : decode cX5_distributes 53 = .ok (.iadd, 1) := by decide +kernel
theorem dX5_distributes_54 : decode cX5_distributes 54 = .ok (.iastore, 1) := by decide +kernel
theorem dX5_distributes_55 : decode cX5_distributes 55 = .ok (.aload_n 0, 1) := by decide +kernel
theorem dX5_distributes_56 : decode cX5_distributes 56 = .ok (.getfield 7, 3) := by decide +kernel
theorem dX5_distributes_59 : decode cX5_distributes 59 = .ok (.sipush 1516, 3) := by decide +kernel
theorem dX5_distributes_62 : decode cX5_distributes 62 = .ok (.iaload, 1) := by decide +kernel
theorem dX5_distributes_63 : decode cX5_distributes 63 = .ok (.ifCond .le 27, 3) := by decide +kernel
theorem dX5_distributes_66 : decode cX5_distributes 66 = .ok (.aload_n 0, 1) := by decide +kernel
theorem dX5_distributes_67 : decode cX5_distributes 67 = .ok (.getfield 7, 3) := by decide +kernel
theorem dX5_distributes_70 : decode cX5_distributes 70 = .ok (.sipush 1520, 3) := by decide +kernel
theorem dX5_distributes_73 : decode cX5_distributes 73 = .ok (.iaload, 1) := by decide +kernel
theorem dX5_distributes_74 : decode cX5_distributes 74 = .ok (.aload_n 0, 1) := by decide +kernel
theorem dX5_distributes_75 : decode cX5_distributes 75 = .ok (.getfield 7, 3) := by decide +kernel
theorem dX5_distributes_78 : decode cX5_distributes 78 = .ok (.sipush 1516, 3) := by decide +kernel
theorem dX5_distributes_81 : decode cX5_distributes 81 = .ok (.iaload, 1) := by decide +kernel
theorem dX5_distributes_82 : decode cX5_distributes 82 = .ok (.irem, 1) := by decide +kernel
theorem dX5_distributes_83 : decode cX5_distributes 83 = .ok (.ifCond .ne 7, 3) := by decide +kernel
theorem dX5_distributes_86 : decode cX5_distributes 86 = .ok (.iconst 1, 1) := by decide +kernel
theorem dX5_distributes_87 : decode cX5_distributes 87 = .ok (.goto 4, 3) := by decide +kernel
theorem dX5_distributes_90 : decode cX5_distributes 90 = .ok (.iconst 0, 1) := by decide +kernel
theorem dX5_distributes_91 : decode cX5_distributes 91 = .ok (.istore 6, 2) := by decide +kernel
theorem dX5_distributes_93 : decode cX5_distributes 93 = .ok (.aload_n 0, 1) := by decide +kernel
theorem dX5_distributes_94 : decode cX5_distributes 94 = .ok (.iload 6, 2) := by decide +kernel
theorem dX5_distributes_96 : decode cX5_distributes 96 = .ok (.ifCond .eq 13, 3) := by decide +kernel
theorem dX5_distributes_99 : decode cX5_distributes 99 = .ok (.iload 5, 2) := by decide +kernel
theorem dX5_distributes_101 : decode cX5_distributes 101 = .ok (.iconst 1, 1) := by decide +kernel
theorem dX5_distributes_102 : decode cX5_distributes 102 = .ok (.iadd, 1) := by decide +kernel
theorem dX5_distributes_103 : decode cX5_distributes 103 = .ok (.bipush 27, 2) := by decide +kernel
theorem dX5_distributes_105 : decode cX5_distributes 105 = .ok (.irem, 1) := by decide +kernel
theorem dX5_distributes_106 : decode cX5_distributes 106 = .ok (.goto 5, 3) := by decide +kernel
theorem dX5_distributes_109 : decode cX5_distributes 109 = .ok (.iload 5, 2) := by decide +kernel
theorem dX5_distributes_111 : decode cX5_distributes 111 = .ok (.iload 5, 2) := by decide +kernel
theorem dX5_distributes_113 : decode cX5_distributes 113 = .ok (.invokevirtual 78, 3) := by decide +kernel
theorem dX5_distributes_116 : decode cX5_distributes 116 = .ok (.iinc 2 1, 3) := by decide +kernel
theorem dX5_distributes_119 : decode cX5_distributes 119 = .ok (.iinc 4 1, 3) := by decide +kernel
theorem dX5_distributes_122 : decode cX5_distributes 122 = .ok (.goto (-101), 3) := by decide +kernel
theorem dX5_distributes_125 : decode cX5_distributes 125 = .ok (.iinc 3 1, 3) := by decide +kernel
theorem dX5_distributes_128 : decode cX5_distributes 128 = .ok (.goto (-124), 3) := by decide +kernel
theorem dX5_distributes_131 : decode cX5_distributes 131 = .ok (.aload_n 0, 1) := by decide +kernel
theorem dX5_distributes_132 : decode cX5_distributes 132 = .ok (.getfield 7, 3) := by decide +kernel
theorem dX5_distributes_135 : decode cX5_distributes 135 = .ok (.sipush 1519, 3) := by decide +kernel
theorem dX5_distributes_138 : decode cX5_distributes 138 = .ok (.dup2, 1) := by decide +kernel
theorem dX5_distributes_139 : decode cX5_distributes 139 = .ok (.iaload, 1) := by decide +kernel
theorem dX5_distributes_140 : decode cX5_distributes 140 = .ok (.iload_n 2, 1) := by decide +kernel
theorem dX5_distributes_141 : decode cX5_distributes 141 = .ok (.iadd, 1) := by decide +kernel
theorem dX5_distributes_142 : decode cX5_distributes 142 = .ok (.iastore, 1) := by decide +kernel
theorem dX5_distributes_143 : decode cX5_distributes 143 = .ok (.aload_n 0, 1) := by decide +kernel
theorem dX5_distributes_144 : decode cX5_distributes 144 = .ok (.iload_n 1, 1) := by decide +kernel
theorem dX5_distributes_145 : decode cX5_distributes 145 = .ok (.invokevirtual 163, 3) := by decide +kernel
theorem dX5_distributes_148 : decode cX5_distributes 148 = .ok (.iload_n 2, 1) := by decide +kernel
theorem dX5_distributes_149 : decode cX5_distributes 149 = .ok (.ireturn, 1) := by decide +kernel
theorem dX5_distribute_0 : decode cX5_distribute 0 = .ok (.iload_n 1, 1) := by decide +kernel
theorem dX5_distribute_1 : decode cX5_distribute 1 = .ok (.invokestatic 144, 3) := by decide +kernel
theorem dX5_distribute_4 : decode cX5_distribute 4 = .ok (.ifCond .ne 9, 3) := by decide +kernel
theorem dX5_distribute_7 : decode cX5_distribute 7 = .ok (.aload_n 0, 1) := by decide +kernel
theorem dX5_distribute_8 : decode cX5_distribute 8 = .ok (.iconst 1, 1) := by decide +kernel
theorem dX5_distribute_9 : decode cX5_distribute 9 = .ok (.invokevirtual 86, 3) := by decide +kernel
theorem dX5_distribute_12 : decode cX5_distribute 12 = .ok (.ireturn, 1) := by decide +kernel
theorem dX5_distribute_13 : decode cX5_distribute 13 = .ok (.aload_n 0, 1) := by decide +kernel
theorem dX5_distribute_14 : decode cX5_distribute 14 = .ok (.invokevirtual 94, 3) := by decide +kernel
theorem dX5_distribute_17 : decode cX5_distribute 17 = .ok (.aload_n 0, 1) := by decide +kernel
theorem dX5_distribute_18 : decode cX5_distribute 18 = .ok (.aload_n 0, 1) := by decide +kernel
theorem dX5_distribute_19 : decode cX5_distribute 19 = .ok (.iload_n 1, 1) := by decide +kernel
theorem dX5_distribute_20 : decode cX5_distribute 20 = .ok (.invokevirtual 167, 3) := by decide +kernel
theorem dX5_distribute_23 : decode cX5_distribute 23 = .ok (.invokevirtual 100, 3) := by decide +kernel
theorem dX5_distribute_26 : decode cX5_distribute 26 = .ok (.ireturn, 1) := by decide +kernel
theorem dX5_pie_0 : decode cX5_pie 0 = .ok (.iload_n 1, 1) := by decide +kernel
theorem dX5_pie_1 : decode cX5_pie 1 = .ok (.invokestatic 144, 3) := by decide +kernel
theorem dX5_pie_4 : decode cX5_pie 4 = .ok (.ifCond .ne 9, 3) := by decide +kernel
theorem dX5_pie_7 : decode cX5_pie 7 = .ok (.aload_n 0, 1) := by decide +kernel
theorem dX5_pie_8 : decode cX5_pie 8 = .ok (.iconst 1, 1) := by decide +kernel
theorem dX5_pie_9 : decode cX5_pie 9 = .ok (.invokevirtual 86, 3) := by decide +kernel
theorem dX5_pie_12 : decode cX5_pie 12 = .ok (.ireturn, 1) := by decide +kernel
theorem dX5_pie_13 : decode cX5_pie 13 = .ok (.aload_n 0, 1) := by decide +kernel
theorem dX5_pie_14 : decode cX5_pie 14 = .ok (.invokevirtual 94, 3) := by decide +kernel
theorem dX5_pie_17 : decode cX5_pie 17 = .ok (.iconst 0, 1) := by decide +kernel
theorem dX5_pie_18 : decode cX5_pie 18 = .ok (.istore_n 2, 1) := by decide +kernel
theorem dX5_pie_19 : decode cX5_pie 19 = .ok (.iload_n 2, 1) := by decide +kernel
theorem dX5_pie_20 : decode cX5_pie 20 = .ok (.aload_n 0, 1) := by decide +kernel
theorem dX5_pie_21 : decode cX5_pie 21 = .ok (.getfield 7, 3) := by decide +kernel
theorem dX5_pie_24 : decode cX5_pie 24 = .ok (.sipush 1262, 3) := by decide +kernel
theorem dX5_pie_27 : decode cX5_pie 27 = .ok (.iload_n 1, 1) := by decide +kernel
theorem dX5_pie_28 : decode cX5_pie 28 = .ok (.iadd, 1) := by decide +kernel
theorem dX5_pie_29 : decode cX5_pie 29 = .ok (.iaload, 1) := by decide +kernel
theorem dX5_pie_30 : decode cX5_pie 30 = .ok (.if_icmp .ge 64, 3) := by decide +kernel
theorem dX5_pie_33 : decode cX5_pie 33 = .ok (.iconst 0, 1) := by decide +kernel
theorem dX5_pie_34 : decode cX5_pie 34 = .ok (.istore_n 3, 1) := by decide +kernel
theorem dX5_pie_35 : decode cX5_pie 35 = .ok (.iload_n 3, 1) := by decide +kernel
theorem dX5_pie_36 : decode cX5_pie 36 = .ok (.aload_n 0, 1) := by decide +kernel
theorem dX5_pie_37 : decode cX5_pie 37 = .ok (.iload_n 1, 1) := by decide +kernel
theorem dX5_pie_38 : decode cX5_pie 38 = .ok (.iload_n 2, 1) := by decide +kernel
theorem dX5_pie_39 : decode cX5_pie 39 = .ok (.invokevirtual 61, 3) := by decide +kernel
theorem dX5_pie_42 : decode cX5_pie 42 = .ok (.if_icmp .ge 46, 3) := by decide +kernel
theorem dX5_pie_45 : decode cX5_pie 45 = .ok (.aload_n 0, 1) := by decide +kernel
theorem dX5_pie_46 : decode cX5_pie 46 = .ok (.getfield 7, 3) := by decide +kernel
theorem dX5_pie_49 : decode cX5_pie 49 = .ok (.sipush 1266, 3) := by decide +kernel
theorem dX5_pie_52 : decode cX5_pie 52 = .ok (.aload_n 0, 1) := by decide +kernel
theorem dX5_pie_53 : decode cX5_pie 53 = .ok (.getfield 7, 3) := by decide +kernel
theorem dX5_pie_56 : decode cX5_pie 56 = .ok (.sipush 1265, 3) := by decide +kernel
theorem dX5_pie_59 : decode cX5_pie 59 = .ok (.iaload, 1) := by decide +kernel
theorem dX5_pie_60 : decode cX5_pie 60 = .ok (.iadd, 1) := by decide +kernel
theorem dX5_pie_61 : decode cX5_pie 61 = .ok (.aload_n 0, 1) := by decide +kernel
theorem dX5_pie_62 : decode cX5_pie 62 = .ok (.iload_n 1, 1) := by decide +kernel
theorem dX5_pie_63 : decode cX5_pie 63 = .ok (.iload_n 2, 1) := by decide +kernel
theorem dX5_pie_64 : decode cX5_pie 64 = .ok (.iload_n 3, 1) := by decide +kernel
theorem dX5_pie_65 : decode cX5_pie 65 = .ok (.iconst 1, 1) := by decide +kernel
theorem dX5_pie_66 : decode cX5_pie 66 = .ok (.invokevirtual 57, 3) := by decide +kernel
theorem dX5_pie_69 : decode cX5_pie 69 = .ok (.iastore, 1) := by decide +kernel
theorem dX5_pie_70 : decode cX5_pie 70 = .ok (.aload_n 0, 1) := by decide +kernel
theorem dX5_pie_71 : decode cX5_pie 71 = .ok (.getfield 7, 3) := by decide +kernel
theorem dX5_pie_74 : decode cX5_pie 74 = .ok (.sipush 1265, 3) := by decide +kernel
theorem dX5_pie_77 : decode cX5_pie 77 = .ok (.dup2, 1) := by decide +kernel
theorem dX5_pie_78 : decode cX5_pie 78 = .ok (.iaload, 1) := by decide +kernel
theorem dX5_pie_79 : decode cX5_pie 79 = .ok (.iconst 1, 1) := by decide +kernel
theorem dX5_pie_80 : decode cX5_pie 80 = .ok (.iadd, 1) := by decide +kernel
theorem dX5_pie_81 : decode cX5_pie 81 = .ok (.iastore, 1) := by decide +kernel
theorem dX5_pie_82 : decode cX5_pie 82 = .ok (.iinc 3 1, 3) := by decide +kernel
theorem dX5_pie_85 : decode cX5_pie 85 = .ok (.goto (-50), 3) := by decide +kernel
theorem dX5_pie_88 : decode cX5_pie 88 = .ok (.iinc 2 1, 3) := by decide +kernel
theorem dX5_pie_91 : decode cX5_pie 91 = .ok (.goto (-72), 3) := by decide +kernel
theorem dX5_pie_94 : decode cX5_pie 94 = .ok (.aload_n 0, 1) := by decide +kernel
theorem dX5_pie_95 : decode cX5_pie 95 = .ok (.iload_n 1, 1) := by decide +kernel
theorem dX5_pie_96 : decode cX5_pie 96 = .ok (.invokevirtual 163, 3) := by decide +kernel
theorem dX5_pie_99 : decode cX5_pie 99 = .ok (.aload_n 0, 1) := by decide +kernel
theorem dX5_pie_100 : decode cX5_pie 100 = .ok (.aload_n 0, 1) := by decide +kernel
theorem dX5_pie_101 : decode cX5_pie 101 = .ok (.getfield 7, 3) := by decide +kernel
theorem dX5_pie_104 : decode cX5_pie 104 = .ok (.sipush 1265, 3) := by decide +kernel
theorem dX5_pie_107 : decode cX5_pie 107 = .ok (.iaload, 1) := by decide +kernel
theorem dX5_pie_108 : decode cX5_pie 108 = .ok (.invokevirtual 100, 3) := by decide +kernel
theorem dX5_pie_111 : decode cX5_pie 111 = .ok (.ireturn, 1) := by decide +kernel
theorem dX5_sortHeap_0 : decode cX5_sortHeap 0 = .ok (.iload_n 1, 1) := by decide +kernel
theorem dX5_sortHeap_1 : decode cX5_sortHeap 1 = .ok (.i2l, 1) := by decide +kernel
theorem dX5_sortHeap_2 : decode cX5_sortHeap 2 = .ok (.lconst 1, 1) := by decide +kernel
theorem dX5_sortHeap_3 : decode cX5_sortHeap 3 = .ok (.ldc2_w 114, 3) := by decide +kernel
theorem dX5_sortHeap_6 : decode cX5_sortHeap 6 = .ok (.invokestatic 40, 3) := by decide +kernel
theorem dX5_sortHeap_9 : decode cX5_sortHeap 9 = .ok (.ifCond .ne 9, 3) := by decide +kernel
theorem dX5_sortHeap_12 : decode cX5_sortHeap 12 = .ok (.aload_n 0, 1) := by decide +kernel
theorem dX5_sortHeap_13 : decode cX5_sortHeap 13 = .ok (.iconst 1, 1) := by decide +kernel
theorem dX5_sortHeap_14 : decode cX5_sortHeap 14 = .ok (.invokevirtual 86, 3) := by decide +kernel
theorem dX5_sortHeap_17 : decode cX5_sortHeap 17 = .ok (.ireturn, 1) := by decide +kernel
theorem dX5_sortHeap_18 : decode cX5_sortHeap 18 = .ok (.aload_n 0, 1) := by decide +kernel
theorem dX5_sortHeap_19 : decode cX5_sortHeap 19 = .ok (.invokevirtual 94, 3) := by decide +kernel
theorem dX5_sortHeap_22 : decode cX5_sortHeap 22 = .ok (.iload_n 1, 1) := by decide +kernel
theorem dX5_sortHeap_23 : decode cX5_sortHeap 23 = .ok (.aload_n 0, 1) := by decide +kernel
theorem dX5_sortHeap_24 : decode cX5_sortHeap 24 = .ok (.getfield 7, 3) := by decide +kernel
theorem dX5_sortHeap_27 : decode cX5_sortHeap 27 = .ok (.sipush 1265, 3) := by decide +kernel
theorem dX5_sortHeap_30 : decode cX5_sortHeap 30 = .ok (.iaload, 1) := by decide +kernel
theorem dX5_sortHeap_31 : decode cX5_sortHeap 31 = .ok (.if_icmp .ge 7, 3) := by decide +kernel
theorem dX5_sortHeap_34 : decode cX5_sortHeap 34 = .ok (.iload_n 1, 1) := by decide +kernel
theorem dX5_sortHeap_35 : decode cX5_sortHeap 35 = .ok (.goto 11, 3) := by decide +kernel
theorem dX5_sortHeap_38 : decode cX5_sortHeap 38 = .ok (.aload_n 0, 1) := by decide +kernel
theorem dX5_sortHeap_39 : decode cX5_sortHeap 39 = .ok (.getfield 7, 3) := by decide +kernel
theorem dX5_sortHeap_42 : decode cX5_sortHeap 42 = .ok (.sipush 1265, 3) := by decide +kernel
theorem dX5_sortHeap_45 : decode cX5_sortHeap 45 = .ok (.iaload, 1) := by decide +kernel
theorem dX5_sortHeap_46 : decode cX5_sortHeap 46 = .ok (.istore_n 2, 1) := by decide +kernel
theorem dX5_sortHeap_47 : decode cX5_sortHeap 47 = .ok (.iconst 0, 1) := by decide +kernel
theorem dX5_sortHeap_48 : decode cX5_sortHeap 48 = .ok (.istore_n 3, 1) := by decide +kernel
theorem dX5_sortHeap_49 : decode cX5_sortHeap 49 = .ok (.iload_n 3, 1) := by decide +kernel
theorem dX5_sortHeap_50 : decode cX5_sortHeap 50 = .ok (.iload_n 2, 1) := by decide +kernel
theorem dX5_sortHeap_51 : decode cX5_sortHeap 51 = .ok (.if_icmp .ge 33, 3) := by decide +kernel
theorem dX5_sortHeap_54 : decode cX5_sortHeap 54 = .ok (.aload_n 0, 1) := by decide +kernel
theorem dX5_sortHeap_55 : decode cX5_sortHeap 55 = .ok (.aload_n 0, 1) := by decide +kernel
theorem dX5_sortHeap_56 : decode cX5_sortHeap 56 = .ok (.getfield 7, 3) := by decide +kernel
theorem dX5_sortHeap_59 : decode cX5_sortHeap 59 = .ok (.sipush 1266, 3) := by decide +kernel
theorem dX5_sortHeap_62 : decode cX5_sortHeap 62 = .ok (.iload_n 3, 1) := by decide +kernel
theorem dX5_sortHeap_63 : decode cX5_sortHeap 63 = .ok (.iadd, 1) := by decide +kernel
theorem dX5_sortHeap_64 : decode cX5_sortHeap 64 = .ok (.iaload, 1) := by decide +kernel
theorem dX5_sortHeap_65 : decode cX5_sortHeap 65 = .ok (.aload_n 0, 1) := by decide +kernel
theorem dX5_sortHeap_66 : decode cX5_sortHeap 66 = .ok (.getfield 7, 3) := by decide +kernel
theorem dX5_sortHeap_69 : decode cX5_sortHeap 69 = .ok (.sipush 1266, 3) := by decide +kernel
theorem dX5_sortHeap_72 : decode cX5_sortHeap 72 = .ok (.iload_n 3, 1) := by decide +kernel
theorem dX5_sortHeap_73 : decode cX5_sortHeap 73 = .ok (.iadd, 1) := by decide +kernel
theorem dX5_sortHeap_74 : decode cX5_sortHeap 74 = .ok (.iaload, 1) := by decide +kernel
theorem dX5_sortHeap_75 : decode cX5_sortHeap 75 = .ok (.invokevirtual 78, 3) := by decide +kernel
theorem dX5_sortHeap_78 : decode cX5_sortHeap 78 = .ok (.iinc 3 1, 3) := by decide +kernel
theorem dX5_sortHeap_81 : decode cX5_sortHeap 81 = .ok (.goto (-32), 3) := by decide +kernel
theorem dX5_sortHeap_84 : decode cX5_sortHeap 84 = .ok (.aload_n 0, 1) := by decide +kernel
theorem dX5_sortHeap_85 : decode cX5_sortHeap 85 = .ok (.getfield 7, 3) := by decide +kernel
theorem dX5_sortHeap_88 : decode cX5_sortHeap 88 = .ok (.sipush 1265, 3) := by decide +kernel
theorem dX5_sortHeap_91 : decode cX5_sortHeap 91 = .ok (.dup2, 1) := by decide +kernel
theorem dX5_sortHeap_92 : decode cX5_sortHeap 92 = .ok (.iaload, 1) := by decide +kernel
theorem dX5_sortHeap_93 : decode cX5_sortHeap 93 = .ok (.iload_n 2, 1) := by decide +kernel
theorem dX5_sortHeap_94 : decode cX5_sortHeap 94 = .ok (.isub, 1) := by decide +kernel
theorem dX5_sortHeap_95 : decode cX5_sortHeap 95 = .ok (.iastore, 1) := by decide +kernel
theorem dX5_sortHeap_96 : decode cX5_sortHeap 96 = .ok (.iconst 0, 1) := by decide +kernel
theorem dX5_sortHeap_97 : decode cX5_sortHeap 97 = .ok (.istore_n 3, 1) := by decide +kernel
theorem dX5_sortHeap_98 : decode cX5_sortHeap 98 = .ok (.iload_n 3, 1) := by decide +kernel
theorem dX5_sortHeap_99 : decode cX5_sortHeap 99 = .ok (.aload_n 0, 1) := by decide +kernel
theorem dX5_sortHeap_100 : decode cX5_sortHeap 100 = .ok (.getfield 7, 3) := by decide +kernel
theorem dX5_sortHeap_103 : decode cX5_sortHeap 103 = .ok (.sipush 1265, 3) := by decide +kernel
theorem dX5_sortHeap_106 : decode cX5_sortHeap 106 = .ok (.iaload, 1) := by decide +kernel
theorem dX5_sortHeap_107 : decode cX5_sortHeap 107 = .ok (.if_icmp .ge 31, 3) := by decide +kernel
theorem dX5_sortHeap_110 : decode cX5_sortHeap 110 = .ok (.aload_n 0, 1) := by decide +kernel
theorem dX5_sortHeap_111 : decode cX5_sortHeap 111 = .ok (.getfield 7, 3) := by decide +kernel
theorem dX5_sortHeap_114 : decode cX5_sortHeap 114 = .ok (.sipush 1266, 3) := by decide +kernel
theorem dX5_sortHeap_117 : decode cX5_sortHeap 117 = .ok (.iload_n 3, 1) := by decide +kernel
theorem dX5_sortHeap_118 : decode cX5_sortHeap 118 = .ok (.iadd, 1) := by decide +kernel
theorem dX5_sortHeap_119 : decode cX5_sortHeap 119 = .ok (.aload_n 0, 1) := by decide +kernel
theorem dX5_sortHeap_120 : decode cX5_sortHeap 120 = .ok (.getfield 7, 3) := by decide +kernel
theorem dX5_sortHeap_123 : decode cX5_sortHeap 123 = .ok (.sipush 1266, 3) := by decide +kernel
theorem dX5_sortHeap_126 : decode cX5_sortHeap 126 = .ok (.iload_n 3, 1) := by decide +kernel
theorem dX5_sortHeap_127 : decode cX5_sortHeap 127 = .ok (.iadd, 1) := by decide +kernel
theorem dX5_sortHeap_128 : decode cX5_sortHeap 128 = .ok (.iload_n 2, 1) := by decide +kernel
theorem dX5_sortHeap_129 : decode cX5_sortHeap 129 = .ok (.iadd, 1) := by decide +kernel
theorem dX5_sortHeap_130 : decode cX5_sortHeap 130 = .ok (.iaload, 1) := by decide +kernel
theorem dX5_sortHeap_131 : decode cX5_sortHeap 131 = .ok (.iastore, 1) := by decide +kernel
theorem dX5_sortHeap_132 : decode cX5_sortHeap 132 = .ok (.iinc 3 1, 3) := by decide +kernel
theorem dX5_sortHeap_135 : decode cX5_sortHeap 135 = .ok (.goto (-37), 3) := by decide +kernel
theorem dX5_sortHeap_138 : decode cX5_sortHeap 138 = .ok (.aload_n 0, 1) := by decide +kernel
theorem dX5_sortHeap_139 : decode cX5_sortHeap 139 = .ok (.getfield 7, 3) := by decide +kernel
theorem dX5_sortHeap_142 : decode cX5_sortHeap 142 = .ok (.sipush 1519, 3) := by decide +kernel
theorem dX5_sortHeap_145 : decode cX5_sortHeap 145 = .ok (.dup2, 1) := by decide +kernel
theorem dX5_sortHeap_146 : decode cX5_sortHeap 146 = .ok (.iaload, 1) := by decide +kernel
theorem dX5_sortHeap_147 : decode cX5_sortHeap 147 = .ok (.iload_n 2, 1) := by decide +kernel
theorem dX5_sortHeap_148 : decode cX5_sortHeap 148 = .ok (.iadd, 1) := by decide +kernel
theorem dX5_sortHeap_149 : decode cX5_sortHeap 149 = .ok (.iastore, 1) := by decide +kernel
theorem dX5_sortHeap_150 : decode cX5_sortHeap 150 = .ok (.aload_n 0, 1) := by decide +kernel
theorem dX5_sortHeap_151 : decode cX5_sortHeap 151 = .ok (.iload_n 2, 1) := by decide +kernel
theorem dX5_sortHeap_152 : decode cX5_sortHeap 152 = .ok (.invokevirtual 100, 3) := by decide +kernel
theorem dX5_sortHeap_155 : decode cX5_sortHeap 155 = .ok (.ireturn, 1) := by decide +kernel
theorem dX5_formeOf_0 : decode cX5_formeOf 0 = .ok (.iload_n 2, 1) := by decide +kernel
theorem dX5_formeOf_1 : decode cX5_formeOf 1 = .ok (.iconst 4, 1) := by decide +kernel
theorem dX5_formeOf_2 : decode cX5_formeOf 2 = .ok (.if_icmp .ne 19, 3) := by decide +kernel
theorem dX5_formeOf_5 : decode cX5_formeOf 5 = .ok (.aload_n 0, 1) := by decide +kernel
theorem dX5_formeOf_6 : decode cX5_formeOf 6 = .ok (.invokevirtual 147, 3) := by decide +kernel
theorem dX5_formeOf_9 : decode cX5_formeOf 9 = .ok (.aload_n 0, 1) := by decide +kernel
theorem dX5_formeOf_10 : decode cX5_formeOf 10 = .ok (.iload_n 1, 1) := by decide +kernel
theorem dX5_formeOf_11 : decode cX5_formeOf 11 = .ok (.invokevirtual 160, 3) := by decide +kernel
theorem dX5_formeOf_14 : decode cX5_formeOf 14 = .ok (.istore_n 3, 1) := by decide +kernel
theorem dX5_formeOf_15 : decode cX5_formeOf 15 = .ok (.aload_n 0, 1) := by decide +kernel
theorem dX5_formeOf_16 : decode cX5_formeOf 16 = .ok (.invokevirtual 154, 3) := by decide +kernel
theorem dX5_formeOf_19 : decode cX5_formeOf 19 = .ok (.iload_n 3, 1) := by decide +kernel
theorem dX5_formeOf_20 : decode cX5_formeOf 20 = .ok (.ireturn, 1) := by decide +kernel
theorem dX5_formeOf_21 : decode cX5_formeOf 21 = .ok (.iload_n 2, 1) := by decide +kernel
theorem dX5_formeOf_22 : decode cX5_formeOf 22 = .ok (.ifCond .ne 16, 3) := by decide +kernel
theorem dX5_formeOf_25 : decode cX5_formeOf 25 = .ok (.aload_n 0, 1) := by decide +kernel
theorem dX5_formeOf_26 : decode cX5_formeOf 26 = .ok (.getfield 7, 3) := by decide +kernel
theorem dX5_formeOf_29 : decode cX5_formeOf 29 = .ok (.sipush 1262, 3) := by decide +kernel
theorem dX5_formeOf_32 : decode cX5_formeOf 32 = .ok (.iload_n 1, 1) := by decide +kernel
theorem dX5_formeOf_33 : decode cX5_formeOf 33 = .ok (.iadd, 1) := by decide +kernel
theorem dX5_formeOf_34 : decode cX5_formeOf 34 = .ok (.iaload, 1) := by decide +kernel
theorem dX5_formeOf_35 : decode cX5_formeOf 35 = .ok (.goto 11, 3) := by decide +kernel
theorem dX5_formeOf_38 : decode cX5_formeOf 38 = .ok (.aload_n 0, 1) := by decide +kernel
theorem dX5_formeOf_39 : decode cX5_formeOf 39 = .ok (.iload_n 1, 1) := by decide +kernel
theorem dX5_formeOf_40 : decode cX5_formeOf 40 = .ok (.iload_n 2, 1) := by decide +kernel
theorem dX5_formeOf_41 : decode cX5_formeOf 41 = .ok (.iconst 1, 1) := by decide +kernel
theorem dX5_formeOf_42 : decode cX5_formeOf 42 = .ok (.isub, 1) := by decide +kernel
theorem dX5_formeOf_43 : decode cX5_formeOf 43 = .ok (.invokevirtual 68, 3) := by decide +kernel
theorem dX5_formeOf_46 : decode cX5_formeOf 46 = .ok (.ireturn, 1) := by decide +kernel
theorem dX5_forme_0 : decode cX5_forme 0 = .ok (.iload_n 1, 1) := by decide +kernel
theorem dX5_forme_1 : decode cX5_forme 1 = .ok (.invokestatic 144, 3) := by decide +kernel
theorem dX5_forme_4 : decode cX5_forme 4 = .ok (.ifCond .ne 9, 3) := by decide +kernel
theorem dX5_forme_7 : decode cX5_forme 7 = .ok (.aload_n 0, 1) := by decide +kernel
theorem dX5_forme_8 : decode cX5_forme 8 = .ok (.iconst 1, 1) := by decide +kernel
theorem dX5_forme_9 : decode cX5_forme 9 = .ok (.invokevirtual 86, 3) := by decide +kernel
theorem dX5_forme_12 : decode cX5_forme 12 = .ok (.ireturn, 1) := by decide +kernel
theorem dX5_forme_13 : decode cX5_forme 13 = .ok (.iload_n 2, 1) := by decide +kernel
theorem dX5_forme_14 : decode cX5_forme 14 = .ok (.i2l, 1) := by decide +kernel
theorem dX5_forme_15 : decode cX5_forme 15 = .ok (.lconst 0, 1) := by decide +kernel
theorem dX5_forme_16 : decode cX5_forme 16 = .ok (.ldc2_w 170, 3) := by decide +kernel
theorem dX5_forme_19 : decode cX5_forme 19 = .ok (.invokestatic 40, 3) := by decide +kernel
theorem dX5_forme_22 : decode cX5_forme 22 = .ok (.ifCond .eq 16, 3) := by decide +kernel
theorem dX5_forme_25 : decode cX5_forme 25 = .ok (.aload_n 0, 1) := by decide +kernel
theorem dX5_forme_26 : decode cX5_forme 26 = .ok (.aload_n 0, 1) := by decide +kernel
theorem dX5_forme_27 : decode cX5_forme 27 = .ok (.iload_n 1, 1) := by decide +kernel
theorem dX5_forme_28 : decode cX5_forme 28 = .ok (.iload_n 2, 1) := by decide +kernel
theorem dX5_forme_29 : decode cX5_forme 29 = .ok (.invokevirtual 172, 3) := by decide +kernel
theorem dX5_forme_32 : decode cX5_forme 32 = .ok (.invokevirtual 100, 3) := by decide +kernel
theorem dX5_forme_35 : decode cX5_forme 35 = .ok (.goto 8, 3) := by decide +kernel
theorem dX5_forme_38 : decode cX5_forme 38 = .ok (.aload_n 0, 1) := by decide +kernel
theorem dX5_forme_39 : decode cX5_forme 39 = .ok (.iconst 2, 1) := by decide +kernel
theorem dX5_forme_40 : decode cX5_forme 40 = .ok (.invokevirtual 86, 3) := by decide +kernel
theorem dX5_forme_43 : decode cX5_forme 43 = .ok (.ireturn, 1) := by decide +kernel
theorem dX5_isLine_0 : decode cX5_isLine 0 = .ok (.iload_n 1, 1) := by decide +kernel
theorem dX5_isLine_1 : decode cX5_isLine 1 = .ok (.invokestatic 144, 3) := by decide +kernel
theorem dX5_isLine_4 : decode cX5_isLine 4 = .ok (.ifCond .eq 29, 3) := by decide +kernel
theorem dX5_isLine_7 : decode cX5_isLine 7 = .ok (.iload_n 2, 1) := by decide +kernel
theorem dX5_isLine_8 : decode cX5_isLine 8 = .ok (.i2l, 1) := by decide +kernel
theorem dX5_isLine_9 : decode cX5_isLine 9 = .ok (.lconst 0, 1) := by decide +kernel
theorem dX5_isLine_10 : decode cX5_isLine 10 = .ok (.aload_n 0, 1) := by decide +kernel
theorem dX5_isLine_11 : decode cX5_isLine 11 = .ok (.getfield 7, 3) := by decide +kernel
theorem dX5_isLine_14 : decode cX5_isLine 14 = .ok (.sipush 1262, 3) := by decide +kernel
theorem dX5_isLine_17 : decode cX5_isLine 17 = .ok (.iload_n 1, 1) := by decide +kernel
theorem dX5_isLine_18 : decode cX5_isLine 18 = .ok (.iadd, 1) := by decide +kernel
theorem dX5_isLine_19 : decode cX5_isLine 19 = .ok (.iaload, 1) := by decide +kernel
theorem dX5_isLine_20 : decode cX5_isLine 20 = .ok (.i2l, 1) := by decide +kernel
theorem dX5_isLine_21 : decode cX5_isLine 21 = .ok (.lconst 1, 1) := by decide +kernel
theorem dX5_isLine_22 : decode cX5_isLine 22 = .ok (.lsub, 1) := by decide +kernel
theorem dX5_isLine_23 : decode cX5_isLine 23 = .ok (.invokestatic 40, 3) := by decide +kernel
theorem dX5_isLine_26 : decode cX5_isLine 26 = .ok (.ifCond .eq 7, 3) := by decide +kernel
theorem dX5_isLine_29 : decode cX5_isLine 29 = .ok (.iconst 1, 1) := by decide +kernel
theorem dX5_isLine_30 : decode cX5_isLine 30 = .ok (.goto 4, 3) := by decide +kernel
theorem dX5_isLine_33 : decode cX5_isLine 33 = .ok (.iconst 0, 1) := by decide +kernel
theorem dX5_isLine_34 : decode cX5_isLine 34 = .ok (.ireturn, 1) := by decide +kernel
theorem dX5_places_0 : decode cX5_places 0 = .ok (.aload_n 0, 1) := by decide +kernel
theorem dX5_places_1 : decode cX5_places 1 = .ok (.iload_n 1, 1) := by decide +kernel
theorem dX5_places_2 : decode cX5_places 2 = .ok (.iload_n 2, 1) := by decide +kernel
theorem dX5_places_3 : decode cX5_places 3 = .ok (.invokevirtual 175, 3) := by decide +kernel
theorem dX5_places_6 : decode cX5_places 6 = .ok (.ifCond .eq 16, 3) := by decide +kernel
theorem dX5_places_9 : decode cX5_places 9 = .ok (.aload_n 0, 1) := by decide +kernel
theorem dX5_places_10 : decode cX5_places 10 = .ok (.aload_n 0, 1) := by decide +kernel
theorem dX5_places_11 : decode cX5_places 11 = .ok (.iload_n 1, 1) := by decide +kernel
theorem dX5_places_12 : decode cX5_places 12 = .ok (.iload_n 2, 1) := by decide +kernel
theorem dX5_places_13 : decode cX5_places 13 = .ok (.invokevirtual 61, 3) := by decide +kernel
theorem dX5_places_16 : decode cX5_places 16 = .ok (.invokevirtual 100, 3) := by decide +kernel
theorem dX5_places_19 : decode cX5_places 19 = .ok (.goto 8, 3) := by decide +kernel
theorem dX5_places_22 : decode cX5_places 22 = .ok (.aload_n 0, 1) := by decide +kernel
theorem dX5_places_23 : decode cX5_places 23 = .ok (.iconst 1, 1) := by decide +kernel
theorem dX5_places_24 : decode cX5_places 24 = .ok (.invokevirtual 86, 3) := by decide +kernel
theorem dX5_places_27 : decode cX5_places 27 = .ok (.ireturn, 1) := by decide +kernel
theorem dX5_placeOf_0 : decode cX5_placeOf 0 = .ok (.iload 4, 2) := by decide +kernel
theorem dX5_placeOf_2 : decode cX5_placeOf 2 = .ok (.iconst 3, 1) := by decide +kernel
theorem dX5_placeOf_3 : decode cX5_placeOf 3 = .ok (.if_icmp .ge 15, 3) := by decide +kernel
theorem dX5_placeOf_6 : decode cX5_placeOf 6 = .ok (.aload_n 0, 1) := by decide +kernel
theorem dX5_placeOf_7 : decode cX5_placeOf 7 = .ok (.iload_n 1, 1) := by decide +kernel
theorem dX5_placeOf_8 : decode cX5_placeOf 8 = .ok (.iload_n 2, 1) := by decide +kernel
theorem dX5_placeOf_9 : decode cX5_placeOf 9 = .ok (.iload_n 3, 1) := by decide +kernel
theorem dX5_placeOf_10 : decode cX5_placeOf 10 = .ok (.iload 4, 2) := by decide +kernel
theorem dX5_placeOf_12 : decode cX5_placeOf 12 = .ok (.invokevirtual 57, 3) := by decide +kernel
theorem dX5_placeOf_15 : decode cX5_placeOf 15 = .ok (.goto 18, 3) := by decide +kernel
theorem dX5_placeOf_18 : decode cX5_placeOf 18 = .ok (.aload_n 0, 1) := by decide +kernel
theorem dX5_placeOf_19 : decode cX5_placeOf 19 = .ok (.iload_n 1, 1) := by decide +kernel
theorem dX5_placeOf_20 : decode cX5_placeOf 20 = .ok (.iload_n 2, 1) := by decide +kernel
theorem dX5_placeOf_21 : decode cX5_placeOf 21 = .ok (.iload_n 3, 1) := by decide +kernel
theorem dX5_placeOf_22 : decode cX5_placeOf 22 = .ok (.invokevirtual 64, 3) := by decide +kernel
theorem dX5_placeOf_25 : decode cX5_placeOf 25 = .ok (.ifCond .eq 7, 3) := by decide +kernel
theorem dX5_placeOf_28 : decode cX5_placeOf 28 = .ok (.iconst 1, 1) := by decide +kernel
theorem dX5_placeOf_29 : decode cX5_placeOf 29 = .ok (.goto 4, 3) := by decide +kernel
theorem dX5_placeOf_32 : decode cX5_placeOf 32 = .ok (.iconst 0, 1) := by decide +kernel
theorem dX5_placeOf_33 : decode cX5_placeOf 33 = .ok (.ireturn, 1) := by decide +kernel
theorem dX5_place_0 : decode cX5_place 0 = .ok (.aload_n 0, 1) := by decide +kernel
theorem dX5_place_1 : decode cX5_place 1 = .ok (.iload_n 1, 1) := by decide +kernel
theorem dX5_place_2 : decode cX5_place 2 = .ok (.iload_n 2, 1) := by decide +kernel
theorem dX5_place_3 : decode cX5_place 3 = .ok (.invokevirtual 175, 3) := by decide +kernel
theorem dX5_place_6 : decode cX5_place 6 = .ok (.ifCond .eq 21, 3) := by decide +kernel
theorem dX5_place_9 : decode cX5_place 9 = .ok (.iload_n 3, 1) := by decide +kernel
theorem dX5_place_10 : decode cX5_place 10 = .ok (.i2l, 1) := by decide +kernel
theorem dX5_place_11 : decode cX5_place 11 = .ok (.lconst 0, 1) := by decide +kernel
theorem dX5_place_12 : decode cX5_place 12 = .ok (.aload_n 0, 1) := by decide +kernel
theorem dX5_place_13 : decode cX5_place 13 = .ok (.iload_n 1, 1) := by decide +kernel
theorem dX5_place_14 : decode cX5_place 14 = .ok (.iload_n 2, 1) := by decide +kernel
theorem dX5_place_15 : decode cX5_place 15 = .ok (.invokevirtual 61, 3) := by decide +kernel
theorem dX5_place_18 : decode cX5_place 18 = .ok (.i2l, 1) := by decide +kernel
theorem dX5_place_19 : decode cX5_place 19 = .ok (.lconst 1, 1) := by decide +kernel
theorem dX5_place_20 : decode cX5_place 20 = .ok (.lsub, 1) := by decide +kernel
theorem dX5_place_21 : decode cX5_place 21 = .ok (.invokestatic 40, 3) := by decide +kernel
theorem dX5_place_24 : decode cX5_place 24 = .ok (.ifCond .ne 9, 3) := by decide +kernel
theorem dX5_place_27 : decode cX5_place 27 = .ok (.aload_n 0, 1) := by decide +kernel
theorem dX5_place_28 : decode cX5_place 28 = .ok (.iconst 1, 1) := by decide +kernel
theorem dX5_place_29 : decode cX5_place 29 = .ok (.invokevirtual 86, 3) := by decide +kernel
theorem dX5_place_32 : decode cX5_place 32 = .ok (.ireturn, 1) := by decide +kernel
theorem dX5_place_33 : decode cX5_place 33 = .ok (.iload 4, 2) := by decide +kernel
theorem dX5_place_35 : decode cX5_place 35 = .ok (.i2l, 1) := by decide +kernel
theorem dX5_place_36 : decode cX5_place 36 = .ok (.lconst 0, 1) := by decide +kernel
theorem dX5_place_37 : decode cX5_place 37 = .ok (.ldc2_w 179, 3) := by decide +kernel
theorem dX5_place_40 : decode cX5_place 40 = .ok (.invokestatic 40, 3) := by decide +kernel
theorem dX5_place_43 : decode cX5_place 43 = .ok (.ifCond .eq 19, 3) := by decide +kernel
theorem dX5_place_46 : decode cX5_place 46 = .ok (.aload_n 0, 1) := by decide +kernel
theorem dX5_place_47 : decode cX5_place 47 = .ok (.aload_n 0, 1) := by decide +kernel
theorem dX5_place_48 : decode cX5_place 48 = .ok (.iload_n 1, 1) := by decide +kernel
theorem dX5_place_49 : decode cX5_place 49 = .ok (.iload_n 2, 1) := by decide +kernel
theorem dX5_place_50 : decode cX5_place 50 = .ok (.iload_n 3, 1) := by decide +kernel
theorem dX5_place_51 : decode cX5_place 51 = .ok (.iload 4, 2) := by decide +kernel
theorem dX5_place_53 : decode cX5_place 53 = .ok (.invokevirtual 181, 3) := by decide +kernel
theorem dX5_place_56 : decode cX5_place 56 = .ok (.invokevirtual 100, 3) := by decide +kernel
theorem dX5_place_59 : decode cX5_place 59 = .ok (.goto 8, 3) := by decide +kernel
theorem dX5_place_62 : decode cX5_place 62 = .ok (.aload_n 0, 1) := by decide +kernel
theorem dX5_place_63 : decode cX5_place 63 = .ok (.iconst 2, 1) := by decide +kernel
theorem dX5_place_64 : decode cX5_place 64 = .ok (.invokevirtual 86, 3) := by decide +kernel
theorem dX5_place_67 : decode cX5_place 67 = .ok (.ireturn, 1) := by decide +kernel
theorem dX5_proof_0 : decode cX5_proof 0 = .ok (.iload_n 1, 1) := by decide +kernel
theorem dX5_proof_1 : decode cX5_proof 1 = .ok (.invokestatic 144, 3) := by decide +kernel
theorem dX5_proof_4 : decode cX5_proof 4 = .ok (.ifCond .eq 7, 3) := by decide +kernel
theorem dX5_proof_7 : decode cX5_proof 7 = .ok (.iload_n 2, 1) := by decide +kernel
theorem dX5_proof_8 : decode cX5_proof 8 = .ok (.ifCond .ge 9, 3) := by decide +kernel
theorem dX5_proof_11 : decode cX5_proof 11 = .ok (.aload_n 0, 1) := by decide +kernel
theorem dX5_proof_12 : decode cX5_proof 12 = .ok (.iconst 1, 1) := by decide +kernel
theorem dX5_proof_13 : decode cX5_proof 13 = .ok (.invokevirtual 86, 3) := by decide +kernel
theorem dX5_proof_16 : decode cX5_proof 16 = .ok (.ireturn, 1) := by decide +kernel
theorem dX5_proof_17 : decode cX5_proof 17 = .ok (.iload_n 2, 1) := by decide +kernel
theorem dX5_proof_18 : decode cX5_proof 18 = .ok (.istore_n 3, 1) := by decide +kernel
theorem dX5_proof_19 : decode cX5_proof 19 = .ok (.iconst 0, 1) := by decide +kernel
theorem dX5_proof_20 : decode cX5_proof 20 = .ok (.istore 4, 2) := by decide +kernel
theorem dX5_proof_22 : decode cX5_proof 22 = .ok (.iload 4, 2) := by decide +kernel
theorem dX5_proof_24 : decode cX5_proof 24 = .ok (.aload_n 0, 1) := by decide +kernel
theorem dX5_proof_25 : decode cX5_proof 25 = .ok (.getfield 7, 3) := by decide +kernel
theorem dX5_proof_28 : decode cX5_proof 28 = .ok (.sipush 1262, 3) := by decide +kernel
theorem dX5_proof_31 : decode cX5_proof 31 = .ok (.iload_n 1, 1) := by decide +kernel
theorem dX5_proof_32 : decode cX5_proof 32 = .ok (.iadd, 1) := by decide +kernel
theorem dX5_proof_33 : decode cX5_proof 33 = .ok (.iaload, 1) := by decide +kernel
theorem dX5_proof_34 : decode cX5_proof 34 = .ok (.if_icmp .ge 76, 3) := by decide +kernel
theorem dX5_proof_37 : decode cX5_proof 37 = .ok (.iconst 0, 1) := by decide +kernel
theorem dX5_proof_38 : decode cX5_proof 38 = .ok (.istore 5, 2) := by decide +kernel
theorem dX5_proof_40 : decode cX5_proof 40 = .ok (.iload 5, 2) := by decide +kernel
theorem dX5_proof_42 : decode cX5_proof 42 = .ok (.aload_n 0, 1) := by decide +kernel
theorem dX5_proof_43 : decode cX5_proof 43 = .ok (.iload_n 1, 1) := by decide +kernel
theorem dX5_proof_44 : decode cX5_proof 44 = .ok (.iload 4, 2) := by decide +kernel
theorem dX5_proof_46 : decode cX5_proof 46 = .ok (.invokevirtual 61, 3) := by decide +kernel
theorem dX5_proof_49 : decode cX5_proof 49 = .ok (.if_icmp .ge 55, 3) := by decide +kernel
theorem dX5_proof_52 : decode cX5_proof 52 = .ok (.aload_n 0, 1) := by decide +kernel
theorem dX5_proof_53 : decode cX5_proof 53 = .ok (.iload_n 1, 1) := by decide +kernel
theorem dX5_proof_54 : decode cX5_proof 54 = .ok (.iload 4, 2) := by decide +kernel
theorem dX5_proof_56 : decode cX5_proof 56 = .ok (.iload 5, 2) := by decide +kernel
theorem dX5_proof_58 : decode cX5_proof 58 = .ok (.invokevirtual 64, 3) := by decide +kernel
theorem dX5_proof_61 : decode cX5_proof 61 = .ok (.istore 6, 2) := by decide +kernel
theorem dX5_proof_63 : decode cX5_proof 63 = .ok (.iload 6, 2) := by decide +kernel
theorem dX5_proof_65 : decode cX5_proof 65 = .ok (.ifCond .eq 20, 3) := by decide +kernel
theorem dX5_proof_68 : decode cX5_proof 68 = .ok (.iload_n 3, 1) := by decide +kernel
theorem dX5_proof_69 : decode cX5_proof 69 = .ok (.ifCond .ne 16, 3) := by decide +kernel
theorem dX5_proof_72 : decode cX5_proof 72 = .ok (.aload_n 0, 1) := by decide +kernel
theorem dX5_proof_73 : decode cX5_proof 73 = .ok (.bipush 100, 2) := by decide +kernel
theorem dX5_proof_75 : decode cX5_proof 75 = .ok (.iload 4, 2) := by decide +kernel
theorem dX5_proof_77 : decode cX5_proof 77 = .ok (.imul, 1) := by decide +kernel
theorem dX5_proof_78 : decode cX5_proof 78 = .ok (.iload 5, 2) := by decide +kernel
theorem dX5_proof_80 : decode cX5_proof 80 = .ok (.iadd, 1) := by decide +kernel
theorem dX5_proof_81 : decode cX5_proof 81 = .ok (.invokevirtual 100, 3) := by decide +kernel
theorem dX5_proof_84 : decode cX5_proof 84 = .ok (.ireturn, 1) := by decide +kernel
theorem dX5_proof_85 : decode cX5_proof 85 = .ok (.iload_n 3, 1) := by decide +kernel
theorem dX5_proof_86 : decode cX5_proof 86 = .ok (.iload 6, 2) := by decide +kernel
theorem dX5_proof_88 : decode cX5_proof 88 = .ok (.ifCond .eq 7, 3) := by decide +kernel
theorem dX5_proof_91 : decode cX5_proof 91 = .ok (.iconst 1, 1) := by decide +kernel
theorem dX5_proof_92 : decode cX5_proof 92 = .ok (.goto 4, 3) := by decide +kernel
theorem dX5_proof_95 : decode cX5_proof 95 = .ok (.iconst 0, 1) := by decide +kernel
theorem dX5_proof_96 : decode cX5_proof 96 = .ok (.isub, 1) := by decide +kernel
theorem dX5_proof_97 : decode cX5_proof 97 = .ok (.istore_n 3, 1) := by decide +kernel
theorem dX5_proof_98 : decode cX5_proof 98 = .ok (.iinc 5 1, 3) := by decide +kernel
theorem dX5_proof_101 : decode cX5_proof 101 = .ok (.goto (-61), 3) := by decide +kernel
theorem dX5_proof_104 : decode cX5_proof 104 = .ok (.iinc 4 1, 3) := by decide +kernel
theorem dX5_proof_107 : decode cX5_proof 107 = .ok (.goto (-85), 3) := by decide +kernel
theorem dX5_proof_110 : decode cX5_proof 110 = .ok (.aload_n 0, 1) := by decide +kernel
theorem dX5_proof_111 : decode cX5_proof 111 = .ok (.iconst (-1), 1) := by decide +kernel
theorem dX5_proof_112 : decode cX5_proof 112 = .ok (.invokevirtual 100, 3) := by decide +kernel
theorem dX5_proof_115 : decode cX5_proof 115 = .ok (.ireturn, 1) := by decide +kernel
theorem dX5_inHeap_0 : decode cX5_inHeap 0 = .ok (.iload_n 1, 1) := by decide +kernel
theorem dX5_inHeap_1 : decode cX5_inHeap 1 = .ok (.i2l, 1) := by decide +kernel
theorem dX5_inHeap_2 : decode cX5_inHeap 2 = .ok (.lconst 0, 1) := by decide +kernel
theorem dX5_inHeap_3 : decode cX5_inHeap 3 = .ok (.aload_n 0, 1) := by decide +kernel
theorem dX5_inHeap_4 : decode cX5_inHeap 4 = .ok (.getfield 7, 3) := by decide +kernel
theorem dX5_inHeap_7 : decode cX5_inHeap 7 = .ok (.sipush 1265, 3) := by decide +kernel
theorem dX5_inHeap_10 : decode cX5_inHeap 10 = .ok (.iaload, 1) := by decide +kernel
theorem dX5_inHeap_11 : decode cX5_inHeap 11 = .ok (.i2l, 1) := by decide +kernel
theorem dX5_inHeap_12 : decode cX5_inHeap 12 = .ok (.lconst 1, 1) := by decide +kernel
theorem dX5_inHeap_13 : decode cX5_inHeap 13 = .ok (.lsub, 1) := by decide +kernel
theorem dX5_inHeap_14 : decode cX5_inHeap 14 = .ok (.invokestatic 40, 3) := by decide +kernel
theorem dX5_inHeap_17 : decode cX5_inHeap 17 = .ok (.ifCond .eq 20, 3) := by decide +kernel
theorem dX5_inHeap_20 : decode cX5_inHeap 20 = .ok (.aload_n 0, 1) := by decide +kernel
theorem dX5_inHeap_21 : decode cX5_inHeap 21 = .ok (.aload_n 0, 1) := by decide +kernel
theorem dX5_inHeap_22 : decode cX5_inHeap 22 = .ok (.getfield 7, 3) := by decide +kernel
theorem dX5_inHeap_25 : decode cX5_inHeap 25 = .ok (.sipush 1266, 3) := by decide +kernel
theorem dX5_inHeap_28 : decode cX5_inHeap 28 = .ok (.iload_n 1, 1) := by decide +kernel
theorem dX5_inHeap_29 : decode cX5_inHeap 29 = .ok (.iadd, 1) := by decide +kernel
theorem dX5_inHeap_30 : decode cX5_inHeap 30 = .ok (.iaload, 1) := by decide +kernel
theorem dX5_inHeap_31 : decode cX5_inHeap 31 = .ok (.invokevirtual 100, 3) := by decide +kernel
theorem dX5_inHeap_34 : decode cX5_inHeap 34 = .ok (.goto 8, 3) := by decide +kernel
theorem dX5_inHeap_37 : decode cX5_inHeap 37 = .ok (.aload_n 0, 1) := by decide +kernel
theorem dX5_inHeap_38 : decode cX5_inHeap 38 = .ok (.iconst 1, 1) := by decide +kernel
theorem dX5_inHeap_39 : decode cX5_inHeap 39 = .ok (.invokevirtual 86, 3) := by decide +kernel
theorem dX5_inHeap_42 : decode cX5_inHeap 42 = .ok (.ireturn, 1) := by decide +kernel
theorem dX5_errorsIfSet_0 : decode cX5_errorsIfSet 0 = .ok (.aload_n 0, 1) := by decide +kernel
theorem dX5_errorsIfSet_1 : decode cX5_errorsIfSet 1 = .ok (.invokevirtual 147, 3) := by decide +kernel
theorem dX5_errorsIfSet_4 : decode cX5_errorsIfSet 4 = .ok (.aload_n 0, 1) := by decide +kernel
theorem dX5_errorsIfSet_5 : decode cX5_errorsIfSet 5 = .ok (.invokevirtual 150, 3) := by decide +kernel
theorem dX5_errorsIfSet_8 : decode cX5_errorsIfSet 8 = .ok (.ifCond .eq 10, 3) := by decide +kernel
theorem dX5_errorsIfSet_11 : decode cX5_errorsIfSet 11 = .ok (.aload_n 0, 1) := by decide +kernel
theorem dX5_errorsIfSet_12 : decode cX5_errorsIfSet 12 = .ok (.invokevirtual 184, 3) := by decide +kernel
theorem dX5_errorsIfSet_15 : decode cX5_errorsIfSet 15 = .ok (.goto 4, 3) := by decide +kernel
theorem dX5_errorsIfSet_18 : decode cX5_errorsIfSet 18 = .ok (.iconst (-1), 1) := by decide +kernel
theorem dX5_errorsIfSet_19 : decode cX5_errorsIfSet 19 = .ok (.istore_n 1, 1) := by decide +kernel
theorem dX5_errorsIfSet_20 : decode cX5_errorsIfSet 20 = .ok (.aload_n 0, 1) := by decide +kernel
theorem dX5_errorsIfSet_21 : decode cX5_errorsIfSet 21 = .ok (.invokevirtual 154, 3) := by decide +kernel
theorem dX5_errorsIfSet_24 : decode cX5_errorsIfSet 24 = .ok (.aload_n 0, 1) := by decide +kernel
theorem dX5_errorsIfSet_25 : decode cX5_errorsIfSet 25 = .ok (.iload_n 1, 1) := by decide +kernel
theorem dX5_errorsIfSet_26 : decode cX5_errorsIfSet 26 = .ok (.invokevirtual 100, 3) := by decide +kernel
theorem dX5_errorsIfSet_29 : decode cX5_errorsIfSet 29 = .ok (.ireturn, 1) := by decide +kernel
theorem dX5_turnedIfSet_0 : decode cX5_turnedIfSet 0 = .ok (.aload_n 0, 1) := by decide +kernel
theorem dX5_turnedIfSet_1 : decode cX5_turnedIfSet 1 = .ok (.invokevirtual 147, 3) := by decide +kernel
theorem dX5_turnedIfSet_4 : decode cX5_turnedIfSet 4 = .ok (.aload_n 0, 1) := by decide +kernel
theorem dX5_turnedIfSet_5 : decode cX5_turnedIfSet 5 = .ok (.invokevirtual 150, 3) := by decide +kernel
theorem dX5_turnedIfSet_8 : decode cX5_turnedIfSet 8 = .ok (.ifCond .eq 10, 3) := by decide +kernel
theorem dX5_turnedIfSet_11 : decode cX5_turnedIfSet 11 = .ok (.aload_n 0, 1) := by decide +kernel
theorem dX5_turnedIfSet_12 : decode cX5_turnedIfSet 12 = .ok (.invokevirtual 187, 3) := by decide +kernel
theorem dX5_turnedIfSet_15 : decode cX5_turnedIfSet 15 = .ok (.goto 4, 3) := by decide +kernel
theorem dX5_turnedIfSet_18 : decode cX5_turnedIfSet 18 = .ok (.iconst (-1), 1) := by decide +kernel
theorem dX5_turnedIfSet_19 : decode cX5_turnedIfSet 19 = .ok (.istore_n 1, 1) := by decide +kernel
theorem dX5_turnedIfSet_20 : decode cX5_turnedIfSet 20 = .ok (.aload_n 0, 1) := by decide +kernel
theorem dX5_turnedIfSet_21 : decode cX5_turnedIfSet 21 = .ok (.invokevirtual 154, 3) := by decide +kernel
theorem dX5_turnedIfSet_24 : decode cX5_turnedIfSet 24 = .ok (.aload_n 0, 1) := by decide +kernel
theorem dX5_turnedIfSet_25 : decode cX5_turnedIfSet 25 = .ok (.iload_n 1, 1) := by decide +kernel
theorem dX5_turnedIfSet_26 : decode cX5_turnedIfSet 26 = .ok (.invokevirtual 100, 3) := by decide +kernel
theorem dX5_turnedIfSet_29 : decode cX5_turnedIfSet 29 = .ok (.ireturn, 1) := by decide +kernel
theorem dX5_copies_0 : decode cX5_copies 0 = .ok (.aload_n 0, 1) := by decide +kernel
theorem dX5_copies_1 : decode cX5_copies 1 = .ok (.getfield 103, 3) := by decide +kernel
theorem dX5_copies_4 : decode cX5_copies 4 = .ok (.ifCond .ne 9, 3) := by decide +kernel
theorem dX5_copies_7 : decode cX5_copies 7 = .ok (.aload_n 0, 1) := by decide +kernel
theorem dX5_copies_8 : decode cX5_copies 8 = .ok (.iconst (-1), 1) := by decide +kernel
theorem dX5_copies_9 : decode cX5_copies 9 = .ok (.invokevirtual 100, 3) := by decide +kernel
theorem dX5_copies_12 : decode cX5_copies 12 = .ok (.ireturn, 1) := by decide +kernel
theorem dX5_copies_13 : decode cX5_copies 13 = .ok (.aload_n 0, 1) := by decide +kernel
theorem dX5_copies_14 : decode cX5_copies 14 = .ok (.invokevirtual 147, 3) := by decide +kernel
theorem dX5_copies_17 : decode cX5_copies 17 = .ok (.iconst 0, 1) := by decide +kernel
theorem dX5_copies_18 : decode cX5_copies 18 = .ok (.istore_n 1, 1) := by decide +kernel
theorem dX5_copies_19 : decode cX5_copies 19 = .ok (.aload_n 0, 1) := by decide +kernel
theorem dX5_copies_20 : decode cX5_copies 20 = .ok (.invokevirtual 150, 3) := by decide +kernel
theorem dX5_copies_23 : decode cX5_copies 23 = .ok (.ifCond .eq 16, 3) := by decide +kernel
theorem dX5_copies_26 : decode cX5_copies 26 = .ok (.aload_n 0, 1) := by decide +kernel
theorem dX5_copies_27 : decode cX5_copies 27 = .ok (.invokevirtual 184, 3) := by decide +kernel
theorem dX5_copies_30 : decode cX5_copies 30 = .ok (.ifCond .ne 9, 3) := by decide +kernel
theorem dX5_copies_33 : decode cX5_copies 33 = .ok (.iinc 1 1, 3) := by decide +kernel
theorem dX5_copies_36 : decode cX5_copies 36 = .ok (.goto (-17), 3) := by decide +kernel
theorem dX5_copies_39 : decode cX5_copies 39 = .ok (.aload_n 0, 1) := by decide +kernel
theorem dX5_copies_40 : decode cX5_copies 40 = .ok (.invokevirtual 154, 3) := by decide +kernel
theorem dX5_copies_43 : decode cX5_copies 43 = .ok (.aload_n 0, 1) := by decide +kernel
theorem dX5_copies_44 : decode cX5_copies 44 = .ok (.iload_n 1, 1) := by decide +kernel
theorem dX5_copies_45 : decode cX5_copies 45 = .ok (.invokevirtual 100, 3) := by decide +kernel
theorem dX5_copies_48 : decode cX5_copies 48 = .ok (.ireturn, 1) := by decide +kernel
theorem dX5_bestToDistribute_0 : decode cX5_bestToDistribute 0 = .ok (.iconst (-1), 1) := by decide +kernel
theorem dX5_bestToDistribute_1 : decode cX5_bestToDistribute 1 = .ok (.istore_n 1, 1) := by decide +kernel
theorem dX5_bestToDistribute_2 : decode cX5_bestToDistribute 2 = .ok (.bipush 17, 2) := by decide +kernel
theorem dX5_bestToDistribute_4 : decode cX5_bestToDistribute 4 = .ok (.istore_n 2, 1) := by decide +kernel
theorem dX5_bestToDistribute_5 : decode cX5_bestToDistribute 5 = .ok (.iconst 0, 1) := by decide +kernel
theorem dX5_bestToDistribute_6 : decode cX5_bestToDistribute 6 = .ok (.istore_n 3, 1) := by decide +kernel
theorem dX5_bestToDistribute_7 : decode cX5_bestToDistribute 7 = .ok (.iload_n 3, 1) := by decide +kernel
theorem dX5_bestToDistribute_8 : decode cX5_bestToDistribute 8 = .ok (.iconst 3, 1) := by decide +kernel
theorem dX5_bestToDistribute_9 : decode cX5_bestToDistribute 9 = .ok (.if_icmp .ge 76, 3) := by decide +kernel
theorem dX5_bestToDistribute_12 : decode cX5_bestToDistribute 12 = .ok (.aload_n 0, 1) := by decide +kernel
theorem dX5_bestToDistribute_13 : decode cX5_bestToDistribute 13 = .ok (.invokevirtual 147, 3) := by decide +kernel
theorem dX5_bestToDistribute_16 : decode cX5_bestToDistribute 16 = .ok (.aload_n 0, 1) := by decide +kernel
theorem dX5_bestToDistribute_17 : decode cX5_bestToDistribute 17 = .ok (.iload_n 3, 1) := by decide +kernel
theorem dX5_bestToDistribute_18 : decode cX5_bestToDistribute 18 = .ok (.invokevirtual 167, 3) := by decide +kernel
theorem dX5_bestToDistribute_21 : decode cX5_bestToDistribute 21 = .ok (.istore 4, 2) := by decide +kernel
theorem dX5_bestToDistribute_23 : decode cX5_bestToDistribute 23 = .ok (.aload_n 0, 1) := by decide +kernel
theorem dX5_bestToDistribute_24 : decode cX5_bestToDistribute 24 = .ok (.invokevirtual 150, 3) := by decide +kernel
theorem dX5_bestToDistribute_27 : decode cX5_bestToDistribute 27 = .ok (.ifCond .eq 10, 3) := by decide +kernel
theorem dX5_bestToDistribute_30 : decode cX5_bestToDistribute 30 = .ok (.aload_n 0, 1) := by decide +kernel
theorem dX5_bestToDistribute_31 : decode cX5_bestToDistribute 31 = .ok (.invokevirtual 184, 3) := by decide +kernel
theorem dX5_bestToDistribute_34 : decode cX5_bestToDistribute 34 = .ok (.goto 14, 3) := by decide +kernel
theorem dX5_bestToDistribute_37 : decode cX5_bestToDistribute 37 = .ok (.iload 4, 2) := by decide +kernel
theorem dX5_bestToDistribute_39 : decode cX5_bestToDistribute 39 = .ok (.ifCond .ge 7, 3) := by decide +kernel
theorem dX5_bestToDistribute_42 : decode cX5_bestToDistribute 42 = .ok (.iconst 0, 1) := by decide +kernel
theorem dX5_bestToDistribute_43 : decode cX5_bestToDistribute 43 = .ok (.goto 5, 3) := by decide +kernel
theorem dX5_bestToDistribute_46 : decode cX5_bestToDistribute 46 = .ok (.bipush 17, 2) := by decide +kernel
theorem dX5_bestToDistribute_48 : decode cX5_bestToDistribute 48 = .ok (.istore 5, 2) := by decide +kernel
theorem dX5_bestToDistribute_50 : decode cX5_bestToDistribute 50 = .ok (.aload_n 0, 1) := by decide +kernel
theorem dX5_bestToDistribute_51 : decode cX5_bestToDistribute 51 = .ok (.invokevirtual 154, 3) := by decide +kernel
theorem dX5_bestToDistribute_54 : decode cX5_bestToDistribute 54 = .ok (.iload 5, 2) := by decide +kernel
theorem dX5_bestToDistribute_56 : decode cX5_bestToDistribute 56 = .ok (.iload_n 2, 1) := by decide +kernel
theorem dX5_bestToDistribute_57 : decode cX5_bestToDistribute 57 = .ok (.if_icmp .ge 7, 3) := by decide +kernel
theorem dX5_bestToDistribute_60 : decode cX5_bestToDistribute 60 = .ok (.iload_n 3, 1) := by decide +kernel
theorem dX5_bestToDistribute_61 : decode cX5_bestToDistribute 61 = .ok (.goto 4, 3) := by decide +kernel
theorem dX5_bestToDistribute_64 : decode cX5_bestToDistribute 64 = .ok (.iload_n 1, 1) := by decide +kernel
theorem dX5_bestToDistribute_65 : decode cX5_bestToDistribute 65 = .ok (.istore_n 1, 1) := by decide +kernel
theorem dX5_bestToDistribute_66 : decode cX5_bestToDistribute 66 = .ok (.iload 5, 2) := by decide +kernel
theorem dX5_bestToDistribute_68 : decode cX5_bestToDistribute 68 = .ok (.iload_n 2, 1) := by decide +kernel
theorem dX5_bestToDistribute_69 : decode cX5_bestToDistribute 69 = .ok (.if_icmp .ge 8, 3) := by decide +kernel
theorem dX5_bestToDistribute_72 : decode cX5_bestToDistribute 72 = .ok (.iload 5, 2) := by decide +kernel
theorem dX5_bestToDistribute_74 : decode cX5_bestToDistribute 74 = .ok (.goto 4, 3) := by decide +kernel
theorem dX5_bestToDistribute_77 : decode cX5_bestToDistribute 77 = .ok (.iload_n 2, 1) := by decide +kernel
theorem dX5_bestToDistribute_78 : decode cX5_bestToDistribute 78 = .ok (.istore_n 2, 1) := by decide +kernel
theorem dX5_bestToDistribute_79 : decode cX5_bestToDistribute 79 = .ok (.iinc 3 1, 3) := by decide +kernel
theorem dX5_bestToDistribute_82 : decode cX5_bestToDistribute 82 = .ok (.goto (-75), 3) := by decide +kernel
theorem dX5_bestToDistribute_85 : decode cX5_bestToDistribute 85 = .ok (.aload_n 0, 1) := by decide +kernel
theorem dX5_bestToDistribute_86 : decode cX5_bestToDistribute 86 = .ok (.iload_n 1, 1) := by decide +kernel
theorem dX5_bestToDistribute_87 : decode cX5_bestToDistribute 87 = .ok (.invokevirtual 100, 3) := by decide +kernel
theorem dX5_bestToDistribute_90 : decode cX5_bestToDistribute 90 = .ok (.ireturn, 1) := by decide +kernel
theorem dX5_order_0 : decode cX5_order 0 = .ok (.aload_n 0, 1) := by decide +kernel
theorem dX5_order_1 : decode cX5_order 1 = .ok (.iconst 0, 1) := by decide +kernel
theorem dX5_order_2 : decode cX5_order 2 = .ok (.putfield 31, 3) := by decide +kernel
theorem dX5_order_5 : decode cX5_order 5 = .ok (.aload_n 0, 1) := by decide +kernel
theorem dX5_order_6 : decode cX5_order 6 = .ok (.invokevirtual 71, 3) := by decide +kernel
theorem dX5_order_9 : decode cX5_order 9 = .ok (.istore_n 1, 1) := by decide +kernel
theorem dX5_order_10 : decode cX5_order 10 = .ok (.iload_n 1, 1) := by decide +kernel
theorem dX5_order_11 : decode cX5_order 11 = .ok (.aload_n 0, 1) := by decide +kernel
theorem dX5_order_12 : decode cX5_order 12 = .ok (.invokevirtual 133, 3) := by decide +kernel
theorem dX5_order_15 : decode cX5_order 15 = .ok (.isub, 1) := by decide +kernel
theorem dX5_order_16 : decode cX5_order 16 = .ok (.i2d, 1) := by decide +kernel
theorem dX5_order_17 : decode cX5_order 17 = .ok (.dstore_n 2, 1) := by decide +kernel
theorem dX5_order_18 : decode cX5_order 18 = .ok (.iload_n 1, 1) := by decide +kernel
theorem dX5_order_19 : decode cX5_order 19 = .ok (.i2d, 1) := by decide +kernel
theorem dX5_order_20 : decode cX5_order 20 = .ok (.dstore 4, 2) := by decide +kernel
theorem dX5_order_22 : decode cX5_order 22 = .ok (.iload_n 1, 1) := by decide +kernel
theorem dX5_order_23 : decode cX5_order 23 = .ok (.ifCond .ne 7, 3) := by decide +kernel
theorem dX5_order_26 : decode cX5_order 26 = .ok (.dconst 1, 1) := by decide +kernel
theorem dX5_order_27 : decode cX5_order 27 = .ok (.goto 7, 3) := by decide +kernel
theorem dX5_order_30 : decode cX5_order 30 = .ok (.dload_n 2, 1) := by decide +kernel
theorem dX5_order_31 : decode cX5_order 31 = .ok (.dload 4, 2) := by decide +kernel
theorem dX5_order_33 : decode cX5_order 33 = .ok (.ddiv, 1) := by decide +kernel
theorem dX5_order_34 : decode cX5_order 34 = .ok (.dreturn, 1) := by decide +kernel
theorem dX5_append_0 : decode cX5_append 0 = .ok (.iload_n 1, 1) := by decide +kernel
theorem dX5_append_1 : decode cX5_append 1 = .ok (.bipush 32, 2) := by decide +kernel
theorem dX5_append_3 : decode cX5_append 3 = .ok (.if_icmp .eq 23, 3) := by decide +kernel
theorem dX5_append_6 : decode cX5_append 6 = .ok (.iload_n 1, 1) := by decide +kernel
theorem dX5_append_7 : decode cX5_append 7 = .ok (.i2l, 1) := by decide +kernel
theorem dX5_append_8 : decode cX5_append 8 = .ok (.ldc2_w 190, 3) := by decide +kernel
theorem dX5_append_11 : decode cX5_append 11 = .ok (.ldc2_w 192, 3) := by decide +kernel
theorem dX5_append_14 : decode cX5_append 14 = .ok (.invokestatic 40, 3) := by decide +kernel
theorem dX5_append_17 : decode cX5_append 17 = .ok (.ifCond .ne 9, 3) := by decide +kernel
theorem dX5_append_20 : decode cX5_append 20 = .ok (.aload_n 0, 1) := by decide +kernel
theorem dX5_append_21 : decode cX5_append 21 = .ok (.iconst 1, 1) := by decide +kernel
theorem dX5_append_22 : decode cX5_append 22 = .ok (.invokevirtual 86, 3) := by decide +kernel
theorem dX5_append_25 : decode cX5_append 25 = .ok (.ireturn, 1) := by decide +kernel
theorem dX5_append_26 : decode cX5_append 26 = .ok (.aload_n 0, 1) := by decide +kernel
theorem dX5_append_27 : decode cX5_append 27 = .ok (.getfield 103, 3) := by decide +kernel
theorem dX5_append_30 : decode cX5_append 30 = .ok (.bipush 16, 2) := by decide +kernel
theorem dX5_append_32 : decode cX5_append 32 = .ok (.if_icmp .ne 9, 3) := by decide +kernel
theorem dX5_append_35 : decode cX5_append 35 = .ok (.aload_n 0, 1) := by decide +kernel
theorem dX5_append_36 : decode cX5_append 36 = .ok (.iconst 2, 1) := by decide +kernel
theorem dX5_append_37 : decode cX5_append 37 = .ok (.invokevirtual 86, 3) := by decide +kernel
theorem dX5_append_40 : decode cX5_append 40 = .ok (.ireturn, 1) := by decide +kernel
theorem dX5_append_41 : decode cX5_append 41 = .ok (.aload_n 0, 1) := by decide +kernel
theorem dX5_append_42 : decode cX5_append 42 = .ok (.getfield 19, 3) := by decide +kernel
theorem dX5_append_45 : decode cX5_append 45 = .ok (.aload_n 0, 1) := by decide +kernel
theorem dX5_append_46 : decode cX5_append 46 = .ok (.getfield 103, 3) := by decide +kernel
theorem dX5_append_49 : decode cX5_append 49 = .ok (.iload_n 1, 1) := by decide +kernel
theorem dX5_append_50 : decode cX5_append 50 = .ok (.bipush 32, 2) := by decide +kernel
theorem dX5_append_52 : decode cX5_append 52 = .ok (.if_icmp .ne 8, 3) := by decide +kernel
theorem dX5_append_55 : decode cX5_append 55 = .ok (.bipush 26, 2) := by decide +kernel
theorem dX5_append_57 : decode cX5_append 57 = .ok (.goto 7, 3) := by decide +kernel
theorem dX5_append_60 : decode cX5_append 60 = .ok (.iload_n 1, 1) := by decide +kernel
theorem dX5_append_61 : decode cX5_append 61 = .ok (.bipush 97, 2) := by decide +kernel
theorem dX5_append_63 : decode cX5_append 63 = .ok (.isub, 1) := by decide +kernel
theorem dX5_append_64 : decode cX5_append 64 = .ok (.iastore, 1) := by decide +kernel
theorem dX5_append_65 : decode cX5_append 65 = .ok (.aload_n 0, 1) := by decide +kernel
theorem dX5_append_66 : decode cX5_append 66 = .ok (.dup, 1) := by decide +kernel
theorem dX5_append_67 : decode cX5_append 67 = .ok (.getfield 103, 3) := by decide +kernel
theorem dX5_append_70 : decode cX5_append 70 = .ok (.iconst 1, 1) := by decide +kernel
theorem dX5_append_71 : decode cX5_append 71 = .ok (.iadd, 1) := by decide +kernel
theorem dX5_append_72 : decode cX5_append 72 = .ok (.putfield 103, 3) := by decide +kernel
theorem dX5_append_75 : decode cX5_append 75 = .ok (.aload_n 0, 1) := by decide +kernel
theorem dX5_append_76 : decode cX5_append 76 = .ok (.aload_n 0, 1) := by decide +kernel
end
section
theorem dX5_append_77 : decode cX5_append 77 = .ok (.getfield 103, 3) := by decide +kernel
theorem dX5_append_80 : decode cX5_append 80 = .ok (.invokevirtual 100, 3) := by decide +kernel
theorem dX5_append_83 : decode cX5_append 83 = .ok (.ireturn, 1) := by decide +kernel
theorem dX5_clearText_0 : decode cX5_clearText 0 = .ok (.aload_n 0, 1) := by decide +kernel
theorem dX5_clearText_1 : decode cX5_clearText 1 = .ok (.getfield 103, 3) := by decide +kernel
theorem dX5_clearText_4 : decode cX5_clearText 4 = .ok (.istore_n 1, 1) := by decide +kernel
theorem dX5_clearText_5 : decode cX5_clearText 5 = .ok (.aload_n 0, 1) := by decide +kernel
theorem dX5_clearText_6 : decode cX5_clearText 6 = .ok (.iconst 0, 1) := by decide +kernel
theorem dX5_clearText_7 : decode cX5_clearText 7 = .ok (.putfield 103, 3) := by decide +kernel
theorem dX5_clearText_10 : decode cX5_clearText 10 = .ok (.aload_n 0, 1) := by decide +kernel
theorem dX5_clearText_11 : decode cX5_clearText 11 = .ok (.iload_n 1, 1) := by decide +kernel
theorem dX5_clearText_12 : decode cX5_clearText 12 = .ok (.invokevirtual 100, 3) := by decide +kernel
theorem dX5_clearText_15 : decode cX5_clearText 15 = .ok (.ireturn, 1) := by decide +kernel
theorem dX5_undo_0 : decode cX5_undo 0 = .ok (.aload_n 0, 1) := by decide +kernel
theorem dX5_undo_1 : decode cX5_undo 1 = .ok (.getfield 35, 3) := by decide +kernel
theorem dX5_undo_4 : decode cX5_undo 4 = .ok (.ifCond .ne 9, 3) := by decide +kernel
theorem dX5_undo_7 : decode cX5_undo 7 = .ok (.aload_n 0, 1) := by decide +kernel
theorem dX5_undo_8 : decode cX5_undo 8 = .ok (.iconst 1, 1) := by decide +kernel
theorem dX5_undo_9 : decode cX5_undo 9 = .ok (.invokevirtual 86, 3) := by decide +kernel
theorem dX5_undo_12 : decode cX5_undo 12 = .ok (.ireturn, 1) := by decide +kernel
theorem dX5_undo_13 : decode cX5_undo 13 = .ok (.aload_n 0, 1) := by decide +kernel
theorem dX5_undo_14 : decode cX5_undo 14 = .ok (.dup, 1) := by decide +kernel
theorem dX5_undo_15 : decode cX5_undo 15 = .ok (.getfield 35, 3) := by decide +kernel
theorem dX5_undo_18 : decode cX5_undo 18 = .ok (.iconst 1, 1) := by decide +kernel
theorem dX5_undo_19 : decode cX5_undo 19 = .ok (.isub, 1) := by decide +kernel
theorem dX5_undo_20 : decode cX5_undo 20 = .ok (.putfield 35, 3) := by decide +kernel
theorem dX5_undo_23 : decode cX5_undo 23 = .ok (.iconst 0, 1) := by decide +kernel
theorem dX5_undo_24 : decode cX5_undo 24 = .ok (.istore_n 1, 1) := by decide +kernel
theorem dX5_undo_25 : decode cX5_undo 25 = .ok (.iload_n 1, 1) := by decide +kernel
theorem dX5_undo_26 : decode cX5_undo 26 = .ok (.sipush 1542, 3) := by decide +kernel
theorem dX5_undo_29 : decode cX5_undo 29 = .ok (.if_icmp .ge 30, 3) := by decide +kernel
theorem dX5_undo_32 : decode cX5_undo 32 = .ok (.aload_n 0, 1) := by decide +kernel
theorem dX5_undo_33 : decode cX5_undo 33 = .ok (.getfield 7, 3) := by decide +kernel
theorem dX5_undo_36 : decode cX5_undo 36 = .ok (.iload_n 1, 1) := by decide +kernel
theorem dX5_undo_37 : decode cX5_undo 37 = .ok (.aload_n 0, 1) := by decide +kernel
theorem dX5_undo_38 : decode cX5_undo 38 = .ok (.getfield 13, 3) := by decide +kernel
theorem dX5_undo_41 : decode cX5_undo 41 = .ok (.sipush 1542, 3) := by decide +kernel
theorem dX5_undo_44 : decode cX5_undo 44 = .ok (.aload_n 0, 1) := by decide +kernel
theorem dX5_undo_45 : decode cX5_undo 45 = .ok (.getfield 35, 3) := by decide +kernel
theorem dX5_undo_48 : decode cX5_undo 48 = .ok (.imul, 1) := by decide +kernel
theorem dX5_undo_49 : decode cX5_undo 49 = .ok (.iload_n 1, 1) := by decide +kernel
theorem dX5_undo_50 : decode cX5_undo 50 = .ok (.iadd, 1) := by decide +kernel
theorem dX5_undo_51 : decode cX5_undo 51 = .ok (.iaload, 1) := by decide +kernel
theorem dX5_undo_52 : decode cX5_undo 52 = .ok (.iastore, 1) := by decide +kernel
theorem dX5_undo_53 : decode cX5_undo 53 = .ok (.iinc 1 1, 3) := by decide +kernel
theorem dX5_undo_56 : decode cX5_undo 56 = .ok (.goto (-31), 3) := by decide +kernel
theorem dX5_undo_59 : decode cX5_undo 59 = .ok (.aload_n 0, 1) := by decide +kernel
theorem dX5_undo_60 : decode cX5_undo 60 = .ok (.aload_n 0, 1) := by decide +kernel
theorem dX5_undo_61 : decode cX5_undo 61 = .ok (.getfield 35, 3) := by decide +kernel
theorem dX5_undo_64 : decode cX5_undo 64 = .ok (.invokevirtual 100, 3) := by decide +kernel
theorem dX5_undo_67 : decode cX5_undo 67 = .ok (.ireturn, 1) := by decide +kernel
theorem dX5_hashBoxes_0 : decode cX5_hashBoxes 0 = .ok (.lload_n 1, 1) := by decide +kernel
theorem dX5_hashBoxes_1 : decode cX5_hashBoxes 1 = .ok (.lstore_n 3, 1) := by decide +kernel
theorem dX5_hashBoxes_2 : decode cX5_hashBoxes 2 = .ok (.iconst 0, 1) := by decide +kernel
theorem dX5_hashBoxes_3 : decode cX5_hashBoxes 3 = .ok (.istore 5, 2) := by decide +kernel
theorem dX5_hashBoxes_5 : decode cX5_hashBoxes 5 = .ok (.iload 5, 2) := by decide +kernel
theorem dX5_hashBoxes_7 : decode cX5_hashBoxes 7 = .ok (.bipush 27, 2) := by decide +kernel
theorem dX5_hashBoxes_9 : decode cX5_hashBoxes 9 = .ok (.if_icmp .ge 130, 3) := by decide +kernel
theorem dX5_hashBoxes_12 : decode cX5_hashBoxes 12 = .ok (.iconst 0, 1) := by decide +kernel
theorem dX5_hashBoxes_13 : decode cX5_hashBoxes 13 = .ok (.istore 6, 2) := by decide +kernel
theorem dX5_hashBoxes_15 : decode cX5_hashBoxes 15 = .ok (.iload 6, 2) := by decide +kernel
theorem dX5_hashBoxes_17 : decode cX5_hashBoxes 17 = .ok (.bipush 8, 2) := by decide +kernel
theorem dX5_hashBoxes_19 : decode cX5_hashBoxes 19 = .ok (.if_icmp .ge 25, 3) := by decide +kernel
theorem dX5_hashBoxes_22 : decode cX5_hashBoxes 22 = .ok (.ldc2_w 194, 3) := by decide +kernel
theorem dX5_hashBoxes_25 : decode cX5_hashBoxes 25 = .ok (.lload_n 3, 1) := by decide +kernel
theorem dX5_hashBoxes_26 : decode cX5_hashBoxes 26 = .ok (.lmul, 1) := by decide +kernel
theorem dX5_hashBoxes_27 : decode cX5_hashBoxes 27 = .ok (.aload_n 0, 1) := by decide +kernel
theorem dX5_hashBoxes_28 : decode cX5_hashBoxes 28 = .ok (.iload 5, 2) := by decide +kernel
theorem dX5_hashBoxes_30 : decode cX5_hashBoxes 30 = .ok (.iload 6, 2) := by decide +kernel
theorem dX5_hashBoxes_32 : decode cX5_hashBoxes 32 = .ok (.invokevirtual 130, 3) := by decide +kernel
theorem dX5_hashBoxes_35 : decode cX5_hashBoxes 35 = .ok (.i2l, 1) := by decide +kernel
theorem dX5_hashBoxes_36 : decode cX5_hashBoxes 36 = .ok (.ladd, 1) := by decide +kernel
theorem dX5_hashBoxes_37 : decode cX5_hashBoxes 37 = .ok (.lstore_n 3, 1) := by decide +kernel
theorem dX5_hashBoxes_38 : decode cX5_hashBoxes 38 = .ok (.iinc 6 1, 3) := by decide +kernel
theorem dX5_hashBoxes_41 : decode cX5_hashBoxes 41 = .ok (.goto (-26), 3) := by decide +kernel
theorem dX5_hashBoxes_44 : decode cX5_hashBoxes 44 = .ok (.iconst 0, 1) := by decide +kernel
theorem dX5_hashBoxes_45 : decode cX5_hashBoxes 45 = .ok (.istore 6, 2) := by decide +kernel
theorem dX5_hashBoxes_47 : decode cX5_hashBoxes 47 = .ok (.aload_n 0, 1) := by decide +kernel
theorem dX5_hashBoxes_48 : decode cX5_hashBoxes 48 = .ok (.getfield 7, 3) := by decide +kernel
theorem dX5_hashBoxes_51 : decode cX5_hashBoxes 51 = .ok (.sipush 500, 3) := by decide +kernel
theorem dX5_hashBoxes_54 : decode cX5_hashBoxes 54 = .ok (.iload 5, 2) := by decide +kernel
theorem dX5_hashBoxes_56 : decode cX5_hashBoxes 56 = .ok (.iadd, 1) := by decide +kernel
theorem dX5_hashBoxes_57 : decode cX5_hashBoxes 57 = .ok (.iaload, 1) := by decide +kernel
theorem dX5_hashBoxes_58 : decode cX5_hashBoxes 58 = .ok (.istore 7, 2) := by decide +kernel
theorem dX5_hashBoxes_60 : decode cX5_hashBoxes 60 = .ok (.iload 7, 2) := by decide +kernel
theorem dX5_hashBoxes_62 : decode cX5_hashBoxes 62 = .ok (.iconst (-1), 1) := by decide +kernel
theorem dX5_hashBoxes_63 : decode cX5_hashBoxes 63 = .ok (.if_icmp .eq 38, 3) := by decide +kernel
theorem dX5_hashBoxes_66 : decode cX5_hashBoxes 66 = .ok (.aload_n 0, 1) := by decide +kernel
theorem dX5_hashBoxes_67 : decode cX5_hashBoxes 67 = .ok (.getfield 22, 3) := by decide +kernel
theorem dX5_hashBoxes_70 : decode cX5_hashBoxes 70 = .ok (.iload 6, 2) := by decide +kernel
theorem dX5_hashBoxes_72 : decode cX5_hashBoxes 72 = .ok (.aload_n 0, 1) := by decide +kernel
theorem dX5_hashBoxes_73 : decode cX5_hashBoxes 73 = .ok (.getfield 7, 3) := by decide +kernel
theorem dX5_hashBoxes_76 : decode cX5_hashBoxes 76 = .ok (.iconst 0, 1) := by decide +kernel
theorem dX5_hashBoxes_77 : decode cX5_hashBoxes 77 = .ok (.iload 7, 2) := by decide +kernel
theorem dX5_hashBoxes_79 : decode cX5_hashBoxes 79 = .ok (.iadd, 1) := by decide +kernel
theorem dX5_hashBoxes_80 : decode cX5_hashBoxes 80 = .ok (.iaload, 1) := by decide +kernel
theorem dX5_hashBoxes_81 : decode cX5_hashBoxes 81 = .ok (.iastore, 1) := by decide +kernel
theorem dX5_hashBoxes_82 : decode cX5_hashBoxes 82 = .ok (.iinc 6 1, 3) := by decide +kernel
theorem dX5_hashBoxes_85 : decode cX5_hashBoxes 85 = .ok (.aload_n 0, 1) := by decide +kernel
theorem dX5_hashBoxes_86 : decode cX5_hashBoxes 86 = .ok (.getfield 7, 3) := by decide +kernel
theorem dX5_hashBoxes_89 : decode cX5_hashBoxes 89 = .ok (.sipush 250, 3) := by decide +kernel
theorem dX5_hashBoxes_92 : decode cX5_hashBoxes 92 = .ok (.iload 7, 2) := by decide +kernel
theorem dX5_hashBoxes_94 : decode cX5_hashBoxes 94 = .ok (.iadd, 1) := by decide +kernel
theorem dX5_hashBoxes_95 : decode cX5_hashBoxes 95 = .ok (.iaload, 1) := by decide +kernel
theorem dX5_hashBoxes_96 : decode cX5_hashBoxes 96 = .ok (.istore 7, 2) := by decide +kernel
theorem dX5_hashBoxes_98 : decode cX5_hashBoxes 98 = .ok (.goto (-38), 3) := by decide +kernel
theorem dX5_hashBoxes_101 : decode cX5_hashBoxes 101 = .ok (.iload 6, 2) := by decide +kernel
theorem dX5_hashBoxes_103 : decode cX5_hashBoxes 103 = .ok (.iconst 1, 1) := by decide +kernel
theorem dX5_hashBoxes_104 : decode cX5_hashBoxes 104 = .ok (.isub, 1) := by decide +kernel
theorem dX5_hashBoxes_105 : decode cX5_hashBoxes 105 = .ok (.istore 8, 2) := by decide +kernel
theorem dX5_hashBoxes_107 : decode cX5_hashBoxes 107 = .ok (.iload 8, 2) := by decide +kernel
theorem dX5_hashBoxes_109 : decode cX5_hashBoxes 109 = .ok (.ifCond .lt 24, 3) := by decide +kernel
theorem dX5_hashBoxes_112 : decode cX5_hashBoxes 112 = .ok (.ldc2_w 194, 3) := by decide +kernel
theorem dX5_hashBoxes_115 : decode cX5_hashBoxes 115 = .ok (.lload_n 3, 1) := by decide +kernel
theorem dX5_hashBoxes_116 : decode cX5_hashBoxes 116 = .ok (.lmul, 1) := by decide +kernel
theorem dX5_hashBoxes_117 : decode cX5_hashBoxes 117 = .ok (.aload_n 0, 1) := by decide +kernel
theorem dX5_hashBoxes_118 : decode cX5_hashBoxes 118 = .ok (.getfield 22, 3) := by decide +kernel
theorem dX5_hashBoxes_121 : decode cX5_hashBoxes 121 = .ok (.iload 8, 2) := by decide +kernel
theorem dX5_hashBoxes_123 : decode cX5_hashBoxes 123 = .ok (.iaload, 1) := by decide +kernel
theorem dX5_hashBoxes_124 : decode cX5_hashBoxes 124 = .ok (.i2l, 1) := by decide +kernel
theorem dX5_hashBoxes_125 : decode cX5_hashBoxes 125 = .ok (.ladd, 1) := by decide +kernel
theorem dX5_hashBoxes_126 : decode cX5_hashBoxes 126 = .ok (.lstore_n 3, 1) := by decide +kernel
theorem dX5_hashBoxes_127 : decode cX5_hashBoxes 127 = .ok (.iinc 8 (-1), 3) := by decide +kernel
theorem dX5_hashBoxes_130 : decode cX5_hashBoxes 130 = .ok (.goto (-23), 3) := by decide +kernel
theorem dX5_hashBoxes_133 : decode cX5_hashBoxes 133 = .ok (.iinc 5 1, 3) := by decide +kernel
theorem dX5_hashBoxes_136 : decode cX5_hashBoxes 136 = .ok (.goto (-131), 3) := by decide +kernel
theorem dX5_hashBoxes_139 : decode cX5_hashBoxes 139 = .ok (.lload_n 3, 1) := by decide +kernel
theorem dX5_hashBoxes_140 : decode cX5_hashBoxes 140 = .ok (.lreturn, 1) := by decide +kernel
theorem dX5_hashForme_0 : decode cX5_hashForme 0 = .ok (.lload_n 1, 1) := by decide +kernel
theorem dX5_hashForme_1 : decode cX5_hashForme 1 = .ok (.lstore 4, 2) := by decide +kernel
theorem dX5_hashForme_3 : decode cX5_hashForme 3 = .ok (.iconst 0, 1) := by decide +kernel
theorem dX5_hashForme_4 : decode cX5_hashForme 4 = .ok (.istore 6, 2) := by decide +kernel
theorem dX5_hashForme_6 : decode cX5_hashForme 6 = .ok (.iload 6, 2) := by decide +kernel
theorem dX5_hashForme_8 : decode cX5_hashForme 8 = .ok (.iconst 5, 1) := by decide +kernel
theorem dX5_hashForme_9 : decode cX5_hashForme 9 = .ok (.if_icmp .ge 26, 3) := by decide +kernel
theorem dX5_hashForme_12 : decode cX5_hashForme 12 = .ok (.ldc2_w 194, 3) := by decide +kernel
theorem dX5_hashForme_15 : decode cX5_hashForme 15 = .ok (.lload 4, 2) := by decide +kernel
theorem dX5_hashForme_17 : decode cX5_hashForme 17 = .ok (.lmul, 1) := by decide +kernel
theorem dX5_hashForme_18 : decode cX5_hashForme 18 = .ok (.aload_n 0, 1) := by decide +kernel
theorem dX5_hashForme_19 : decode cX5_hashForme 19 = .ok (.iload_n 3, 1) := by decide +kernel
theorem dX5_hashForme_20 : decode cX5_hashForme 20 = .ok (.iload 6, 2) := by decide +kernel
theorem dX5_hashForme_22 : decode cX5_hashForme 22 = .ok (.invokevirtual 172, 3) := by decide +kernel
theorem dX5_hashForme_25 : decode cX5_hashForme 25 = .ok (.i2l, 1) := by decide +kernel
theorem dX5_hashForme_26 : decode cX5_hashForme 26 = .ok (.ladd, 1) := by decide +kernel
theorem dX5_hashForme_27 : decode cX5_hashForme 27 = .ok (.lstore 4, 2) := by decide +kernel
theorem dX5_hashForme_29 : decode cX5_hashForme 29 = .ok (.iinc 6 1, 3) := by decide +kernel
theorem dX5_hashForme_32 : decode cX5_hashForme 32 = .ok (.goto (-26), 3) := by decide +kernel
theorem dX5_hashForme_35 : decode cX5_hashForme 35 = .ok (.iconst 0, 1) := by decide +kernel
theorem dX5_hashForme_36 : decode cX5_hashForme 36 = .ok (.istore 6, 2) := by decide +kernel
theorem dX5_hashForme_38 : decode cX5_hashForme 38 = .ok (.iload 6, 2) := by decide +kernel
theorem dX5_hashForme_40 : decode cX5_hashForme 40 = .ok (.aload_n 0, 1) := by decide +kernel
theorem dX5_hashForme_41 : decode cX5_hashForme 41 = .ok (.getfield 7, 3) := by decide +kernel
theorem dX5_hashForme_44 : decode cX5_hashForme 44 = .ok (.sipush 1262, 3) := by decide +kernel
theorem dX5_hashForme_47 : decode cX5_hashForme 47 = .ok (.iload_n 3, 1) := by decide +kernel
theorem dX5_hashForme_48 : decode cX5_hashForme 48 = .ok (.iadd, 1) := by decide +kernel
theorem dX5_hashForme_49 : decode cX5_hashForme 49 = .ok (.iaload, 1) := by decide +kernel
theorem dX5_hashForme_50 : decode cX5_hashForme 50 = .ok (.if_icmp .ge 83, 3) := by decide +kernel
theorem dX5_hashForme_53 : decode cX5_hashForme 53 = .ok (.ldc2_w 194, 3) := by decide +kernel
theorem dX5_hashForme_56 : decode cX5_hashForme 56 = .ok (.lload 4, 2) := by decide +kernel
theorem dX5_hashForme_58 : decode cX5_hashForme 58 = .ok (.lmul, 1) := by decide +kernel
theorem dX5_hashForme_59 : decode cX5_hashForme 59 = .ok (.aload_n 0, 1) := by decide +kernel
theorem dX5_hashForme_60 : decode cX5_hashForme 60 = .ok (.iload_n 3, 1) := by decide +kernel
theorem dX5_hashForme_61 : decode cX5_hashForme 61 = .ok (.iload 6, 2) := by decide +kernel
theorem dX5_hashForme_63 : decode cX5_hashForme 63 = .ok (.invokevirtual 61, 3) := by decide +kernel
theorem dX5_hashForme_66 : decode cX5_hashForme 66 = .ok (.i2l, 1) := by decide +kernel
theorem dX5_hashForme_67 : decode cX5_hashForme 67 = .ok (.ladd, 1) := by decide +kernel
theorem dX5_hashForme_68 : decode cX5_hashForme 68 = .ok (.lstore 4, 2) := by decide +kernel
theorem dX5_hashForme_70 : decode cX5_hashForme 70 = .ok (.iconst 0, 1) := by decide +kernel
theorem dX5_hashForme_71 : decode cX5_hashForme 71 = .ok (.istore 7, 2) := by decide +kernel
theorem dX5_hashForme_73 : decode cX5_hashForme 73 = .ok (.iload 7, 2) := by decide +kernel
theorem dX5_hashForme_75 : decode cX5_hashForme 75 = .ok (.aload_n 0, 1) := by decide +kernel
theorem dX5_hashForme_76 : decode cX5_hashForme 76 = .ok (.iload_n 3, 1) := by decide +kernel
theorem dX5_hashForme_77 : decode cX5_hashForme 77 = .ok (.iload 6, 2) := by decide +kernel
theorem dX5_hashForme_79 : decode cX5_hashForme 79 = .ok (.invokevirtual 61, 3) := by decide +kernel
theorem dX5_hashForme_82 : decode cX5_hashForme 82 = .ok (.if_icmp .ge 45, 3) := by decide +kernel
theorem dX5_hashForme_85 : decode cX5_hashForme 85 = .ok (.iconst 0, 1) := by decide +kernel
theorem dX5_hashForme_86 : decode cX5_hashForme 86 = .ok (.istore 8, 2) := by decide +kernel
theorem dX5_hashForme_88 : decode cX5_hashForme 88 = .ok (.iload 8, 2) := by decide +kernel
theorem dX5_hashForme_90 : decode cX5_hashForme 90 = .ok (.iconst 4, 1) := by decide +kernel
theorem dX5_hashForme_91 : decode cX5_hashForme 91 = .ok (.if_icmp .ge 30, 3) := by decide +kernel
theorem dX5_hashForme_94 : decode cX5_hashForme 94 = .ok (.ldc2_w 194, 3) := by decide +kernel
theorem dX5_hashForme_97 : decode cX5_hashForme 97 = .ok (.lload 4, 2) := by decide +kernel
theorem dX5_hashForme_99 : decode cX5_hashForme 99 = .ok (.lmul, 1) := by decide +kernel
theorem dX5_hashForme_100 : decode cX5_hashForme 100 = .ok (.aload_n 0, 1) := by decide +kernel
theorem dX5_hashForme_101 : decode cX5_hashForme 101 = .ok (.iload_n 3, 1) := by decide +kernel
theorem dX5_hashForme_102 : decode cX5_hashForme 102 = .ok (.iload 6, 2) := by decide +kernel
theorem dX5_hashForme_104 : decode cX5_hashForme 104 = .ok (.iload 7, 2) := by decide +kernel
theorem dX5_hashForme_106 : decode cX5_hashForme 106 = .ok (.iload 8, 2) := by decide +kernel
theorem dX5_hashForme_108 : decode cX5_hashForme 108 = .ok (.invokevirtual 181, 3) := by decide +kernel
theorem dX5_hashForme_111 : decode cX5_hashForme 111 = .ok (.i2l, 1) := by decide +kernel
theorem dX5_hashForme_112 : decode cX5_hashForme 112 = .ok (.ladd, 1) := by decide +kernel
theorem dX5_hashForme_113 : decode cX5_hashForme 113 = .ok (.lstore 4, 2) := by decide +kernel
theorem dX5_hashForme_115 : decode cX5_hashForme 115 = .ok (.iinc 8 1, 3) := by decide +kernel
theorem dX5_hashForme_118 : decode cX5_hashForme 118 = .ok (.goto (-30), 3) := by decide +kernel
theorem dX5_hashForme_121 : decode cX5_hashForme 121 = .ok (.iinc 7 1, 3) := by decide +kernel
theorem dX5_hashForme_124 : decode cX5_hashForme 124 = .ok (.goto (-51), 3) := by decide +kernel
theorem dX5_hashForme_127 : decode cX5_hashForme 127 = .ok (.iinc 6 1, 3) := by decide +kernel
theorem dX5_hashForme_130 : decode cX5_hashForme 130 = .ok (.goto (-92), 3) := by decide +kernel
theorem dX5_hashForme_133 : decode cX5_hashForme 133 = .ok (.lload 4, 2) := by decide +kernel
theorem dX5_hashForme_135 : decode cX5_hashForme 135 = .ok (.lreturn, 1) := by decide +kernel
theorem dX5_digest_0 : decode cX5_digest 0 = .ok (.aload_n 0, 1) := by decide +kernel
theorem dX5_digest_1 : decode cX5_digest 1 = .ok (.iconst 0, 1) := by decide +kernel
theorem dX5_digest_2 : decode cX5_digest 2 = .ok (.putfield 31, 3) := by decide +kernel
theorem dX5_digest_5 : decode cX5_digest 5 = .ok (.ldc2_w 196, 3) := by decide +kernel
theorem dX5_digest_8 : decode cX5_digest 8 = .ok (.aload_n 0, 1) := by decide +kernel
theorem dX5_digest_9 : decode cX5_digest 9 = .ok (.getfield 103, 3) := by decide +kernel
theorem dX5_digest_12 : decode cX5_digest 12 = .ok (.i2l, 1) := by decide +kernel
theorem dX5_digest_13 : decode cX5_digest 13 = .ok (.ladd, 1) := by decide +kernel
theorem dX5_digest_14 : decode cX5_digest 14 = .ok (.lstore_n 1, 1) := by decide +kernel
theorem dX5_digest_15 : decode cX5_digest 15 = .ok (.iconst 0, 1) := by decide +kernel
theorem dX5_digest_16 : decode cX5_digest 16 = .ok (.istore_n 3, 1) := by decide +kernel
theorem dX5_digest_17 : decode cX5_digest 17 = .ok (.iload_n 3, 1) := by decide +kernel
theorem dX5_digest_18 : decode cX5_digest 18 = .ok (.aload_n 0, 1) := by decide +kernel
theorem dX5_digest_19 : decode cX5_digest 19 = .ok (.getfield 103, 3) := by decide +kernel
theorem dX5_digest_22 : decode cX5_digest 22 = .ok (.if_icmp .ge 23, 3) := by decide +kernel
theorem dX5_digest_25 : decode cX5_digest 25 = .ok (.ldc2_w 194, 3) := by decide +kernel
theorem dX5_digest_28 : decode cX5_digest 28 = .ok (.lload_n 1, 1) := by decide +kernel
theorem dX5_digest_29 : decode cX5_digest 29 = .ok (.lmul, 1) := by decide +kernel
theorem dX5_digest_30 : decode cX5_digest 30 = .ok (.aload_n 0, 1) := by decide +kernel
theorem dX5_digest_31 : decode cX5_digest 31 = .ok (.getfield 19, 3) := by decide +kernel
theorem dX5_digest_34 : decode cX5_digest 34 = .ok (.iload_n 3, 1) := by decide +kernel
theorem dX5_digest_35 : decode cX5_digest 35 = .ok (.iaload, 1) := by decide +kernel
theorem dX5_digest_36 : decode cX5_digest 36 = .ok (.i2l, 1) := by decide +kernel
theorem dX5_digest_37 : decode cX5_digest 37 = .ok (.ladd, 1) := by decide +kernel
theorem dX5_digest_38 : decode cX5_digest 38 = .ok (.lstore_n 1, 1) := by decide +kernel
theorem dX5_digest_39 : decode cX5_digest 39 = .ok (.iinc 3 1, 3) := by decide +kernel
theorem dX5_digest_42 : decode cX5_digest 42 = .ok (.goto (-25), 3) := by decide +kernel
theorem dX5_digest_45 : decode cX5_digest 45 = .ok (.iconst 0, 1) := by decide +kernel
theorem dX5_digest_46 : decode cX5_digest 46 = .ok (.istore_n 3, 1) := by decide +kernel
theorem dX5_digest_47 : decode cX5_digest 47 = .ok (.iload_n 3, 1) := by decide +kernel
theorem dX5_digest_48 : decode cX5_digest 48 = .ok (.bipush 12, 2) := by decide +kernel
theorem dX5_digest_50 : decode cX5_digest 50 = .ok (.if_icmp .ge 22, 3) := by decide +kernel
theorem dX5_digest_53 : decode cX5_digest 53 = .ok (.ldc2_w 194, 3) := by decide +kernel
theorem dX5_digest_56 : decode cX5_digest 56 = .ok (.lload_n 1, 1) := by decide +kernel
theorem dX5_digest_57 : decode cX5_digest 57 = .ok (.lmul, 1) := by decide +kernel
theorem dX5_digest_58 : decode cX5_digest 58 = .ok (.aload_n 0, 1) := by decide +kernel
theorem dX5_digest_59 : decode cX5_digest 59 = .ok (.iload_n 3, 1) := by decide +kernel
theorem dX5_digest_60 : decode cX5_digest 60 = .ok (.invokevirtual 138, 3) := by decide +kernel
theorem dX5_digest_63 : decode cX5_digest 63 = .ok (.i2l, 1) := by decide +kernel
theorem dX5_digest_64 : decode cX5_digest 64 = .ok (.ladd, 1) := by decide +kernel
theorem dX5_digest_65 : decode cX5_digest 65 = .ok (.lstore_n 1, 1) := by decide +kernel
theorem dX5_digest_66 : decode cX5_digest 66 = .ok (.iinc 3 1, 3) := by decide +kernel
theorem dX5_digest_69 : decode cX5_digest 69 = .ok (.goto (-22), 3) := by decide +kernel
theorem dX5_digest_72 : decode cX5_digest 72 = .ok (.aload_n 0, 1) := by decide +kernel
theorem dX5_digest_73 : decode cX5_digest 73 = .ok (.lload_n 1, 1) := by decide +kernel
theorem dX5_digest_74 : decode cX5_digest 74 = .ok (.invokevirtual 198, 3) := by decide +kernel
theorem dX5_digest_77 : decode cX5_digest 77 = .ok (.lstore_n 1, 1) := by decide +kernel
theorem dX5_digest_78 : decode cX5_digest 78 = .ok (.iconst 0, 1) := by decide +kernel
theorem dX5_digest_79 : decode cX5_digest 79 = .ok (.istore_n 3, 1) := by decide +kernel
theorem dX5_digest_80 : decode cX5_digest 80 = .ok (.iload_n 3, 1) := by decide +kernel
theorem dX5_digest_81 : decode cX5_digest 81 = .ok (.iconst 3, 1) := by decide +kernel
theorem dX5_digest_82 : decode cX5_digest 82 = .ok (.if_icmp .ge 16, 3) := by decide +kernel
theorem dX5_digest_85 : decode cX5_digest 85 = .ok (.aload_n 0, 1) := by decide +kernel
theorem dX5_digest_86 : decode cX5_digest 86 = .ok (.lload_n 1, 1) := by decide +kernel
theorem dX5_digest_87 : decode cX5_digest 87 = .ok (.iload_n 3, 1) := by decide +kernel
theorem dX5_digest_88 : decode cX5_digest 88 = .ok (.invokevirtual 202, 3) := by decide +kernel
theorem dX5_digest_91 : decode cX5_digest 91 = .ok (.lstore_n 1, 1) := by decide +kernel
theorem dX5_digest_92 : decode cX5_digest 92 = .ok (.iinc 3 1, 3) := by decide +kernel
theorem dX5_digest_95 : decode cX5_digest 95 = .ok (.goto (-15), 3) := by decide +kernel
theorem dX5_digest_98 : decode cX5_digest 98 = .ok (.iconst 0, 1) := by decide +kernel
theorem dX5_digest_99 : decode cX5_digest 99 = .ok (.istore_n 3, 1) := by decide +kernel
theorem dX5_digest_100 : decode cX5_digest 100 = .ok (.iload_n 3, 1) := by decide +kernel
theorem dX5_digest_101 : decode cX5_digest 101 = .ok (.aload_n 0, 1) := by decide +kernel
theorem dX5_digest_102 : decode cX5_digest 102 = .ok (.getfield 7, 3) := by decide +kernel
theorem dX5_digest_105 : decode cX5_digest 105 = .ok (.sipush 1265, 3) := by decide +kernel
theorem dX5_digest_108 : decode cX5_digest 108 = .ok (.iaload, 1) := by decide +kernel
theorem dX5_digest_109 : decode cX5_digest 109 = .ok (.if_icmp .ge 27, 3) := by decide +kernel
theorem dX5_digest_112 : decode cX5_digest 112 = .ok (.ldc2_w 194, 3) := by decide +kernel
theorem dX5_digest_115 : decode cX5_digest 115 = .ok (.lload_n 1, 1) := by decide +kernel
theorem dX5_digest_116 : decode cX5_digest 116 = .ok (.lmul, 1) := by decide +kernel
theorem dX5_digest_117 : decode cX5_digest 117 = .ok (.aload_n 0, 1) := by decide +kernel
theorem dX5_digest_118 : decode cX5_digest 118 = .ok (.getfield 7, 3) := by decide +kernel
theorem dX5_digest_121 : decode cX5_digest 121 = .ok (.sipush 1266, 3) := by decide +kernel
theorem dX5_digest_124 : decode cX5_digest 124 = .ok (.iload_n 3, 1) := by decide +kernel
theorem dX5_digest_125 : decode cX5_digest 125 = .ok (.iadd, 1) := by decide +kernel
theorem dX5_digest_126 : decode cX5_digest 126 = .ok (.iaload, 1) := by decide +kernel
theorem dX5_digest_127 : decode cX5_digest 127 = .ok (.i2l, 1) := by decide +kernel
theorem dX5_digest_128 : decode cX5_digest 128 = .ok (.ladd, 1) := by decide +kernel
theorem dX5_digest_129 : decode cX5_digest 129 = .ok (.lstore_n 1, 1) := by decide +kernel
theorem dX5_digest_130 : decode cX5_digest 130 = .ok (.iinc 3 1, 3) := by decide +kernel
theorem dX5_digest_133 : decode cX5_digest 133 = .ok (.goto (-33), 3) := by decide +kernel
theorem dX5_digest_136 : decode cX5_digest 136 = .ok (.ldc2_w 194, 3) := by decide +kernel
theorem dX5_digest_139 : decode cX5_digest 139 = .ok (.lload_n 1, 1) := by decide +kernel
theorem dX5_digest_140 : decode cX5_digest 140 = .ok (.lmul, 1) := by decide +kernel
theorem dX5_digest_141 : decode cX5_digest 141 = .ok (.aload_n 0, 1) := by decide +kernel
theorem dX5_digest_142 : decode cX5_digest 142 = .ok (.getfield 35, 3) := by decide +kernel
theorem dX5_digest_145 : decode cX5_digest 145 = .ok (.i2l, 1) := by decide +kernel
theorem dX5_digest_146 : decode cX5_digest 146 = .ok (.ladd, 1) := by decide +kernel
theorem dX5_digest_147 : decode cX5_digest 147 = .ok (.lreturn, 1) := by decide +kernel
theorem dJ9_floorMod_7cf53_0 : decode cJ9_floorMod_7cf53 0 = .ok (.iload_n 0, 1) := by decide +kernel
theorem dJ9_floorMod_7cf53_1 : decode cJ9_floorMod_7cf53 1 = .ok (.iload_n 1, 1) := by decide +kernel
theorem dJ9_floorMod_7cf53_2 : decode cJ9_floorMod_7cf53 2 = .ok (.irem, 1) := by decide +kernel
theorem dJ9_floorMod_7cf53_3 : decode cJ9_floorMod_7cf53 3 = .ok (.istore_n 2, 1) := by decide +kernel
theorem dJ9_floorMod_7cf53_4 : decode cJ9_floorMod_7cf53 4 = .ok (.iload_n 0, 1) := by decide +kernel
theorem dJ9_floorMod_7cf53_5 : decode cJ9_floorMod_7cf53 5 = .ok (.iload_n 1, 1) := by decide +kernel
theorem dJ9_floorMod_7cf53_6 : decode cJ9_floorMod_7cf53 6 = .ok (.ixor, 1) := by decide +kernel
theorem dJ9_floorMod_7cf53_7 : decode cJ9_floorMod_7cf53 7 = .ok (.ifCond .ge 11, 3) := by decide +kernel
theorem dJ9_floorMod_7cf53_10 : decode cJ9_floorMod_7cf53 10 = .ok (.iload_n 2, 1) := by decide +kernel
theorem dJ9_floorMod_7cf53_11 : decode cJ9_floorMod_7cf53 11 = .ok (.ifCond .eq 7, 3) := by decide +kernel
theorem dJ9_floorMod_7cf53_14 : decode cJ9_floorMod_7cf53 14 = .ok (.iload_n 2, 1) := by decide +kernel
theorem dJ9_floorMod_7cf53_15 : decode cJ9_floorMod_7cf53 15 = .ok (.iload_n 1, 1) := by decide +kernel
theorem dJ9_floorMod_7cf53_16 : decode cJ9_floorMod_7cf53 16 = .ok (.iadd, 1) := by decide +kernel
theorem dJ9_floorMod_7cf53_17 : decode cJ9_floorMod_7cf53 17 = .ok (.ireturn, 1) := by decide +kernel
theorem dJ9_floorMod_7cf53_18 : decode cJ9_floorMod_7cf53 18 = .ok (.iload_n 2, 1) := by decide +kernel
theorem dJ9_floorMod_7cf53_19 : decode cJ9_floorMod_7cf53 19 = .ok (.ireturn, 1) := by decide +kernel
theorem dJ9_max_7cf53_0 : decode cJ9_max_7cf53 0 = .ok (.iload_n 0, 1) := by decide +kernel
theorem dJ9_max_7cf53_1 : decode cJ9_max_7cf53 1 = .ok (.iload_n 1, 1) := by decide +kernel
theorem dJ9_max_7cf53_2 : decode cJ9_max_7cf53 2 = .ok (.if_icmp .lt 7, 3) := by decide +kernel
theorem dJ9_max_7cf53_5 : decode cJ9_max_7cf53 5 = .ok (.iload_n 0, 1) := by decide +kernel
theorem dJ9_max_7cf53_6 : decode cJ9_max_7cf53 6 = .ok (.goto 4, 3) := by decide +kernel
theorem dJ9_max_7cf53_9 : decode cJ9_max_7cf53 9 = .ok (.iload_n 1, 1) := by decide +kernel
theorem dJ9_max_7cf53_10 : decode cJ9_max_7cf53 10 = .ok (.ireturn, 1) := by decide +kernel
theorem dJ9_min_7cf53_0 : decode cJ9_min_7cf53 0 = .ok (.iload_n 0, 1) := by decide +kernel
theorem dJ9_min_7cf53_1 : decode cJ9_min_7cf53 1 = .ok (.iload_n 1, 1) := by decide +kernel
theorem dJ9_min_7cf53_2 : decode cJ9_min_7cf53 2 = .ok (.if_icmp .gt 7, 3) := by decide +kernel
theorem dJ9_min_7cf53_5 : decode cJ9_min_7cf53 5 = .ok (.iload_n 0, 1) := by decide +kernel
theorem dJ9_min_7cf53_6 : decode cJ9_min_7cf53 6 = .ok (.goto 4, 3) := by decide +kernel
theorem dJ9_min_7cf53_9 : decode cJ9_min_7cf53 9 = .ok (.iload_n 1, 1) := by decide +kernel
theorem dJ9_min_7cf53_10 : decode cJ9_min_7cf53 10 = .ok (.ireturn, 1) := by decide +kernel
theorem dL_buy_0 : decode cL_buy 0 = .ok (.aload_n 3, 1) := by decide +kernel
theorem dL_buy_1 : decode cL_buy 1 = .ok (.iconst 0, 1) := by decide +kernel
theorem dL_buy_2 : decode cL_buy 2 = .ok (.aload_n 0, 1) := by decide +kernel
theorem dL_buy_3 : decode cL_buy 3 = .ok (.iload_n 1, 1) := by decide +kernel
theorem dL_buy_4 : decode cL_buy 4 = .ok (.iload_n 2, 1) := by decide +kernel
theorem dL_buy_5 : decode cL_buy 5 = .ok (.invokevirtual 7, 3) := by decide +kernel
theorem dL_buy_8 : decode cL_buy 8 = .ok (.i2l, 1) := by decide +kernel
theorem dL_buy_9 : decode cL_buy 9 = .ok (.lastore, 1) := by decide +kernel
theorem dL_buy_10 : decode cL_buy 10 = .ok (.goto 15, 3) := by decide +kernel
theorem dL_buy_13 : decode cL_buy 13 = .ok (.astore 4, 2) := by decide +kernel
theorem dL_buy_15 : decode cL_buy 15 = .ok (.iconst 1, 1) := by decide +kernel
theorem dL_buy_16 : decode cL_buy 16 = .ok (.ireturn, 1) := by decide +kernel
theorem dL_buy_17 : decode cL_buy 17 = .ok (.astore 4, 2) := by decide +kernel
theorem dL_buy_19 : decode cL_buy 19 = .ok (.iconst 2, 1) := by decide +kernel
theorem dL_buy_20 : decode cL_buy 20 = .ok (.ireturn, 1) := by decide +kernel
theorem dL_buy_21 : decode cL_buy 21 = .ok (.astore 4, 2) := by decide +kernel
theorem dL_buy_23 : decode cL_buy 23 = .ok (.iconst 3, 1) := by decide +kernel
theorem dL_buy_24 : decode cL_buy 24 = .ok (.ireturn, 1) := by decide +kernel
theorem dL_buy_25 : decode cL_buy 25 = .ok (.iconst 0, 1) := by decide +kernel
theorem dL_buy_26 : decode cL_buy 26 = .ok (.ireturn, 1) := by decide +kernel
theorem dL_buyLacking_0 : decode cL_buyLacking 0 = .ok (.aload_n 1, 1) := by decide +kernel
theorem dL_buyLacking_1 : decode cL_buyLacking 1 = .ok (.iconst 0, 1) := by decide +kernel
theorem dL_buyLacking_2 : decode cL_buyLacking 2 = .ok (.aload_n 0, 1) := by decide +kernel
theorem dL_buyLacking_3 : decode cL_buyLacking 3 = .ok (.invokevirtual 19, 3) := by decide +kernel
theorem dL_buyLacking_6 : decode cL_buyLacking 6 = .ok (.i2l, 1) := by decide +kernel
theorem dL_buyLacking_7 : decode cL_buyLacking 7 = .ok (.lastore, 1) := by decide +kernel
theorem dL_buyLacking_8 : decode cL_buyLacking 8 = .ok (.goto 6, 3) := by decide +kernel
theorem dL_buyLacking_11 : decode cL_buyLacking 11 = .ok (.astore_n 2, 1) := by decide +kernel
theorem dL_buyLacking_12 : decode cL_buyLacking 12 = .ok (.iconst 1, 1) := by decide +kernel
theorem dL_buyLacking_13 : decode cL_buyLacking 13 = .ok (.ireturn, 1) := by decide +kernel
theorem dL_buyLacking_14 : decode cL_buyLacking 14 = .ok (.iconst 0, 1) := by decide +kernel
theorem dL_buyLacking_15 : decode cL_buyLacking 15 = .ok (.ireturn, 1) := by decide +kernel
theorem dL_spill_0 : decode cL_spill 0 = .ok (.aload 4, 2) := by decide +kernel
theorem dL_spill_2 : decode cL_spill 2 = .ok (.iconst 0, 1) := by decide +kernel
theorem dL_spill_3 : decode cL_spill 3 = .ok (.aload_n 0, 1) := by decide +kernel
theorem dL_spill_4 : decode cL_spill 4 = .ok (.iload_n 1, 1) := by decide +kernel
theorem dL_spill_5 : decode cL_spill 5 = .ok (.iload_n 2, 1) := by decide +kernel
theorem dL_spill_6 : decode cL_spill 6 = .ok (.iload_n 3, 1) := by decide +kernel
theorem dL_spill_7 : decode cL_spill 7 = .ok (.invokevirtual 23, 3) := by decide +kernel
theorem dL_spill_10 : decode cL_spill 10 = .ok (.i2l, 1) := by decide +kernel
theorem dL_spill_11 : decode cL_spill 11 = .ok (.lastore, 1) := by decide +kernel
theorem dL_spill_12 : decode cL_spill 12 = .ok (.goto 15, 3) := by decide +kernel
theorem dL_spill_15 : decode cL_spill 15 = .ok (.astore 5, 2) := by decide +kernel
theorem dL_spill_17 : decode cL_spill 17 = .ok (.iconst 1, 1) := by decide +kernel
theorem dL_spill_18 : decode cL_spill 18 = .ok (.ireturn, 1) := by decide +kernel
theorem dL_spill_19 : decode cL_spill 19 = .ok (.astore 5, 2) := by decide +kernel
theorem dL_spill_21 : decode cL_spill 21 = .ok (.iconst 2, 1) := by decide +kernel
theorem dL_spill_22 : decode cL_spill 22 = .ok (.ireturn, 1) := by decide +kernel
theorem dL_spill_23 : decode cL_spill 23 = .ok (.astore 5, 2) := by decide +kernel
theorem dL_spill_25 : decode cL_spill 25 = .ok (.iconst 3, 1) := by decide +kernel
theorem dL_spill_26 : decode cL_spill 26 = .ok (.ireturn, 1) := by decide +kernel
theorem dL_spill_27 : decode cL_spill 27 = .ok (.iconst 0, 1) := by decide +kernel
theorem dL_spill_28 : decode cL_spill 28 = .ok (.ireturn, 1) := by decide +kernel
theorem dL_clean_0 : decode cL_clean 0 = .ok (.aload_n 2, 1) := by decide +kernel
theorem dL_clean_1 : decode cL_clean 1 = .ok (.iconst 0, 1) := by decide +kernel
theorem dL_clean_2 : decode cL_clean 2 = .ok (.aload_n 0, 1) := by decide +kernel
theorem dL_clean_3 : decode cL_clean 3 = .ok (.iload_n 1, 1) := by decide +kernel
theorem dL_clean_4 : decode cL_clean 4 = .ok (.invokevirtual 27, 3) := by decide +kernel
theorem dL_clean_7 : decode cL_clean 7 = .ok (.i2l, 1) := by decide +kernel
theorem dL_clean_8 : decode cL_clean 8 = .ok (.lastore, 1) := by decide +kernel
theorem dL_clean_9 : decode cL_clean 9 = .ok (.goto 6, 3) := by decide +kernel
theorem dL_clean_12 : decode cL_clean 12 = .ok (.astore_n 3, 1) := by decide +kernel
theorem dL_clean_13 : decode cL_clean 13 = .ok (.iconst 1, 1) := by decide +kernel
theorem dL_clean_14 : decode cL_clean 14 = .ok (.ireturn, 1) := by decide +kernel
theorem dL_clean_15 : decode cL_clean 15 = .ok (.iconst 0, 1) := by decide +kernel
theorem dL_clean_16 : decode cL_clean 16 = .ok (.ireturn, 1) := by decide +kernel
theorem dL_set_0 : decode cL_set 0 = .ok (.aload_n 3, 1) := by decide +kernel
theorem dL_set_1 : decode cL_set 1 = .ok (.iconst 0, 1) := by decide +kernel
theorem dL_set_2 : decode cL_set 2 = .ok (.aload_n 0, 1) := by decide +kernel
theorem dL_set_3 : decode cL_set 3 = .ok (.iload_n 1, 1) := by decide +kernel
theorem dL_set_4 : decode cL_set 4 = .ok (.iload_n 2, 1) := by decide +kernel
theorem dL_set_5 : decode cL_set 5 = .ok (.invokevirtual 31, 3) := by decide +kernel
theorem dL_set_8 : decode cL_set 8 = .ok (.i2l, 1) := by decide +kernel
theorem dL_set_9 : decode cL_set 9 = .ok (.lastore, 1) := by decide +kernel
theorem dL_set_10 : decode cL_set 10 = .ok (.goto 7, 3) := by decide +kernel
theorem dL_set_13 : decode cL_set 13 = .ok (.astore 4, 2) := by decide +kernel
theorem dL_set_15 : decode cL_set 15 = .ok (.iconst 1, 1) := by decide +kernel
theorem dL_set_16 : decode cL_set 16 = .ok (.ireturn, 1) := by decide +kernel
theorem dL_set_17 : decode cL_set 17 = .ok (.iconst 0, 1) := by decide +kernel
theorem dL_set_18 : decode cL_set 18 = .ok (.ireturn, 1) := by decide +kernel
theorem dL_letter_0 : decode cL_letter 0 = .ok (.aload_n 3, 1) := by decide +kernel
theorem dL_letter_1 : decode cL_letter 1 = .ok (.iconst 0, 1) := by decide +kernel
theorem dL_letter_2 : decode cL_letter 2 = .ok (.aload_n 0, 1) := by decide +kernel
theorem dL_letter_3 : decode cL_letter 3 = .ok (.iload_n 1, 1) := by decide +kernel
theorem dL_letter_4 : decode cL_letter 4 = .ok (.iload_n 2, 1) := by decide +kernel
theorem dL_letter_5 : decode cL_letter 5 = .ok (.invokevirtual 34, 3) := by decide +kernel
theorem dL_letter_8 : decode cL_letter 8 = .ok (.i2l, 1) := by decide +kernel
theorem dL_letter_9 : decode cL_letter 9 = .ok (.lastore, 1) := by decide +kernel
theorem dL_letter_10 : decode cL_letter 10 = .ok (.goto 11, 3) := by decide +kernel
theorem dL_letter_13 : decode cL_letter 13 = .ok (.astore 4, 2) := by decide +kernel
theorem dL_letter_15 : decode cL_letter 15 = .ok (.iconst 1, 1) := by decide +kernel
theorem dL_letter_16 : decode cL_letter 16 = .ok (.ireturn, 1) := by decide +kernel
theorem dL_letter_17 : decode cL_letter 17 = .ok (.astore 4, 2) := by decide +kernel
theorem dL_letter_19 : decode cL_letter 19 = .ok (.iconst 2, 1) := by decide +kernel
theorem dL_letter_20 : decode cL_letter 20 = .ok (.ireturn, 1) := by decide +kernel
theorem dL_letter_21 : decode cL_letter 21 = .ok (.iconst 0, 1) := by decide +kernel
theorem dL_letter_22 : decode cL_letter 22 = .ok (.ireturn, 1) := by decide +kernel
theorem dL_inBox_0 : decode cL_inBox 0 = .ok (.aload_n 3, 1) := by decide +kernel
theorem dL_inBox_1 : decode cL_inBox 1 = .ok (.iconst 0, 1) := by decide +kernel
theorem dL_inBox_2 : decode cL_inBox 2 = .ok (.aload_n 0, 1) := by decide +kernel
theorem dL_inBox_3 : decode cL_inBox 3 = .ok (.iload_n 1, 1) := by decide +kernel
theorem dL_inBox_4 : decode cL_inBox 4 = .ok (.iload_n 2, 1) := by decide +kernel
theorem dL_inBox_5 : decode cL_inBox 5 = .ok (.invokevirtual 37, 3) := by decide +kernel
theorem dL_inBox_8 : decode cL_inBox 8 = .ok (.i2l, 1) := by decide +kernel
theorem dL_inBox_9 : decode cL_inBox 9 = .ok (.lastore, 1) := by decide +kernel
theorem dL_inBox_10 : decode cL_inBox 10 = .ok (.goto 7, 3) := by decide +kernel
theorem dL_inBox_13 : decode cL_inBox 13 = .ok (.astore 4, 2) := by decide +kernel
theorem dL_inBox_15 : decode cL_inBox 15 = .ok (.iconst 1, 1) := by decide +kernel
theorem dL_inBox_16 : decode cL_inBox 16 = .ok (.ireturn, 1) := by decide +kernel
theorem dL_inBox_17 : decode cL_inBox 17 = .ok (.iconst 0, 1) := by decide +kernel
theorem dL_inBox_18 : decode cL_inBox 18 = .ok (.ireturn, 1) := by decide +kernel
theorem dL_value_0 : decode cL_value 0 = .ok (.aload_n 2, 1) := by decide +kernel
theorem dL_value_1 : decode cL_value 1 = .ok (.iconst 0, 1) := by decide +kernel
theorem dL_value_2 : decode cL_value 2 = .ok (.aload_n 0, 1) := by decide +kernel
theorem dL_value_3 : decode cL_value 3 = .ok (.iload_n 1, 1) := by decide +kernel
theorem dL_value_4 : decode cL_value 4 = .ok (.invokevirtual 40, 3) := by decide +kernel
theorem dL_value_7 : decode cL_value 7 = .ok (.i2l, 1) := by decide +kernel
theorem dL_value_8 : decode cL_value 8 = .ok (.lastore, 1) := by decide +kernel
theorem dL_value_9 : decode cL_value 9 = .ok (.goto 6, 3) := by decide +kernel
theorem dL_value_12 : decode cL_value 12 = .ok (.astore_n 3, 1) := by decide +kernel
theorem dL_value_13 : decode cL_value 13 = .ok (.iconst 1, 1) := by decide +kernel
theorem dL_value_14 : decode cL_value 14 = .ok (.ireturn, 1) := by decide +kernel
theorem dL_value_15 : decode cL_value 15 = .ok (.iconst 0, 1) := by decide +kernel
theorem dL_value_16 : decode cL_value 16 = .ok (.ireturn, 1) := by decide +kernel
theorem dL_setLine_0 : decode cL_setLine 0 = .ok (.aload_n 2, 1) := by decide +kernel
theorem dL_setLine_1 : decode cL_setLine 1 = .ok (.iconst 0, 1) := by decide +kernel
theorem dL_setLine_2 : decode cL_setLine 2 = .ok (.aload_n 0, 1) := by decide +kernel
theorem dL_setLine_3 : decode cL_setLine 3 = .ok (.iload_n 1, 1) := by decide +kernel
theorem dL_setLine_4 : decode cL_setLine 4 = .ok (.invokevirtual 43, 3) := by decide +kernel
theorem dL_setLine_7 : decode cL_setLine 7 = .ok (.i2l, 1) := by decide +kernel
theorem dL_setLine_8 : decode cL_setLine 8 = .ok (.lastore, 1) := by decide +kernel
theorem dL_setLine_9 : decode cL_setLine 9 = .ok (.goto 9, 3) := by decide +kernel
theorem dL_setLine_12 : decode cL_setLine 12 = .ok (.astore_n 3, 1) := by decide +kernel
theorem dL_setLine_13 : decode cL_setLine 13 = .ok (.iconst 1, 1) := by decide +kernel
theorem dL_setLine_14 : decode cL_setLine 14 = .ok (.ireturn, 1) := by decide +kernel
theorem dL_setLine_15 : decode cL_setLine 15 = .ok (.astore_n 3, 1) := by decide +kernel
theorem dL_setLine_16 : decode cL_setLine 16 = .ok (.iconst 2, 1) := by decide +kernel
theorem dL_setLine_17 : decode cL_setLine 17 = .ok (.ireturn, 1) := by decide +kernel
theorem dL_setLine_18 : decode cL_setLine 18 = .ok (.iconst 0, 1) := by decide +kernel
theorem dL_setLine_19 : decode cL_setLine 19 = .ok (.ireturn, 1) := by decide +kernel
theorem dL_correct_0 : decode cL_correct 0 = .ok (.aload_n 2, 1) := by decide +kernel
theorem dL_correct_1 : decode cL_correct 1 = .ok (.iconst 0, 1) := by decide +kernel
theorem dL_correct_2 : decode cL_correct 2 = .ok (.aload_n 0, 1) := by decide +kernel
theorem dL_correct_3 : decode cL_correct 3 = .ok (.iload_n 1, 1) := by decide +kernel
theorem dL_correct_4 : decode cL_correct 4 = .ok (.invokevirtual 46, 3) := by decide +kernel
theorem dL_correct_7 : decode cL_correct 7 = .ok (.i2l, 1) := by decide +kernel
theorem dL_correct_8 : decode cL_correct 8 = .ok (.lastore, 1) := by decide +kernel
theorem dL_correct_9 : decode cL_correct 9 = .ok (.goto 6, 3) := by decide +kernel
theorem dL_correct_12 : decode cL_correct 12 = .ok (.astore_n 3, 1) := by decide +kernel
theorem dL_correct_13 : decode cL_correct 13 = .ok (.iconst 1, 1) := by decide +kernel
theorem dL_correct_14 : decode cL_correct 14 = .ok (.ireturn, 1) := by decide +kernel
theorem dL_correct_15 : decode cL_correct 15 = .ok (.iconst 0, 1) := by decide +kernel
theorem dL_correct_16 : decode cL_correct 16 = .ok (.ireturn, 1) := by decide +kernel
theorem dL_distribute_0 : decode cL_distribute 0 = .ok (.aload_n 2, 1) := by decide +kernel
theorem dL_distribute_1 : decode cL_distribute 1 = .ok (.iconst 0, 1) := by decide +kernel
theorem dL_distribute_2 : decode cL_distribute 2 = .ok (.aload_n 0, 1) := by decide +kernel
theorem dL_distribute_3 : decode cL_distribute 3 = .ok (.iload_n 1, 1) := by decide +kernel
theorem dL_distribute_4 : decode cL_distribute 4 = .ok (.invokevirtual 49, 3) := by decide +kernel
theorem dL_distribute_7 : decode cL_distribute 7 = .ok (.i2l, 1) := by decide +kernel
theorem dL_distribute_8 : decode cL_distribute 8 = .ok (.lastore, 1) := by decide +kernel
theorem dL_distribute_9 : decode cL_distribute 9 = .ok (.goto 6, 3) := by decide +kernel
theorem dL_distribute_12 : decode cL_distribute 12 = .ok (.astore_n 3, 1) := by decide +kernel
theorem dL_distribute_13 : decode cL_distribute 13 = .ok (.iconst 1, 1) := by decide +kernel
theorem dL_distribute_14 : decode cL_distribute 14 = .ok (.ireturn, 1) := by decide +kernel
theorem dL_distribute_15 : decode cL_distribute 15 = .ok (.iconst 0, 1) := by decide +kernel
theorem dL_distribute_16 : decode cL_distribute 16 = .ok (.ireturn, 1) := by decide +kernel
theorem dL_pie_0 : decode cL_pie 0 = .ok (.aload_n 2, 1) := by decide +kernel
theorem dL_pie_1 : decode cL_pie 1 = .ok (.iconst 0, 1) := by decide +kernel
theorem dL_pie_2 : decode cL_pie 2 = .ok (.aload_n 0, 1) := by decide +kernel
theorem dL_pie_3 : decode cL_pie 3 = .ok (.iload_n 1, 1) := by decide +kernel
theorem dL_pie_4 : decode cL_pie 4 = .ok (.invokevirtual 52, 3) := by decide +kernel
theorem dL_pie_7 : decode cL_pie 7 = .ok (.i2l, 1) := by decide +kernel
theorem dL_pie_8 : decode cL_pie 8 = .ok (.lastore, 1) := by decide +kernel
theorem dL_pie_9 : decode cL_pie 9 = .ok (.goto 6, 3) := by decide +kernel
theorem dL_pie_12 : decode cL_pie 12 = .ok (.astore_n 3, 1) := by decide +kernel
theorem dL_pie_13 : decode cL_pie 13 = .ok (.iconst 1, 1) := by decide +kernel
theorem dL_pie_14 : decode cL_pie 14 = .ok (.ireturn, 1) := by decide +kernel
theorem dL_pie_15 : decode cL_pie 15 = .ok (.iconst 0, 1) := by decide +kernel
theorem dL_pie_16 : decode cL_pie 16 = .ok (.ireturn, 1) := by decide +kernel
theorem dL_sortHeap_0 : decode cL_sortHeap 0 = .ok (.aload_n 2, 1) := by decide +kernel
theorem dL_sortHeap_1 : decode cL_sortHeap 1 = .ok (.iconst 0, 1) := by decide +kernel
theorem dL_sortHeap_2 : decode cL_sortHeap 2 = .ok (.aload_n 0, 1) := by decide +kernel
theorem dL_sortHeap_3 : decode cL_sortHeap 3 = .ok (.iload_n 1, 1) := by decide +kernel
theorem dL_sortHeap_4 : decode cL_sortHeap 4 = .ok (.invokevirtual 55, 3) := by decide +kernel
theorem dL_sortHeap_7 : decode cL_sortHeap 7 = .ok (.i2l, 1) := by decide +kernel
theorem dL_sortHeap_8 : decode cL_sortHeap 8 = .ok (.lastore, 1) := by decide +kernel
theorem dL_sortHeap_9 : decode cL_sortHeap 9 = .ok (.goto 6, 3) := by decide +kernel
theorem dL_sortHeap_12 : decode cL_sortHeap 12 = .ok (.astore_n 3, 1) := by decide +kernel
theorem dL_sortHeap_13 : decode cL_sortHeap 13 = .ok (.iconst 1, 1) := by decide +kernel
theorem dL_sortHeap_14 : decode cL_sortHeap 14 = .ok (.ireturn, 1) := by decide +kernel
theorem dL_sortHeap_15 : decode cL_sortHeap 15 = .ok (.iconst 0, 1) := by decide +kernel
theorem dL_sortHeap_16 : decode cL_sortHeap 16 = .ok (.ireturn, 1) := by decide +kernel
theorem dL_forme_0 : decode cL_forme 0 = .ok (.aload_n 3, 1) := by decide +kernel
theorem dL_forme_1 : decode cL_forme 1 = .ok (.iconst 0, 1) := by decide +kernel
theorem dL_forme_2 : decode cL_forme 2 = .ok (.aload_n 0, 1) := by decide +kernel
theorem dL_forme_3 : decode cL_forme 3 = .ok (.iload_n 1, 1) := by decide +kernel
theorem dL_forme_4 : decode cL_forme 4 = .ok (.iload_n 2, 1) := by decide +kernel
theorem dL_forme_5 : decode cL_forme 5 = .ok (.invokevirtual 58, 3) := by decide +kernel
theorem dL_forme_8 : decode cL_forme 8 = .ok (.i2l, 1) := by decide +kernel
theorem dL_forme_9 : decode cL_forme 9 = .ok (.lastore, 1) := by decide +kernel
theorem dL_forme_10 : decode cL_forme 10 = .ok (.goto 11, 3) := by decide +kernel
theorem dL_forme_13 : decode cL_forme 13 = .ok (.astore 4, 2) := by decide +kernel
theorem dL_forme_15 : decode cL_forme 15 = .ok (.iconst 1, 1) := by decide +kernel
theorem dL_forme_16 : decode cL_forme 16 = .ok (.ireturn, 1) := by decide +kernel
theorem dL_forme_17 : decode cL_forme 17 = .ok (.astore 4, 2) := by decide +kernel
theorem dL_forme_19 : decode cL_forme 19 = .ok (.iconst 2, 1) := by decide +kernel
theorem dL_forme_20 : decode cL_forme 20 = .ok (.ireturn, 1) := by decide +kernel
theorem dL_forme_21 : decode cL_forme 21 = .ok (.iconst 0, 1) := by decide +kernel
theorem dL_forme_22 : decode cL_forme 22 = .ok (.ireturn, 1) := by decide +kernel
theorem dL_places_0 : decode cL_places 0 = .ok (.aload_n 3, 1) := by decide +kernel
theorem dL_places_1 : decode cL_places 1 = .ok (.iconst 0, 1) := by decide +kernel
theorem dL_places_2 : decode cL_places 2 = .ok (.aload_n 0, 1) := by decide +kernel
theorem dL_places_3 : decode cL_places 3 = .ok (.iload_n 1, 1) := by decide +kernel
theorem dL_places_4 : decode cL_places 4 = .ok (.iload_n 2, 1) := by decide +kernel
theorem dL_places_5 : decode cL_places 5 = .ok (.invokevirtual 61, 3) := by decide +kernel
theorem dL_places_8 : decode cL_places 8 = .ok (.i2l, 1) := by decide +kernel
theorem dL_places_9 : decode cL_places 9 = .ok (.lastore, 1) := by decide +kernel
theorem dL_places_10 : decode cL_places 10 = .ok (.goto 7, 3) := by decide +kernel
theorem dL_places_13 : decode cL_places 13 = .ok (.astore 4, 2) := by decide +kernel
theorem dL_places_15 : decode cL_places 15 = .ok (.iconst 1, 1) := by decide +kernel
theorem dL_places_16 : decode cL_places 16 = .ok (.ireturn, 1) := by decide +kernel
theorem dL_places_17 : decode cL_places 17 = .ok (.iconst 0, 1) := by decide +kernel
theorem dL_places_18 : decode cL_places 18 = .ok (.ireturn, 1) := by decide +kernel
theorem dL_place_0 : decode cL_place 0 = .ok (.aload 5, 2) := by decide +kernel
theorem dL_place_2 : decode cL_place 2 = .ok (.iconst 0, 1) := by decide +kernel
theorem dL_place_3 : decode cL_place 3 = .ok (.aload_n 0, 1) := by decide +kernel
theorem dL_place_4 : decode cL_place 4 = .ok (.iload_n 1, 1) := by decide +kernel
theorem dL_place_5 : decode cL_place 5 = .ok (.iload_n 2, 1) := by decide +kernel
theorem dL_place_6 : decode cL_place 6 = .ok (.iload_n 3, 1) := by decide +kernel
theorem dL_place_7 : decode cL_place 7 = .ok (.iload 4, 2) := by decide +kernel
theorem dL_place_9 : decode cL_place 9 = .ok (.invokevirtual 64, 3) := by decide +kernel
theorem dL_place_12 : decode cL_place 12 = .ok (.i2l, 1) := by decide +kernel
theorem dL_place_13 : decode cL_place 13 = .ok (.lastore, 1) := by decide +kernel
theorem dL_place_14 : decode cL_place 14 = .ok (.goto 11, 3) := by decide +kernel
theorem dL_place_17 : decode cL_place 17 = .ok (.astore 6, 2) := by decide +kernel
theorem dL_place_19 : decode cL_place 19 = .ok (.iconst 1, 1) := by decide +kernel
theorem dL_place_20 : decode cL_place 20 = .ok (.ireturn, 1) := by decide +kernel
theorem dL_place_21 : decode cL_place 21 = .ok (.astore 6, 2) := by decide +kernel
theorem dL_place_23 : decode cL_place 23 = .ok (.iconst 2, 1) := by decide +kernel
theorem dL_place_24 : decode cL_place 24 = .ok (.ireturn, 1) := by decide +kernel
theorem dL_place_25 : decode cL_place 25 = .ok (.iconst 0, 1) := by decide +kernel
theorem dL_place_26 : decode cL_place 26 = .ok (.ireturn, 1) := by decide +kernel
theorem dL_proof_0 : decode cL_proof 0 = .ok (.aload_n 3, 1) := by decide +kernel
theorem dL_proof_1 : decode cL_proof 1 = .ok (.iconst 0, 1) := by decide +kernel
theorem dL_proof_2 : decode cL_proof 2 = .ok (.aload_n 0, 1) := by decide +kernel
theorem dL_proof_3 : decode cL_proof 3 = .ok (.iload_n 1, 1) := by decide +kernel
theorem dL_proof_4 : decode cL_proof 4 = .ok (.iload_n 2, 1) := by decide +kernel
theorem dL_proof_5 : decode cL_proof 5 = .ok (.invokevirtual 68, 3) := by decide +kernel
theorem dL_proof_8 : decode cL_proof 8 = .ok (.i2l, 1) := by decide +kernel
theorem dL_proof_9 : decode cL_proof 9 = .ok (.lastore, 1) := by decide +kernel
theorem dL_proof_10 : decode cL_proof 10 = .ok (.goto 7, 3) := by decide +kernel
theorem dL_proof_13 : decode cL_proof 13 = .ok (.astore 4, 2) := by decide +kernel
theorem dL_proof_15 : decode cL_proof 15 = .ok (.iconst 1, 1) := by decide +kernel
theorem dL_proof_16 : decode cL_proof 16 = .ok (.ireturn, 1) := by decide +kernel
theorem dL_proof_17 : decode cL_proof 17 = .ok (.iconst 0, 1) := by decide +kernel
theorem dL_proof_18 : decode cL_proof 18 = .ok (.ireturn, 1) := by decide +kernel
theorem dL_inHeap_0 : decode cL_inHeap 0 = .ok (.aload_n 2, 1) := by decide +kernel
theorem dL_inHeap_1 : decode cL_inHeap 1 = .ok (.iconst 0, 1) := by decide +kernel
theorem dL_inHeap_2 : decode cL_inHeap 2 = .ok (.aload_n 0, 1) := by decide +kernel
theorem dL_inHeap_3 : decode cL_inHeap 3 = .ok (.iload_n 1, 1) := by decide +kernel
theorem dL_inHeap_4 : decode cL_inHeap 4 = .ok (.invokevirtual 71, 3) := by decide +kernel
theorem dL_inHeap_7 : decode cL_inHeap 7 = .ok (.i2l, 1) := by decide +kernel
theorem dL_inHeap_8 : decode cL_inHeap 8 = .ok (.lastore, 1) := by decide +kernel
theorem dL_inHeap_9 : decode cL_inHeap 9 = .ok (.goto 6, 3) := by decide +kernel
theorem dL_inHeap_12 : decode cL_inHeap 12 = .ok (.astore_n 3, 1) := by decide +kernel
theorem dL_inHeap_13 : decode cL_inHeap 13 = .ok (.iconst 1, 1) := by decide +kernel
theorem dL_inHeap_14 : decode cL_inHeap 14 = .ok (.ireturn, 1) := by decide +kernel
theorem dL_inHeap_15 : decode cL_inHeap 15 = .ok (.iconst 0, 1) := by decide +kernel
theorem dL_inHeap_16 : decode cL_inHeap 16 = .ok (.ireturn, 1) := by decide +kernel
theorem dL_append_0 : decode cL_append 0 = .ok (.aload_n 2, 1) := by decide +kernel
theorem dL_append_1 : decode cL_append 1 = .ok (.iconst 0, 1) := by decide +kernel
theorem dL_append_2 : decode cL_append 2 = .ok (.aload_n 0, 1) := by decide +kernel
theorem dL_append_3 : decode cL_append 3 = .ok (.iload_n 1, 1) := by decide +kernel
theorem dL_append_4 : decode cL_append 4 = .ok (.invokevirtual 74, 3) := by decide +kernel
theorem dL_append_7 : decode cL_append 7 = .ok (.i2l, 1) := by decide +kernel
theorem dL_append_8 : decode cL_append 8 = .ok (.lastore, 1) := by decide +kernel
theorem dL_append_9 : decode cL_append 9 = .ok (.goto 9, 3) := by decide +kernel
theorem dL_append_12 : decode cL_append 12 = .ok (.astore_n 3, 1) := by decide +kernel
theorem dL_append_13 : decode cL_append 13 = .ok (.iconst 1, 1) := by decide +kernel
theorem dL_append_14 : decode cL_append 14 = .ok (.ireturn, 1) := by decide +kernel
theorem dL_append_15 : decode cL_append 15 = .ok (.astore_n 3, 1) := by decide +kernel
theorem dL_append_16 : decode cL_append 16 = .ok (.iconst 2, 1) := by decide +kernel
theorem dL_append_17 : decode cL_append 17 = .ok (.ireturn, 1) := by decide +kernel
theorem dL_append_18 : decode cL_append 18 = .ok (.iconst 0, 1) := by decide +kernel
theorem dL_append_19 : decode cL_append 19 = .ok (.ireturn, 1) := by decide +kernel
theorem dL_undo_0 : decode cL_undo 0 = .ok (.aload_n 1, 1) := by decide +kernel
theorem dL_undo_1 : decode cL_undo 1 = .ok (.iconst 0, 1) := by decide +kernel
theorem dL_undo_2 : decode cL_undo 2 = .ok (.aload_n 0, 1) := by decide +kernel
theorem dL_undo_3 : decode cL_undo 3 = .ok (.invokevirtual 77, 3) := by decide +kernel
theorem dL_undo_6 : decode cL_undo 6 = .ok (.i2l, 1) := by decide +kernel
theorem dL_undo_7 : decode cL_undo 7 = .ok (.lastore, 1) := by decide +kernel
theorem dL_undo_8 : decode cL_undo 8 = .ok (.goto 6, 3) := by decide +kernel
theorem dL_undo_11 : decode cL_undo 11 = .ok (.astore_n 2, 1) := by decide +kernel
theorem dL_undo_12 : decode cL_undo 12 = .ok (.iconst 1, 1) := by decide +kernel
theorem dL_undo_13 : decode cL_undo 13 = .ok (.ireturn, 1) := by decide +kernel
theorem dL_undo_14 : decode cL_undo 14 = .ok (.iconst 0, 1) := by decide +kernel
theorem dL_undo_15 : decode cL_undo 15 = .ok (.ireturn, 1) := by decide +kernel
theorem dL_law_0 : decode cL_law 0 = .ok (.new 8, 3) := by decide +kernel
theorem dL_law_3 : decode cL_law 3 = .ok (.dup, 1) := by decide +kernel
theorem dL_law_4 : decode cL_law 4 = .ok (.invokespecial 80, 3) := by decide +kernel
theorem dL_law_7 : decode cL_law 7 = .ok (.astore_n 1, 1) := by decide +kernel
theorem dL_law_8 : decode cL_law 8 = .ok (.new 81, 3) := by decide +kernel
theorem dL_law_11 : decode cL_law 11 = .ok (.dup, 1) := by decide +kernel
theorem dL_law_12 : decode cL_law 12 = .ok (.invokespecial 83, 3) := by decide +kernel
theorem dL_law_15 : decode cL_law 15 = .ok (.astore_n 2, 1) := by decide +kernel
theorem dL_law_16 : decode cL_law 16 = .ok (.iconst 1, 1) := by decide +kernel
theorem dL_law_17 : decode cL_law 17 = .ok (.newarray .long, 2) := by decide +kernel
theorem dL_law_19 : decode cL_law 19 = .ok (.astore_n 3, 1) := by decide +kernel
theorem dL_law_20 : decode cL_law 20 = .ok (.iconst 0, 1) := by decide +kernel
theorem dL_law_21 : decode cL_law 21 = .ok (.istore 4, 2) := by decide +kernel
theorem dL_law_23 : decode cL_law 23 = .ok (.iload 4, 2) := by decide +kernel
theorem dL_law_25 : decode cL_law 25 = .ok (.aload_n 0, 1) := by decide +kernel
theorem dL_law_26 : decode cL_law 26 = .ok (.arraylength, 1) := by decide +kernel
theorem dL_law_27 : decode cL_law 27 = .ok (.iconst 5, 1) := by decide +kernel
theorem dL_law_28 : decode cL_law 28 = .ok (.isub, 1) := by decide +kernel
theorem dL_law_29 : decode cL_law 29 = .ok (.if_icmp .gt 1497, 3) := by decide +kernel
theorem dL_law_32 : decode cL_law 32 = .ok (.aload_n 0, 1) := by decide +kernel
theorem dL_law_33 : decode cL_law 33 = .ok (.iload 4, 2) := by decide +kernel
theorem dL_law_35 : decode cL_law 35 = .ok (.iaload, 1) := by decide +kernel
theorem dL_law_36 : decode cL_law 36 = .ok (.bipush 31, 2) := by decide +kernel
theorem dL_law_38 : decode cL_law 38 = .ok (.iand, 1) := by decide +kernel
theorem dL_law_39 : decode cL_law 39 = .ok (.tableswitch 1481 0 26 #[121, 189, 233, 313, 369, 437, 505, 573, 629, 685, 741, 797, 853, 909, 977, 1045, 1137, 1205, 1261, 1274, 1287, 1300, 1313, 1354, 1410, 1423, 1467], 121) := by decide +kernel
theorem dL_law_160 : decode cL_law 160 = .ok (.aload_n 1, 1) := by decide +kernel
theorem dL_law_161 : decode cL_law 161 = .ok (.aload_n 0, 1) := by decide +kernel
theorem dL_law_162 : decode cL_law 162 = .ok (.iload 4, 2) := by decide +kernel
theorem dL_law_164 : decode cL_law 164 = .ok (.iconst 1, 1) := by decide +kernel
theorem dL_law_165 : decode cL_law 165 = .ok (.iadd, 1) := by decide +kernel
theorem dL_law_166 : decode cL_law 166 = .ok (.iaload, 1) := by decide +kernel
theorem dL_law_167 : decode cL_law 167 = .ok (.aload_n 0, 1) := by decide +kernel
theorem dL_law_168 : decode cL_law 168 = .ok (.iload 4, 2) := by decide +kernel
theorem dL_law_170 : decode cL_law 170 = .ok (.iconst 2, 1) := by decide +kernel
theorem dL_law_171 : decode cL_law 171 = .ok (.iadd, 1) := by decide +kernel
theorem dL_law_172 : decode cL_law 172 = .ok (.iaload, 1) := by decide +kernel
theorem dL_law_173 : decode cL_law 173 = .ok (.aload_n 3, 1) := by decide +kernel
theorem dL_law_174 : decode cL_law 174 = .ok (.invokestatic 84, 3) := by decide +kernel
theorem dL_law_177 : decode cL_law 177 = .ok (.istore 5, 2) := by decide +kernel
theorem dL_law_179 : decode cL_law 179 = .ok (.aload_n 2, 1) := by decide +kernel
theorem dL_law_180 : decode cL_law 180 = .ok (.aload_n 0, 1) := by decide +kernel
theorem dL_law_181 : decode cL_law 181 = .ok (.iload 4, 2) := by decide +kernel
theorem dL_law_183 : decode cL_law 183 = .ok (.iconst 1, 1) := by decide +kernel
theorem dL_law_184 : decode cL_law 184 = .ok (.iadd, 1) := by decide +kernel
theorem dL_law_185 : decode cL_law 185 = .ok (.iaload, 1) := by decide +kernel
theorem dL_law_186 : decode cL_law 186 = .ok (.aload_n 0, 1) := by decide +kernel
theorem dL_law_187 : decode cL_law 187 = .ok (.iload 4, 2) := by decide +kernel
theorem dL_law_189 : decode cL_law 189 = .ok (.iconst 2, 1) := by decide +kernel
theorem dL_law_190 : decode cL_law 190 = .ok (.iadd, 1) := by decide +kernel
theorem dL_law_191 : decode cL_law 191 = .ok (.iaload, 1) := by decide +kernel
theorem dL_law_192 : decode cL_law 192 = .ok (.invokevirtual 89, 3) := by decide +kernel
theorem dL_law_195 : decode cL_law 195 = .ok (.istore 6, 2) := by decide +kernel
theorem dL_law_197 : decode cL_law 197 = .ok (.aload_n 2, 1) := by decide +kernel
theorem dL_law_198 : decode cL_law 198 = .ok (.invokevirtual 90, 3) := by decide +kernel
theorem dL_law_201 : decode cL_law 201 = .ok (.iload 5, 2) := by decide +kernel
theorem dL_law_203 : decode cL_law 203 = .ok (.if_icmp .eq 5, 3) := by decide +kernel
theorem dL_law_206 : decode cL_law 206 = .ok (.iconst 0, 1) := by decide +kernel
theorem dL_law_207 : decode cL_law 207 = .ok (.ireturn, 1) := by decide +kernel
theorem dL_law_208 : decode cL_law 208 = .ok (.iload 5, 2) := by decide +kernel
theorem dL_law_210 : decode cL_law 210 = .ok (.ifCond .ne 15, 3) := by decide +kernel
theorem dL_law_213 : decode cL_law 213 = .ok (.aload_n 3, 1) := by decide +kernel
theorem dL_law_214 : decode cL_law 214 = .ok (.iconst 0, 1) := by decide +kernel
theorem dL_law_215 : decode cL_law 215 = .ok (.laload, 1) := by decide +kernel
theorem dL_law_216 : decode cL_law 216 = .ok (.iload 6, 2) := by decide +kernel
theorem dL_law_218 : decode cL_law 218 = .ok (.i2l, 1) := by decide +kernel
theorem dL_law_219 : decode cL_law 219 = .ok (.lcmp, 1) := by decide +kernel
theorem dL_law_220 : decode cL_law 220 = .ok (.ifCond .eq 5, 3) := by decide +kernel
theorem dL_law_223 : decode cL_law 223 = .ok (.iconst 0, 1) := by decide +kernel
theorem dL_law_224 : decode cL_law 224 = .ok (.ireturn, 1) := by decide +kernel
theorem dL_law_225 : decode cL_law 225 = .ok (.goto 1295, 3) := by decide +kernel
theorem dL_law_228 : decode cL_law 228 = .ok (.aload_n 1, 1) := by decide +kernel
theorem dL_law_229 : decode cL_law 229 = .ok (.aload_n 3, 1) := by decide +kernel
theorem dL_law_230 : decode cL_law 230 = .ok (.invokestatic 93, 3) := by decide +kernel
theorem dL_law_233 : decode cL_law 233 = .ok (.istore 5, 2) := by decide +kernel
theorem dL_law_235 : decode cL_law 235 = .ok (.aload_n 2, 1) := by decide +kernel
theorem dL_law_236 : decode cL_law 236 = .ok (.invokevirtual 96, 3) := by decide +kernel
theorem dL_law_239 : decode cL_law 239 = .ok (.istore 6, 2) := by decide +kernel
theorem dL_law_241 : decode cL_law 241 = .ok (.aload_n 2, 1) := by decide +kernel
theorem dL_law_242 : decode cL_law 242 = .ok (.invokevirtual 90, 3) := by decide +kernel
theorem dL_law_245 : decode cL_law 245 = .ok (.iload 5, 2) := by decide +kernel
theorem dL_law_247 : decode cL_law 247 = .ok (.if_icmp .eq 5, 3) := by decide +kernel
theorem dL_law_250 : decode cL_law 250 = .ok (.iconst 0, 1) := by decide +kernel
theorem dL_law_251 : decode cL_law 251 = .ok (.ireturn, 1) := by decide +kernel
theorem dL_law_252 : decode cL_law 252 = .ok (.iload 5, 2) := by decide +kernel
theorem dL_law_254 : decode cL_law 254 = .ok (.ifCond .ne 15, 3) := by decide +kernel
theorem dL_law_257 : decode cL_law 257 = .ok (.aload_n 3, 1) := by decide +kernel
theorem dL_law_258 : decode cL_law 258 = .ok (.iconst 0, 1) := by decide +kernel
theorem dL_law_259 : decode cL_law 259 = .ok (.laload, 1) := by decide +kernel
theorem dL_law_260 : decode cL_law 260 = .ok (.iload 6, 2) := by decide +kernel
theorem dL_law_262 : decode cL_law 262 = .ok (.i2l, 1) := by decide +kernel
theorem dL_law_263 : decode cL_law 263 = .ok (.lcmp, 1) := by decide +kernel
theorem dL_law_264 : decode cL_law 264 = .ok (.ifCond .eq 5, 3) := by decide +kernel
theorem dL_law_267 : decode cL_law 267 = .ok (.iconst 0, 1) := by decide +kernel
theorem dL_law_268 : decode cL_law 268 = .ok (.ireturn, 1) := by decide +kernel
theorem dL_law_269 : decode cL_law 269 = .ok (.goto 1251, 3) := by decide +kernel
theorem dL_law_272 : decode cL_law 272 = .ok (.aload_n 1, 1) := by decide +kernel
theorem dL_law_273 : decode cL_law 273 = .ok (.aload_n 0, 1) := by decide +kernel
theorem dL_law_274 : decode cL_law 274 = .ok (.iload 4, 2) := by decide +kernel
theorem dL_law_276 : decode cL_law 276 = .ok (.iconst 1, 1) := by decide +kernel
theorem dL_law_277 : decode cL_law 277 = .ok (.iadd, 1) := by decide +kernel
theorem dL_law_278 : decode cL_law 278 = .ok (.iaload, 1) := by decide +kernel
theorem dL_law_279 : decode cL_law 279 = .ok (.aload_n 0, 1) := by decide +kernel
theorem dL_law_280 : decode cL_law 280 = .ok (.iload 4, 2) := by decide +kernel
theorem dL_law_282 : decode cL_law 282 = .ok (.iconst 2, 1) := by decide +kernel
theorem dL_law_283 : decode cL_law 283 = .ok (.iadd, 1) := by decide +kernel
theorem dL_law_284 : decode cL_law 284 = .ok (.iaload, 1) := by decide +kernel
theorem dL_law_285 : decode cL_law 285 = .ok (.aload_n 0, 1) := by decide +kernel
theorem dL_law_286 : decode cL_law 286 = .ok (.iload 4, 2) := by decide +kernel
theorem dL_law_288 : decode cL_law 288 = .ok (.iconst 3, 1) := by decide +kernel
theorem dL_law_289 : decode cL_law 289 = .ok (.iadd, 1) := by decide +kernel
theorem dL_law_290 : decode cL_law 290 = .ok (.iaload, 1) := by decide +kernel
theorem dL_law_291 : decode cL_law 291 = .ok (.aload_n 3, 1) := by decide +kernel
theorem dL_law_292 : decode cL_law 292 = .ok (.invokestatic 97, 3) := by decide +kernel
theorem dL_law_295 : decode cL_law 295 = .ok (.istore 5, 2) := by decide +kernel
theorem dL_law_297 : decode cL_law 297 = .ok (.aload_n 2, 1) := by decide +kernel
theorem dL_law_298 : decode cL_law 298 = .ok (.aload_n 0, 1) := by decide +kernel
theorem dL_law_299 : decode cL_law 299 = .ok (.iload 4, 2) := by decide +kernel
theorem dL_law_301 : decode cL_law 301 = .ok (.iconst 1, 1) := by decide +kernel
theorem dL_law_302 : decode cL_law 302 = .ok (.iadd, 1) := by decide +kernel
theorem dL_law_303 : decode cL_law 303 = .ok (.iaload, 1) := by decide +kernel
theorem dL_law_304 : decode cL_law 304 = .ok (.aload_n 0, 1) := by decide +kernel
theorem dL_law_305 : decode cL_law 305 = .ok (.iload 4, 2) := by decide +kernel
theorem dL_law_307 : decode cL_law 307 = .ok (.iconst 2, 1) := by decide +kernel
theorem dL_law_308 : decode cL_law 308 = .ok (.iadd, 1) := by decide +kernel
theorem dL_law_309 : decode cL_law 309 = .ok (.iaload, 1) := by decide +kernel
theorem dL_law_310 : decode cL_law 310 = .ok (.aload_n 0, 1) := by decide +kernel
theorem dL_law_311 : decode cL_law 311 = .ok (.iload 4, 2) := by decide +kernel
theorem dL_law_313 : decode cL_law 313 = .ok (.iconst 3, 1) := by decide +kernel
theorem dL_law_314 : decode cL_law 314 = .ok (.iadd, 1) := by decide +kernel
theorem dL_law_315 : decode cL_law 315 = .ok (.iaload, 1) := by decide +kernel
theorem dL_law_316 : decode cL_law 316 = .ok (.invokevirtual 100, 3) := by decide +kernel
theorem dL_law_319 : decode cL_law 319 = .ok (.istore 6, 2) := by decide +kernel
theorem dL_law_321 : decode cL_law 321 = .ok (.aload_n 2, 1) := by decide +kernel
theorem dL_law_322 : decode cL_law 322 = .ok (.invokevirtual 90, 3) := by decide +kernel
theorem dL_law_325 : decode cL_law 325 = .ok (.iload 5, 2) := by decide +kernel
theorem dL_law_327 : decode cL_law 327 = .ok (.if_icmp .eq 5, 3) := by decide +kernel
theorem dL_law_330 : decode cL_law 330 = .ok (.iconst 0, 1) := by decide +kernel
theorem dL_law_331 : decode cL_law 331 = .ok (.ireturn, 1) := by decide +kernel
theorem dL_law_332 : decode cL_law 332 = .ok (.iload 5, 2) := by decide +kernel
theorem dL_law_334 : decode cL_law 334 = .ok (.ifCond .ne 15, 3) := by decide +kernel
theorem dL_law_337 : decode cL_law 337 = .ok (.aload_n 3, 1) := by decide +kernel
theorem dL_law_338 : decode cL_law 338 = .ok (.iconst 0, 1) := by decide +kernel
theorem dL_law_339 : decode cL_law 339 = .ok (.laload, 1) := by decide +kernel
theorem dL_law_340 : decode cL_law 340 = .ok (.iload 6, 2) := by decide +kernel
theorem dL_law_342 : decode cL_law 342 = .ok (.i2l, 1) := by decide +kernel
theorem dL_law_343 : decode cL_law 343 = .ok (.lcmp, 1) := by decide +kernel
theorem dL_law_344 : decode cL_law 344 = .ok (.ifCond .eq 5, 3) := by decide +kernel
theorem dL_law_347 : decode cL_law 347 = .ok (.iconst 0, 1) := by decide +kernel
theorem dL_law_348 : decode cL_law 348 = .ok (.ireturn, 1) := by decide +kernel
theorem dL_law_349 : decode cL_law 349 = .ok (.goto 1171, 3) := by decide +kernel
theorem dL_law_352 : decode cL_law 352 = .ok (.aload_n 1, 1) := by decide +kernel
theorem dL_law_353 : decode cL_law 353 = .ok (.aload_n 0, 1) := by decide +kernel
theorem dL_law_354 : decode cL_law 354 = .ok (.iload 4, 2) := by decide +kernel
theorem dL_law_356 : decode cL_law 356 = .ok (.iconst 1, 1) := by decide +kernel
theorem dL_law_357 : decode cL_law 357 = .ok (.iadd, 1) := by decide +kernel
theorem dL_law_358 : decode cL_law 358 = .ok (.iaload, 1) := by decide +kernel
theorem dL_law_359 : decode cL_law 359 = .ok (.aload_n 3, 1) := by decide +kernel
theorem dL_law_360 : decode cL_law 360 = .ok (.invokestatic 101, 3) := by decide +kernel
theorem dL_law_363 : decode cL_law 363 = .ok (.istore 5, 2) := by decide +kernel
theorem dL_law_365 : decode cL_law 365 = .ok (.aload_n 2, 1) := by decide +kernel
theorem dL_law_366 : decode cL_law 366 = .ok (.aload_n 0, 1) := by decide +kernel
theorem dL_law_367 : decode cL_law 367 = .ok (.iload 4, 2) := by decide +kernel
theorem dL_law_369 : decode cL_law 369 = .ok (.iconst 1, 1) := by decide +kernel
theorem dL_law_370 : decode cL_law 370 = .ok (.iadd, 1) := by decide +kernel
theorem dL_law_371 : decode cL_law 371 = .ok (.iaload, 1) := by decide +kernel
theorem dL_law_372 : decode cL_law 372 = .ok (.invokevirtual 104, 3) := by decide +kernel
theorem dL_law_375 : decode cL_law 375 = .ok (.istore 6, 2) := by decide +kernel
theorem dL_law_377 : decode cL_law 377 = .ok (.aload_n 2, 1) := by decide +kernel
theorem dL_law_378 : decode cL_law 378 = .ok (.invokevirtual 90, 3) := by decide +kernel
theorem dL_law_381 : decode cL_law 381 = .ok (.iload 5, 2) := by decide +kernel
theorem dL_law_383 : decode cL_law 383 = .ok (.if_icmp .eq 5, 3) := by decide +kernel
theorem dL_law_386 : decode cL_law 386 = .ok (.iconst 0, 1) := by decide +kernel
theorem dL_law_387 : decode cL_law 387 = .ok (.ireturn, 1) := by decide +kernel
theorem dL_law_388 : decode cL_law 388 = .ok (.iload 5, 2) := by decide +kernel
theorem dL_law_390 : decode cL_law 390 = .ok (.ifCond .ne 15, 3) := by decide +kernel
theorem dL_law_393 : decode cL_law 393 = .ok (.aload_n 3, 1) := by decide +kernel
theorem dL_law_394 : decode cL_law 394 = .ok (.iconst 0, 1) := by decide +kernel
theorem dL_law_395 : decode cL_law 395 = .ok (.laload, 1) := by decide +kernel
theorem dL_law_396 : decode cL_law 396 = .ok (.iload 6, 2) := by decide +kernel
theorem dL_law_398 : decode cL_law 398 = .ok (.i2l, 1) := by decide +kernel
theorem dL_law_399 : decode cL_law 399 = .ok (.lcmp, 1) := by decide +kernel
theorem dL_law_400 : decode cL_law 400 = .ok (.ifCond .eq 5, 3) := by decide +kernel
theorem dL_law_403 : decode cL_law 403 = .ok (.iconst 0, 1) := by decide +kernel
theorem dL_law_404 : decode cL_law 404 = .ok (.ireturn, 1) := by decide +kernel
theorem dL_law_405 : decode cL_law 405 = .ok (.goto 1115, 3) := by decide +kernel
theorem dL_law_408 : decode cL_law 408 = .ok (.aload_n 1, 1) := by decide +kernel
theorem dL_law_409 : decode cL_law 409 = .ok (.aload_n 0, 1) := by decide +kernel
theorem dL_law_410 : decode cL_law 410 = .ok (.iload 4, 2) := by decide +kernel
theorem dL_law_412 : decode cL_law 412 = .ok (.iconst 1, 1) := by decide +kernel
theorem dL_law_413 : decode cL_law 413 = .ok (.iadd, 1) := by decide +kernel
theorem dL_law_414 : decode cL_law 414 = .ok (.iaload, 1) := by decide +kernel
theorem dL_law_415 : decode cL_law 415 = .ok (.aload_n 0, 1) := by decide +kernel
theorem dL_law_416 : decode cL_law 416 = .ok (.iload 4, 2) := by decide +kernel
theorem dL_law_418 : decode cL_law 418 = .ok (.iconst 2, 1) := by decide +kernel
theorem dL_law_419 : decode cL_law 419 = .ok (.iadd, 1) := by decide +kernel
theorem dL_law_420 : decode cL_law 420 = .ok (.iaload, 1) := by decide +kernel
theorem dL_law_421 : decode cL_law 421 = .ok (.aload_n 3, 1) := by decide +kernel
theorem dL_law_422 : decode cL_law 422 = .ok (.invokestatic 105, 3) := by decide +kernel
theorem dL_law_425 : decode cL_law 425 = .ok (.istore 5, 2) := by decide +kernel
theorem dL_law_427 : decode cL_law 427 = .ok (.aload_n 2, 1) := by decide +kernel
theorem dL_law_428 : decode cL_law 428 = .ok (.aload_n 0, 1) := by decide +kernel
theorem dL_law_429 : decode cL_law 429 = .ok (.iload 4, 2) := by decide +kernel
theorem dL_law_431 : decode cL_law 431 = .ok (.iconst 1, 1) := by decide +kernel
theorem dL_law_432 : decode cL_law 432 = .ok (.iadd, 1) := by decide +kernel
theorem dL_law_433 : decode cL_law 433 = .ok (.iaload, 1) := by decide +kernel
theorem dL_law_434 : decode cL_law 434 = .ok (.aload_n 0, 1) := by decide +kernel
theorem dL_law_435 : decode cL_law 435 = .ok (.iload 4, 2) := by decide +kernel
theorem dL_law_437 : decode cL_law 437 = .ok (.iconst 2, 1) := by decide +kernel
theorem dL_law_438 : decode cL_law 438 = .ok (.iadd, 1) := by decide +kernel
theorem dL_law_439 : decode cL_law 439 = .ok (.iaload, 1) := by decide +kernel
theorem dL_law_440 : decode cL_law 440 = .ok (.invokevirtual 107, 3) := by decide +kernel
theorem dL_law_443 : decode cL_law 443 = .ok (.istore 6, 2) := by decide +kernel
theorem dL_law_445 : decode cL_law 445 = .ok (.aload_n 2, 1) := by decide +kernel
theorem dL_law_446 : decode cL_law 446 = .ok (.invokevirtual 90, 3) := by decide +kernel
theorem dL_law_449 : decode cL_law 449 = .ok (.iload 5, 2) := by decide +kernel
theorem dL_law_451 : decode cL_law 451 = .ok (.if_icmp .eq 5, 3) := by decide +kernel
theorem dL_law_454 : decode cL_law 454 = .ok (.iconst 0, 1) := by decide +kernel
theorem dL_law_455 : decode cL_law 455 = .ok (.ireturn, 1) := by decide +kernel
theorem dL_law_456 : decode cL_law 456 = .ok (.iload 5, 2) := by decide +kernel
theorem dL_law_458 : decode cL_law 458 = .ok (.ifCond .ne 15, 3) := by decide +kernel
theorem dL_law_461 : decode cL_law 461 = .ok (.aload_n 3, 1) := by decide +kernel
theorem dL_law_462 : decode cL_law 462 = .ok (.iconst 0, 1) := by decide +kernel
theorem dL_law_463 : decode cL_law 463 = .ok (.laload, 1) := by decide +kernel
theorem dL_law_464 : decode cL_law 464 = .ok (.iload 6, 2) := by decide +kernel
theorem dL_law_466 : decode cL_law 466 = .ok (.i2l, 1) := by decide +kernel
theorem dL_law_467 : decode cL_law 467 = .ok (.lcmp, 1) := by decide +kernel
theorem dL_law_468 : decode cL_law 468 = .ok (.ifCond .eq 5, 3) := by decide +kernel
theorem dL_law_471 : decode cL_law 471 = .ok (.iconst 0, 1) := by decide +kernel
theorem dL_law_472 : decode cL_law 472 = .ok (.ireturn, 1) := by decide +kernel
theorem dL_law_473 : decode cL_law 473 = .ok (.goto 1047, 3) := by decide +kernel
theorem dL_law_476 : decode cL_law 476 = .ok (.aload_n 1, 1) := by decide +kernel
theorem dL_law_477 : decode cL_law 477 = .ok (.aload_n 0, 1) := by decide +kernel
theorem dL_law_478 : decode cL_law 478 = .ok (.iload 4, 2) := by decide +kernel
theorem dL_law_480 : decode cL_law 480 = .ok (.iconst 1, 1) := by decide +kernel
theorem dL_law_481 : decode cL_law 481 = .ok (.iadd, 1) := by decide +kernel
theorem dL_law_482 : decode cL_law 482 = .ok (.iaload, 1) := by decide +kernel
theorem dL_law_483 : decode cL_law 483 = .ok (.aload_n 0, 1) := by decide +kernel
theorem dL_law_484 : decode cL_law 484 = .ok (.iload 4, 2) := by decide +kernel
theorem dL_law_486 : decode cL_law 486 = .ok (.iconst 2, 1) := by decide +kernel
theorem dL_law_487 : decode cL_law 487 = .ok (.iadd, 1) := by decide +kernel
theorem dL_law_488 : decode cL_law 488 = .ok (.iaload, 1) := by decide +kernel
theorem dL_law_489 : decode cL_law 489 = .ok (.aload_n 3, 1) := by decide +kernel
theorem dL_law_490 : decode cL_law 490 = .ok (.invokestatic 108, 3) := by decide +kernel
theorem dL_law_493 : decode cL_law 493 = .ok (.istore 5, 2) := by decide +kernel
theorem dL_law_495 : decode cL_law 495 = .ok (.aload_n 2, 1) := by decide +kernel
theorem dL_law_496 : decode cL_law 496 = .ok (.aload_n 0, 1) := by decide +kernel
theorem dL_law_497 : decode cL_law 497 = .ok (.iload 4, 2) := by decide +kernel
theorem dL_law_499 : decode cL_law 499 = .ok (.iconst 1, 1) := by decide +kernel
theorem dL_law_500 : decode cL_law 500 = .ok (.iadd, 1) := by decide +kernel
theorem dL_law_501 : decode cL_law 501 = .ok (.iaload, 1) := by decide +kernel
theorem dL_law_502 : decode cL_law 502 = .ok (.aload_n 0, 1) := by decide +kernel
theorem dL_law_503 : decode cL_law 503 = .ok (.iload 4, 2) := by decide +kernel
theorem dL_law_505 : decode cL_law 505 = .ok (.iconst 2, 1) := by decide +kernel
theorem dL_law_506 : decode cL_law 506 = .ok (.iadd, 1) := by decide +kernel
theorem dL_law_507 : decode cL_law 507 = .ok (.iaload, 1) := by decide +kernel
theorem dL_law_508 : decode cL_law 508 = .ok (.invokevirtual 110, 3) := by decide +kernel
theorem dL_law_511 : decode cL_law 511 = .ok (.istore 6, 2) := by decide +kernel
theorem dL_law_513 : decode cL_law 513 = .ok (.aload_n 2, 1) := by decide +kernel
theorem dL_law_514 : decode cL_law 514 = .ok (.invokevirtual 90, 3) := by decide +kernel
theorem dL_law_517 : decode cL_law 517 = .ok (.iload 5, 2) := by decide +kernel
theorem dL_law_519 : decode cL_law 519 = .ok (.if_icmp .eq 5, 3) := by decide +kernel
theorem dL_law_522 : decode cL_law 522 = .ok (.iconst 0, 1) := by decide +kernel
theorem dL_law_523 : decode cL_law 523 = .ok (.ireturn, 1) := by decide +kernel
theorem dL_law_524 : decode cL_law 524 = .ok (.iload 5, 2) := by decide +kernel
theorem dL_law_526 : decode cL_law 526 = .ok (.ifCond .ne 15, 3) := by decide +kernel
theorem dL_law_529 : decode cL_law 529 = .ok (.aload_n 3, 1) := by decide +kernel
theorem dL_law_530 : decode cL_law 530 = .ok (.iconst 0, 1) := by decide +kernel
theorem dL_law_531 : decode cL_law 531 = .ok (.laload, 1) := by decide +kernel
theorem dL_law_532 : decode cL_law 532 = .ok (.iload 6, 2) := by decide +kernel
theorem dL_law_534 : decode cL_law 534 = .ok (.i2l, 1) := by decide +kernel
theorem dL_law_535 : decode cL_law 535 = .ok (.lcmp, 1) := by decide +kernel
theorem dL_law_536 : decode cL_law 536 = .ok (.ifCond .eq 5, 3) := by decide +kernel
theorem dL_law_539 : decode cL_law 539 = .ok (.iconst 0, 1) := by decide +kernel
theorem dL_law_540 : decode cL_law 540 = .ok (.ireturn, 1) := by decide +kernel
theorem dL_law_541 : decode cL_law 541 = .ok (.goto 979, 3) := by decide +kernel
theorem dL_law_544 : decode cL_law 544 = .ok (.aload_n 1, 1) := by decide +kernel
theorem dL_law_545 : decode cL_law 545 = .ok (.aload_n 0, 1) := by decide +kernel
theorem dL_law_546 : decode cL_law 546 = .ok (.iload 4, 2) := by decide +kernel
theorem dL_law_548 : decode cL_law 548 = .ok (.iconst 1, 1) := by decide +kernel
theorem dL_law_549 : decode cL_law 549 = .ok (.iadd, 1) := by decide +kernel
theorem dL_law_550 : decode cL_law 550 = .ok (.iaload, 1) := by decide +kernel
theorem dL_law_551 : decode cL_law 551 = .ok (.aload_n 0, 1) := by decide +kernel
theorem dL_law_552 : decode cL_law 552 = .ok (.iload 4, 2) := by decide +kernel
theorem dL_law_554 : decode cL_law 554 = .ok (.iconst 2, 1) := by decide +kernel
theorem dL_law_555 : decode cL_law 555 = .ok (.iadd, 1) := by decide +kernel
theorem dL_law_556 : decode cL_law 556 = .ok (.iaload, 1) := by decide +kernel
theorem dL_law_557 : decode cL_law 557 = .ok (.aload_n 3, 1) := by decide +kernel
theorem dL_law_558 : decode cL_law 558 = .ok (.invokestatic 111, 3) := by decide +kernel
theorem dL_law_561 : decode cL_law 561 = .ok (.istore 5, 2) := by decide +kernel
theorem dL_law_563 : decode cL_law 563 = .ok (.aload_n 2, 1) := by decide +kernel
theorem dL_law_564 : decode cL_law 564 = .ok (.aload_n 0, 1) := by decide +kernel
theorem dL_law_565 : decode cL_law 565 = .ok (.iload 4, 2) := by decide +kernel
theorem dL_law_567 : decode cL_law 567 = .ok (.iconst 1, 1) := by decide +kernel
theorem dL_law_568 : decode cL_law 568 = .ok (.iadd, 1) := by decide +kernel
theorem dL_law_569 : decode cL_law 569 = .ok (.iaload, 1) := by decide +kernel
theorem dL_law_570 : decode cL_law 570 = .ok (.aload_n 0, 1) := by decide +kernel
theorem dL_law_571 : decode cL_law 571 = .ok (.iload 4, 2) := by decide +kernel
theorem dL_law_573 : decode cL_law 573 = .ok (.iconst 2, 1) := by decide +kernel
theorem dL_law_574 : decode cL_law 574 = .ok (.iadd, 1) := by decide +kernel
theorem dL_law_575 : decode cL_law 575 = .ok (.iaload, 1) := by decide +kernel
theorem dL_law_576 : decode cL_law 576 = .ok (.invokevirtual 113, 3) := by decide +kernel
theorem dL_law_579 : decode cL_law 579 = .ok (.istore 6, 2) := by decide +kernel
theorem dL_law_581 : decode cL_law 581 = .ok (.aload_n 2, 1) := by decide +kernel
theorem dL_law_582 : decode cL_law 582 = .ok (.invokevirtual 90, 3) := by decide +kernel
theorem dL_law_585 : decode cL_law 585 = .ok (.iload 5, 2) := by decide +kernel
theorem dL_law_587 : decode cL_law 587 = .ok (.if_icmp .eq 5, 3) := by decide +kernel
theorem dL_law_590 : decode cL_law 590 = .ok (.iconst 0, 1) := by decide +kernel
theorem dL_law_591 : decode cL_law 591 = .ok (.ireturn, 1) := by decide +kernel
theorem dL_law_592 : decode cL_law 592 = .ok (.iload 5, 2) := by decide +kernel
theorem dL_law_594 : decode cL_law 594 = .ok (.ifCond .ne 15, 3) := by decide +kernel
theorem dL_law_597 : decode cL_law 597 = .ok (.aload_n 3, 1) := by decide +kernel
theorem dL_law_598 : decode cL_law 598 = .ok (.iconst 0, 1) := by decide +kernel
theorem dL_law_599 : decode cL_law 599 = .ok (.laload, 1) := by decide +kernel
theorem dL_law_600 : decode cL_law 600 = .ok (.iload 6, 2) := by decide +kernel
theorem dL_law_602 : decode cL_law 602 = .ok (.i2l, 1) := by decide +kernel
theorem dL_law_603 : decode cL_law 603 = .ok (.lcmp, 1) := by decide +kernel
theorem dL_law_604 : decode cL_law 604 = .ok (.ifCond .eq 5, 3) := by decide +kernel
theorem dL_law_607 : decode cL_law 607 = .ok (.iconst 0, 1) := by decide +kernel
theorem dL_law_608 : decode cL_law 608 = .ok (.ireturn, 1) := by decide +kernel
theorem dL_law_609 : decode cL_law 609 = .ok (.goto 911, 3) := by decide +kernel
theorem dL_law_612 : decode cL_law 612 = .ok (.aload_n 1, 1) := by decide +kernel
theorem dL_law_613 : decode cL_law 613 = .ok (.aload_n 0, 1) := by decide +kernel
theorem dL_law_614 : decode cL_law 614 = .ok (.iload 4, 2) := by decide +kernel
theorem dL_law_616 : decode cL_law 616 = .ok (.iconst 1, 1) := by decide +kernel
theorem dL_law_617 : decode cL_law 617 = .ok (.iadd, 1) := by decide +kernel
theorem dL_law_618 : decode cL_law 618 = .ok (.iaload, 1) := by decide +kernel
theorem dL_law_619 : decode cL_law 619 = .ok (.aload_n 3, 1) := by decide +kernel
theorem dL_law_620 : decode cL_law 620 = .ok (.invokestatic 114, 3) := by decide +kernel
theorem dL_law_623 : decode cL_law 623 = .ok (.istore 5, 2) := by decide +kernel
theorem dL_law_625 : decode cL_law 625 = .ok (.aload_n 2, 1) := by decide +kernel
theorem dL_law_626 : decode cL_law 626 = .ok (.aload_n 0, 1) := by decide +kernel
theorem dL_law_627 : decode cL_law 627 = .ok (.iload 4, 2) := by decide +kernel
theorem dL_law_629 : decode cL_law 629 = .ok (.iconst 1, 1) := by decide +kernel
theorem dL_law_630 : decode cL_law 630 = .ok (.iadd, 1) := by decide +kernel
theorem dL_law_631 : decode cL_law 631 = .ok (.iaload, 1) := by decide +kernel
theorem dL_law_632 : decode cL_law 632 = .ok (.invokevirtual 116, 3) := by decide +kernel
theorem dL_law_635 : decode cL_law 635 = .ok (.istore 6, 2) := by decide +kernel
theorem dL_law_637 : decode cL_law 637 = .ok (.aload_n 2, 1) := by decide +kernel
theorem dL_law_638 : decode cL_law 638 = .ok (.invokevirtual 90, 3) := by decide +kernel
theorem dL_law_641 : decode cL_law 641 = .ok (.iload 5, 2) := by decide +kernel
theorem dL_law_643 : decode cL_law 643 = .ok (.if_icmp .eq 5, 3) := by decide +kernel
theorem dL_law_646 : decode cL_law 646 = .ok (.iconst 0, 1) := by decide +kernel
theorem dL_law_647 : decode cL_law 647 = .ok (.ireturn, 1) := by decide +kernel
theorem dL_law_648 : decode cL_law 648 = .ok (.iload 5, 2) := by decide +kernel
theorem dL_law_650 : decode cL_law 650 = .ok (.ifCond .ne 15, 3) := by decide +kernel
theorem dL_law_653 : decode cL_law 653 = .ok (.aload_n 3, 1) := by decide +kernel
theorem dL_law_654 : decode cL_law 654 = .ok (.iconst 0, 1) := by decide +kernel
theorem dL_law_655 : decode cL_law 655 = .ok (.laload, 1) := by decide +kernel
theorem dL_law_656 : decode cL_law 656 = .ok (.iload 6, 2) := by decide +kernel
theorem dL_law_658 : decode cL_law 658 = .ok (.i2l, 1) := by decide +kernel
theorem dL_law_659 : decode cL_law 659 = .ok (.lcmp, 1) := by decide +kernel
theorem dL_law_660 : decode cL_law 660 = .ok (.ifCond .eq 5, 3) := by decide +kernel
theorem dL_law_663 : decode cL_law 663 = .ok (.iconst 0, 1) := by decide +kernel
theorem dL_law_664 : decode cL_law 664 = .ok (.ireturn, 1) := by decide +kernel
theorem dL_law_665 : decode cL_law 665 = .ok (.goto 855, 3) := by decide +kernel
theorem dL_law_668 : decode cL_law 668 = .ok (.aload_n 1, 1) := by decide +kernel
theorem dL_law_669 : decode cL_law 669 = .ok (.aload_n 0, 1) := by decide +kernel
theorem dL_law_670 : decode cL_law 670 = .ok (.iload 4, 2) := by decide +kernel
theorem dL_law_672 : decode cL_law 672 = .ok (.iconst 1, 1) := by decide +kernel
theorem dL_law_673 : decode cL_law 673 = .ok (.iadd, 1) := by decide +kernel
theorem dL_law_674 : decode cL_law 674 = .ok (.iaload, 1) := by decide +kernel
theorem dL_law_675 : decode cL_law 675 = .ok (.aload_n 3, 1) := by decide +kernel
theorem dL_law_676 : decode cL_law 676 = .ok (.invokestatic 117, 3) := by decide +kernel
theorem dL_law_679 : decode cL_law 679 = .ok (.istore 5, 2) := by decide +kernel
theorem dL_law_681 : decode cL_law 681 = .ok (.aload_n 2, 1) := by decide +kernel
theorem dL_law_682 : decode cL_law 682 = .ok (.aload_n 0, 1) := by decide +kernel
theorem dL_law_683 : decode cL_law 683 = .ok (.iload 4, 2) := by decide +kernel
theorem dL_law_685 : decode cL_law 685 = .ok (.iconst 1, 1) := by decide +kernel
theorem dL_law_686 : decode cL_law 686 = .ok (.iadd, 1) := by decide +kernel
theorem dL_law_687 : decode cL_law 687 = .ok (.iaload, 1) := by decide +kernel
theorem dL_law_688 : decode cL_law 688 = .ok (.invokevirtual 119, 3) := by decide +kernel
theorem dL_law_691 : decode cL_law 691 = .ok (.istore 6, 2) := by decide +kernel
theorem dL_law_693 : decode cL_law 693 = .ok (.aload_n 2, 1) := by decide +kernel
theorem dL_law_694 : decode cL_law 694 = .ok (.invokevirtual 90, 3) := by decide +kernel
theorem dL_law_697 : decode cL_law 697 = .ok (.iload 5, 2) := by decide +kernel
theorem dL_law_699 : decode cL_law 699 = .ok (.if_icmp .eq 5, 3) := by decide +kernel
theorem dL_law_702 : decode cL_law 702 = .ok (.iconst 0, 1) := by decide +kernel
theorem dL_law_703 : decode cL_law 703 = .ok (.ireturn, 1) := by decide +kernel
theorem dL_law_704 : decode cL_law 704 = .ok (.iload 5, 2) := by decide +kernel
theorem dL_law_706 : decode cL_law 706 = .ok (.ifCond .ne 15, 3) := by decide +kernel
theorem dL_law_709 : decode cL_law 709 = .ok (.aload_n 3, 1) := by decide +kernel
theorem dL_law_710 : decode cL_law 710 = .ok (.iconst 0, 1) := by decide +kernel
theorem dL_law_711 : decode cL_law 711 = .ok (.laload, 1) := by decide +kernel
theorem dL_law_712 : decode cL_law 712 = .ok (.iload 6, 2) := by decide +kernel
theorem dL_law_714 : decode cL_law 714 = .ok (.i2l, 1) := by decide +kernel
theorem dL_law_715 : decode cL_law 715 = .ok (.lcmp, 1) := by decide +kernel
theorem dL_law_716 : decode cL_law 716 = .ok (.ifCond .eq 5, 3) := by decide +kernel
theorem dL_law_719 : decode cL_law 719 = .ok (.iconst 0, 1) := by decide +kernel
theorem dL_law_720 : decode cL_law 720 = .ok (.ireturn, 1) := by decide +kernel
theorem dL_law_721 : decode cL_law 721 = .ok (.goto 799, 3) := by decide +kernel
theorem dL_law_724 : decode cL_law 724 = .ok (.aload_n 1, 1) := by decide +kernel
theorem dL_law_725 : decode cL_law 725 = .ok (.aload_n 0, 1) := by decide +kernel
theorem dL_law_726 : decode cL_law 726 = .ok (.iload 4, 2) := by decide +kernel
theorem dL_law_728 : decode cL_law 728 = .ok (.iconst 1, 1) := by decide +kernel
theorem dL_law_729 : decode cL_law 729 = .ok (.iadd, 1) := by decide +kernel
theorem dL_law_730 : decode cL_law 730 = .ok (.iaload, 1) := by decide +kernel
theorem dL_law_731 : decode cL_law 731 = .ok (.aload_n 3, 1) := by decide +kernel
theorem dL_law_732 : decode cL_law 732 = .ok (.invokestatic 120, 3) := by decide +kernel
theorem dL_law_735 : decode cL_law 735 = .ok (.istore 5, 2) := by decide +kernel
theorem dL_law_737 : decode cL_law 737 = .ok (.aload_n 2, 1) := by decide +kernel
theorem dL_law_738 : decode cL_law 738 = .ok (.aload_n 0, 1) := by decide +kernel
theorem dL_law_739 : decode cL_law 739 = .ok (.iload 4, 2) := by decide +kernel
theorem dL_law_741 : decode cL_law 741 = .ok (.iconst 1, 1) := by decide +kernel
theorem dL_law_742 : decode cL_law 742 = .ok (.iadd, 1) := by decide +kernel
theorem dL_law_743 : decode cL_law 743 = .ok (.iaload, 1) := by decide +kernel
theorem dL_law_744 : decode cL_law 744 = .ok (.invokevirtual 122, 3) := by decide +kernel
theorem dL_law_747 : decode cL_law 747 = .ok (.istore 6, 2) := by decide +kernel
theorem dL_law_749 : decode cL_law 749 = .ok (.aload_n 2, 1) := by decide +kernel
theorem dL_law_750 : decode cL_law 750 = .ok (.invokevirtual 90, 3) := by decide +kernel
theorem dL_law_753 : decode cL_law 753 = .ok (.iload 5, 2) := by decide +kernel
theorem dL_law_755 : decode cL_law 755 = .ok (.if_icmp .eq 5, 3) := by decide +kernel
theorem dL_law_758 : decode cL_law 758 = .ok (.iconst 0, 1) := by decide +kernel
theorem dL_law_759 : decode cL_law 759 = .ok (.ireturn, 1) := by decide +kernel
theorem dL_law_760 : decode cL_law 760 = .ok (.iload 5, 2) := by decide +kernel
theorem dL_law_762 : decode cL_law 762 = .ok (.ifCond .ne 15, 3) := by decide +kernel
theorem dL_law_765 : decode cL_law 765 = .ok (.aload_n 3, 1) := by decide +kernel
theorem dL_law_766 : decode cL_law 766 = .ok (.iconst 0, 1) := by decide +kernel
theorem dL_law_767 : decode cL_law 767 = .ok (.laload, 1) := by decide +kernel
theorem dL_law_768 : decode cL_law 768 = .ok (.iload 6, 2) := by decide +kernel
theorem dL_law_770 : decode cL_law 770 = .ok (.i2l, 1) := by decide +kernel
theorem dL_law_771 : decode cL_law 771 = .ok (.lcmp, 1) := by decide +kernel
theorem dL_law_772 : decode cL_law 772 = .ok (.ifCond .eq 5, 3) := by decide +kernel
theorem dL_law_775 : decode cL_law 775 = .ok (.iconst 0, 1) := by decide +kernel
theorem dL_law_776 : decode cL_law 776 = .ok (.ireturn, 1) := by decide +kernel
theorem dL_law_777 : decode cL_law 777 = .ok (.goto 743, 3) := by decide +kernel
theorem dL_law_780 : decode cL_law 780 = .ok (.aload_n 1, 1) := by decide +kernel
theorem dL_law_781 : decode cL_law 781 = .ok (.aload_n 0, 1) := by decide +kernel
theorem dL_law_782 : decode cL_law 782 = .ok (.iload 4, 2) := by decide +kernel
theorem dL_law_784 : decode cL_law 784 = .ok (.iconst 1, 1) := by decide +kernel
theorem dL_law_785 : decode cL_law 785 = .ok (.iadd, 1) := by decide +kernel
theorem dL_law_786 : decode cL_law 786 = .ok (.iaload, 1) := by decide +kernel
theorem dL_law_787 : decode cL_law 787 = .ok (.aload_n 3, 1) := by decide +kernel
theorem dL_law_788 : decode cL_law 788 = .ok (.invokestatic 123, 3) := by decide +kernel
theorem dL_law_791 : decode cL_law 791 = .ok (.istore 5, 2) := by decide +kernel
theorem dL_law_793 : decode cL_law 793 = .ok (.aload_n 2, 1) := by decide +kernel
theorem dL_law_794 : decode cL_law 794 = .ok (.aload_n 0, 1) := by decide +kernel
theorem dL_law_795 : decode cL_law 795 = .ok (.iload 4, 2) := by decide +kernel
theorem dL_law_797 : decode cL_law 797 = .ok (.iconst 1, 1) := by decide +kernel
theorem dL_law_798 : decode cL_law 798 = .ok (.iadd, 1) := by decide +kernel
theorem dL_law_799 : decode cL_law 799 = .ok (.iaload, 1) := by decide +kernel
theorem dL_law_800 : decode cL_law 800 = .ok (.invokevirtual 125, 3) := by decide +kernel
theorem dL_law_803 : decode cL_law 803 = .ok (.istore 6, 2) := by decide +kernel
theorem dL_law_805 : decode cL_law 805 = .ok (.aload_n 2, 1) := by decide +kernel
theorem dL_law_806 : decode cL_law 806 = .ok (.invokevirtual 90, 3) := by decide +kernel
theorem dL_law_809 : decode cL_law 809 = .ok (.iload 5, 2) := by decide +kernel
theorem dL_law_811 : decode cL_law 811 = .ok (.if_icmp .eq 5, 3) := by decide +kernel
theorem dL_law_814 : decode cL_law 814 = .ok (.iconst 0, 1) := by decide +kernel
theorem dL_law_815 : decode cL_law 815 = .ok (.ireturn, 1) := by decide +kernel
theorem dL_law_816 : decode cL_law 816 = .ok (.iload 5, 2) := by decide +kernel
theorem dL_law_818 : decode cL_law 818 = .ok (.ifCond .ne 15, 3) := by decide +kernel
theorem dL_law_821 : decode cL_law 821 = .ok (.aload_n 3, 1) := by decide +kernel
theorem dL_law_822 : decode cL_law 822 = .ok (.iconst 0, 1) := by decide +kernel
theorem dL_law_823 : decode cL_law 823 = .ok (.laload, 1) := by decide +kernel
theorem dL_law_824 : decode cL_law 824 = .ok (.iload 6, 2) := by decide +kernel
theorem dL_law_826 : decode cL_law 826 = .ok (.i2l, 1) := by decide +kernel
theorem dL_law_827 : decode cL_law 827 = .ok (.lcmp, 1) := by decide +kernel
theorem dL_law_828 : decode cL_law 828 = .ok (.ifCond .eq 5, 3) := by decide +kernel
theorem dL_law_831 : decode cL_law 831 = .ok (.iconst 0, 1) := by decide +kernel
theorem dL_law_832 : decode cL_law 832 = .ok (.ireturn, 1) := by decide +kernel
theorem dL_law_833 : decode cL_law 833 = .ok (.goto 687, 3) := by decide +kernel
theorem dL_law_836 : decode cL_law 836 = .ok (.aload_n 1, 1) := by decide +kernel
theorem dL_law_837 : decode cL_law 837 = .ok (.aload_n 0, 1) := by decide +kernel
theorem dL_law_838 : decode cL_law 838 = .ok (.iload 4, 2) := by decide +kernel
theorem dL_law_840 : decode cL_law 840 = .ok (.iconst 1, 1) := by decide +kernel
theorem dL_law_841 : decode cL_law 841 = .ok (.iadd, 1) := by decide +kernel
theorem dL_law_842 : decode cL_law 842 = .ok (.iaload, 1) := by decide +kernel
theorem dL_law_843 : decode cL_law 843 = .ok (.aload_n 3, 1) := by decide +kernel
theorem dL_law_844 : decode cL_law 844 = .ok (.invokestatic 126, 3) := by decide +kernel
theorem dL_law_847 : decode cL_law 847 = .ok (.istore 5, 2) := by decide +kernel
theorem dL_law_849 : decode cL_law 849 = .ok (.aload_n 2, 1) := by decide +kernel
theorem dL_law_850 : decode cL_law 850 = .ok (.aload_n 0, 1) := by decide +kernel
theorem dL_law_851 : decode cL_law 851 = .ok (.iload 4, 2) := by decide +kernel
theorem dL_law_853 : decode cL_law 853 = .ok (.iconst 1, 1) := by decide +kernel
theorem dL_law_854 : decode cL_law 854 = .ok (.iadd, 1) := by decide +kernel
theorem dL_law_855 : decode cL_law 855 = .ok (.iaload, 1) := by decide +kernel
theorem dL_law_856 : decode cL_law 856 = .ok (.invokevirtual 128, 3) := by decide +kernel
theorem dL_law_859 : decode cL_law 859 = .ok (.istore 6, 2) := by decide +kernel
theorem dL_law_861 : decode cL_law 861 = .ok (.aload_n 2, 1) := by decide +kernel
theorem dL_law_862 : decode cL_law 862 = .ok (.invokevirtual 90, 3) := by decide +kernel
theorem dL_law_865 : decode cL_law 865 = .ok (.iload 5, 2) := by decide +kernel
theorem dL_law_867 : decode cL_law 867 = .ok (.if_icmp .eq 5, 3) := by decide +kernel
theorem dL_law_870 : decode cL_law 870 = .ok (.iconst 0, 1) := by decide +kernel
theorem dL_law_871 : decode cL_law 871 = .ok (.ireturn, 1) := by decide +kernel
theorem dL_law_872 : decode cL_law 872 = .ok (.iload 5, 2) := by decide +kernel
theorem dL_law_874 : decode cL_law 874 = .ok (.ifCond .ne 15, 3) := by decide +kernel
theorem dL_law_877 : decode cL_law 877 = .ok (.aload_n 3, 1) := by decide +kernel
theorem dL_law_878 : decode cL_law 878 = .ok (.iconst 0, 1) := by decide +kernel
theorem dL_law_879 : decode cL_law 879 = .ok (.laload, 1) := by decide +kernel
theorem dL_law_880 : decode cL_law 880 = .ok (.iload 6, 2) := by decide +kernel
theorem dL_law_882 : decode cL_law 882 = .ok (.i2l, 1) := by decide +kernel
theorem dL_law_883 : decode cL_law 883 = .ok (.lcmp, 1) := by decide +kernel
theorem dL_law_884 : decode cL_law 884 = .ok (.ifCond .eq 5, 3) := by decide +kernel
theorem dL_law_887 : decode cL_law 887 = .ok (.iconst 0, 1) := by decide +kernel
theorem dL_law_888 : decode cL_law 888 = .ok (.ireturn, 1) := by decide +kernel
theorem dL_law_889 : decode cL_law 889 = .ok (.goto 631, 3) := by decide +kernel
theorem dL_law_892 : decode cL_law 892 = .ok (.aload_n 1, 1) := by decide +kernel
theorem dL_law_893 : decode cL_law 893 = .ok (.aload_n 0, 1) := by decide +kernel
theorem dL_law_894 : decode cL_law 894 = .ok (.iload 4, 2) := by decide +kernel
theorem dL_law_896 : decode cL_law 896 = .ok (.iconst 1, 1) := by decide +kernel
theorem dL_law_897 : decode cL_law 897 = .ok (.iadd, 1) := by decide +kernel
theorem dL_law_898 : decode cL_law 898 = .ok (.iaload, 1) := by decide +kernel
theorem dL_law_899 : decode cL_law 899 = .ok (.aload_n 3, 1) := by decide +kernel
theorem dL_law_900 : decode cL_law 900 = .ok (.invokestatic 129, 3) := by decide +kernel
theorem dL_law_903 : decode cL_law 903 = .ok (.istore 5, 2) := by decide +kernel
theorem dL_law_905 : decode cL_law 905 = .ok (.aload_n 2, 1) := by decide +kernel
theorem dL_law_906 : decode cL_law 906 = .ok (.aload_n 0, 1) := by decide +kernel
theorem dL_law_907 : decode cL_law 907 = .ok (.iload 4, 2) := by decide +kernel
theorem dL_law_909 : decode cL_law 909 = .ok (.iconst 1, 1) := by decide +kernel
theorem dL_law_910 : decode cL_law 910 = .ok (.iadd, 1) := by decide +kernel
theorem dL_law_911 : decode cL_law 911 = .ok (.iaload, 1) := by decide +kernel
theorem dL_law_912 : decode cL_law 912 = .ok (.invokevirtual 131, 3) := by decide +kernel
theorem dL_law_915 : decode cL_law 915 = .ok (.istore 6, 2) := by decide +kernel
theorem dL_law_917 : decode cL_law 917 = .ok (.aload_n 2, 1) := by decide +kernel
theorem dL_law_918 : decode cL_law 918 = .ok (.invokevirtual 90, 3) := by decide +kernel
theorem dL_law_921 : decode cL_law 921 = .ok (.iload 5, 2) := by decide +kernel
theorem dL_law_923 : decode cL_law 923 = .ok (.if_icmp .eq 5, 3) := by decide +kernel
theorem dL_law_926 : decode cL_law 926 = .ok (.iconst 0, 1) := by decide +kernel
theorem dL_law_927 : decode cL_law 927 = .ok (.ireturn, 1) := by decide +kernel
theorem dL_law_928 : decode cL_law 928 = .ok (.iload 5, 2) := by decide +kernel
theorem dL_law_930 : decode cL_law 930 = .ok (.ifCond .ne 15, 3) := by decide +kernel
theorem dL_law_933 : decode cL_law 933 = .ok (.aload_n 3, 1) := by decide +kernel
theorem dL_law_934 : decode cL_law 934 = .ok (.iconst 0, 1) := by decide +kernel
theorem dL_law_935 : decode cL_law 935 = .ok (.laload, 1) := by decide +kernel
theorem dL_law_936 : decode cL_law 936 = .ok (.iload 6, 2) := by decide +kernel
theorem dL_law_938 : decode cL_law 938 = .ok (.i2l, 1) := by decide +kernel
theorem dL_law_939 : decode cL_law 939 = .ok (.lcmp, 1) := by decide +kernel
theorem dL_law_940 : decode cL_law 940 = .ok (.ifCond .eq 5, 3) := by decide +kernel
theorem dL_law_943 : decode cL_law 943 = .ok (.iconst 0, 1) := by decide +kernel
theorem dL_law_944 : decode cL_law 944 = .ok (.ireturn, 1) := by decide +kernel
theorem dL_law_945 : decode cL_law 945 = .ok (.goto 575, 3) := by decide +kernel
theorem dL_law_948 : decode cL_law 948 = .ok (.aload_n 1, 1) := by decide +kernel
theorem dL_law_949 : decode cL_law 949 = .ok (.aload_n 0, 1) := by decide +kernel
theorem dL_law_950 : decode cL_law 950 = .ok (.iload 4, 2) := by decide +kernel
theorem dL_law_952 : decode cL_law 952 = .ok (.iconst 1, 1) := by decide +kernel
theorem dL_law_953 : decode cL_law 953 = .ok (.iadd, 1) := by decide +kernel
theorem dL_law_954 : decode cL_law 954 = .ok (.iaload, 1) := by decide +kernel
theorem dL_law_955 : decode cL_law 955 = .ok (.aload_n 0, 1) := by decide +kernel
theorem dL_law_956 : decode cL_law 956 = .ok (.iload 4, 2) := by decide +kernel
theorem dL_law_958 : decode cL_law 958 = .ok (.iconst 2, 1) := by decide +kernel
theorem dL_law_959 : decode cL_law 959 = .ok (.iadd, 1) := by decide +kernel
theorem dL_law_960 : decode cL_law 960 = .ok (.iaload, 1) := by decide +kernel
theorem dL_law_961 : decode cL_law 961 = .ok (.aload_n 3, 1) := by decide +kernel
theorem dL_law_962 : decode cL_law 962 = .ok (.invokestatic 132, 3) := by decide +kernel
theorem dL_law_965 : decode cL_law 965 = .ok (.istore 5, 2) := by decide +kernel
theorem dL_law_967 : decode cL_law 967 = .ok (.aload_n 2, 1) := by decide +kernel
theorem dL_law_968 : decode cL_law 968 = .ok (.aload_n 0, 1) := by decide +kernel
theorem dL_law_969 : decode cL_law 969 = .ok (.iload 4, 2) := by decide +kernel
theorem dL_law_971 : decode cL_law 971 = .ok (.iconst 1, 1) := by decide +kernel
theorem dL_law_972 : decode cL_law 972 = .ok (.iadd, 1) := by decide +kernel
theorem dL_law_973 : decode cL_law 973 = .ok (.iaload, 1) := by decide +kernel
theorem dL_law_974 : decode cL_law 974 = .ok (.aload_n 0, 1) := by decide +kernel
theorem dL_law_975 : decode cL_law 975 = .ok (.iload 4, 2) := by decide +kernel
theorem dL_law_977 : decode cL_law 977 = .ok (.iconst 2, 1) := by decide +kernel
theorem dL_law_978 : decode cL_law 978 = .ok (.iadd, 1) := by decide +kernel
theorem dL_law_979 : decode cL_law 979 = .ok (.iaload, 1) := by decide +kernel
theorem dL_law_980 : decode cL_law 980 = .ok (.invokevirtual 134, 3) := by decide +kernel
theorem dL_law_983 : decode cL_law 983 = .ok (.istore 6, 2) := by decide +kernel
theorem dL_law_985 : decode cL_law 985 = .ok (.aload_n 2, 1) := by decide +kernel
theorem dL_law_986 : decode cL_law 986 = .ok (.invokevirtual 90, 3) := by decide +kernel
theorem dL_law_989 : decode cL_law 989 = .ok (.iload 5, 2) := by decide +kernel
theorem dL_law_991 : decode cL_law 991 = .ok (.if_icmp .eq 5, 3) := by decide +kernel
theorem dL_law_994 : decode cL_law 994 = .ok (.iconst 0, 1) := by decide +kernel
theorem dL_law_995 : decode cL_law 995 = .ok (.ireturn, 1) := by decide +kernel
theorem dL_law_996 : decode cL_law 996 = .ok (.iload 5, 2) := by decide +kernel
theorem dL_law_998 : decode cL_law 998 = .ok (.ifCond .ne 15, 3) := by decide +kernel
theorem dL_law_1001 : decode cL_law 1001 = .ok (.aload_n 3, 1) := by decide +kernel
theorem dL_law_1002 : decode cL_law 1002 = .ok (.iconst 0, 1) := by decide +kernel
theorem dL_law_1003 : decode cL_law 1003 = .ok (.laload, 1) := by decide +kernel
theorem dL_law_1004 : decode cL_law 1004 = .ok (.iload 6, 2) := by decide +kernel
theorem dL_law_1006 : decode cL_law 1006 = .ok (.i2l, 1) := by decide +kernel
theorem dL_law_1007 : decode cL_law 1007 = .ok (.lcmp, 1) := by decide +kernel
theorem dL_law_1008 : decode cL_law 1008 = .ok (.ifCond .eq 5, 3) := by decide +kernel
theorem dL_law_1011 : decode cL_law 1011 = .ok (.iconst 0, 1) := by decide +kernel
theorem dL_law_1012 : decode cL_law 1012 = .ok (.ireturn, 1) := by decide +kernel
theorem dL_law_1013 : decode cL_law 1013 = .ok (.goto 507, 3) := by decide +kernel
theorem dL_law_1016 : decode cL_law 1016 = .ok (.aload_n 1, 1) := by decide +kernel
theorem dL_law_1017 : decode cL_law 1017 = .ok (.aload_n 0, 1) := by decide +kernel
theorem dL_law_1018 : decode cL_law 1018 = .ok (.iload 4, 2) := by decide +kernel
theorem dL_law_1020 : decode cL_law 1020 = .ok (.iconst 1, 1) := by decide +kernel
theorem dL_law_1021 : decode cL_law 1021 = .ok (.iadd, 1) := by decide +kernel
theorem dL_law_1022 : decode cL_law 1022 = .ok (.iaload, 1) := by decide +kernel
theorem dL_law_1023 : decode cL_law 1023 = .ok (.aload_n 0, 1) := by decide +kernel
theorem dL_law_1024 : decode cL_law 1024 = .ok (.iload 4, 2) := by decide +kernel
theorem dL_law_1026 : decode cL_law 1026 = .ok (.iconst 2, 1) := by decide +kernel
theorem dL_law_1027 : decode cL_law 1027 = .ok (.iadd, 1) := by decide +kernel
theorem dL_law_1028 : decode cL_law 1028 = .ok (.iaload, 1) := by decide +kernel
theorem dL_law_1029 : decode cL_law 1029 = .ok (.aload_n 3, 1) := by decide +kernel
theorem dL_law_1030 : decode cL_law 1030 = .ok (.invokestatic 135, 3) := by decide +kernel
theorem dL_law_1033 : decode cL_law 1033 = .ok (.istore 5, 2) := by decide +kernel
theorem dL_law_1035 : decode cL_law 1035 = .ok (.aload_n 2, 1) := by decide +kernel
theorem dL_law_1036 : decode cL_law 1036 = .ok (.aload_n 0, 1) := by decide +kernel
theorem dL_law_1037 : decode cL_law 1037 = .ok (.iload 4, 2) := by decide +kernel
theorem dL_law_1039 : decode cL_law 1039 = .ok (.iconst 1, 1) := by decide +kernel
theorem dL_law_1040 : decode cL_law 1040 = .ok (.iadd, 1) := by decide +kernel
theorem dL_law_1041 : decode cL_law 1041 = .ok (.iaload, 1) := by decide +kernel
theorem dL_law_1042 : decode cL_law 1042 = .ok (.aload_n 0, 1) := by decide +kernel
theorem dL_law_1043 : decode cL_law 1043 = .ok (.iload 4, 2) := by decide +kernel
theorem dL_law_1045 : decode cL_law 1045 = .ok (.iconst 2, 1) := by decide +kernel
theorem dL_law_1046 : decode cL_law 1046 = .ok (.iadd, 1) := by decide +kernel
theorem dL_law_1047 : decode cL_law 1047 = .ok (.iaload, 1) := by decide +kernel
theorem dL_law_1048 : decode cL_law 1048 = .ok (.invokevirtual 137, 3) := by decide +kernel
theorem dL_law_1051 : decode cL_law 1051 = .ok (.istore 6, 2) := by decide +kernel
theorem dL_law_1053 : decode cL_law 1053 = .ok (.aload_n 2, 1) := by decide +kernel
theorem dL_law_1054 : decode cL_law 1054 = .ok (.invokevirtual 90, 3) := by decide +kernel
theorem dL_law_1057 : decode cL_law 1057 = .ok (.iload 5, 2) := by decide +kernel
theorem dL_law_1059 : decode cL_law 1059 = .ok (.if_icmp .eq 5, 3) := by decide +kernel
theorem dL_law_1062 : decode cL_law 1062 = .ok (.iconst 0, 1) := by decide +kernel
theorem dL_law_1063 : decode cL_law 1063 = .ok (.ireturn, 1) := by decide +kernel
theorem dL_law_1064 : decode cL_law 1064 = .ok (.iload 5, 2) := by decide +kernel
theorem dL_law_1066 : decode cL_law 1066 = .ok (.ifCond .ne 15, 3) := by decide +kernel
theorem dL_law_1069 : decode cL_law 1069 = .ok (.aload_n 3, 1) := by decide +kernel
theorem dL_law_1070 : decode cL_law 1070 = .ok (.iconst 0, 1) := by decide +kernel
theorem dL_law_1071 : decode cL_law 1071 = .ok (.laload, 1) := by decide +kernel
theorem dL_law_1072 : decode cL_law 1072 = .ok (.iload 6, 2) := by decide +kernel
theorem dL_law_1074 : decode cL_law 1074 = .ok (.i2l, 1) := by decide +kernel
theorem dL_law_1075 : decode cL_law 1075 = .ok (.lcmp, 1) := by decide +kernel
theorem dL_law_1076 : decode cL_law 1076 = .ok (.ifCond .eq 5, 3) := by decide +kernel
theorem dL_law_1079 : decode cL_law 1079 = .ok (.iconst 0, 1) := by decide +kernel
theorem dL_law_1080 : decode cL_law 1080 = .ok (.ireturn, 1) := by decide +kernel
theorem dL_law_1081 : decode cL_law 1081 = .ok (.goto 439, 3) := by decide +kernel
theorem dL_law_1084 : decode cL_law 1084 = .ok (.aload_n 1, 1) := by decide +kernel
theorem dL_law_1085 : decode cL_law 1085 = .ok (.aload_n 0, 1) := by decide +kernel
theorem dL_law_1086 : decode cL_law 1086 = .ok (.iload 4, 2) := by decide +kernel
theorem dL_law_1088 : decode cL_law 1088 = .ok (.iconst 1, 1) := by decide +kernel
theorem dL_law_1089 : decode cL_law 1089 = .ok (.iadd, 1) := by decide +kernel
theorem dL_law_1090 : decode cL_law 1090 = .ok (.iaload, 1) := by decide +kernel
theorem dL_law_1091 : decode cL_law 1091 = .ok (.aload_n 0, 1) := by decide +kernel
theorem dL_law_1092 : decode cL_law 1092 = .ok (.iload 4, 2) := by decide +kernel
theorem dL_law_1094 : decode cL_law 1094 = .ok (.iconst 2, 1) := by decide +kernel
theorem dL_law_1095 : decode cL_law 1095 = .ok (.iadd, 1) := by decide +kernel
theorem dL_law_1096 : decode cL_law 1096 = .ok (.iaload, 1) := by decide +kernel
theorem dL_law_1097 : decode cL_law 1097 = .ok (.aload_n 0, 1) := by decide +kernel
theorem dL_law_1098 : decode cL_law 1098 = .ok (.iload 4, 2) := by decide +kernel
theorem dL_law_1100 : decode cL_law 1100 = .ok (.iconst 3, 1) := by decide +kernel
theorem dL_law_1101 : decode cL_law 1101 = .ok (.iadd, 1) := by decide +kernel
theorem dL_law_1102 : decode cL_law 1102 = .ok (.iaload, 1) := by decide +kernel
theorem dL_law_1103 : decode cL_law 1103 = .ok (.aload_n 0, 1) := by decide +kernel
theorem dL_law_1104 : decode cL_law 1104 = .ok (.iload 4, 2) := by decide +kernel
theorem dL_law_1106 : decode cL_law 1106 = .ok (.iconst 4, 1) := by decide +kernel
theorem dL_law_1107 : decode cL_law 1107 = .ok (.iadd, 1) := by decide +kernel
theorem dL_law_1108 : decode cL_law 1108 = .ok (.iaload, 1) := by decide +kernel
theorem dL_law_1109 : decode cL_law 1109 = .ok (.aload_n 3, 1) := by decide +kernel
theorem dL_law_1110 : decode cL_law 1110 = .ok (.invokestatic 138, 3) := by decide +kernel
theorem dL_law_1113 : decode cL_law 1113 = .ok (.istore 5, 2) := by decide +kernel
theorem dL_law_1115 : decode cL_law 1115 = .ok (.aload_n 2, 1) := by decide +kernel
theorem dL_law_1116 : decode cL_law 1116 = .ok (.aload_n 0, 1) := by decide +kernel
theorem dL_law_1117 : decode cL_law 1117 = .ok (.iload 4, 2) := by decide +kernel
theorem dL_law_1119 : decode cL_law 1119 = .ok (.iconst 1, 1) := by decide +kernel
theorem dL_law_1120 : decode cL_law 1120 = .ok (.iadd, 1) := by decide +kernel
theorem dL_law_1121 : decode cL_law 1121 = .ok (.iaload, 1) := by decide +kernel
theorem dL_law_1122 : decode cL_law 1122 = .ok (.aload_n 0, 1) := by decide +kernel
theorem dL_law_1123 : decode cL_law 1123 = .ok (.iload 4, 2) := by decide +kernel
theorem dL_law_1125 : decode cL_law 1125 = .ok (.iconst 2, 1) := by decide +kernel
theorem dL_law_1126 : decode cL_law 1126 = .ok (.iadd, 1) := by decide +kernel
theorem dL_law_1127 : decode cL_law 1127 = .ok (.iaload, 1) := by decide +kernel
theorem dL_law_1128 : decode cL_law 1128 = .ok (.aload_n 0, 1) := by decide +kernel
theorem dL_law_1129 : decode cL_law 1129 = .ok (.iload 4, 2) := by decide +kernel
theorem dL_law_1131 : decode cL_law 1131 = .ok (.iconst 3, 1) := by decide +kernel
theorem dL_law_1132 : decode cL_law 1132 = .ok (.iadd, 1) := by decide +kernel
theorem dL_law_1133 : decode cL_law 1133 = .ok (.iaload, 1) := by decide +kernel
theorem dL_law_1134 : decode cL_law 1134 = .ok (.aload_n 0, 1) := by decide +kernel
theorem dL_law_1135 : decode cL_law 1135 = .ok (.iload 4, 2) := by decide +kernel
theorem dL_law_1137 : decode cL_law 1137 = .ok (.iconst 4, 1) := by decide +kernel
theorem dL_law_1138 : decode cL_law 1138 = .ok (.iadd, 1) := by decide +kernel
theorem dL_law_1139 : decode cL_law 1139 = .ok (.iaload, 1) := by decide +kernel
theorem dL_law_1140 : decode cL_law 1140 = .ok (.invokevirtual 141, 3) := by decide +kernel
theorem dL_law_1143 : decode cL_law 1143 = .ok (.istore 6, 2) := by decide +kernel
theorem dL_law_1145 : decode cL_law 1145 = .ok (.aload_n 2, 1) := by decide +kernel
theorem dL_law_1146 : decode cL_law 1146 = .ok (.invokevirtual 90, 3) := by decide +kernel
theorem dL_law_1149 : decode cL_law 1149 = .ok (.iload 5, 2) := by decide +kernel
theorem dL_law_1151 : decode cL_law 1151 = .ok (.if_icmp .eq 5, 3) := by decide +kernel
theorem dL_law_1154 : decode cL_law 1154 = .ok (.iconst 0, 1) := by decide +kernel
theorem dL_law_1155 : decode cL_law 1155 = .ok (.ireturn, 1) := by decide +kernel
theorem dL_law_1156 : decode cL_law 1156 = .ok (.iload 5, 2) := by decide +kernel
theorem dL_law_1158 : decode cL_law 1158 = .ok (.ifCond .ne 15, 3) := by decide +kernel
theorem dL_law_1161 : decode cL_law 1161 = .ok (.aload_n 3, 1) := by decide +kernel
theorem dL_law_1162 : decode cL_law 1162 = .ok (.iconst 0, 1) := by decide +kernel
theorem dL_law_1163 : decode cL_law 1163 = .ok (.laload, 1) := by decide +kernel
theorem dL_law_1164 : decode cL_law 1164 = .ok (.iload 6, 2) := by decide +kernel
theorem dL_law_1166 : decode cL_law 1166 = .ok (.i2l, 1) := by decide +kernel
theorem dL_law_1167 : decode cL_law 1167 = .ok (.lcmp, 1) := by decide +kernel
theorem dL_law_1168 : decode cL_law 1168 = .ok (.ifCond .eq 5, 3) := by decide +kernel
theorem dL_law_1171 : decode cL_law 1171 = .ok (.iconst 0, 1) := by decide +kernel
theorem dL_law_1172 : decode cL_law 1172 = .ok (.ireturn, 1) := by decide +kernel
theorem dL_law_1173 : decode cL_law 1173 = .ok (.goto 347, 3) := by decide +kernel
theorem dL_law_1176 : decode cL_law 1176 = .ok (.aload_n 1, 1) := by decide +kernel
theorem dL_law_1177 : decode cL_law 1177 = .ok (.aload_n 0, 1) := by decide +kernel
theorem dL_law_1178 : decode cL_law 1178 = .ok (.iload 4, 2) := by decide +kernel
theorem dL_law_1180 : decode cL_law 1180 = .ok (.iconst 1, 1) := by decide +kernel
theorem dL_law_1181 : decode cL_law 1181 = .ok (.iadd, 1) := by decide +kernel
theorem dL_law_1182 : decode cL_law 1182 = .ok (.iaload, 1) := by decide +kernel
theorem dL_law_1183 : decode cL_law 1183 = .ok (.aload_n 0, 1) := by decide +kernel
theorem dL_law_1184 : decode cL_law 1184 = .ok (.iload 4, 2) := by decide +kernel
theorem dL_law_1186 : decode cL_law 1186 = .ok (.iconst 2, 1) := by decide +kernel
theorem dL_law_1187 : decode cL_law 1187 = .ok (.iadd, 1) := by decide +kernel
theorem dL_law_1188 : decode cL_law 1188 = .ok (.iaload, 1) := by decide +kernel
theorem dL_law_1189 : decode cL_law 1189 = .ok (.aload_n 3, 1) := by decide +kernel
theorem dL_law_1190 : decode cL_law 1190 = .ok (.invokestatic 142, 3) := by decide +kernel
theorem dL_law_1193 : decode cL_law 1193 = .ok (.istore 5, 2) := by decide +kernel
theorem dL_law_1195 : decode cL_law 1195 = .ok (.aload_n 2, 1) := by decide +kernel
theorem dL_law_1196 : decode cL_law 1196 = .ok (.aload_n 0, 1) := by decide +kernel
theorem dL_law_1197 : decode cL_law 1197 = .ok (.iload 4, 2) := by decide +kernel
theorem dL_law_1199 : decode cL_law 1199 = .ok (.iconst 1, 1) := by decide +kernel
theorem dL_law_1200 : decode cL_law 1200 = .ok (.iadd, 1) := by decide +kernel
theorem dL_law_1201 : decode cL_law 1201 = .ok (.iaload, 1) := by decide +kernel
theorem dL_law_1202 : decode cL_law 1202 = .ok (.aload_n 0, 1) := by decide +kernel
theorem dL_law_1203 : decode cL_law 1203 = .ok (.iload 4, 2) := by decide +kernel
theorem dL_law_1205 : decode cL_law 1205 = .ok (.iconst 2, 1) := by decide +kernel
theorem dL_law_1206 : decode cL_law 1206 = .ok (.iadd, 1) := by decide +kernel
theorem dL_law_1207 : decode cL_law 1207 = .ok (.iaload, 1) := by decide +kernel
theorem dL_law_1208 : decode cL_law 1208 = .ok (.invokevirtual 144, 3) := by decide +kernel
theorem dL_law_1211 : decode cL_law 1211 = .ok (.istore 6, 2) := by decide +kernel
theorem dL_law_1213 : decode cL_law 1213 = .ok (.aload_n 2, 1) := by decide +kernel
theorem dL_law_1214 : decode cL_law 1214 = .ok (.invokevirtual 90, 3) := by decide +kernel
theorem dL_law_1217 : decode cL_law 1217 = .ok (.iload 5, 2) := by decide +kernel
theorem dL_law_1219 : decode cL_law 1219 = .ok (.if_icmp .eq 5, 3) := by decide +kernel
theorem dL_law_1222 : decode cL_law 1222 = .ok (.iconst 0, 1) := by decide +kernel
theorem dL_law_1223 : decode cL_law 1223 = .ok (.ireturn, 1) := by decide +kernel
theorem dL_law_1224 : decode cL_law 1224 = .ok (.iload 5, 2) := by decide +kernel
theorem dL_law_1226 : decode cL_law 1226 = .ok (.ifCond .ne 15, 3) := by decide +kernel
theorem dL_law_1229 : decode cL_law 1229 = .ok (.aload_n 3, 1) := by decide +kernel
theorem dL_law_1230 : decode cL_law 1230 = .ok (.iconst 0, 1) := by decide +kernel
theorem dL_law_1231 : decode cL_law 1231 = .ok (.laload, 1) := by decide +kernel
theorem dL_law_1232 : decode cL_law 1232 = .ok (.iload 6, 2) := by decide +kernel
theorem dL_law_1234 : decode cL_law 1234 = .ok (.i2l, 1) := by decide +kernel
theorem dL_law_1235 : decode cL_law 1235 = .ok (.lcmp, 1) := by decide +kernel
theorem dL_law_1236 : decode cL_law 1236 = .ok (.ifCond .eq 5, 3) := by decide +kernel
theorem dL_law_1239 : decode cL_law 1239 = .ok (.iconst 0, 1) := by decide +kernel
theorem dL_law_1240 : decode cL_law 1240 = .ok (.ireturn, 1) := by decide +kernel
theorem dL_law_1241 : decode cL_law 1241 = .ok (.goto 279, 3) := by decide +kernel
theorem dL_law_1244 : decode cL_law 1244 = .ok (.aload_n 1, 1) := by decide +kernel
theorem dL_law_1245 : decode cL_law 1245 = .ok (.aload_n 0, 1) := by decide +kernel
theorem dL_law_1246 : decode cL_law 1246 = .ok (.iload 4, 2) := by decide +kernel
theorem dL_law_1248 : decode cL_law 1248 = .ok (.iconst 1, 1) := by decide +kernel
theorem dL_law_1249 : decode cL_law 1249 = .ok (.iadd, 1) := by decide +kernel
theorem dL_law_1250 : decode cL_law 1250 = .ok (.iaload, 1) := by decide +kernel
theorem dL_law_1251 : decode cL_law 1251 = .ok (.aload_n 3, 1) := by decide +kernel
theorem dL_law_1252 : decode cL_law 1252 = .ok (.invokestatic 145, 3) := by decide +kernel
theorem dL_law_1255 : decode cL_law 1255 = .ok (.istore 5, 2) := by decide +kernel
theorem dL_law_1257 : decode cL_law 1257 = .ok (.aload_n 2, 1) := by decide +kernel
theorem dL_law_1258 : decode cL_law 1258 = .ok (.aload_n 0, 1) := by decide +kernel
theorem dL_law_1259 : decode cL_law 1259 = .ok (.iload 4, 2) := by decide +kernel
theorem dL_law_1261 : decode cL_law 1261 = .ok (.iconst 1, 1) := by decide +kernel
theorem dL_law_1262 : decode cL_law 1262 = .ok (.iadd, 1) := by decide +kernel
theorem dL_law_1263 : decode cL_law 1263 = .ok (.iaload, 1) := by decide +kernel
theorem dL_law_1264 : decode cL_law 1264 = .ok (.invokevirtual 147, 3) := by decide +kernel
theorem dL_law_1267 : decode cL_law 1267 = .ok (.istore 6, 2) := by decide +kernel
theorem dL_law_1269 : decode cL_law 1269 = .ok (.aload_n 2, 1) := by decide +kernel
theorem dL_law_1270 : decode cL_law 1270 = .ok (.invokevirtual 90, 3) := by decide +kernel
theorem dL_law_1273 : decode cL_law 1273 = .ok (.iload 5, 2) := by decide +kernel
theorem dL_law_1275 : decode cL_law 1275 = .ok (.if_icmp .eq 5, 3) := by decide +kernel
theorem dL_law_1278 : decode cL_law 1278 = .ok (.iconst 0, 1) := by decide +kernel
theorem dL_law_1279 : decode cL_law 1279 = .ok (.ireturn, 1) := by decide +kernel
theorem dL_law_1280 : decode cL_law 1280 = .ok (.iload 5, 2) := by decide +kernel
theorem dL_law_1282 : decode cL_law 1282 = .ok (.ifCond .ne 15, 3) := by decide +kernel
theorem dL_law_1285 : decode cL_law 1285 = .ok (.aload_n 3, 1) := by decide +kernel
theorem dL_law_1286 : decode cL_law 1286 = .ok (.iconst 0, 1) := by decide +kernel
theorem dL_law_1287 : decode cL_law 1287 = .ok (.laload, 1) := by decide +kernel
theorem dL_law_1288 : decode cL_law 1288 = .ok (.iload 6, 2) := by decide +kernel
theorem dL_law_1290 : decode cL_law 1290 = .ok (.i2l, 1) := by decide +kernel
theorem dL_law_1291 : decode cL_law 1291 = .ok (.lcmp, 1) := by decide +kernel
theorem dL_law_1292 : decode cL_law 1292 = .ok (.ifCond .eq 5, 3) := by decide +kernel
theorem dL_law_1295 : decode cL_law 1295 = .ok (.iconst 0, 1) := by decide +kernel
theorem dL_law_1296 : decode cL_law 1296 = .ok (.ireturn, 1) := by decide +kernel
theorem dL_law_1297 : decode cL_law 1297 = .ok (.goto 223, 3) := by decide +kernel
theorem dL_law_1300 : decode cL_law 1300 = .ok (.aload_n 1, 1) := by decide +kernel
theorem dL_law_1301 : decode cL_law 1301 = .ok (.invokevirtual 148, 3) := by decide +kernel
theorem dL_law_1304 : decode cL_law 1304 = .ok (.aload_n 2, 1) := by decide +kernel
theorem dL_law_1305 : decode cL_law 1305 = .ok (.invokevirtual 151, 3) := by decide +kernel
theorem dL_law_1308 : decode cL_law 1308 = .ok (.if_icmp .eq 212, 3) := by decide +kernel
theorem dL_law_1311 : decode cL_law 1311 = .ok (.iconst 0, 1) := by decide +kernel
theorem dL_law_1312 : decode cL_law 1312 = .ok (.ireturn, 1) := by decide +kernel
theorem dL_law_1313 : decode cL_law 1313 = .ok (.aload_n 1, 1) := by decide +kernel
theorem dL_law_1314 : decode cL_law 1314 = .ok (.invokevirtual 152, 3) := by decide +kernel
theorem dL_law_1317 : decode cL_law 1317 = .ok (.aload_n 2, 1) := by decide +kernel
theorem dL_law_1318 : decode cL_law 1318 = .ok (.invokevirtual 155, 3) := by decide +kernel
theorem dL_law_1321 : decode cL_law 1321 = .ok (.if_icmp .eq 199, 3) := by decide +kernel
theorem dL_law_1324 : decode cL_law 1324 = .ok (.iconst 0, 1) := by decide +kernel
theorem dL_law_1325 : decode cL_law 1325 = .ok (.ireturn, 1) := by decide +kernel
theorem dL_law_1326 : decode cL_law 1326 = .ok (.aload_n 1, 1) := by decide +kernel
theorem dL_law_1327 : decode cL_law 1327 = .ok (.invokevirtual 156, 3) := by decide +kernel
theorem dL_law_1330 : decode cL_law 1330 = .ok (.aload_n 2, 1) := by decide +kernel
theorem dL_law_1331 : decode cL_law 1331 = .ok (.invokevirtual 159, 3) := by decide +kernel
theorem dL_law_1334 : decode cL_law 1334 = .ok (.if_icmp .eq 186, 3) := by decide +kernel
theorem dL_law_1337 : decode cL_law 1337 = .ok (.iconst 0, 1) := by decide +kernel
theorem dL_law_1338 : decode cL_law 1338 = .ok (.ireturn, 1) := by decide +kernel
theorem dL_law_1339 : decode cL_law 1339 = .ok (.aload_n 1, 1) := by decide +kernel
theorem dL_law_1340 : decode cL_law 1340 = .ok (.invokevirtual 160, 3) := by decide +kernel
theorem dL_law_1343 : decode cL_law 1343 = .ok (.aload_n 2, 1) := by decide +kernel
theorem dL_law_1344 : decode cL_law 1344 = .ok (.invokevirtual 163, 3) := by decide +kernel
theorem dL_law_1347 : decode cL_law 1347 = .ok (.if_icmp .eq 173, 3) := by decide +kernel
theorem dL_law_1350 : decode cL_law 1350 = .ok (.iconst 0, 1) := by decide +kernel
theorem dL_law_1351 : decode cL_law 1351 = .ok (.ireturn, 1) := by decide +kernel
theorem dL_law_1352 : decode cL_law 1352 = .ok (.aload_n 1, 1) := by decide +kernel
theorem dL_law_1353 : decode cL_law 1353 = .ok (.invokevirtual 164, 3) := by decide +kernel
theorem dL_law_1356 : decode cL_law 1356 = .ok (.dstore 5, 2) := by decide +kernel
theorem dL_law_1358 : decode cL_law 1358 = .ok (.aload_n 2, 1) := by decide +kernel
theorem dL_law_1359 : decode cL_law 1359 = .ok (.invokevirtual 168, 3) := by decide +kernel
theorem dL_law_1362 : decode cL_law 1362 = .ok (.dstore 7, 2) := by decide +kernel
theorem dL_law_1364 : decode cL_law 1364 = .ok (.dload 5, 2) := by decide +kernel
theorem dL_law_1366 : decode cL_law 1366 = .ok (.dload 7, 2) := by decide +kernel
theorem dL_law_1368 : decode cL_law 1368 = .ok (.dcmp .l, 1) := by decide +kernel
theorem dL_law_1369 : decode cL_law 1369 = .ok (.ifCond .eq 21, 3) := by decide +kernel
theorem dL_law_1372 : decode cL_law 1372 = .ok (.dload 5, 2) := by decide +kernel
theorem dL_law_1374 : decode cL_law 1374 = .ok (.dload 5, 2) := by decide +kernel
theorem dL_law_1376 : decode cL_law 1376 = .ok (.dcmp .l, 1) := by decide +kernel
theorem dL_law_1377 : decode cL_law 1377 = .ok (.ifCond .eq 11, 3) := by decide +kernel
theorem dL_law_1380 : decode cL_law 1380 = .ok (.dload 7, 2) := by decide +kernel
theorem dL_law_1382 : decode cL_law 1382 = .ok (.dload 7, 2) := by decide +kernel
theorem dL_law_1384 : decode cL_law 1384 = .ok (.dcmp .l, 1) := by decide +kernel
theorem dL_law_1385 : decode cL_law 1385 = .ok (.ifCond .ne 5, 3) := by decide +kernel
theorem dL_law_1388 : decode cL_law 1388 = .ok (.iconst 0, 1) := by decide +kernel
theorem dL_law_1389 : decode cL_law 1389 = .ok (.ireturn, 1) := by decide +kernel
theorem dL_law_1390 : decode cL_law 1390 = .ok (.goto 130, 3) := by decide +kernel
theorem dL_law_1393 : decode cL_law 1393 = .ok (.aload_n 1, 1) := by decide +kernel
theorem dL_law_1394 : decode cL_law 1394 = .ok (.aload_n 0, 1) := by decide +kernel
theorem dL_law_1395 : decode cL_law 1395 = .ok (.iload 4, 2) := by decide +kernel
theorem dL_law_1397 : decode cL_law 1397 = .ok (.iconst 1, 1) := by decide +kernel
theorem dL_law_1398 : decode cL_law 1398 = .ok (.iadd, 1) := by decide +kernel
theorem dL_law_1399 : decode cL_law 1399 = .ok (.iaload, 1) := by decide +kernel
theorem dL_law_1400 : decode cL_law 1400 = .ok (.aload_n 3, 1) := by decide +kernel
theorem dL_law_1401 : decode cL_law 1401 = .ok (.invokestatic 169, 3) := by decide +kernel
theorem dL_law_1404 : decode cL_law 1404 = .ok (.istore 5, 2) := by decide +kernel
theorem dL_law_1406 : decode cL_law 1406 = .ok (.aload_n 2, 1) := by decide +kernel
theorem dL_law_1407 : decode cL_law 1407 = .ok (.aload_n 0, 1) := by decide +kernel
theorem dL_law_1408 : decode cL_law 1408 = .ok (.iload 4, 2) := by decide +kernel
theorem dL_law_1410 : decode cL_law 1410 = .ok (.iconst 1, 1) := by decide +kernel
theorem dL_law_1411 : decode cL_law 1411 = .ok (.iadd, 1) := by decide +kernel
theorem dL_law_1412 : decode cL_law 1412 = .ok (.iaload, 1) := by decide +kernel
theorem dL_law_1413 : decode cL_law 1413 = .ok (.invokevirtual 171, 3) := by decide +kernel
theorem dL_law_1416 : decode cL_law 1416 = .ok (.istore 6, 2) := by decide +kernel
theorem dL_law_1418 : decode cL_law 1418 = .ok (.aload_n 2, 1) := by decide +kernel
theorem dL_law_1419 : decode cL_law 1419 = .ok (.invokevirtual 90, 3) := by decide +kernel
theorem dL_law_1422 : decode cL_law 1422 = .ok (.iload 5, 2) := by decide +kernel
theorem dL_law_1424 : decode cL_law 1424 = .ok (.if_icmp .eq 5, 3) := by decide +kernel
theorem dL_law_1427 : decode cL_law 1427 = .ok (.iconst 0, 1) := by decide +kernel
theorem dL_law_1428 : decode cL_law 1428 = .ok (.ireturn, 1) := by decide +kernel
theorem dL_law_1429 : decode cL_law 1429 = .ok (.iload 5, 2) := by decide +kernel
theorem dL_law_1431 : decode cL_law 1431 = .ok (.ifCond .ne 15, 3) := by decide +kernel
theorem dL_law_1434 : decode cL_law 1434 = .ok (.aload_n 3, 1) := by decide +kernel
theorem dL_law_1435 : decode cL_law 1435 = .ok (.iconst 0, 1) := by decide +kernel
theorem dL_law_1436 : decode cL_law 1436 = .ok (.laload, 1) := by decide +kernel
theorem dL_law_1437 : decode cL_law 1437 = .ok (.iload 6, 2) := by decide +kernel
theorem dL_law_1439 : decode cL_law 1439 = .ok (.i2l, 1) := by decide +kernel
theorem dL_law_1440 : decode cL_law 1440 = .ok (.lcmp, 1) := by decide +kernel
theorem dL_law_1441 : decode cL_law 1441 = .ok (.ifCond .eq 5, 3) := by decide +kernel
theorem dL_law_1444 : decode cL_law 1444 = .ok (.iconst 0, 1) := by decide +kernel
theorem dL_law_1445 : decode cL_law 1445 = .ok (.ireturn, 1) := by decide +kernel
theorem dL_law_1446 : decode cL_law 1446 = .ok (.goto 74, 3) := by decide +kernel
theorem dL_law_1449 : decode cL_law 1449 = .ok (.aload_n 1, 1) := by decide +kernel
theorem dL_law_1450 : decode cL_law 1450 = .ok (.invokevirtual 172, 3) := by decide +kernel
theorem dL_law_1453 : decode cL_law 1453 = .ok (.aload_n 2, 1) := by decide +kernel
theorem dL_law_1454 : decode cL_law 1454 = .ok (.invokevirtual 175, 3) := by decide +kernel
theorem dL_law_1457 : decode cL_law 1457 = .ok (.if_icmp .eq 63, 3) := by decide +kernel
theorem dL_law_1460 : decode cL_law 1460 = .ok (.iconst 0, 1) := by decide +kernel
theorem dL_law_1461 : decode cL_law 1461 = .ok (.ireturn, 1) := by decide +kernel
theorem dL_law_1462 : decode cL_law 1462 = .ok (.aload_n 1, 1) := by decide +kernel
theorem dL_law_1463 : decode cL_law 1463 = .ok (.aload_n 3, 1) := by decide +kernel
theorem dL_law_1464 : decode cL_law 1464 = .ok (.invokestatic 176, 3) := by decide +kernel
theorem dL_law_1467 : decode cL_law 1467 = .ok (.istore 5, 2) := by decide +kernel
theorem dL_law_1469 : decode cL_law 1469 = .ok (.aload_n 2, 1) := by decide +kernel
theorem dL_law_1470 : decode cL_law 1470 = .ok (.invokevirtual 178, 3) := by decide +kernel
theorem dL_law_1473 : decode cL_law 1473 = .ok (.istore 6, 2) := by decide +kernel
theorem dL_law_1475 : decode cL_law 1475 = .ok (.aload_n 2, 1) := by decide +kernel
theorem dL_law_1476 : decode cL_law 1476 = .ok (.invokevirtual 90, 3) := by decide +kernel
theorem dL_law_1479 : decode cL_law 1479 = .ok (.iload 5, 2) := by decide +kernel
theorem dL_law_1481 : decode cL_law 1481 = .ok (.if_icmp .eq 5, 3) := by decide +kernel
theorem dL_law_1484 : decode cL_law 1484 = .ok (.iconst 0, 1) := by decide +kernel
theorem dL_law_1485 : decode cL_law 1485 = .ok (.ireturn, 1) := by decide +kernel
theorem dL_law_1486 : decode cL_law 1486 = .ok (.iload 5, 2) := by decide +kernel
theorem dL_law_1488 : decode cL_law 1488 = .ok (.ifCond .ne 15, 3) := by decide +kernel
theorem dL_law_1491 : decode cL_law 1491 = .ok (.aload_n 3, 1) := by decide +kernel
theorem dL_law_1492 : decode cL_law 1492 = .ok (.iconst 0, 1) := by decide +kernel
theorem dL_law_1493 : decode cL_law 1493 = .ok (.laload, 1) := by decide +kernel
theorem dL_law_1494 : decode cL_law 1494 = .ok (.iload 6, 2) := by decide +kernel
theorem dL_law_1496 : decode cL_law 1496 = .ok (.i2l, 1) := by decide +kernel
theorem dL_law_1497 : decode cL_law 1497 = .ok (.lcmp, 1) := by decide +kernel
theorem dL_law_1498 : decode cL_law 1498 = .ok (.ifCond .eq 5, 3) := by decide +kernel
theorem dL_law_1501 : decode cL_law 1501 = .ok (.iconst 0, 1) := by decide +kernel
theorem dL_law_1502 : decode cL_law 1502 = .ok (.ireturn, 1) := by decide +kernel
theorem dL_law_1503 : decode cL_law 1503 = .ok (.goto 17, 3) := by decide +kernel
theorem dL_law_1506 : decode cL_law 1506 = .ok (.aload_n 1, 1) := by decide +kernel
theorem dL_law_1507 : decode cL_law 1507 = .ok (.invokevirtual 179, 3) := by decide +kernel
theorem dL_law_1510 : decode cL_law 1510 = .ok (.aload_n 2, 1) := by decide +kernel
theorem dL_law_1511 : decode cL_law 1511 = .ok (.invokevirtual 183, 3) := by decide +kernel
theorem dL_law_1514 : decode cL_law 1514 = .ok (.lcmp, 1) := by decide +kernel
theorem dL_law_1515 : decode cL_law 1515 = .ok (.ifCond .eq 5, 3) := by decide +kernel
theorem dL_law_1518 : decode cL_law 1518 = .ok (.iconst 0, 1) := by decide +kernel
theorem dL_law_1519 : decode cL_law 1519 = .ok (.ireturn, 1) := by decide +kernel
theorem dL_law_1520 : decode cL_law 1520 = .ok (.iinc 4 5, 3) := by decide +kernel
theorem dL_law_1523 : decode cL_law 1523 = .ok (.goto (-1500), 3) := by decide +kernel
theorem dL_law_1526 : decode cL_law 1526 = .ok (.iconst 1, 1) := by decide +kernel
theorem dL_law_1527 : decode cL_law 1527 = .ok (.ireturn, 1) := by decide +kernel
end
section
/-! THE SMALL MACHINE: the class, the reference and the law run by a function 'run' over a heap of numbered cells; that the great machine does what it does is shown once (part 'sound'); everything else is said of 'run' alone. -/
/-! cells: rows of ints, rows of references (by the class of what they hold), rows of longs, objects (class, fields), rows that are read alone, nothing -/
abbrev VC : Type := (Nat × (Nat → Int32)) ⊕ ((Nat × Nat × (Nat → Option Nat)) ⊕ ((Nat × (Nat → Int64)) ⊕ ((Nat × List Value) ⊕ ((Nat × (Nat → Int32)) ⊕ Unit))))
abbrev cI (n : Nat) (f : Nat → Int32) : VC := Sum.inl (n, f)
abbrev cR (t n : Nat) (f : Nat → Option Nat) : VC := Sum.inr (Sum.inl (t, n, f))
abbrev cL (n : Nat) (f : Nat → Int64) : VC := Sum.inr (Sum.inr (Sum.inl (n, f)))
abbrev cO (k : Nat) (fs : List Value) : VC := Sum.inr (Sum.inr (Sum.inr (Sum.inl (k, fs))))
abbrev cS (n : Nat) (f : Nat → Int32) : VC := Sum.inr (Sum.inr (Sum.inr (Sum.inr (Sum.inl (n, f)))))
abbrev cN : VC := Sum.inr (Sum.inr (Sum.inr (Sum.inr (Sum.inr ()))))
/-- the next cell, whether the heap's size is known, cells made, slots made -/
abbrev VG : Type := Nat × Bool × Nat × Nat
abbrev VH : Type := VG × (Nat → VC)
abbrev VLs : Type := List (Option Value)
/-- an entry of a constant pool: its kind and numbers -/
abbrev LI : Type := Nat × Nat × Nat × Int64
/-- a method: code, its pool entries, size of its locals, 1 + the class that it constructs, its handlers -/
abbrev MI : Type := ByteArray × List (Nat × LI) × (Nat × Nat) × List (Nat × Nat × Nat × Nat)
abbrev VR : Type := (Option Value ⊕ Nat) × VH
abbrev VA : Type := (Nat × VLs × List Value × VH) ⊕ ((Nat × List Value × List Value) ⊕ (Option Value ⊕ Nat))
def up (c : Nat → VC) (a : Nat) (x : VC) : Nat → VC := fun j => if j = a then x else c j
def lkf (l : List (Nat × LI)) (i : Nat) : LI := (l.lookup i).getD (99, 0, 0, 0)
def clr (o : Option Value) : Option Value := match o with
  | some v => if v.category = 2 then none else some v
  | none => none
/-- a local is written: one place -/
def set1 : Nat → Option Value → VLs → VLs
  | _, _, [] => []
  | 0, v, _ :: t => v :: t
  | 1, _, [a] => [a]
  | 1, v, a :: _ :: t => clr a :: v :: t
  | i + 2, v, a :: t => a :: set1 (i + 1) v t
/-- two places -/
def set2 : Nat → Option Value → VLs → VLs
  | 0, v, _ :: _ :: t => v :: none :: t
  | 1, v, a :: _ :: _ :: t => clr a :: v :: none :: t
  | i + 2, v, a :: t => a :: set2 (i + 1) v t
  | _, _, l => l
def entA : List Value → VLs
  | [] => []
  | v :: vs => if v.category = 2 then some v :: none :: entA vs else some v :: entA vs
def entL (n : Nat) (vs : List Value) : VLs := entA vs ++ List.replicate (n - (entA vs).length) none
/-- the kinds of the fields: true for a number -/
def fdI : Nat → List Bool
  | 0 => [false, false, false, false, true, true]
  | 1 => [false, true]
  | 2 => [false, true]
  | 3 => [false, false, false, true, true, true, true, true]
  | 4 => [false, false, false, false, false]
  | 5 => [false, false, false, true, false, true, false, true, false, false]
  | _ => []
/-- the final ones -/
def fdF : Nat → List Bool
  | 0 => [true, true, true, true, false, false]
  | 1 => [true, false]
  | 2 => [true, false]
  | 3 => [true, true, true, false, false, false, false, false]
  | 4 => [true, true, true, true, true]
  | 5 => [true, true, true, false, true, false, true, false, true, true]
  | _ => []
def dfl (k : Nat) : List Value := (fdI k).map (fun b => if b then .int 0 else .null)
def isNum (v : Value) : Bool := match v with
  | .int _ => true
  | _ => false
def isAdr (v : Value) : Bool := match v with
  | .ref _ => true
  | .null => true
  | _ => false
def jmp (pc : Nat) (off : Int) (ls : VLs) (st : List Value) (h : VH) : Option VA :=
  if 0 ≤ (pc : Int) + off then some (Sum.inl (((pc : Int) + off).toNat, ls, st, h)) else none
def nx (pc : Nat) (ls : VLs) (st : List Value) (h : VH) : Option VA := some (Sum.inl (pc, ls, st, h))
def bra (b : Bool) (pc : Nat) (off : Int) (ls : VLs) (st : List Value) (h : VH) : Option VA := if 0 ≤ (pc : Int) + off then (if b then jmp pc off ls st h else nx (pc + 3) ls st h) else none
def cnd (c : ClassFile.Cond) (x y : Int32) : Bool := match c with
  | .eq => decide (x = y)
  | .ne => decide (¬ x = y)
  | .lt => decide (x < y)
  | .ge => decide (y ≤ x)
  | .gt => decide (y < x)
  | .le => decide (x ≤ y)
def ldl (i pc' : Nat) (ls : VLs) (st : List Value) (h : VH) : Option VA := match ls[i]? with
  | some (some v) => nx pc' ls (v :: st) h
  | _ => none
def ldI (i pc' : Nat) (ls : VLs) (st : List Value) (h : VH) : Option VA := match ls[i]? with
  | some (some (.int x)) => nx pc' ls (.int x :: st) h
  | _ => none
def ldJ (i pc' : Nat) (ls : VLs) (st : List Value) (h : VH) : Option VA := match ls[i]? with
  | some (some (.long x)) => nx pc' ls (.long x :: st) h
  | _ => none
def ldD (i pc' : Nat) (ls : VLs) (st : List Value) (h : VH) : Option VA := match ls[i]? with
  | some (some (.double x)) => nx pc' ls (.double x :: st) h
  | _ => none
def ldA (i pc' : Nat) (ls : VLs) (st : List Value) (h : VH) : Option VA := match ls[i]? with
  | some (some (.ref x)) => nx pc' ls (.ref x :: st) h
  | _ => none
def stI (i pc' : Nat) (ls : VLs) (st : List Value) (h : VH) : Option VA := match st with
  | .int x :: r => if i < ls.length then nx pc' (set1 i (some (.int x)) ls) r h else none
  | _ => none
def stA (i pc' : Nat) (ls : VLs) (st : List Value) (h : VH) : Option VA := match st with
  | .ref x :: r => if i < ls.length then nx pc' (set1 i (some (.ref x)) ls) r h else none
  | _ => none
def stJ (i pc' : Nat) (ls : VLs) (st : List Value) (h : VH) : Option VA := match st with
  | .long x :: r => if i + 1 < ls.length then nx pc' (set2 i (some (.long x)) ls) r h else none
  | _ => none
def stD (i pc' : Nat) (ls : VLs) (st : List Value) (h : VH) : Option VA := match st with
  | .double x :: r => if i + 1 < ls.length then nx pc' (set2 i (some (.double x)) ls) r h else none
  | _ => none
def inB (i : Int32) (n : Nat) : Bool := decide (¬ (i < 0 ∨ n ≤ i.toNatClampNeg))
/-- how much of the stack a list of values takes -/
def catS : List Value → Nat
  | [] => 0
  | v :: t => v.category + catS t
/-- a call: the arguments off the stack -/
def cal (μ n : Nat) (st : List Value) : Option VA :=
  if n ≤ st.length ∧ catS (st.drop n) ≤ 8 then some (Sum.inr (Sum.inl (μ, (st.take n).reverse, st.drop n))) else none
def aGet (q : LI) (pc : Nat) (ls : VLs) (st : List Value) (h : VH) : Option VA := match st with
  | .ref a :: r => match h.2 a with
    | Sum.inr (Sum.inr (Sum.inr (Sum.inl (k, fs)))) => if q.1 ≤ 1 ∧ k = q.2.1 then (match fs[q.2.2.1]? with
      | some v => nx (pc + 3) ls (v :: r) h
      | none => none) else none
    | _ => none
  | _ => none
def okf (b : Bool) (v : Value) : Bool := if b then isNum v else isAdr v
def okP (ini k n t j : Nat) (v : Value) : Bool := decide (t ≤ 1) && decide (j < n) && okf ((fdI k).getD j false) v && (!((fdF k).getD j true) || (decide (t = 0) && decide (ini = k + 1)))
def aPut (ini : Nat) (q : LI) (pc : Nat) (ls : VLs) (st : List Value) (h : VH) : Option VA := match st with
  | v :: .ref a :: r => match h.2 a with
    | Sum.inr (Sum.inr (Sum.inr (Sum.inl (k, fs)))) => if k = q.2.1 ∧ okP ini k fs.length q.1 q.2.2.1 v = true then nx (pc + 3) ls r (h.1, up h.2 a (cO k (fs.set q.2.2.1 v))) else none
    | _ => none
  | _ => none
def aNewI (pc : Nat) (ls : VLs) (st : List Value) (h : VH) : Option VA := match st with
  | .int n :: r => if ¬ n < 0 ∧ n.toNatClampNeg ≤ 100000 ∧ h.1.2.1 = true then
      nx (pc + 2) ls (.ref h.1.1 :: r) ((h.1.1 + 1, true, h.1.2.2.1 + 1, h.1.2.2.2 + n.toNatClampNeg), up h.2 h.1.1 (cI n.toNatClampNeg (fun _ => 0))) else none
  | _ => none
def aNewJ (pc : Nat) (ls : VLs) (st : List Value) (h : VH) : Option VA := match st with
  | .int n :: r => if ¬ n < 0 ∧ n.toNatClampNeg ≤ 100000 ∧ h.1.2.1 = true then
      nx (pc + 2) ls (.ref h.1.1 :: r) ((h.1.1 + 1, true, h.1.2.2.1 + 1, h.1.2.2.2 + n.toNatClampNeg), up h.2 h.1.1 (cL n.toNatClampNeg (fun _ => 0))) else none
  | _ => none
/-- the classes of which there are rows -/
def okA (t : Nat) : Bool := (t == 0) || ((t == 2) || (t == 3))
def aNewR (q : LI) (pc : Nat) (ls : VLs) (st : List Value) (h : VH) : Option VA := match st with
  | .int n :: r => if q.1 = 5 ∧ okA q.2.1 = true ∧ ¬ n < 0 ∧ n.toNatClampNeg ≤ 100000 ∧ h.1.2.1 = true then
      nx (pc + 3) ls (.ref h.1.1 :: r) ((h.1.1 + 1, true, h.1.2.2.1 + 1, h.1.2.2.2 + n.toNatClampNeg), up h.2 h.1.1 (cR q.2.1 n.toNatClampNeg (fun _ => none))) else none
  | _ => none
/-- behind 'new' at pc there stand dup, ldc, <init> of the exception E, athrow -/
def thr (M : MI) (pc E : Nat) : Bool := match decode M.1 (pc + 3) with
  | .ok (.dup, 1) => (match decode M.1 (pc + 4) with
    | .ok (.ldc is, 2) => (match decode M.1 (pc + 6) with
      | .ok (.invokespecial ic, 3) => (match decode M.1 (pc + 9) with
        | .ok (.athrow, 1) => (lkf M.2.1 is).1 == 13 && ((lkf M.2.1 ic).1 == 12 && (lkf M.2.1 ic).2.1 == E)
        | _ => false)
      | _ => false)
    | _ => false)
  | _ => false
/-- 'new': an object (5), or a throw: new, dup, ldc, <init>, athrow (8) -/
def aNew (M : MI) (q : LI) (pc : Nat) (ls : VLs) (st : List Value) (h : VH) : Option VA :=
  if q.1 = 5 then (if h.1.2.1 = true then nx (pc + 3) ls (.ref h.1.1 :: st) ((h.1.1 + 1, true, h.1.2.2.1 + 1, h.1.2.2.2 + (dfl q.2.1).length), up h.2 h.1.1 (cO q.2.1 (dfl q.2.1))) else none)
  else if q.1 = 8 ∧ M.2.2.2 = [] ∧ st = [] ∧ thr M pc q.2.1 = true then some (Sum.inr (Sum.inr (Sum.inr q.2.1))) else none
def aIld (pc : Nat) (ls : VLs) (st : List Value) (h : VH) : Option VA := match st with
  | .int i :: .ref a :: r => match h.2 a with
    | Sum.inl (n, f) => if inB i n then nx (pc + 1) ls (.int (f i.toNatClampNeg) :: r) h else none
    | Sum.inr (Sum.inr (Sum.inr (Sum.inr (Sum.inl (n, f))))) => if inB i n then nx (pc + 1) ls (.int (f i.toNatClampNeg) :: r) h else none
    | _ => none
  | _ => none
def aJld (pc : Nat) (ls : VLs) (st : List Value) (h : VH) : Option VA := match st with
  | .int i :: .ref a :: r => match h.2 a with
    | Sum.inr (Sum.inr (Sum.inl (n, f))) => if inB i n then nx (pc + 1) ls (.long (f i.toNatClampNeg) :: r) h else none
    | _ => none
  | _ => none
def aAld (pc : Nat) (ls : VLs) (st : List Value) (h : VH) : Option VA := match st with
  | .int i :: .ref a :: r => match h.2 a with
    | Sum.inr (Sum.inl (_, n, f)) => if inB i n then nx (pc + 1) ls (va_rf (f i.toNatClampNeg) :: r) h else none
    | _ => none
  | _ => none
def aIst (pc : Nat) (ls : VLs) (st : List Value) (h : VH) : Option VA := match st with
  | .int x :: .int i :: .ref a :: r => match h.2 a with
    | Sum.inl (n, f) => if inB i n then nx (pc + 1) ls r (h.1, up h.2 a (cI n (upd f i.toNatClampNeg x))) else none
    | _ => none
  | _ => none
def aJst (pc : Nat) (ls : VLs) (st : List Value) (h : VH) : Option VA := match st with
  | .long x :: .int i :: .ref a :: r => match h.2 a with
    | Sum.inr (Sum.inr (Sum.inl (n, f))) => if inB i n then nx (pc + 1) ls r (h.1, up h.2 a (cL n (vp_updL f i.toNatClampNeg x))) else none
    | _ => none
  | _ => none
def aAst (pc : Nat) (ls : VLs) (st : List Value) (h : VH) : Option VA := match st with
  | .ref v :: .int i :: .ref a :: r => match h.2 a with
    | Sum.inr (Sum.inl (t, n, f)) => match h.2 v with
      | Sum.inr (Sum.inr (Sum.inr (Sum.inl (k, _)))) => if inB i n ∧ k = t then nx (pc + 1) ls r (h.1, up h.2 a (cR t n (va_up f i.toNatClampNeg (some v)))) else none
      | _ => none
    | _ => none
  | _ => none
def aLen (pc : Nat) (ls : VLs) (st : List Value) (h : VH) : Option VA := match st with
  | .ref a :: r => match h.2 a with
    | Sum.inl (n, _) => nx (pc + 1) ls (.int (nI n) :: r) h
    | Sum.inr (Sum.inl (_, n, _)) => nx (pc + 1) ls (.int (nI n) :: r) h
    | Sum.inr (Sum.inr (Sum.inl (n, _))) => nx (pc + 1) ls (.int (nI n) :: r) h
    | Sum.inr (Sum.inr (Sum.inr (Sum.inr (Sum.inl (n, _))))) => nx (pc + 1) ls (.int (nI n) :: r) h
    | _ => none
  | _ => none
def aCpy (pc : Nat) (ls : VLs) (st : List Value) (h : VH) : Option VA := match st with
  | .int n :: .int dp :: .ref d :: .int sp :: .ref s :: r => match h.2 s with
    | Sum.inl (n0, f) => match h.2 d with
      | Sum.inl (n1, g) => if catS r ≤ 8 ∧ ¬ sp < 0 ∧ ¬ dp < 0 ∧ ¬ n < 0 ∧ sp.toNatClampNeg + n.toNatClampNeg ≤ n0 ∧ dp.toNatClampNeg + n.toNatClampNeg ≤ n1 then nx (pc + 3) ls r (h.1, up h.2 d (cI n1 (va_cpy f g sp.toNatClampNeg dp.toNatClampNeg n.toNatClampNeg))) else none
      | _ => none
    | _ => none
  | _ => none
def aSta (q : LI) (pc : Nat) (ls : VLs) (st : List Value) (h : VH) : Option VA :=
  if q.1 = 3 then cal q.2.1 q.2.2.1 st
  else if q.1 = 9 then (if q.2.1 = 0 then (match st with
      | .int y :: .int x :: r => if catS r ≤ 8 then nx (pc + 3) ls (.int (if x < y then y else x) :: r) h else none
      | _ => none)
    else if q.2.1 = 1 then (match st with
      | .int y :: .int x :: r => if catS r ≤ 8 then nx (pc + 3) ls (.int (if x < y then x else y) :: r) h else none
      | _ => none)
    else aCpy pc ls st h)
  else none
/-- an object of the class k is the receiver -/
def isK (h : VH) (k : Nat) (v : Option Value) : Bool := match v with
  | some (.ref a) => match h.2 a with
    | Sum.inr (Sum.inr (Sum.inr (Sum.inl (k', _)))) => k == k'
    | _ => false
  | _ => false
def aVir (q : LI) (st : List Value) (h : VH) : Option VA :=
  if q.1 = 2 ∧ isK h q.2.2.2.toNatClampNeg st[q.2.2.1 - 1]? = true ∧ 1 ≤ q.2.2.1 then cal q.2.1 q.2.2.1 st else none
def aSpc (q : LI) (pc : Nat) (ls : VLs) (st : List Value) (h : VH) : Option VA :=
  if q.1 = 4 ∧ 1 ≤ q.2.2.1 ∧ isK h q.2.2.2.toNatClampNeg st[q.2.2.1 - 1]? = true then cal q.2.1 q.2.2.1 st
  else if q.1 = 6 then (match st with
    | [.ref _] => nx (pc + 3) ls [] h
    | _ => none)
  else none
def aTab (dflt lo hi : Int) (offs : Array Int) (pc : Nat) (ls : VLs) (st : List Value) (h : VH) : Option VA := match st with
  | .int x :: r => if x.toInt < lo ∨ hi < x.toInt then jmp pc dflt ls r h else (match offs[(x.toInt - lo).toNat]? with
    | some off => jmp pc off ls r h
    | none => none)
  | _ => none
/-- what the method returns, by its number: up to 10 nothing, 11 an int, 12 a boolean, 13 a long, 14 a double, 15 a reference -/
def rz (M : MI) (x : Int32) : Bool := (M.2.2.1.2 == 11) || ((M.2.2.1.2 == 12) && ((x == 0) || (x == 1)))
/-- the length of an instruction that the machine knows -/
def okL (ins : ClassFile.Instr) (len : Nat) : Bool := match ins with
  | .tableswitch .. => true
  | .aload _ => len == 2
  | .iload _ => len == 2
  | .lload _ => len == 2
  | .dload _ => len == 2
  | .astore _ => len == 2
  | .istore _ => len == 2
  | .lstore _ => len == 2
  | .dstore _ => len == 2
  | .bipush _ => len == 2
  | .newarray _ => len == 2
  | .iinc _ _ => len == 3
  | .sipush _ => len == 3
  | .ldc2_w _ => len == 3
  | .ifCond _ _ => len == 3
  | .if_icmp _ _ => len == 3
  | .goto _ => len == 3
  | .getfield _ => len == 3
  | .putfield _ => len == 3
  | .getstatic _ => len == 3
  | .anewarray _ => len == 3
  | .new _ => len == 3
  | .invokestatic _ => len == 3
  | .invokevirtual _ => len == 3
  | .invokespecial _ => len == 3
  | _ => len == 1
def act (M : MI) (ins : ClassFile.Instr) (len pc : Nat) (ls : VLs) (st : List Value) (h : VH) : Option VA := match ins with
  | .aload_n k => ldA k (pc + 1) ls st h
  | .aload i => ldA i (pc + 2) ls st h
  | .iload_n k => ldI k (pc + 1) ls st h
  | .iload i => ldI i (pc + 2) ls st h
  | .lload_n k => ldJ k (pc + 1) ls st h
  | .lload i => ldJ i (pc + 2) ls st h
  | .dload_n k => ldD k (pc + 1) ls st h
  | .dload i => ldD i (pc + 2) ls st h
  | .istore_n k => stI k (pc + 1) ls st h
  | .istore i => stI i (pc + 2) ls st h
  | .astore_n k => stA k (pc + 1) ls st h
  | .astore i => stA i (pc + 2) ls st h
  | .lstore_n k => stJ k (pc + 1) ls st h
  | .lstore i => stJ i (pc + 2) ls st h
  | .dstore_n k => stD k (pc + 1) ls st h
  | .dstore i => stD i (pc + 2) ls st h
  | .iinc i n => (match ls[i]? with
    | some (some (.int x)) => if i < ls.length then nx (pc + 3) (set1 i (some (.int (x + Int32.ofInt n))) ls) st h else none
    | _ => none)
  | .iconst n => nx (pc + 1) ls (.int (Int32.ofInt n) :: st) h
  | .bipush n => nx (pc + 2) ls (.int (Int8.ofInt n).toInt32 :: st) h
  | .sipush n => nx (pc + 3) ls (.int (Int16.ofInt n).toInt32 :: st) h
  | .lconst n => nx (pc + 1) ls (.long (Int64.ofNat n) :: st) h
  | .ldc2_w i => if (lkf M.2.1 i).1 = 10 then nx (pc + 3) ls (.long (lkf M.2.1 i).2.2.2 :: st) h else none
  | .dup => (match st with
    | v :: r => if v.category = 1 then nx (pc + 1) ls (v :: v :: r) h else none
    | _ => none)
  | .dup2 => (match st with
    | va :: vb :: r => if va.category = 1 ∧ vb.category = 1 then nx (pc + 1) ls (va :: vb :: va :: vb :: r) h else none
    | _ => none)
  | .pop => (match st with
    | v :: r => if v.category = 1 then nx (pc + 1) ls r h else none
    | _ => none)
  | .iadd => (match st with
    | .int y :: .int x :: r => nx (pc + 1) ls (.int (x + y) :: r) h
    | _ => none)
  | .isub => (match st with
    | .int y :: .int x :: r => nx (pc + 1) ls (.int (x - y) :: r) h
    | _ => none)
  | .imul => (match st with
    | .int y :: .int x :: r => nx (pc + 1) ls (.int (x * y) :: r) h
    | _ => none)
  | .irem => (match st with
    | .int y :: .int x :: r => if y = 0 then none else nx (pc + 1) ls (.int (x - x / y * y) :: r) h
    | _ => none)
  | .iand => (match st with
    | .int y :: .int x :: r => nx (pc + 1) ls (.int (x &&& y) :: r) h
    | _ => none)
  | .ixor => (match st with
    | .int y :: .int x :: r => nx (pc + 1) ls (.int (x ^^^ y) :: r) h
    | _ => none)
  | .ladd => (match st with
    | .long y :: .long x :: r => nx (pc + 1) ls (.long (x + y) :: r) h
    | _ => none)
  | .lsub => (match st with
    | .long y :: .long x :: r => nx (pc + 1) ls (.long (x - y) :: r) h
    | _ => none)
  | .lmul => (match st with
    | .long y :: .long x :: r => nx (pc + 1) ls (.long (x * y) :: r) h
    | _ => none)
  | .lcmp => (match st with
    | .long y :: .long x :: r => nx (pc + 1) ls (.int (lg_cmp x y) :: r) h
    | _ => none)
  | .i2l => (match st with
    | .int x :: r => nx (pc + 1) ls (.long x.toInt64 :: r) h
    | _ => none)
  | .i2d => (match st with
    | .int x :: r => nx (pc + 1) ls (.double (FP.i2d x) :: r) h
    | _ => none)
  | .dconst d => if d = 1 then nx (pc + 1) ls (.double FP.dconst1 :: st) h else none
  | .ddiv => (match st with
    | .double y :: .double x :: r => if FP.ddiv x y &&& 0x7fffffffffffffff ≤ 0x7ff0000000000000 then nx (pc + 1) ls (.double (FP.ddiv x y) :: r) h else none
    | _ => none)
  | .dcmp op => (match st with
    | .double y :: .double x :: r => nx (pc + 1) ls (.int (Op.cmpValue (FP.dcmp x y) op) :: r) h
    | _ => none)
  | .ifCond c off => (match st with
    | .int x :: r => bra (cnd c x 0) pc off ls r h
    | _ => none)
  | .if_icmp c off => (match st with
    | .int y :: .int x :: r => bra (cnd c x y) pc off ls r h
    | _ => none)
  | .goto off => jmp pc off ls st h
  | .tableswitch dflt lo hi offs => aTab dflt lo hi offs pc ls st h
  | .getfield i => aGet (lkf M.2.1 i) pc ls st h
  | .putfield i => aPut M.2.2.1.2 (lkf M.2.1 i) pc ls st h
  | .getstatic i => if (lkf M.2.1 i).1 = 7 then nx (pc + 3) ls (.ref 1 :: st) h else none
  | .newarray t => if t = .int then aNewI pc ls st h else if t = .long then aNewJ pc ls st h else none
  | .anewarray i => aNewR (lkf M.2.1 i) pc ls st h
  | .new i => aNew M (lkf M.2.1 i) pc ls st h
  | .arraylength => aLen pc ls st h
  | .iaload => aIld pc ls st h
  | .laload => aJld pc ls st h
  | .aaload => aAld pc ls st h
  | .iastore => aIst pc ls st h
  | .lastore => aJst pc ls st h
  | .aastore => aAst pc ls st h
  | .invokestatic i => aSta (lkf M.2.1 i) pc ls st h
  | .invokevirtual i => aVir (lkf M.2.1 i) st h
  | .invokespecial i => aSpc (lkf M.2.1 i) pc ls st h
  | .return_ => (match st with
    | [] => if M.2.2.1.2 < 11 then some (Sum.inr (Sum.inr (Sum.inl none))) else none
    | _ => none)
  | .ireturn => (match st with
    | [.int x] => if rz M x = true then some (Sum.inr (Sum.inr (Sum.inl (some (.int x))))) else none
    | _ => none)
  | .lreturn => (match st with
    | [.long x] => if M.2.2.1.2 = 13 then some (Sum.inr (Sum.inr (Sum.inl (some (.long x))))) else none
    | _ => none)
  | .dreturn => (match st with
    | [.double x] => if M.2.2.1.2 = 14 then some (Sum.inr (Sum.inr (Sum.inl (some (.double x))))) else none
    | _ => none)
  | .areturn => (match st with
    | [.ref x] => if M.2.2.1.2 = 15 then some (Sum.inr (Sum.inr (Sum.inl (some (.ref x))))) else none
    | _ => none)
  | _ => none
def hnd (hh : List (Nat × Nat × Nat × Nat)) (pc E : Nat) : Option Nat := match hh with
  | [] => none
  | q :: t => if q.1 ≤ pc ∧ pc < q.2.1 ∧ q.2.2.2 = E then some q.2.2.1 else hnd t pc E
end
section
/-! printed by gen_table.py: the methods, by number -/
abbrev k_X2_init : Nat := 0
def M_X2_init : MI := (cX2_init, [(3, (6, 0, 0, 0)), (9, (9, 0, 0, 0)), (15, (0, 2, 0, 0))], (2, 3), [])
abbrev k_X2_size : Nat := 1
def M_X2_size : MI := (cX2_size, [(21, (0, 2, 1, 0))], (1, 11), [])
abbrev k_X2_at : Nat := 2
def M_X2_at : MI := (cX2_at, [(15, (0, 2, 0, 0)), (21, (0, 2, 1, 0))], (2, 11), [])
abbrev k_X2_put : Nat := 3
def M_X2_put : MI := (cX2_put, [(15, (0, 2, 0, 0)), (21, (0, 2, 1, 0))], (2, 10), [])
abbrev k_X2_takeAt : Nat := 4
def M_X2_takeAt : MI := (cX2_takeAt, [(15, (0, 2, 0, 0)), (21, (0, 2, 1, 0)), (25, (2, 2, 2, 2)), (29, (9, 2, 0, 0))], (3, 11), [])
abbrev k_X2_takeLast : Nat := 5
def M_X2_takeLast : MI := (cX2_takeLast, [(21, (0, 2, 1, 0)), (35, (2, 4, 2, 2))], (1, 11), [])
abbrev k_X2_dropFirst : Nat := 6
def M_X2_dropFirst : MI := (cX2_dropFirst, [(15, (0, 2, 0, 0)), (21, (0, 2, 1, 0)), (29, (9, 2, 0, 0))], (2, 10), [])
abbrev k_X2_clear : Nat := 7
def M_X2_clear : MI := (cX2_clear, [(21, (0, 2, 1, 0))], (1, 10), [])
abbrev k_X2_countOf : Nat := 8
def M_X2_countOf : MI := (cX2_countOf, [(21, (0, 2, 1, 0)), (25, (2, 2, 2, 2))], (4, 11), [])
abbrev k_X2_lastIndexOf : Nat := 9
def M_X2_lastIndexOf : MI := (cX2_lastIndexOf, [(21, (0, 2, 1, 0)), (25, (2, 2, 2, 2))], (3, 11), [])
abbrev k_X2_mixedInto : Nat := 10
def M_X2_mixedInto : MI := (cX2_mixedInto, [(21, (0, 2, 1, 0)), (25, (2, 2, 2, 2)), (38, (3, 101, 2, 0))], (6, 13), [])
abbrev k_X2_copyFrom : Nat := 11
def M_X2_copyFrom : MI := (cX2_copyFrom, [(15, (0, 2, 0, 0)), (21, (0, 2, 1, 0)), (29, (9, 2, 0, 0)), (42, (9, 1, 0, 0))], (2, 10), [])
abbrev k_X0_init : Nat := 12
def M_X0_init : MI := (cX0_init, [(3, (6, 0, 0, 0)), (9, (0, 0, 0, 0)), (15, (0, 0, 1, 0)), (18, (0, 0, 2, 0)), (21, (0, 0, 3, 0))], (1, 1), [])
abbrev k_X0_size : Nat := 13
def M_X0_size : MI := (cX0_size, [(24, (0, 0, 4, 0))], (1, 11), [])
abbrev k_X0_lines : Nat := 14
def M_X0_lines : MI := (cX0_lines, [(28, (0, 0, 5, 0))], (1, 11), [])
abbrev k_X0_startOf : Nat := 15
def M_X0_startOf : MI := (cX0_startOf, [(21, (0, 0, 3, 0))], (2, 11), [])
abbrev k_X0_lengthOf : Nat := 16
def M_X0_lengthOf : MI := (cX0_lengthOf, [(28, (0, 0, 5, 0)), (31, (2, 15, 2, 0))], (2, 11), [])
abbrev k_X0_sortAt : Nat := 17
def M_X0_sortAt : MI := (cX0_sortAt, [(15, (0, 0, 1, 0))], (2, 11), [])
abbrev k_X0_wantedAt : Nat := 18
def M_X0_wantedAt : MI := (cX0_wantedAt, [(9, (0, 0, 0, 0))], (2, 11), [])
abbrev k_X0_turnedAt : Nat := 19
def M_X0_turnedAt : MI := (cX0_turnedAt, [(18, (0, 0, 2, 0))], (2, 12), [])
abbrev k_X0_wrongAt : Nat := 20
def M_X0_wrongAt : MI := (cX0_wrongAt, [(35, (2, 19, 2, 0)), (39, (2, 17, 2, 0)), (42, (2, 18, 2, 0))], (2, 12), [])
abbrev k_X0_about : Nat := 21
def M_X0_about : MI := (cX0_about, [(35, (2, 19, 2, 0)), (39, (2, 17, 2, 0)), (42, (2, 18, 2, 0)), (45, (2, 20, 2, 0))], (3, 11), [])
abbrev k_X0_add : Nat := 22
def M_X0_add : MI := (cX0_add, [(9, (0, 0, 0, 0)), (15, (0, 0, 1, 0)), (18, (0, 0, 2, 0)), (24, (0, 0, 4, 0))], (4, 10), [])
abbrev k_X0_endLine : Nat := 23
def M_X0_endLine : MI := (cX0_endLine, [(21, (0, 0, 3, 0)), (24, (0, 0, 4, 0)), (28, (0, 0, 5, 0))], (1, 10), [])
abbrev k_X0_putRight : Nat := 24
def M_X0_putRight : MI := (cX0_putRight, [(9, (0, 0, 0, 0)), (15, (0, 0, 1, 0)), (18, (0, 0, 2, 0))], (2, 10), [])
abbrev k_X0_clear : Nat := 25
def M_X0_clear : MI := (cX0_clear, [(24, (0, 0, 4, 0)), (28, (0, 0, 5, 0))], (1, 10), [])
abbrev k_X0_errors : Nat := 26
def M_X0_errors : MI := (cX0_errors, [(24, (0, 0, 4, 0)), (45, (2, 20, 2, 0))], (3, 11), [])
abbrev k_X0_turnedSorts : Nat := 27
def M_X0_turnedSorts : MI := (cX0_turnedSorts, [(24, (0, 0, 4, 0)), (35, (2, 19, 2, 0))], (3, 11), [])
abbrev k_X0_countOf : Nat := 28
def M_X0_countOf : MI := (cX0_countOf, [(24, (0, 0, 4, 0)), (39, (2, 17, 2, 0))], (4, 11), [])
abbrev k_X0_errorAt : Nat := 29
def M_X0_errorAt : MI := (cX0_errorAt, [(28, (0, 0, 5, 0)), (31, (2, 15, 2, 0)), (45, (2, 20, 2, 0)), (48, (2, 16, 2, 0))], (6, 11), [])
abbrev k_X0_mixedInto : Nat := 30
def M_X0_mixedInto : MI := (cX0_mixedInto, [(28, (0, 0, 5, 0)), (31, (2, 15, 2, 0)), (48, (2, 16, 2, 0)), (51, (3, 101, 2, 0)), (55, (2, 21, 3, 0))], (9, 13), [])
abbrev k_X0_copyFrom : Nat := 31
def M_X0_copyFrom : MI := (cX0_copyFrom, [(9, (0, 0, 0, 0)), (15, (0, 0, 1, 0)), (18, (0, 0, 2, 0)), (21, (0, 0, 3, 0)), (24, (0, 0, 4, 0)), (28, (0, 0, 5, 0)), (59, (9, 1, 0, 0)), (64, (9, 2, 0, 0))], (2, 10), [])
abbrev k_X3_init : Nat := 32
def M_X3_init : MI := (cX3_init, [(3, (6, 0, 0, 0)), (9, (5, 2, 0, 0)), (11, (0, 3, 0, 0)), (17, (5, 0, 0, 0)), (19, (0, 3, 1, 0)), (23, (4, 0, 2, 2)), (26, (0, 3, 2, 0)), (30, (0, 3, 4, 0)), (34, (4, 12, 1, 0))], (2, 4), [])
abbrev k_X3_boxOf : Nat := 33
def M_X3_boxOf : MI := (cX3_boxOf, [(11, (0, 3, 0, 0)), (35, (3, 102, 2, 0))], (2, 15), [])
abbrev k_X3_formeOf : Nat := 34
def M_X3_formeOf : MI := (cX3_formeOf, [(19, (0, 3, 1, 0)), (35, (3, 102, 2, 0))], (2, 15), [])
abbrev k_X3_putBack : Nat := 35
def M_X3_putBack : MI := (cX3_putBack, [(41, (2, 33, 2, 3)), (45, (2, 3, 2, 2))], (2, 10), [])
abbrev k_X3_buySorts : Nat := 36
def M_X3_buySorts : MI := (cX3_buySorts, [(30, (0, 3, 4, 0)), (48, (2, 35, 2, 3)), (51, (0, 3, 5, 0))], (4, 10), [])
abbrev k_X3_spillSorts : Nat := 37
def M_X3_spillSorts : MI := (cX3_spillSorts, [(41, (2, 33, 2, 3)), (45, (2, 3, 2, 2)), (54, (2, 5, 1, 2))], (5, 10), [])
abbrev k_X3_cleanBox : Nat := 38
def M_X3_cleanBox : MI := (cX3_cleanBox, [(41, (2, 33, 2, 3)), (48, (2, 35, 2, 3)), (58, (2, 1, 1, 2)), (61, (2, 2, 2, 2)), (65, (2, 4, 2, 2)), (68, (0, 3, 6, 0))], (6, 11), [])
abbrev k_X3_setText : Nat := 39
def M_X3_setText : MI := (cX3_setText, [(41, (2, 33, 2, 3)), (54, (2, 5, 1, 2)), (58, (2, 1, 1, 2)), (61, (2, 2, 2, 2)), (68, (0, 3, 6, 0)), (71, (2, 40, 2, 3)), (74, (2, 22, 4, 0)), (78, (2, 23, 1, 0))], (7, 12), [])
abbrev k_X3_lenderFor : Nat := 40
def M_X3_lenderFor : MI := (cX3_lenderFor, [(41, (2, 33, 2, 3)), (58, (2, 1, 1, 2)), (81, (3, 100, 1, 0))], (4, 15), [])
abbrev k_X3_correctForme : Nat := 41
def M_X3_correctForme : MI := (cX3_correctForme, [(68, (0, 3, 6, 0)), (84, (2, 13, 1, 0)), (85, (2, 20, 2, 0)), (89, (2, 42, 3, 3))], (4, 11), [])
abbrev k_X3_correctPlace : Nat := 42
def M_X3_correctPlace : MI := (cX3_correctPlace, [(41, (2, 33, 2, 3)), (48, (2, 35, 2, 3)), (65, (2, 4, 2, 2)), (93, (2, 18, 2, 0)), (96, (2, 17, 2, 0)), (99, (2, 9, 2, 2)), (102, (2, 24, 2, 0))], (7, 12), [])
abbrev k_X3_distributeForme : Nat := 43
def M_X3_distributeForme : MI := (cX3_distributeForme, [(41, (2, 33, 2, 3)), (45, (2, 3, 2, 2)), (68, (0, 3, 6, 0)), (84, (2, 13, 1, 0)), (96, (2, 17, 2, 0)), (105, (0, 3, 7, 0)), (108, (2, 44, 2, 3)), (111, (2, 25, 1, 0))], (5, 11), [])
abbrev k_X3_slips : Nat := 44
def M_X3_slips : MI := (cX3_slips, [(114, (0, 3, 3, 0))], (2, 12), [])
abbrev k_X3_pieForme : Nat := 45
def M_X3_pieForme : MI := (cX3_pieForme, [(26, (0, 3, 2, 0)), (45, (2, 3, 2, 2)), (84, (2, 13, 1, 0)), (96, (2, 17, 2, 0)), (111, (2, 25, 1, 0))], (3, 10), [])
abbrev k_X3_sortFromHeap : Nat := 46
def M_X3_sortFromHeap : MI := (cX3_sortFromHeap, [(26, (0, 3, 2, 0)), (48, (2, 35, 2, 3)), (58, (2, 1, 1, 2)), (61, (2, 2, 2, 2)), (68, (0, 3, 6, 0)), (117, (9, 1, 0, 0)), (120, (2, 6, 2, 2))], (4, 11), [])
abbrev k_X3_number : Nat := 47
def M_X3_number : MI := (cX3_number, [(26, (0, 3, 2, 0)), (30, (0, 3, 4, 0)), (51, (0, 3, 5, 0)), (58, (2, 1, 1, 2)), (68, (0, 3, 6, 0)), (105, (0, 3, 7, 0)), (114, (0, 3, 3, 0)), (123, (2, 49, 1, 3)), (126, (2, 52, 1, 3)), (129, (2, 48, 1, 3)), (132, (2, 50, 1, 3)), (135, (2, 54, 1, 3)), (138, (2, 55, 1, 3))], (2, 11), [])
abbrev k_X3_allSorts : Nat := 48
def M_X3_allSorts : MI := (cX3_allSorts, [(26, (0, 3, 2, 0)), (58, (2, 1, 1, 2)), (123, (2, 49, 1, 3)), (126, (2, 52, 1, 3))], (1, 11), [])
abbrev k_X3_sortsInBoxes : Nat := 49
def M_X3_sortsInBoxes : MI := (cX3_sortsInBoxes, [(11, (0, 3, 0, 0)), (58, (2, 1, 1, 2))], (6, 11), [])
abbrev k_X3_foulSorts : Nat := 50
def M_X3_foulSorts : MI := (cX3_foulSorts, [(41, (2, 33, 2, 3)), (58, (2, 1, 1, 2)), (141, (2, 8, 2, 2))], (3, 11), [])
abbrev k_X3_countInBoxes : Nat := 51
def M_X3_countInBoxes : MI := (cX3_countInBoxes, [(11, (0, 3, 0, 0)), (141, (2, 8, 2, 2))], (7, 11), [])
abbrev k_X3_sortsInFormes : Nat := 52
def M_X3_sortsInFormes : MI := (cX3_sortsInFormes, [(19, (0, 3, 1, 0)), (84, (2, 13, 1, 0))], (6, 11), [])
abbrev k_X3_countInFormes : Nat := 53
def M_X3_countInFormes : MI := (cX3_countInFormes, [(19, (0, 3, 1, 0)), (144, (2, 28, 2, 0))], (7, 11), [])
abbrev k_X3_errorsInFormes : Nat := 54
def M_X3_errorsInFormes : MI := (cX3_errorsInFormes, [(19, (0, 3, 1, 0)), (145, (2, 26, 1, 0))], (6, 11), [])
abbrev k_X3_turnedInFormes : Nat := 55
def M_X3_turnedInFormes : MI := (cX3_turnedInFormes, [(19, (0, 3, 1, 0)), (148, (2, 27, 1, 0))], (6, 11), [])
abbrev k_X3_copyFrom : Nat := 56
def M_X3_copyFrom : MI := (cX3_copyFrom, [(26, (0, 3, 2, 0)), (30, (0, 3, 4, 0)), (41, (2, 33, 2, 3)), (51, (0, 3, 5, 0)), (68, (0, 3, 6, 0)), (105, (0, 3, 7, 0)), (114, (0, 3, 3, 0)), (151, (2, 11, 2, 2)), (155, (2, 34, 2, 3)), (159, (2, 31, 2, 0))], (3, 10), [])
abbrev k_X1_init : Nat := 57
def M_X1_init : MI := (cX1_init, [(3, (6, 0, 0, 0)), (9, (5, 3, 0, 0)), (11, (0, 1, 0, 0)), (17, (4, 32, 1, 3))], (2, 2), [])
abbrev k_X1_size : Nat := 58
def M_X1_size : MI := (cX1_size, [(18, (0, 1, 1, 0))], (1, 11), [])
abbrev k_X1_save : Nat := 59
def M_X1_save : MI := (cX1_save, [(11, (0, 1, 0, 0)), (18, (0, 1, 1, 0)), (22, (2, 61, 1, 1)), (25, (2, 56, 2, 3))], (2, 10), [])
abbrev k_X1_restore : Nat := 60
def M_X1_restore : MI := (cX1_restore, [(11, (0, 1, 0, 0)), (18, (0, 1, 1, 0)), (25, (2, 56, 2, 3))], (2, 10), [])
abbrev k_X1_dropOldest : Nat := 61
def M_X1_dropOldest : MI := (cX1_dropOldest, [(11, (0, 1, 0, 0)), (18, (0, 1, 1, 0))], (3, 10), [])
abbrev k_X4_init : Nat := 62
def M_X4_init : MI := (cX4_init, [(1, (6, 0, 0, 0)), (7, (5, 3, 0, 0)), (9, (4, 32, 1, 3)), (10, (0, 4, 0, 0)), (16, (5, 2, 0, 0)), (18, (4, 0, 2, 2)), (21, (0, 4, 1, 0)), (25, (5, 1, 0, 0)), (27, (4, 57, 1, 1)), (28, (0, 4, 2, 0)), (32, (0, 4, 3, 0)), (35, (5, 0, 0, 0)), (37, (4, 12, 1, 0)), (38, (0, 4, 4, 0))], (1, 5), [])
abbrev k_X4_buy : Nat := 63
def M_X4_buy : MI := (cX4_buy, [(10, (0, 4, 0, 0)), (28, (0, 4, 2, 0)), (42, (3, 95, 1, 0)), (45, (3, 98, 3, 0)), (49, (2, 99, 2, 4)), (52, (2, 59, 2, 1)), (56, (2, 36, 3, 3)), (60, (2, 33, 2, 3)), (64, (2, 1, 1, 2))], (3, 11), [])
abbrev k_X4_buyLacking : Nat := 64
def M_X4_buyLacking : MI := (cX4_buyLacking, [(10, (0, 4, 0, 0)), (28, (0, 4, 2, 0)), (49, (2, 99, 2, 4)), (52, (2, 59, 2, 1)), (56, (2, 36, 3, 3)), (68, (2, 92, 2, 4))], (3, 11), [])
abbrev k_X4_spill : Nat := 65
def M_X4_spill : MI := (cX4_spill, [(10, (0, 4, 0, 0)), (28, (0, 4, 2, 0)), (42, (3, 95, 1, 0)), (45, (3, 98, 3, 0)), (52, (2, 59, 2, 1)), (60, (2, 33, 2, 3)), (64, (2, 1, 1, 2)), (72, (8, 2, 0, 0)), (74, (13, 3, 0, 0)), (76, (12, 2, 0, 0)), (79, (8, 3, 0, 0)), (81, (13, 4, 0, 0)), (83, (12, 3, 0, 0)), (84, (2, 37, 4, 3))], (4, 11), [])
abbrev k_X4_clean : Nat := 66
def M_X4_clean : MI := (cX4_clean, [(10, (0, 4, 0, 0)), (28, (0, 4, 2, 0)), (42, (3, 95, 1, 0)), (52, (2, 59, 2, 1)), (87, (2, 38, 2, 3))], (2, 11), [])
abbrev k_X4_set : Nat := 67
def M_X4_set : MI := (cX4_set, [(10, (0, 4, 0, 0)), (28, (0, 4, 2, 0)), (45, (3, 98, 3, 0)), (52, (2, 59, 2, 1)), (90, (1, 3, 3, 0)), (94, (1, 3, 4, 0))], (4, 11), [])
abbrev k_X4_letter : Nat := 68
def M_X4_letter : MI := (cX4_letter, [(42, (3, 95, 1, 0)), (45, (3, 98, 3, 0)), (97, (2, 90, 3, 4))], (3, 11), [])
abbrev k_X4_inBox : Nat := 69
def M_X4_inBox : MI := (cX4_inBox, [(10, (0, 4, 0, 0)), (42, (3, 95, 1, 0)), (60, (2, 33, 2, 3)), (64, (2, 1, 1, 2)), (101, (3, 97, 2, 0)), (104, (2, 2, 2, 2))], (4, 11), [])
abbrev k_X4_value : Nat := 70
def M_X4_value : MI := (cX4_value, [(10, (0, 4, 0, 0)), (45, (3, 98, 3, 0)), (107, (2, 47, 2, 3))], (2, 11), [])
abbrev k_X4_setLine : Nat := 71
def M_X4_setLine : MI := (cX4_setLine, [(10, (0, 4, 0, 0)), (21, (0, 4, 1, 0)), (28, (0, 4, 2, 0)), (52, (2, 59, 2, 1)), (64, (2, 1, 1, 2)), (79, (8, 3, 0, 0)), (83, (12, 3, 0, 0)), (110, (3, 96, 1, 0)), (113, (2, 34, 2, 3)), (117, (2, 14, 1, 0)), (120, (2, 93, 1, 4)), (124, (13, 5, 0, 0)), (126, (2, 39, 3, 3))], (3, 11), [])
abbrev k_X4_correct : Nat := 72
def M_X4_correct : MI := (cX4_correct, [(10, (0, 4, 0, 0)), (28, (0, 4, 2, 0)), (52, (2, 59, 2, 1)), (110, (3, 96, 1, 0)), (113, (2, 34, 2, 3)), (130, (2, 41, 2, 3))], (2, 11), [])
abbrev k_X4_distribute : Nat := 73
def M_X4_distribute : MI := (cX4_distribute, [(10, (0, 4, 0, 0)), (28, (0, 4, 2, 0)), (52, (2, 59, 2, 1)), (110, (3, 96, 1, 0)), (113, (2, 34, 2, 3)), (134, (2, 43, 2, 3))], (2, 11), [])
abbrev k_X4_pie : Nat := 74
def M_X4_pie : MI := (cX4_pie, [(10, (0, 4, 0, 0)), (28, (0, 4, 2, 0)), (52, (2, 59, 2, 1)), (64, (2, 1, 1, 2)), (110, (3, 96, 1, 0)), (113, (2, 34, 2, 3)), (137, (2, 45, 2, 3)), (141, (1, 3, 2, 0))], (2, 11), [])
abbrev k_X4_sortHeap : Nat := 75
def M_X4_sortHeap : MI := (cX4_sortHeap, [(10, (0, 4, 0, 0)), (28, (0, 4, 2, 0)), (45, (3, 98, 3, 0)), (52, (2, 59, 2, 1)), (144, (2, 46, 2, 3))], (2, 11), [])
abbrev k_X4_forme : Nat := 76
def M_X4_forme : MI := (cX4_forme, [(45, (3, 98, 3, 0)), (110, (3, 96, 1, 0)), (147, (2, 91, 3, 4))], (3, 11), [])
abbrev k_X4_places : Nat := 77
def M_X4_places : MI := (cX4_places, [(10, (0, 4, 0, 0)), (101, (3, 97, 2, 0)), (110, (3, 96, 1, 0)), (113, (2, 34, 2, 3)), (117, (2, 14, 1, 0)), (150, (2, 16, 2, 0))], (4, 11), [])
abbrev k_X4_place : Nat := 78
def M_X4_place : MI := (cX4_place, [(10, (0, 4, 0, 0)), (45, (3, 98, 3, 0)), (101, (3, 97, 2, 0)), (110, (3, 96, 1, 0)), (113, (2, 34, 2, 3)), (117, (2, 14, 1, 0)), (150, (2, 16, 2, 0)), (153, (2, 15, 2, 0)), (156, (2, 21, 3, 0))], (6, 11), [])
abbrev k_X4_proof : Nat := 79
def M_X4_proof : MI := (cX4_proof, [(10, (0, 4, 0, 0)), (110, (3, 96, 1, 0)), (113, (2, 34, 2, 3)), (159, (8, 1, 0, 0)), (161, (13, 6, 0, 0)), (163, (12, 1, 0, 0)), (164, (2, 29, 2, 0))], (3, 11), [])
abbrev k_X4_inHeap : Nat := 80
def M_X4_inHeap : MI := (cX4_inHeap, [(10, (0, 4, 0, 0)), (64, (2, 1, 1, 2)), (101, (3, 97, 2, 0)), (104, (2, 2, 2, 2)), (141, (1, 3, 2, 0))], (2, 11), [])
abbrev k_X4_errorsIfSet : Nat := 81
def M_X4_errorsIfSet : MI := (cX4_errorsIfSet, [(38, (0, 4, 4, 0)), (120, (2, 93, 1, 4)), (167, (2, 26, 1, 0))], (1, 11), [])
abbrev k_X4_turnedIfSet : Nat := 82
def M_X4_turnedIfSet : MI := (cX4_turnedIfSet, [(38, (0, 4, 4, 0)), (120, (2, 93, 1, 4)), (170, (2, 27, 1, 0))], (1, 11), [])
abbrev k_X4_copies : Nat := 83
def M_X4_copies : MI := (cX4_copies, [(10, (0, 4, 0, 0)), (21, (0, 4, 1, 0)), (32, (0, 4, 3, 0)), (38, (0, 4, 4, 0)), (64, (2, 1, 1, 2)), (167, (2, 26, 1, 0)), (173, (2, 56, 2, 3)), (176, (2, 94, 1, 4))], (2, 11), [])
abbrev k_X4_bestToDistribute : Nat := 84
def M_X4_bestToDistribute : MI := (cX4_bestToDistribute, [(10, (0, 4, 0, 0)), (32, (0, 4, 3, 0)), (38, (0, 4, 4, 0)), (113, (2, 34, 2, 3)), (134, (2, 43, 2, 3)), (167, (2, 26, 1, 0)), (173, (2, 56, 2, 3)), (176, (2, 94, 1, 4))], (4, 11), [])
abbrev k_X4_order : Nat := 85
def M_X4_order : MI := (cX4_order, [(10, (0, 4, 0, 0)), (179, (2, 49, 1, 3)), (182, (2, 50, 1, 3))], (2, 14), [])
abbrev k_X4_append : Nat := 86
def M_X4_append : MI := (cX4_append, [(21, (0, 4, 1, 0)), (64, (2, 1, 1, 2)), (72, (8, 2, 0, 0)), (76, (12, 2, 0, 0)), (79, (8, 3, 0, 0)), (83, (12, 3, 0, 0)), (185, (13, 7, 0, 0)), (187, (13, 8, 0, 0)), (189, (2, 3, 2, 2))], (2, 11), [])
abbrev k_X4_clearText : Nat := 87
def M_X4_clearText : MI := (cX4_clearText, [(21, (0, 4, 1, 0)), (64, (2, 1, 1, 2)), (192, (2, 7, 1, 2))], (2, 11), [])
abbrev k_X4_undo : Nat := 88
def M_X4_undo : MI := (cX4_undo, [(10, (0, 4, 0, 0)), (28, (0, 4, 2, 0)), (79, (8, 3, 0, 0)), (83, (12, 3, 0, 0)), (195, (2, 58, 1, 1)), (196, (13, 9, 0, 0)), (198, (2, 60, 2, 1))], (1, 11), [])
abbrev k_X4_digest : Nat := 89
def M_X4_digest : MI := (cX4_digest, [(10, (0, 4, 0, 0)), (21, (0, 4, 1, 0)), (28, (0, 4, 2, 0)), (60, (2, 33, 2, 3)), (64, (2, 1, 1, 2)), (97, (2, 90, 3, 4)), (107, (2, 47, 2, 3)), (113, (2, 34, 2, 3)), (141, (1, 3, 2, 0)), (147, (2, 91, 3, 4)), (195, (2, 58, 1, 1)), (201, (10, 0, 0, 3449)), (203, (3, 101, 2, 0)), (207, (2, 10, 2, 2)), (211, (2, 30, 2, 0))], (5, 13), [])
abbrev k_X4_aboutLetter : Nat := 90
def M_X4_aboutLetter : MI := (cX4_aboutLetter, [(10, (0, 4, 0, 0)), (60, (2, 33, 2, 3)), (64, (2, 1, 1, 2)), (68, (2, 92, 2, 4)), (104, (2, 2, 2, 2)), (141, (1, 3, 2, 0)), (212, (2, 8, 2, 2)), (215, (2, 51, 2, 3)), (218, (2, 53, 2, 3)), (221, (3, 100, 1, 0))], (4, 11), [])
abbrev k_X4_aboutForme : Nat := 91
def M_X4_aboutForme : MI := (cX4_aboutForme, [(10, (0, 4, 0, 0)), (32, (0, 4, 3, 0)), (113, (2, 34, 2, 3)), (117, (2, 14, 1, 0)), (130, (2, 41, 2, 3)), (167, (2, 26, 1, 0)), (170, (2, 27, 1, 0)), (173, (2, 56, 2, 3)), (224, (2, 13, 1, 0))], (4, 11), [])
abbrev k_X4_lackingOf : Nat := 92
def M_X4_lackingOf : MI := (cX4_lackingOf, [(10, (0, 4, 0, 0)), (21, (0, 4, 1, 0)), (60, (2, 33, 2, 3)), (212, (2, 8, 2, 2)), (225, (9, 0, 0, 0))], (2, 11), [])
abbrev k_X4_settingGoes : Nat := 93
def M_X4_settingGoes : MI := (cX4_settingGoes, [(10, (0, 4, 0, 0)), (32, (0, 4, 3, 0)), (173, (2, 56, 2, 3)), (176, (2, 94, 1, 4))], (1, 12), [])
abbrev k_X4_trialGoes : Nat := 94
def M_X4_trialGoes : MI := (cX4_trialGoes, [(21, (0, 4, 1, 0)), (32, (0, 4, 3, 0)), (38, (0, 4, 4, 0)), (64, (2, 1, 1, 2)), (126, (2, 39, 3, 3)), (230, (2, 25, 1, 0))], (1, 12), [])
abbrev k_X4_requireLetter : Nat := 95
def M_X4_requireLetter : MI := (cX4_requireLetter, [(101, (3, 97, 2, 0))], (1, 10), [])
abbrev k_X4_requireForme : Nat := 96
def M_X4_requireForme : MI := (cX4_requireForme, [(101, (3, 97, 2, 0))], (1, 10), [])
abbrev k_X4_requireIndex : Nat := 97
def M_X4_requireIndex : MI := (cX4_requireIndex, [(159, (8, 1, 0, 0)), (163, (12, 1, 0, 0)), (231, (13, 0, 0, 0))], (2, 10), [])
abbrev k_X4_requireRange : Nat := 98
def M_X4_requireRange : MI := (cX4_requireRange, [(72, (8, 2, 0, 0)), (76, (12, 2, 0, 0)), (233, (13, 1, 0, 0))], (3, 10), [])
abbrev k_X4_requireRoomFor : Nat := 99
def M_X4_requireRoomFor : MI := (cX4_requireRoomFor, [(10, (0, 4, 0, 0)), (79, (8, 3, 0, 0)), (83, (12, 3, 0, 0)), (235, (2, 48, 1, 3)), (238, (13, 2, 0, 0))], (2, 10), [])
abbrev k_X4_widthOf : Nat := 100
def M_X4_widthOf : MI := (cX4_widthOf, [(240, (7, 0, 0, 0))], (1, 11), [])
abbrev k_X4_mixed : Nat := 101
def M_X4_mixed : MI := (cX4_mixed, [(244, (10, 0, 0, 31))], (4, 13), [])
abbrev k_J9_floorMod : Nat := 102
def M_J9_floorMod : MI := (cJ9_floorMod_7cf53, [], (3, 11), [])
abbrev k_X5_init : Nat := 103
def M_X5_init : MI := (cX5_init, [(1, (6, 0, 0, 0)), (7, (0, 5, 0, 0)), (13, (0, 5, 1, 0)), (16, (0, 5, 2, 0)), (19, (0, 5, 4, 0)), (22, (0, 5, 6, 0)), (25, (0, 5, 8, 0)), (28, (0, 5, 9, 0))], (2, 6), [])
abbrev k_X5_thrown : Nat := 104
def M_X5_thrown : MI := (cX5_thrown, [(31, (0, 5, 7, 0))], (1, 11), [])
abbrev k_X5_in : Nat := 105
def M_X5_in : MI := (cX5_in, [], (6, 12), [])
abbrev k_X5_fine : Nat := 106
def M_X5_fine : MI := (cX5_fine, [(31, (0, 5, 7, 0))], (2, 11), [])
abbrev k_X5_throwing : Nat := 107
def M_X5_throwing : MI := (cX5_throwing, [(31, (0, 5, 7, 0))], (2, 11), [])
abbrev k_X5_save : Nat := 108
def M_X5_save : MI := (cX5_save, [(7, (0, 5, 0, 0)), (13, (0, 5, 1, 0)), (35, (0, 5, 3, 0))], (2, 10), [])
abbrev k_X5_laysAside : Nat := 109
def M_X5_laysAside : MI := (cX5_laysAside, [(7, (0, 5, 0, 0)), (16, (0, 5, 2, 0))], (2, 10), [])
abbrev k_X5_takesBack : Nat := 110
def M_X5_takesBack : MI := (cX5_takesBack, [(7, (0, 5, 0, 0)), (16, (0, 5, 2, 0))], (2, 10), [])
abbrev k_X5_isLetter : Nat := 111
def M_X5_isLetter : MI := (cX5_isLetter, [(38, (10, 0, 0, 26)), (40, (3, 105, 3, 0))], (1, 12), [])
abbrev k_X5_isForme : Nat := 112
def M_X5_isForme : MI := (cX5_isForme, [(40, (3, 105, 3, 0)), (44, (10, 0, 0, 2))], (1, 12), [])
abbrev k_X5_widthOf : Nat := 113
def M_X5_widthOf : MI := (cX5_widthOf, [], (2, 11), [])
abbrev k_X5_puts : Nat := 114
def M_X5_puts : MI := (cX5_puts, [(7, (0, 5, 0, 0))], (4, 10), [])
abbrev k_X5_takes : Nat := 115
def M_X5_takes : MI := (cX5_takes, [(7, (0, 5, 0, 0))], (4, 11), [])
abbrev k_X5_countIn : Nat := 116
def M_X5_countIn : MI := (cX5_countIn, [(7, (0, 5, 0, 0))], (5, 11), [])
abbrev k_X5_foulIn : Nat := 117
def M_X5_foulIn : MI := (cX5_foulIn, [(46, (2, 116, 3, 5))], (2, 11), [])
abbrev k_X5_inBoxes : Nat := 118
def M_X5_inBoxes : MI := (cX5_inBoxes, [(7, (0, 5, 0, 0))], (3, 11), [])
abbrev k_X5_takesOwn : Nat := 119
def M_X5_takesOwn : MI := (cX5_takesOwn, [(7, (0, 5, 0, 0))], (4, 12), [])
abbrev k_X5_empties : Nat := 120
def M_X5_empties : MI := (cX5_empties, [(22, (0, 5, 6, 0)), (46, (2, 116, 3, 5)), (50, (2, 115, 2, 5))], (4, 11), [])
abbrev k_X5_lineAt : Nat := 121
def M_X5_lineAt : MI := (cX5_lineAt, [], (2, 11), [])
abbrev k_X5_places0 : Nat := 122
def M_X5_places0 : MI := (cX5_places0, [(7, (0, 5, 0, 0)), (54, (3, 121, 2, 0))], (3, 11), [])
abbrev k_X5_of : Nat := 123
def M_X5_of : MI := (cX5_of, [(7, (0, 5, 0, 0)), (54, (3, 121, 2, 0))], (5, 11), [])
abbrev k_X5_isWrong : Nat := 124
def M_X5_isWrong : MI := (cX5_isWrong, [(57, (2, 123, 5, 5))], (4, 12), [])
abbrev k_X5_countOf : Nat := 125
def M_X5_countOf : MI := (cX5_countOf, [(7, (0, 5, 0, 0)), (57, (2, 123, 5, 5)), (61, (2, 122, 3, 5)), (64, (2, 124, 4, 5))], (7, 11), [])
abbrev k_X5_countAll : Nat := 126
def M_X5_countAll : MI := (cX5_countAll, [(68, (2, 125, 3, 5))], (2, 11), [])
abbrev k_X5_sorts : Nat := 127
def M_X5_sorts : MI := (cX5_sorts, [(7, (0, 5, 0, 0)), (71, (2, 118, 1, 5)), (75, (2, 126, 2, 5))], (1, 11), [])
abbrev k_X5_loosens : Nat := 128
def M_X5_loosens : MI := (cX5_loosens, [(7, (0, 5, 0, 0)), (54, (3, 121, 2, 0))], (3, 10), [])
abbrev k_X5_buys : Nat := 129
def M_X5_buys : MI := (cX5_buys, [(7, (0, 5, 0, 0)), (78, (2, 114, 3, 5))], (4, 10), [])
abbrev k_X5_buy : Nat := 130
def M_X5_buy : MI := (cX5_buy, [(40, (3, 105, 3, 0)), (46, (2, 116, 3, 5)), (82, (3, 111, 1, 0)), (86, (2, 107, 2, 5)), (89, (10, 0, 0, 30)), (91, (2, 127, 1, 5)), (94, (2, 108, 1, 5)), (97, (2, 129, 3, 5)), (100, (2, 106, 2, 5))], (3, 11), [])
abbrev k_X5_lacking : Nat := 131
def M_X5_lacking : MI := (cX5_lacking, [(19, (0, 5, 4, 0)), (46, (2, 116, 3, 5)), (103, (0, 5, 5, 0))], (4, 11), [])
abbrev k_X5_buyLacking : Nat := 132
def M_X5_buyLacking : MI := (cX5_buyLacking, [(86, (2, 107, 2, 5)), (91, (2, 127, 1, 5)), (94, (2, 108, 1, 5)), (97, (2, 129, 3, 5)), (100, (2, 106, 2, 5)), (106, (2, 131, 2, 5))], (3, 11), [])
abbrev k_X5_spill : Nat := 133
def M_X5_spill : MI := (cX5_spill, [(40, (3, 105, 3, 0)), (46, (2, 116, 3, 5)), (50, (2, 115, 2, 5)), (78, (2, 114, 3, 5)), (82, (3, 111, 1, 0)), (86, (2, 107, 2, 5)), (89, (10, 0, 0, 30)), (94, (2, 108, 1, 5)), (100, (2, 106, 2, 5))], (5, 11), [])
abbrev k_X5_clean : Nat := 134
def M_X5_clean : MI := (cX5_clean, [(7, (0, 5, 0, 0)), (22, (0, 5, 6, 0)), (78, (2, 114, 3, 5)), (82, (3, 111, 1, 0)), (86, (2, 107, 2, 5)), (94, (2, 108, 1, 5)), (100, (2, 106, 2, 5)), (109, (2, 120, 2, 5))], (5, 11), [])
abbrev k_X5_set : Nat := 135
def M_X5_set : MI := (cX5_set, [(7, (0, 5, 0, 0)), (40, (3, 105, 3, 0)), (44, (10, 0, 0, 2)), (86, (2, 107, 2, 5)), (94, (2, 108, 1, 5)), (100, (2, 106, 2, 5)), (112, (10, 0, 0, 50)), (114, (10, 0, 0, 99))], (4, 11), [])
abbrev k_X5_inAllBoxes : Nat := 136
def M_X5_inAllBoxes : MI := (cX5_inAllBoxes, [(7, (0, 5, 0, 0))], (4, 11), [])
abbrev k_X5_inTheHeap : Nat := 137
def M_X5_inTheHeap : MI := (cX5_inTheHeap, [(7, (0, 5, 0, 0))], (4, 11), [])
abbrev k_X5_letterOf : Nat := 138
def M_X5_letterOf : MI := (cX5_letterOf, [(7, (0, 5, 0, 0)), (46, (2, 116, 3, 5)), (75, (2, 126, 2, 5)), (106, (2, 131, 2, 5)), (116, (2, 117, 2, 5)), (119, (2, 136, 2, 5)), (122, (2, 137, 2, 5)), (125, (3, 113, 1, 0))], (3, 11), [])
abbrev k_X5_letter : Nat := 139
def M_X5_letter : MI := (cX5_letter, [(40, (3, 105, 3, 0)), (82, (3, 111, 1, 0)), (86, (2, 107, 2, 5)), (100, (2, 106, 2, 5)), (128, (10, 0, 0, 7)), (130, (2, 138, 3, 5))], (3, 11), [])
abbrev k_X5_inBox : Nat := 140
def M_X5_inBox : MI := (cX5_inBox, [(7, (0, 5, 0, 0)), (46, (2, 116, 3, 5)), (82, (3, 111, 1, 0)), (86, (2, 107, 2, 5)), (100, (2, 106, 2, 5))], (5, 11), [])
abbrev k_X5_allFoul : Nat := 141
def M_X5_allFoul : MI := (cX5_allFoul, [(116, (2, 117, 2, 5))], (3, 11), [])
abbrev k_X5_valueOf : Nat := 142
def M_X5_valueOf : MI := (cX5_valueOf, [(7, (0, 5, 0, 0)), (71, (2, 118, 1, 5)), (75, (2, 126, 2, 5)), (91, (2, 127, 1, 5)), (133, (2, 141, 1, 5))], (2, 11), [])
abbrev k_X5_value : Nat := 143
def M_X5_value : MI := (cX5_value, [(40, (3, 105, 3, 0)), (86, (2, 107, 2, 5)), (100, (2, 106, 2, 5)), (136, (10, 0, 0, 11)), (138, (2, 142, 2, 5))], (2, 11), [])
abbrev k_X5_lender : Nat := 144
def M_X5_lender : MI := (cX5_lender, [(7, (0, 5, 0, 0)), (46, (2, 116, 3, 5)), (125, (3, 113, 1, 0))], (5, 11), [])
abbrev k_X5_sets : Nat := 145
def M_X5_sets : MI := (cX5_sets, [(7, (0, 5, 0, 0)), (19, (0, 5, 4, 0)), (25, (0, 5, 8, 0)), (28, (0, 5, 9, 0)), (50, (2, 115, 2, 5)), (103, (0, 5, 5, 0)), (141, (2, 144, 2, 5))], (4, 12), [])
abbrev k_X5_wrongInLine : Nat := 146
def M_X5_wrongInLine : MI := (cX5_wrongInLine, [(19, (0, 5, 4, 0)), (25, (0, 5, 8, 0)), (28, (0, 5, 9, 0)), (103, (0, 5, 5, 0))], (3, 11), [])
abbrev k_X5_turnedInLine : Nat := 147
def M_X5_turnedInLine : MI := (cX5_turnedInLine, [(28, (0, 5, 9, 0)), (103, (0, 5, 5, 0))], (3, 11), [])
abbrev k_X5_setLine : Nat := 148
def M_X5_setLine : MI := (cX5_setLine, [(7, (0, 5, 0, 0)), (19, (0, 5, 4, 0)), (25, (0, 5, 8, 0)), (28, (0, 5, 9, 0)), (54, (3, 121, 2, 0)), (86, (2, 107, 2, 5)), (94, (2, 108, 1, 5)), (100, (2, 106, 2, 5)), (103, (0, 5, 5, 0)), (144, (3, 112, 1, 0)), (147, (2, 109, 1, 5)), (150, (2, 145, 1, 5)), (154, (2, 110, 1, 5))], (6, 11), [])
abbrev k_X5_corrects : Nat := 149
def M_X5_corrects : MI := (cX5_corrects, [(7, (0, 5, 0, 0)), (54, (3, 121, 2, 0)), (57, (2, 123, 5, 5)), (61, (2, 122, 3, 5)), (64, (2, 124, 4, 5)), (78, (2, 114, 3, 5)), (157, (2, 119, 2, 5))], (7, 11), [])
abbrev k_X5_correct : Nat := 150
def M_X5_correct : MI := (cX5_correct, [(86, (2, 107, 2, 5)), (94, (2, 108, 1, 5)), (100, (2, 106, 2, 5)), (144, (3, 112, 1, 0)), (160, (2, 149, 2, 5))], (2, 11), [])
abbrev k_X5_distributes : Nat := 151
def M_X5_distributes : MI := (cX5_distributes, [(7, (0, 5, 0, 0)), (57, (2, 123, 5, 5)), (61, (2, 122, 3, 5)), (78, (2, 114, 3, 5)), (163, (2, 128, 2, 5))], (7, 11), [])
abbrev k_X5_distribute : Nat := 152
def M_X5_distribute : MI := (cX5_distribute, [(86, (2, 107, 2, 5)), (94, (2, 108, 1, 5)), (100, (2, 106, 2, 5)), (144, (3, 112, 1, 0)), (167, (2, 151, 2, 5))], (2, 11), [])
abbrev k_X5_pie : Nat := 153
def M_X5_pie : MI := (cX5_pie, [(7, (0, 5, 0, 0)), (57, (2, 123, 5, 5)), (61, (2, 122, 3, 5)), (86, (2, 107, 2, 5)), (94, (2, 108, 1, 5)), (100, (2, 106, 2, 5)), (144, (3, 112, 1, 0)), (163, (2, 128, 2, 5))], (4, 11), [])
abbrev k_X5_sortHeap : Nat := 154
def M_X5_sortHeap : MI := (cX5_sortHeap, [(7, (0, 5, 0, 0)), (40, (3, 105, 3, 0)), (78, (2, 114, 3, 5)), (86, (2, 107, 2, 5)), (94, (2, 108, 1, 5)), (100, (2, 106, 2, 5)), (114, (10, 0, 0, 99))], (4, 11), [])
abbrev k_X5_formeOf : Nat := 155
def M_X5_formeOf : MI := (cX5_formeOf, [(7, (0, 5, 0, 0)), (68, (2, 125, 3, 5)), (147, (2, 109, 1, 5)), (154, (2, 110, 1, 5)), (160, (2, 149, 2, 5))], (4, 11), [])
abbrev k_X5_forme : Nat := 156
def M_X5_forme : MI := (cX5_forme, [(40, (3, 105, 3, 0)), (86, (2, 107, 2, 5)), (100, (2, 106, 2, 5)), (144, (3, 112, 1, 0)), (170, (10, 0, 0, 4)), (172, (2, 155, 3, 5))], (3, 11), [])
abbrev k_X5_isLine : Nat := 157
def M_X5_isLine : MI := (cX5_isLine, [(7, (0, 5, 0, 0)), (40, (3, 105, 3, 0)), (144, (3, 112, 1, 0))], (3, 12), [])
abbrev k_X5_places : Nat := 158
def M_X5_places : MI := (cX5_places, [(61, (2, 122, 3, 5)), (86, (2, 107, 2, 5)), (100, (2, 106, 2, 5)), (175, (2, 157, 3, 5))], (3, 11), [])
abbrev k_X5_placeOf : Nat := 159
def M_X5_placeOf : MI := (cX5_placeOf, [(57, (2, 123, 5, 5)), (64, (2, 124, 4, 5))], (5, 11), [])
abbrev k_X5_place : Nat := 160
def M_X5_place : MI := (cX5_place, [(40, (3, 105, 3, 0)), (61, (2, 122, 3, 5)), (86, (2, 107, 2, 5)), (100, (2, 106, 2, 5)), (175, (2, 157, 3, 5)), (179, (10, 0, 0, 3)), (181, (2, 159, 5, 5))], (5, 11), [])
abbrev k_X5_proof : Nat := 161
def M_X5_proof : MI := (cX5_proof, [(7, (0, 5, 0, 0)), (61, (2, 122, 3, 5)), (64, (2, 124, 4, 5)), (86, (2, 107, 2, 5)), (100, (2, 106, 2, 5)), (144, (3, 112, 1, 0))], (7, 11), [])
abbrev k_X5_inHeap : Nat := 162
def M_X5_inHeap : MI := (cX5_inHeap, [(7, (0, 5, 0, 0)), (40, (3, 105, 3, 0)), (86, (2, 107, 2, 5)), (100, (2, 106, 2, 5))], (2, 11), [])
abbrev k_X5_errorsIfSet : Nat := 163
def M_X5_errorsIfSet : MI := (cX5_errorsIfSet, [(100, (2, 106, 2, 5)), (147, (2, 109, 1, 5)), (150, (2, 145, 1, 5)), (154, (2, 110, 1, 5)), (184, (2, 146, 1, 5))], (2, 11), [])
abbrev k_X5_turnedIfSet : Nat := 164
def M_X5_turnedIfSet : MI := (cX5_turnedIfSet, [(100, (2, 106, 2, 5)), (147, (2, 109, 1, 5)), (150, (2, 145, 1, 5)), (154, (2, 110, 1, 5)), (187, (2, 147, 1, 5))], (2, 11), [])
abbrev k_X5_copies : Nat := 165
def M_X5_copies : MI := (cX5_copies, [(100, (2, 106, 2, 5)), (103, (0, 5, 5, 0)), (147, (2, 109, 1, 5)), (150, (2, 145, 1, 5)), (154, (2, 110, 1, 5)), (184, (2, 146, 1, 5))], (2, 11), [])
abbrev k_X5_bestToDistribute : Nat := 166
def M_X5_bestToDistribute : MI := (cX5_bestToDistribute, [(100, (2, 106, 2, 5)), (147, (2, 109, 1, 5)), (150, (2, 145, 1, 5)), (154, (2, 110, 1, 5)), (167, (2, 151, 2, 5)), (184, (2, 146, 1, 5))], (6, 11), [])
abbrev k_X5_order : Nat := 167
def M_X5_order : MI := (cX5_order, [(31, (0, 5, 7, 0)), (71, (2, 118, 1, 5)), (133, (2, 141, 1, 5))], (6, 14), [])
abbrev k_X5_append : Nat := 168
def M_X5_append : MI := (cX5_append, [(19, (0, 5, 4, 0)), (40, (3, 105, 3, 0)), (86, (2, 107, 2, 5)), (100, (2, 106, 2, 5)), (103, (0, 5, 5, 0)), (190, (10, 0, 0, 97)), (192, (10, 0, 0, 122))], (2, 11), [])
abbrev k_X5_clearText : Nat := 169
def M_X5_clearText : MI := (cX5_clearText, [(100, (2, 106, 2, 5)), (103, (0, 5, 5, 0))], (2, 11), [])
abbrev k_X5_undo : Nat := 170
def M_X5_undo : MI := (cX5_undo, [(7, (0, 5, 0, 0)), (13, (0, 5, 1, 0)), (35, (0, 5, 3, 0)), (86, (2, 107, 2, 5)), (100, (2, 106, 2, 5))], (2, 11), [])
abbrev k_X5_hashBoxes : Nat := 171
def M_X5_hashBoxes : MI := (cX5_hashBoxes, [(7, (0, 5, 0, 0)), (22, (0, 5, 6, 0)), (130, (2, 138, 3, 5)), (194, (10, 0, 0, 31))], (9, 13), [])
abbrev k_X5_hashForme : Nat := 172
def M_X5_hashForme : MI := (cX5_hashForme, [(7, (0, 5, 0, 0)), (61, (2, 122, 3, 5)), (172, (2, 155, 3, 5)), (181, (2, 159, 5, 5)), (194, (10, 0, 0, 31))], (9, 13), [])
abbrev k_X5_digest : Nat := 173
def M_X5_digest : MI := (cX5_digest, [(7, (0, 5, 0, 0)), (19, (0, 5, 4, 0)), (31, (0, 5, 7, 0)), (35, (0, 5, 3, 0)), (103, (0, 5, 5, 0)), (138, (2, 142, 2, 5)), (194, (10, 0, 0, 31)), (196, (10, 0, 0, 106919)), (198, (2, 171, 2, 5)), (202, (2, 172, 3, 5))], (4, 13), [])
abbrev k_L_buy : Nat := 174
def M_L_buy : MI := (cL_buy, [(7, (2, 63, 3, 4))], (5, 11), [(0, 10, 13, 1), (0, 10, 17, 2), (0, 10, 21, 3)])
abbrev k_L_buyLacking : Nat := 175
def M_L_buyLacking : MI := (cL_buyLacking, [(19, (2, 64, 1, 4))], (3, 11), [(0, 8, 11, 3)])
abbrev k_L_spill : Nat := 176
def M_L_spill : MI := (cL_spill, [(23, (2, 65, 4, 4))], (6, 11), [(0, 12, 15, 1), (0, 12, 19, 2), (0, 12, 23, 3)])
abbrev k_L_clean : Nat := 177
def M_L_clean : MI := (cL_clean, [(27, (2, 66, 2, 4))], (4, 11), [(0, 9, 12, 1)])
abbrev k_L_set : Nat := 178
def M_L_set : MI := (cL_set, [(31, (2, 67, 3, 4))], (5, 11), [(0, 10, 13, 2)])
abbrev k_L_letter : Nat := 179
def M_L_letter : MI := (cL_letter, [(34, (2, 68, 3, 4))], (5, 11), [(0, 10, 13, 1), (0, 10, 17, 2)])
abbrev k_L_inBox : Nat := 180
def M_L_inBox : MI := (cL_inBox, [(37, (2, 69, 3, 4))], (5, 11), [(0, 10, 13, 1)])
abbrev k_L_value : Nat := 181
def M_L_value : MI := (cL_value, [(40, (2, 70, 2, 4))], (4, 11), [(0, 9, 12, 2)])
abbrev k_L_setLine : Nat := 182
def M_L_setLine : MI := (cL_setLine, [(43, (2, 71, 2, 4))], (4, 11), [(0, 9, 12, 1), (0, 9, 15, 3)])
abbrev k_L_correct : Nat := 183
def M_L_correct : MI := (cL_correct, [(46, (2, 72, 2, 4))], (4, 11), [(0, 9, 12, 1)])
abbrev k_L_distribute : Nat := 184
def M_L_distribute : MI := (cL_distribute, [(49, (2, 73, 2, 4))], (4, 11), [(0, 9, 12, 1)])
abbrev k_L_pie : Nat := 185
def M_L_pie : MI := (cL_pie, [(52, (2, 74, 2, 4))], (4, 11), [(0, 9, 12, 1)])
abbrev k_L_sortHeap : Nat := 186
def M_L_sortHeap : MI := (cL_sortHeap, [(55, (2, 75, 2, 4))], (4, 11), [(0, 9, 12, 2)])
abbrev k_L_forme : Nat := 187
def M_L_forme : MI := (cL_forme, [(58, (2, 76, 3, 4))], (5, 11), [(0, 10, 13, 1), (0, 10, 17, 2)])
abbrev k_L_places : Nat := 188
def M_L_places : MI := (cL_places, [(61, (2, 77, 3, 4))], (5, 11), [(0, 10, 13, 1)])
abbrev k_L_place : Nat := 189
def M_L_place : MI := (cL_place, [(64, (2, 78, 5, 4))], (7, 11), [(0, 14, 17, 1), (0, 14, 21, 2)])
abbrev k_L_proof : Nat := 190
def M_L_proof : MI := (cL_proof, [(68, (2, 79, 3, 4))], (5, 11), [(0, 10, 13, 1)])
abbrev k_L_inHeap : Nat := 191
def M_L_inHeap : MI := (cL_inHeap, [(71, (2, 80, 2, 4))], (4, 11), [(0, 9, 12, 1)])
abbrev k_L_append : Nat := 192
def M_L_append : MI := (cL_append, [(74, (2, 86, 2, 4))], (4, 11), [(0, 9, 12, 2), (0, 9, 15, 3)])
abbrev k_L_undo : Nat := 193
def M_L_undo : MI := (cL_undo, [(77, (2, 88, 1, 4))], (3, 11), [(0, 8, 11, 3)])
abbrev k_L_law : Nat := 194
def M_L_law : MI := (cL_law, [(8, (5, 4, 0, 0)), (80, (4, 62, 1, 4)), (81, (5, 5, 0, 0)), (83, (4, 103, 1, 5)), (84, (3, 174, 4, 0)), (89, (2, 130, 3, 5)), (90, (2, 104, 1, 5)), (93, (3, 175, 2, 0)), (96, (2, 132, 1, 5)), (97, (3, 176, 5, 0)), (100, (2, 133, 4, 5)), (101, (3, 177, 3, 0)), (104, (2, 134, 2, 5)), (105, (3, 178, 4, 0)), (107, (2, 135, 3, 5)), (108, (3, 179, 4, 0)), (110, (2, 139, 3, 5)), (111, (3, 180, 4, 0)), (113, (2, 140, 3, 5)), (114, (3, 181, 3, 0)), (116, (2, 143, 2, 5)), (117, (3, 182, 3, 0)), (119, (2, 148, 2, 5)), (120, (3, 183, 3, 0)), (122, (2, 150, 2, 5)), (123, (3, 184, 3, 0)), (125, (2, 152, 2, 5)), (126, (3, 185, 3, 0)), (128, (2, 153, 2, 5)), (129, (3, 186, 3, 0)), (131, (2, 154, 2, 5)), (132, (3, 187, 4, 0)), (134, (2, 156, 3, 5)), (135, (3, 188, 4, 0)), (137, (2, 158, 3, 5)), (138, (3, 189, 6, 0)), (141, (2, 160, 5, 5)), (142, (3, 190, 4, 0)), (144, (2, 161, 3, 5)), (145, (3, 191, 3, 0)), (147, (2, 162, 2, 5)), (148, (2, 81, 1, 4)), (151, (2, 163, 1, 5)), (152, (2, 82, 1, 4)), (155, (2, 164, 1, 5)), (156, (2, 83, 1, 4)), (159, (2, 165, 1, 5)), (160, (2, 84, 1, 4)), (163, (2, 166, 1, 5)), (164, (2, 85, 1, 4)), (168, (2, 167, 1, 5)), (169, (3, 192, 3, 0)), (171, (2, 168, 2, 5)), (172, (2, 87, 1, 4)), (175, (2, 169, 1, 5)), (176, (3, 193, 2, 0)), (178, (2, 170, 1, 5)), (179, (2, 89, 1, 4)), (183, (2, 173, 1, 5))], (9, 12), [])
def mtL : List MI := [M_X2_init, M_X2_size, M_X2_at, M_X2_put, M_X2_takeAt, M_X2_takeLast, M_X2_dropFirst, M_X2_clear, M_X2_countOf, M_X2_lastIndexOf, M_X2_mixedInto, M_X2_copyFrom, M_X0_init, M_X0_size, M_X0_lines, M_X0_startOf, M_X0_lengthOf, M_X0_sortAt, M_X0_wantedAt, M_X0_turnedAt, M_X0_wrongAt, M_X0_about, M_X0_add, M_X0_endLine, M_X0_putRight, M_X0_clear, M_X0_errors, M_X0_turnedSorts, M_X0_countOf, M_X0_errorAt, M_X0_mixedInto, M_X0_copyFrom, M_X3_init, M_X3_boxOf, M_X3_formeOf, M_X3_putBack, M_X3_buySorts, M_X3_spillSorts, M_X3_cleanBox, M_X3_setText, M_X3_lenderFor, M_X3_correctForme, M_X3_correctPlace, M_X3_distributeForme, M_X3_slips, M_X3_pieForme, M_X3_sortFromHeap, M_X3_number, M_X3_allSorts, M_X3_sortsInBoxes, M_X3_foulSorts, M_X3_countInBoxes, M_X3_sortsInFormes, M_X3_countInFormes, M_X3_errorsInFormes, M_X3_turnedInFormes, M_X3_copyFrom, M_X1_init, M_X1_size, M_X1_save, M_X1_restore, M_X1_dropOldest, M_X4_init, M_X4_buy, M_X4_buyLacking, M_X4_spill, M_X4_clean, M_X4_set, M_X4_letter, M_X4_inBox, M_X4_value, M_X4_setLine, M_X4_correct, M_X4_distribute, M_X4_pie, M_X4_sortHeap, M_X4_forme, M_X4_places, M_X4_place, M_X4_proof, M_X4_inHeap, M_X4_errorsIfSet, M_X4_turnedIfSet, M_X4_copies, M_X4_bestToDistribute, M_X4_order, M_X4_append, M_X4_clearText, M_X4_undo, M_X4_digest, M_X4_aboutLetter, M_X4_aboutForme, M_X4_lackingOf, M_X4_settingGoes, M_X4_trialGoes, M_X4_requireLetter, M_X4_requireForme, M_X4_requireIndex, M_X4_requireRange, M_X4_requireRoomFor, M_X4_widthOf, M_X4_mixed, M_J9_floorMod, M_X5_init, M_X5_thrown, M_X5_in, M_X5_fine, M_X5_throwing, M_X5_save, M_X5_laysAside, M_X5_takesBack, M_X5_isLetter, M_X5_isForme, M_X5_widthOf, M_X5_puts, M_X5_takes, M_X5_countIn, M_X5_foulIn, M_X5_inBoxes, M_X5_takesOwn, M_X5_empties, M_X5_lineAt, M_X5_places0, M_X5_of, M_X5_isWrong, M_X5_countOf, M_X5_countAll, M_X5_sorts, M_X5_loosens, M_X5_buys, M_X5_buy, M_X5_lacking, M_X5_buyLacking, M_X5_spill, M_X5_clean, M_X5_set, M_X5_inAllBoxes, M_X5_inTheHeap, M_X5_letterOf, M_X5_letter, M_X5_inBox, M_X5_allFoul, M_X5_valueOf, M_X5_value, M_X5_lender, M_X5_sets, M_X5_wrongInLine, M_X5_turnedInLine, M_X5_setLine, M_X5_corrects, M_X5_correct, M_X5_distributes, M_X5_distribute, M_X5_pie, M_X5_sortHeap, M_X5_formeOf, M_X5_forme, M_X5_isLine, M_X5_places, M_X5_placeOf, M_X5_place, M_X5_proof, M_X5_inHeap, M_X5_errorsIfSet, M_X5_turnedIfSet, M_X5_copies, M_X5_bestToDistribute, M_X5_order, M_X5_append, M_X5_clearText, M_X5_undo, M_X5_hashBoxes, M_X5_hashForme, M_X5_digest, M_L_buy, M_L_buyLacking, M_L_spill, M_L_clean, M_L_set, M_L_letter, M_L_inBox, M_L_value, M_L_setLine, M_L_correct, M_L_distribute, M_L_pie, M_L_sortHeap, M_L_forme, M_L_places, M_L_place, M_L_proof, M_L_inHeap, M_L_append, M_L_undo, M_L_law]
def mt (k : Nat) : MI := mtL.getD k (ByteArray.empty, [], (0, 0), [])
end
section
/-! one step, and the run: 'mt' is the table of the methods (part 'table') -/
def cat1 (k : Nat) (len hp : Nat) (ls : VLs) : Option (Nat × VLs) := if k < ls.length then some (hp + len, set1 k none ls) else none
def ctch (M : MI) (hp : Nat) (ls : VLs) : Option (Nat × VLs) := match decode M.1 hp with
  | .ok (.astore_n k, 1) => cat1 k 1 hp ls
  | .ok (.astore k, 2) => cat1 k 2 hp ls
  | _ => none
def stepc (rec : MI → Nat → VLs → List Value → VH → Option VR) (M : MI) (pc : Nat) (ls : VLs) (h : VH) : VA → Option VR
  | Sum.inl q => rec M q.1 q.2.1 q.2.2.1 q.2.2.2
  | Sum.inr (Sum.inl (μ, as, rest)) => if (entA as).length ≤ (mt μ).2.2.1.1 then (match rec (mt μ) 0 (entL (mt μ).2.2.1.1 as) [] h with
    | none => none
    | some (Sum.inl v, h') => rec M (pc + 3) ls (v.toList ++ rest) h'
    | some (Sum.inr E, h') => match hnd M.2.2.2 pc E with
      | none => some (Sum.inr E, h')
      | some hp => match ctch M hp ls with
        | none => none
        | some (pc', ls') => rec M pc' ls' [] h') else none
  | Sum.inr (Sum.inr (Sum.inl v)) => some (Sum.inl v, h)
  | Sum.inr (Sum.inr (Sum.inr E)) => some (Sum.inr E, ((h.1.1, false, h.1.2.2.1 + 1, h.1.2.2.2 + 6), h.2))
def run : Nat → MI → Nat → VLs → List Value → VH → Option VR
  | 0, _, _, _, _, _ => none
  | f + 1, M, pc, ls, st, h => match decode M.1 pc with
    | .ok (ins, len) => if okL ins len = true then (match act M ins len pc ls st h with
      | some a => stepc (run f) M pc ls h a
      | none => none) else none
    | _ => none
theorem stepc_mono {r1 r2 : MI → Nat → VLs → List Value → VH → Option VR} (hr : ∀ M pc ls st h x, r1 M pc ls st h = some x → r2 M pc ls st h = some x) {M : MI} {pc : Nat} {ls : VLs} {h : VH} {a : VA} {x : VR} (hx : stepc r1 M pc ls h a = some x) : stepc r2 M pc ls h a = some x := by
  rcases a with q | ⟨μ, as, rest⟩ | v | E
  · exact hr _ _ _ _ _ _ hx
  · simp only [stepc] at hx ⊢
    by_cases he : (entA as).length ≤ (mt μ).2.2.1.1
    case neg => rw [if_neg he] at hx; cases hx
    rw [if_pos he] at hx ⊢
    cases h1 : r1 (mt μ) 0 (entL (mt μ).2.2.1.1 as) [] h with
    | none => rw [h1] at hx; cases hx
    | some y =>
      rw [hr _ _ _ _ _ _ h1]
      rw [h1] at hx
      obtain ⟨v | E, h'⟩ := y
      · exact hr _ _ _ _ _ _ hx
      · simp only at hx ⊢
        cases h2 : hnd M.2.2.2 pc E with
        | none => rw [h2] at hx; exact hx
        | some hp =>
          rw [h2] at hx
          simp only at hx ⊢
          cases h3 : ctch M hp ls with
          | none => rw [h3] at hx; cases hx
          | some z =>
            rw [h3] at hx
            exact hr _ _ _ _ _ _ hx
  · exact hx
  · exact hx
theorem run_mono1 : ∀ (f : Nat) {M : MI} {pc : Nat} {ls : VLs} {st : List Value} {h : VH} {x : VR}, run f M pc ls st h = some x → run (f + 1) M pc ls st h = some x := by
  intro f
  induction f with
  | zero => intro M pc ls st h x hx; cases hx
  | succ f ih =>
    intro M pc ls st h x hx
    rw [run] at hx ⊢
    cases hd : decode M.1 pc with
    | error e => rw [hd] at hx; cases hx
    | ok q =>
      rw [hd] at hx
      obtain ⟨ins, len⟩ := q
      simp only at hx ⊢
      by_cases ho : okL ins len = true
      case neg => rw [if_neg ho] at hx; cases hx
      rw [if_pos ho] at hx ⊢
      cases ha : act M ins len pc ls st h with
      | none => rw [ha] at hx; cases hx
      | some a =>
        rw [ha] at hx
        exact stepc_mono (fun M pc ls st h x q => ih q) hx
theorem run_mono {f g : Nat} (hfg : f ≤ g) {M : MI} {pc : Nat} {ls : VLs} {st : List Value} {h : VH} {x : VR} (hx : run f M pc ls st h = some x) : run g M pc ls st h = some x := by
  induction g with
  | zero =>
    have : f = 0 := by omega
    subst this; exact hx
  | succ g ih =>
    by_cases q : f ≤ g
    · exact run_mono1 g (ih q)
    · have : f = g + 1 := by omega
      subst this; exact hx
/-- from this point the method's run ends, and Q holds of its end -/
def Xm (M : MI) (pc : Nat) (ls : VLs) (st : List Value) (h : VH) (Q : (Option Value ⊕ Nat) → VH → Prop) : Prop := ∃ (f : Nat) (x : VR), run f M pc ls st h = some x ∧ Q x.1 x.2
/-- a call of the method with these arguments ends, and Q holds of its end -/
def Cm (μ : Nat) (as : List Value) (h : VH) (Q : (Option Value ⊕ Nat) → VH → Prop) : Prop := Xm (mt μ) 0 (entL (mt μ).2.2.1.1 as) [] h Q
theorem Xm.mono {M : MI} {pc : Nat} {ls : VLs} {st : List Value} {h : VH} {Q Q' : (Option Value ⊕ Nat) → VH → Prop} (k : Xm M pc ls st h Q) (hq : ∀ r h', Q r h' → Q' r h') : Xm M pc ls st h Q' := by
  obtain ⟨f, x, h1, h2⟩ := k
  exact ⟨f, x, h1, hq _ _ h2⟩
theorem Cm.mono {μ : Nat} {as : List Value} {h : VH} {Q Q' : (Option Value ⊕ Nat) → VH → Prop} (k : Cm μ as h Q) (hq : ∀ r h', Q r h' → Q' r h') : Cm μ as h Q' := Xm.mono k hq
theorem Cm.in {μ : Nat} {M : MI} {as : List Value} {h : VH} {ls : VLs} {Q : (Option Value ⊕ Nat) → VH → Prop} (hM : mt μ = M) (hl : entL M.2.2.1.1 as = ls) (k : Xm M 0 ls [] h Q) : Cm μ as h Q := by
  subst hM; subst hl; exact k
section XR
variable {M : MI} {pc len : Nat} {ls : VLs} {st : List Value} {h : VH} {Q : (Option Value ⊕ Nat) → VH → Prop} {ins : ClassFile.Instr}
theorem X_nx {pc' : Nat} {ls' : VLs} {st' : List Value} {h' : VH} (hd : decode M.1 pc = .ok (ins, len)) (ha : act M ins len pc ls st h = some (Sum.inl (pc', ls', st', h'))) (k : Xm M pc' ls' st' h' Q) (ho : okL ins len = true := by rfl) : Xm M pc ls st h Q := by
  obtain ⟨f, x, h1, h2⟩ := k
  refine ⟨f + 1, x, ?_, h2⟩
  rw [run, hd]
  simp only [ho, if_true, ha]
  exact h1
theorem X_ret {v : Option Value} (hd : decode M.1 pc = .ok (ins, len)) (ha : act M ins len pc ls st h = some (Sum.inr (Sum.inr (Sum.inl v)))) (k : Q (Sum.inl v) h) (ho : okL ins len = true := by rfl) : Xm M pc ls st h Q := by
  refine ⟨1, (Sum.inl v, h), ?_, k⟩
  rw [run, hd]
  simp only [ho, if_true, ha]
  rfl
theorem X_thr {E : Nat} (hd : decode M.1 pc = .ok (ins, len)) (ha : act M ins len pc ls st h = some (Sum.inr (Sum.inr (Sum.inr E)))) (k : Q (Sum.inr E) ((h.1.1, false, h.1.2.2.1 + 1, h.1.2.2.2 + 6), h.2)) (ho : okL ins len = true := by rfl) : Xm M pc ls st h Q := by
  refine ⟨1, (Sum.inr E, ((h.1.1, false, h.1.2.2.1 + 1, h.1.2.2.2 + 6), h.2)), ?_, k⟩
  rw [run, hd]
  simp only [ho, if_true, ha]
  rfl
/-- behind a call that throws: not caught, or caught -/
def Xx (M : MI) (pc : Nat) (ls : VLs) (Q : (Option Value ⊕ Nat) → VH → Prop) (E : Nat) (h : VH) : Prop := match hnd M.2.2.2 pc E with
  | none => Q (Sum.inr E) h
  | some hp => match ctch M hp ls with
    | none => False
    | some (pc', ls') => Xm M pc' ls' [] h Q
def Xk (M : MI) (pc : Nat) (ls : VLs) (rest : List Value) (Q : (Option Value ⊕ Nat) → VH → Prop) (r : Option Value ⊕ Nat) (h : VH) : Prop := match r with
  | Sum.inl v => Xm M (pc + 3) ls (v.toList ++ rest) h Q
  | Sum.inr E => Xx M pc ls Q E h
theorem X_call {μ : Nat} {as rest : List Value} (hd : decode M.1 pc = .ok (ins, len)) (ha : act M ins len pc ls st h = some (Sum.inr (Sum.inl (μ, as, rest)))) (he : (entA as).length ≤ (mt μ).2.2.1.1) (hc : Cm μ as h (Xk M pc ls rest Q)) (ho : okL ins len = true := by rfl) : Xm M pc ls st h Q := by
  obtain ⟨f, ⟨r, h'⟩, h1, h2⟩ := hc
  rcases r with v | E
  · obtain ⟨g, x, g1, g2⟩ := h2
    refine ⟨max f g + 1, x, ?_, g2⟩
    rw [run, hd]
    simp only [ho, if_true, ha, stepc, he]
    rw [run_mono (Nat.le_max_left f g) h1]
    exact run_mono (Nat.le_max_right f g) g1
  · simp only [Xk, Xx] at h2
    cases e1 : hnd M.2.2.2 pc E with
    | none =>
      rw [e1] at h2
      refine ⟨f + 1, (Sum.inr E, h'), ?_, h2⟩
      rw [run, hd]
      simp only [ho, if_true, ha, stepc, he]
      rw [h1]
      simp only [e1]
    | some hp =>
      rw [e1] at h2
      simp only at h2
      cases e2 : ctch M hp ls with
      | none => rw [e2] at h2; exact h2.elim
      | some z =>
        rw [e2] at h2
        obtain ⟨g, x, g1, g2⟩ := h2
        refine ⟨max f g + 1, x, ?_, g2⟩
        rw [run, hd]
        simp only [ho, if_true, ha, stepc, he]
        rw [run_mono (Nat.le_max_left f g) h1]
        simp only [e1, e2]
        exact run_mono (Nat.le_max_right f g) g1
end XR
end
section
/-! ONE ROW AN INSTRUCTION: from the point behind it to the point ahead of it -/
section XR
variable {M : MI} {pc : Nat} {ls : VLs} {st : List Value} {h : VH} {Q : (Option Value ⊕ Nat) → VH → Prop}
theorem act_getfield (i : Nat) {len : Nat} : act M (.getfield i) len pc ls st h = aGet (lkf M.2.1 i) pc ls st h := rfl
theorem act_putfield (i : Nat) {len : Nat} : act M (.putfield i) len pc ls st h = aPut M.2.2.1.2 (lkf M.2.1 i) pc ls st h := rfl
theorem act_new (i : Nat) {len : Nat} : act M (.new i) len pc ls st h = aNew M (lkf M.2.1 i) pc ls st h := rfl
theorem act_newI {len : Nat} : act M (.newarray .int) len pc ls st h = aNewI pc ls st h := rfl
theorem act_newJ {len : Nat} : act M (.newarray .long) len pc ls st h = aNewJ pc ls st h := rfl
theorem act_anew (i : Nat) {len : Nat} : act M (.anewarray i) len pc ls st h = aNewR (lkf M.2.1 i) pc ls st h := rfl
theorem act_alen {len : Nat} : act M (.arraylength) len pc ls st h = aLen pc ls st h := rfl
theorem act_iald {len : Nat} : act M (.iaload) len pc ls st h = aIld pc ls st h := rfl
theorem act_jald {len : Nat} : act M (.laload) len pc ls st h = aJld pc ls st h := rfl
theorem act_aald {len : Nat} : act M (.aaload) len pc ls st h = aAld pc ls st h := rfl
theorem act_iast {len : Nat} : act M (.iastore) len pc ls st h = aIst pc ls st h := rfl
theorem act_jast {len : Nat} : act M (.lastore) len pc ls st h = aJst pc ls st h := rfl
theorem act_aast {len : Nat} : act M (.aastore) len pc ls st h = aAst pc ls st h := rfl
theorem act_sta (i : Nat) {len : Nat} : act M (.invokestatic i) len pc ls st h = aSta (lkf M.2.1 i) pc ls st h := rfl
theorem act_vir (i : Nat) {len : Nat} : act M (.invokevirtual i) len pc ls st h = aVir (lkf M.2.1 i) st h := rfl
theorem act_spc (i : Nat) {len : Nat} : act M (.invokespecial i) len pc ls st h = aSpc (lkf M.2.1 i) pc ls st h := rfl
theorem act_tab (d l u : Int) (o : Array Int) {len : Nat} : act M (.tableswitch d l u o) len pc ls st h = aTab d l u o pc ls st h := rfl
theorem act_ifc (c : ClassFile.Cond) (o : Int) (x : Int32) (r : List Value) {len : Nat} : act M (.ifCond c o) len pc ls (.int x :: r) h = bra (cnd c x 0) pc o ls r h := rfl
theorem act_icmp (c : ClassFile.Cond) (o : Int) (x y : Int32) (r : List Value) {len : Nat} : act M (.if_icmp c o) len pc ls (.int y :: .int x :: r) h = bra (cnd c x y) pc o ls r h := rfl
theorem act_astore (i : Nat) {len : Nat} : act M (.astore i) len pc ls st h = stA i (pc + 2) ls st h := rfl
theorem act_astore_n (i : Fin 4) {len : Nat} : act M (.astore_n i) len pc ls st h = stA i (pc + 1) ls st h := rfl
theorem act_istore (i : Nat) {len : Nat} : act M (.istore i) len pc ls st h = stI i (pc + 2) ls st h := rfl
theorem act_istore_n (i : Fin 4) {len : Nat} : act M (.istore_n i) len pc ls st h = stI i (pc + 1) ls st h := rfl
theorem act_lstore (i : Nat) {len : Nat} : act M (.lstore i) len pc ls st h = stJ i (pc + 2) ls st h := rfl
theorem act_lstore_n (i : Fin 4) {len : Nat} : act M (.lstore_n i) len pc ls st h = stJ i (pc + 1) ls st h := rfl
theorem act_dstore (i : Nat) {len : Nat} : act M (.dstore i) len pc ls st h = stD i (pc + 2) ls st h := rfl
theorem act_dstore_n (i : Fin 4) {len : Nat} : act M (.dstore_n i) len pc ls st h = stD i (pc + 1) ls st h := rfl
theorem x_aload_n {k : Fin 4} {x : Nat} (hd : decode M.1 pc = .ok (.aload_n k, 1)) (hl : ls[k.val]? = some (some (.ref x))) (k9 : Xm M (pc + 1) ls (.ref x :: st) h Q) : Xm M pc ls st h Q :=
  X_nx hd (by show ldA _ _ _ _ _ = _; unfold ldA; rw [hl]; rfl) k9
theorem x_aload {k : Nat} {x : Nat} (hd : decode M.1 pc = .ok (.aload k, 2)) (hl : ls[k]? = some (some (.ref x))) (k9 : Xm M (pc + 2) ls (.ref x :: st) h Q) : Xm M pc ls st h Q :=
  X_nx hd (by show ldA _ _ _ _ _ = _; unfold ldA; rw [hl]; rfl) k9
theorem x_iload_n {k : Fin 4} {x : Int32} (hd : decode M.1 pc = .ok (.iload_n k, 1)) (hl : ls[k.val]? = some (some (.int x))) (k9 : Xm M (pc + 1) ls (.int x :: st) h Q) : Xm M pc ls st h Q :=
  X_nx hd (by show ldI _ _ _ _ _ = _; unfold ldI; rw [hl]; rfl) k9
theorem x_iload {k : Nat} {x : Int32} (hd : decode M.1 pc = .ok (.iload k, 2)) (hl : ls[k]? = some (some (.int x))) (k9 : Xm M (pc + 2) ls (.int x :: st) h Q) : Xm M pc ls st h Q :=
  X_nx hd (by show ldI _ _ _ _ _ = _; unfold ldI; rw [hl]; rfl) k9
theorem x_lload_n {k : Fin 4} {x : Int64} (hd : decode M.1 pc = .ok (.lload_n k, 1)) (hl : ls[k.val]? = some (some (.long x))) (k9 : Xm M (pc + 1) ls (.long x :: st) h Q) : Xm M pc ls st h Q :=
  X_nx hd (by show ldJ _ _ _ _ _ = _; unfold ldJ; rw [hl]; rfl) k9
theorem x_lload {k : Nat} {x : Int64} (hd : decode M.1 pc = .ok (.lload k, 2)) (hl : ls[k]? = some (some (.long x))) (k9 : Xm M (pc + 2) ls (.long x :: st) h Q) : Xm M pc ls st h Q :=
  X_nx hd (by show ldJ _ _ _ _ _ = _; unfold ldJ; rw [hl]; rfl) k9
theorem x_dload_n {k : Fin 4} {x : UInt64} (hd : decode M.1 pc = .ok (.dload_n k, 1)) (hl : ls[k.val]? = some (some (.double x))) (k9 : Xm M (pc + 1) ls (.double x :: st) h Q) : Xm M pc ls st h Q :=
  X_nx hd (by show ldD _ _ _ _ _ = _; unfold ldD; rw [hl]; rfl) k9
theorem x_dload {k : Nat} {x : UInt64} (hd : decode M.1 pc = .ok (.dload k, 2)) (hl : ls[k]? = some (some (.double x))) (k9 : Xm M (pc + 2) ls (.double x :: st) h Q) : Xm M pc ls st h Q :=
  X_nx hd (by show ldD _ _ _ _ _ = _; unfold ldD; rw [hl]; rfl) k9
theorem x_astore_n0 {x : Nat} {y1 : Option Value} {t : VLs} (hd : decode M.1 pc = .ok (.astore_n 0, 1)) (k9 : Xm M (pc + 1) (some (.ref x) :: t) st h Q) : Xm M pc (y1 :: t) (.ref x :: st) h Q :=
  X_nx hd (by rw [act_astore_n]; simp [stA, set1, nx]) k9
theorem x_astore_n1 {x : Nat} {o0 y1 : Option Value} {t : VLs} (hd : decode M.1 pc = .ok (.astore_n 1, 1)) (hc : clr o0 = o0) (k9 : Xm M (pc + 1) (o0 :: some (.ref x) :: t) st h Q) : Xm M pc (o0 :: y1 :: t) (.ref x :: st) h Q :=
  X_nx hd (by rw [act_astore_n]; simp [stA, set1, nx, hc]) k9
theorem x_astore_n2 {x : Nat} {o0 o1 y1 : Option Value} {t : VLs} (hd : decode M.1 pc = .ok (.astore_n 2, 1)) (hc : clr o1 = o1) (k9 : Xm M (pc + 1) (o0 :: o1 :: some (.ref x) :: t) st h Q) : Xm M pc (o0 :: o1 :: y1 :: t) (.ref x :: st) h Q :=
  X_nx hd (by rw [act_astore_n]; simp [stA, set1, nx, hc]) k9
theorem x_astore_n3 {x : Nat} {o0 o1 o2 y1 : Option Value} {t : VLs} (hd : decode M.1 pc = .ok (.astore_n 3, 1)) (hc : clr o2 = o2) (k9 : Xm M (pc + 1) (o0 :: o1 :: o2 :: some (.ref x) :: t) st h Q) : Xm M pc (o0 :: o1 :: o2 :: y1 :: t) (.ref x :: st) h Q :=
  X_nx hd (by rw [act_astore_n]; simp [stA, set1, nx, hc] <;> (show (3 : Nat) < _; omega)) k9
theorem x_astore_4 {x : Nat} {o0 o1 o2 o3 y1 : Option Value} {t : VLs} (hd : decode M.1 pc = .ok (.astore 4, 2)) (hc : clr o3 = o3) (k9 : Xm M (pc + 2) (o0 :: o1 :: o2 :: o3 :: some (.ref x) :: t) st h Q) : Xm M pc (o0 :: o1 :: o2 :: o3 :: y1 :: t) (.ref x :: st) h Q :=
  X_nx hd (by rw [act_astore]; simp [stA, set1, nx, hc]) k9
theorem x_astore_5 {x : Nat} {o0 o1 o2 o3 o4 y1 : Option Value} {t : VLs} (hd : decode M.1 pc = .ok (.astore 5, 2)) (hc : clr o4 = o4) (k9 : Xm M (pc + 2) (o0 :: o1 :: o2 :: o3 :: o4 :: some (.ref x) :: t) st h Q) : Xm M pc (o0 :: o1 :: o2 :: o3 :: o4 :: y1 :: t) (.ref x :: st) h Q :=
  X_nx hd (by rw [act_astore]; simp [stA, set1, nx, hc]) k9
theorem x_astore_6 {x : Nat} {o0 o1 o2 o3 o4 o5 y1 : Option Value} {t : VLs} (hd : decode M.1 pc = .ok (.astore 6, 2)) (hc : clr o5 = o5) (k9 : Xm M (pc + 2) (o0 :: o1 :: o2 :: o3 :: o4 :: o5 :: some (.ref x) :: t) st h Q) : Xm M pc (o0 :: o1 :: o2 :: o3 :: o4 :: o5 :: y1 :: t) (.ref x :: st) h Q :=
  X_nx hd (by rw [act_astore]; simp [stA, set1, nx, hc]) k9
theorem x_astore_7 {x : Nat} {o0 o1 o2 o3 o4 o5 o6 y1 : Option Value} {t : VLs} (hd : decode M.1 pc = .ok (.astore 7, 2)) (hc : clr o6 = o6) (k9 : Xm M (pc + 2) (o0 :: o1 :: o2 :: o3 :: o4 :: o5 :: o6 :: some (.ref x) :: t) st h Q) : Xm M pc (o0 :: o1 :: o2 :: o3 :: o4 :: o5 :: o6 :: y1 :: t) (.ref x :: st) h Q :=
  X_nx hd (by rw [act_astore]; simp [stA, set1, nx, hc]) k9
theorem x_astore_8 {x : Nat} {o0 o1 o2 o3 o4 o5 o6 o7 y1 : Option Value} {t : VLs} (hd : decode M.1 pc = .ok (.astore 8, 2)) (hc : clr o7 = o7) (k9 : Xm M (pc + 2) (o0 :: o1 :: o2 :: o3 :: o4 :: o5 :: o6 :: o7 :: some (.ref x) :: t) st h Q) : Xm M pc (o0 :: o1 :: o2 :: o3 :: o4 :: o5 :: o6 :: o7 :: y1 :: t) (.ref x :: st) h Q :=
  X_nx hd (by rw [act_astore]; simp [stA, set1, nx, hc]) k9
theorem x_astore_9 {x : Nat} {o0 o1 o2 o3 o4 o5 o6 o7 o8 y1 : Option Value} {t : VLs} (hd : decode M.1 pc = .ok (.astore 9, 2)) (hc : clr o8 = o8) (k9 : Xm M (pc + 2) (o0 :: o1 :: o2 :: o3 :: o4 :: o5 :: o6 :: o7 :: o8 :: some (.ref x) :: t) st h Q) : Xm M pc (o0 :: o1 :: o2 :: o3 :: o4 :: o5 :: o6 :: o7 :: o8 :: y1 :: t) (.ref x :: st) h Q :=
  X_nx hd (by rw [act_astore]; simp [stA, set1, nx, hc]) k9
theorem x_astore_10 {x : Nat} {o0 o1 o2 o3 o4 o5 o6 o7 o8 o9 y1 : Option Value} {t : VLs} (hd : decode M.1 pc = .ok (.astore 10, 2)) (hc : clr o9 = o9) (k9 : Xm M (pc + 2) (o0 :: o1 :: o2 :: o3 :: o4 :: o5 :: o6 :: o7 :: o8 :: o9 :: some (.ref x) :: t) st h Q) : Xm M pc (o0 :: o1 :: o2 :: o3 :: o4 :: o5 :: o6 :: o7 :: o8 :: o9 :: y1 :: t) (.ref x :: st) h Q :=
  X_nx hd (by rw [act_astore]; simp [stA, set1, nx, hc]) k9
theorem x_astore_11 {x : Nat} {o0 o1 o2 o3 o4 o5 o6 o7 o8 o9 o10 y1 : Option Value} {t : VLs} (hd : decode M.1 pc = .ok (.astore 11, 2)) (hc : clr o10 = o10) (k9 : Xm M (pc + 2) (o0 :: o1 :: o2 :: o3 :: o4 :: o5 :: o6 :: o7 :: o8 :: o9 :: o10 :: some (.ref x) :: t) st h Q) : Xm M pc (o0 :: o1 :: o2 :: o3 :: o4 :: o5 :: o6 :: o7 :: o8 :: o9 :: o10 :: y1 :: t) (.ref x :: st) h Q :=
  X_nx hd (by rw [act_astore]; simp [stA, set1, nx, hc]) k9
theorem x_istore_n0 {x : Int32} {y1 : Option Value} {t : VLs} (hd : decode M.1 pc = .ok (.istore_n 0, 1)) (k9 : Xm M (pc + 1) (some (.int x) :: t) st h Q) : Xm M pc (y1 :: t) (.int x :: st) h Q :=
  X_nx hd (by rw [act_istore_n]; simp [stI, set1, nx]) k9
theorem x_istore_n1 {x : Int32} {o0 y1 : Option Value} {t : VLs} (hd : decode M.1 pc = .ok (.istore_n 1, 1)) (hc : clr o0 = o0) (k9 : Xm M (pc + 1) (o0 :: some (.int x) :: t) st h Q) : Xm M pc (o0 :: y1 :: t) (.int x :: st) h Q :=
  X_nx hd (by rw [act_istore_n]; simp [stI, set1, nx, hc]) k9
theorem x_istore_n2 {x : Int32} {o0 o1 y1 : Option Value} {t : VLs} (hd : decode M.1 pc = .ok (.istore_n 2, 1)) (hc : clr o1 = o1) (k9 : Xm M (pc + 1) (o0 :: o1 :: some (.int x) :: t) st h Q) : Xm M pc (o0 :: o1 :: y1 :: t) (.int x :: st) h Q :=
  X_nx hd (by rw [act_istore_n]; simp [stI, set1, nx, hc]) k9
theorem x_istore_n3 {x : Int32} {o0 o1 o2 y1 : Option Value} {t : VLs} (hd : decode M.1 pc = .ok (.istore_n 3, 1)) (hc : clr o2 = o2) (k9 : Xm M (pc + 1) (o0 :: o1 :: o2 :: some (.int x) :: t) st h Q) : Xm M pc (o0 :: o1 :: o2 :: y1 :: t) (.int x :: st) h Q :=
  X_nx hd (by rw [act_istore_n]; simp [stI, set1, nx, hc] <;> (show (3 : Nat) < _; omega)) k9
theorem x_istore_4 {x : Int32} {o0 o1 o2 o3 y1 : Option Value} {t : VLs} (hd : decode M.1 pc = .ok (.istore 4, 2)) (hc : clr o3 = o3) (k9 : Xm M (pc + 2) (o0 :: o1 :: o2 :: o3 :: some (.int x) :: t) st h Q) : Xm M pc (o0 :: o1 :: o2 :: o3 :: y1 :: t) (.int x :: st) h Q :=
  X_nx hd (by rw [act_istore]; simp [stI, set1, nx, hc]) k9
theorem x_istore_5 {x : Int32} {o0 o1 o2 o3 o4 y1 : Option Value} {t : VLs} (hd : decode M.1 pc = .ok (.istore 5, 2)) (hc : clr o4 = o4) (k9 : Xm M (pc + 2) (o0 :: o1 :: o2 :: o3 :: o4 :: some (.int x) :: t) st h Q) : Xm M pc (o0 :: o1 :: o2 :: o3 :: o4 :: y1 :: t) (.int x :: st) h Q :=
  X_nx hd (by rw [act_istore]; simp [stI, set1, nx, hc]) k9
theorem x_istore_6 {x : Int32} {o0 o1 o2 o3 o4 o5 y1 : Option Value} {t : VLs} (hd : decode M.1 pc = .ok (.istore 6, 2)) (hc : clr o5 = o5) (k9 : Xm M (pc + 2) (o0 :: o1 :: o2 :: o3 :: o4 :: o5 :: some (.int x) :: t) st h Q) : Xm M pc (o0 :: o1 :: o2 :: o3 :: o4 :: o5 :: y1 :: t) (.int x :: st) h Q :=
  X_nx hd (by rw [act_istore]; simp [stI, set1, nx, hc]) k9
theorem x_istore_7 {x : Int32} {o0 o1 o2 o3 o4 o5 o6 y1 : Option Value} {t : VLs} (hd : decode M.1 pc = .ok (.istore 7, 2)) (hc : clr o6 = o6) (k9 : Xm M (pc + 2) (o0 :: o1 :: o2 :: o3 :: o4 :: o5 :: o6 :: some (.int x) :: t) st h Q) : Xm M pc (o0 :: o1 :: o2 :: o3 :: o4 :: o5 :: o6 :: y1 :: t) (.int x :: st) h Q :=
  X_nx hd (by rw [act_istore]; simp [stI, set1, nx, hc]) k9
theorem x_istore_8 {x : Int32} {o0 o1 o2 o3 o4 o5 o6 o7 y1 : Option Value} {t : VLs} (hd : decode M.1 pc = .ok (.istore 8, 2)) (hc : clr o7 = o7) (k9 : Xm M (pc + 2) (o0 :: o1 :: o2 :: o3 :: o4 :: o5 :: o6 :: o7 :: some (.int x) :: t) st h Q) : Xm M pc (o0 :: o1 :: o2 :: o3 :: o4 :: o5 :: o6 :: o7 :: y1 :: t) (.int x :: st) h Q :=
  X_nx hd (by rw [act_istore]; simp [stI, set1, nx, hc]) k9
theorem x_istore_9 {x : Int32} {o0 o1 o2 o3 o4 o5 o6 o7 o8 y1 : Option Value} {t : VLs} (hd : decode M.1 pc = .ok (.istore 9, 2)) (hc : clr o8 = o8) (k9 : Xm M (pc + 2) (o0 :: o1 :: o2 :: o3 :: o4 :: o5 :: o6 :: o7 :: o8 :: some (.int x) :: t) st h Q) : Xm M pc (o0 :: o1 :: o2 :: o3 :: o4 :: o5 :: o6 :: o7 :: o8 :: y1 :: t) (.int x :: st) h Q :=
  X_nx hd (by rw [act_istore]; simp [stI, set1, nx, hc]) k9
theorem x_istore_10 {x : Int32} {o0 o1 o2 o3 o4 o5 o6 o7 o8 o9 y1 : Option Value} {t : VLs} (hd : decode M.1 pc = .ok (.istore 10, 2)) (hc : clr o9 = o9) (k9 : Xm M (pc + 2) (o0 :: o1 :: o2 :: o3 :: o4 :: o5 :: o6 :: o7 :: o8 :: o9 :: some (.int x) :: t) st h Q) : Xm M pc (o0 :: o1 :: o2 :: o3 :: o4 :: o5 :: o6 :: o7 :: o8 :: o9 :: y1 :: t) (.int x :: st) h Q :=
  X_nx hd (by rw [act_istore]; simp [stI, set1, nx, hc]) k9
theorem x_istore_11 {x : Int32} {o0 o1 o2 o3 o4 o5 o6 o7 o8 o9 o10 y1 : Option Value} {t : VLs} (hd : decode M.1 pc = .ok (.istore 11, 2)) (hc : clr o10 = o10) (k9 : Xm M (pc + 2) (o0 :: o1 :: o2 :: o3 :: o4 :: o5 :: o6 :: o7 :: o8 :: o9 :: o10 :: some (.int x) :: t) st h Q) : Xm M pc (o0 :: o1 :: o2 :: o3 :: o4 :: o5 :: o6 :: o7 :: o8 :: o9 :: o10 :: y1 :: t) (.int x :: st) h Q :=
  X_nx hd (by rw [act_istore]; simp [stI, set1, nx, hc]) k9
theorem x_lstore_n0 {x : Int64} {y1 y2 : Option Value} {t : VLs} (hd : decode M.1 pc = .ok (.lstore_n 0, 1)) (k9 : Xm M (pc + 1) (some (.long x) :: none :: t) st h Q) : Xm M pc (y1 :: y2 :: t) (.long x :: st) h Q :=
  X_nx hd (by rw [act_lstore_n]; simp [stJ, set2, nx]) k9
theorem x_lstore_n1 {x : Int64} {o0 y1 y2 : Option Value} {t : VLs} (hd : decode M.1 pc = .ok (.lstore_n 1, 1)) (hc : clr o0 = o0) (k9 : Xm M (pc + 1) (o0 :: some (.long x) :: none :: t) st h Q) : Xm M pc (o0 :: y1 :: y2 :: t) (.long x :: st) h Q :=
  X_nx hd (by rw [act_lstore_n]; simp [stJ, set2, nx, hc]) k9
theorem x_lstore_n2 {x : Int64} {o0 o1 y1 y2 : Option Value} {t : VLs} (hd : decode M.1 pc = .ok (.lstore_n 2, 1)) (hc : clr o1 = o1) (k9 : Xm M (pc + 1) (o0 :: o1 :: some (.long x) :: none :: t) st h Q) : Xm M pc (o0 :: o1 :: y1 :: y2 :: t) (.long x :: st) h Q :=
  X_nx hd (by rw [act_lstore_n]; simp [stJ, set2, nx, hc]) k9
theorem x_lstore_n3 {x : Int64} {o0 o1 o2 y1 y2 : Option Value} {t : VLs} (hd : decode M.1 pc = .ok (.lstore_n 3, 1)) (hc : clr o2 = o2) (k9 : Xm M (pc + 1) (o0 :: o1 :: o2 :: some (.long x) :: none :: t) st h Q) : Xm M pc (o0 :: o1 :: o2 :: y1 :: y2 :: t) (.long x :: st) h Q :=
  X_nx hd (by rw [act_lstore_n]; simp [stJ, set2, nx, hc] <;> (show (3 : Nat) < _; omega)) k9
theorem x_lstore_4 {x : Int64} {o0 o1 o2 o3 y1 y2 : Option Value} {t : VLs} (hd : decode M.1 pc = .ok (.lstore 4, 2)) (hc : clr o3 = o3) (k9 : Xm M (pc + 2) (o0 :: o1 :: o2 :: o3 :: some (.long x) :: none :: t) st h Q) : Xm M pc (o0 :: o1 :: o2 :: o3 :: y1 :: y2 :: t) (.long x :: st) h Q :=
  X_nx hd (by rw [act_lstore]; simp [stJ, set2, nx, hc]) k9
theorem x_lstore_5 {x : Int64} {o0 o1 o2 o3 o4 y1 y2 : Option Value} {t : VLs} (hd : decode M.1 pc = .ok (.lstore 5, 2)) (hc : clr o4 = o4) (k9 : Xm M (pc + 2) (o0 :: o1 :: o2 :: o3 :: o4 :: some (.long x) :: none :: t) st h Q) : Xm M pc (o0 :: o1 :: o2 :: o3 :: o4 :: y1 :: y2 :: t) (.long x :: st) h Q :=
  X_nx hd (by rw [act_lstore]; simp [stJ, set2, nx, hc]) k9
theorem x_lstore_6 {x : Int64} {o0 o1 o2 o3 o4 o5 y1 y2 : Option Value} {t : VLs} (hd : decode M.1 pc = .ok (.lstore 6, 2)) (hc : clr o5 = o5) (k9 : Xm M (pc + 2) (o0 :: o1 :: o2 :: o3 :: o4 :: o5 :: some (.long x) :: none :: t) st h Q) : Xm M pc (o0 :: o1 :: o2 :: o3 :: o4 :: o5 :: y1 :: y2 :: t) (.long x :: st) h Q :=
  X_nx hd (by rw [act_lstore]; simp [stJ, set2, nx, hc]) k9
theorem x_lstore_7 {x : Int64} {o0 o1 o2 o3 o4 o5 o6 y1 y2 : Option Value} {t : VLs} (hd : decode M.1 pc = .ok (.lstore 7, 2)) (hc : clr o6 = o6) (k9 : Xm M (pc + 2) (o0 :: o1 :: o2 :: o3 :: o4 :: o5 :: o6 :: some (.long x) :: none :: t) st h Q) : Xm M pc (o0 :: o1 :: o2 :: o3 :: o4 :: o5 :: o6 :: y1 :: y2 :: t) (.long x :: st) h Q :=
  X_nx hd (by rw [act_lstore]; simp [stJ, set2, nx, hc]) k9
theorem x_lstore_8 {x : Int64} {o0 o1 o2 o3 o4 o5 o6 o7 y1 y2 : Option Value} {t : VLs} (hd : decode M.1 pc = .ok (.lstore 8, 2)) (hc : clr o7 = o7) (k9 : Xm M (pc + 2) (o0 :: o1 :: o2 :: o3 :: o4 :: o5 :: o6 :: o7 :: some (.long x) :: none :: t) st h Q) : Xm M pc (o0 :: o1 :: o2 :: o3 :: o4 :: o5 :: o6 :: o7 :: y1 :: y2 :: t) (.long x :: st) h Q :=
  X_nx hd (by rw [act_lstore]; simp [stJ, set2, nx, hc]) k9
theorem x_lstore_9 {x : Int64} {o0 o1 o2 o3 o4 o5 o6 o7 o8 y1 y2 : Option Value} {t : VLs} (hd : decode M.1 pc = .ok (.lstore 9, 2)) (hc : clr o8 = o8) (k9 : Xm M (pc + 2) (o0 :: o1 :: o2 :: o3 :: o4 :: o5 :: o6 :: o7 :: o8 :: some (.long x) :: none :: t) st h Q) : Xm M pc (o0 :: o1 :: o2 :: o3 :: o4 :: o5 :: o6 :: o7 :: o8 :: y1 :: y2 :: t) (.long x :: st) h Q :=
  X_nx hd (by rw [act_lstore]; simp [stJ, set2, nx, hc]) k9
theorem x_lstore_10 {x : Int64} {o0 o1 o2 o3 o4 o5 o6 o7 o8 o9 y1 y2 : Option Value} {t : VLs} (hd : decode M.1 pc = .ok (.lstore 10, 2)) (hc : clr o9 = o9) (k9 : Xm M (pc + 2) (o0 :: o1 :: o2 :: o3 :: o4 :: o5 :: o6 :: o7 :: o8 :: o9 :: some (.long x) :: none :: t) st h Q) : Xm M pc (o0 :: o1 :: o2 :: o3 :: o4 :: o5 :: o6 :: o7 :: o8 :: o9 :: y1 :: y2 :: t) (.long x :: st) h Q :=
  X_nx hd (by rw [act_lstore]; simp [stJ, set2, nx, hc]) k9
theorem x_lstore_11 {x : Int64} {o0 o1 o2 o3 o4 o5 o6 o7 o8 o9 o10 y1 y2 : Option Value} {t : VLs} (hd : decode M.1 pc = .ok (.lstore 11, 2)) (hc : clr o10 = o10) (k9 : Xm M (pc + 2) (o0 :: o1 :: o2 :: o3 :: o4 :: o5 :: o6 :: o7 :: o8 :: o9 :: o10 :: some (.long x) :: none :: t) st h Q) : Xm M pc (o0 :: o1 :: o2 :: o3 :: o4 :: o5 :: o6 :: o7 :: o8 :: o9 :: o10 :: y1 :: y2 :: t) (.long x :: st) h Q :=
  X_nx hd (by rw [act_lstore]; simp [stJ, set2, nx, hc]) k9
theorem x_dstore_n0 {x : UInt64} {y1 y2 : Option Value} {t : VLs} (hd : decode M.1 pc = .ok (.dstore_n 0, 1)) (k9 : Xm M (pc + 1) (some (.double x) :: none :: t) st h Q) : Xm M pc (y1 :: y2 :: t) (.double x :: st) h Q :=
  X_nx hd (by rw [act_dstore_n]; simp [stD, set2, nx]) k9
theorem x_dstore_n1 {x : UInt64} {o0 y1 y2 : Option Value} {t : VLs} (hd : decode M.1 pc = .ok (.dstore_n 1, 1)) (hc : clr o0 = o0) (k9 : Xm M (pc + 1) (o0 :: some (.double x) :: none :: t) st h Q) : Xm M pc (o0 :: y1 :: y2 :: t) (.double x :: st) h Q :=
  X_nx hd (by rw [act_dstore_n]; simp [stD, set2, nx, hc]) k9
theorem x_dstore_n2 {x : UInt64} {o0 o1 y1 y2 : Option Value} {t : VLs} (hd : decode M.1 pc = .ok (.dstore_n 2, 1)) (hc : clr o1 = o1) (k9 : Xm M (pc + 1) (o0 :: o1 :: some (.double x) :: none :: t) st h Q) : Xm M pc (o0 :: o1 :: y1 :: y2 :: t) (.double x :: st) h Q :=
  X_nx hd (by rw [act_dstore_n]; simp [stD, set2, nx, hc]) k9
theorem x_dstore_n3 {x : UInt64} {o0 o1 o2 y1 y2 : Option Value} {t : VLs} (hd : decode M.1 pc = .ok (.dstore_n 3, 1)) (hc : clr o2 = o2) (k9 : Xm M (pc + 1) (o0 :: o1 :: o2 :: some (.double x) :: none :: t) st h Q) : Xm M pc (o0 :: o1 :: o2 :: y1 :: y2 :: t) (.double x :: st) h Q :=
  X_nx hd (by rw [act_dstore_n]; simp [stD, set2, nx, hc] <;> (show (3 : Nat) < _; omega)) k9
theorem x_dstore_4 {x : UInt64} {o0 o1 o2 o3 y1 y2 : Option Value} {t : VLs} (hd : decode M.1 pc = .ok (.dstore 4, 2)) (hc : clr o3 = o3) (k9 : Xm M (pc + 2) (o0 :: o1 :: o2 :: o3 :: some (.double x) :: none :: t) st h Q) : Xm M pc (o0 :: o1 :: o2 :: o3 :: y1 :: y2 :: t) (.double x :: st) h Q :=
  X_nx hd (by rw [act_dstore]; simp [stD, set2, nx, hc]) k9
theorem x_dstore_5 {x : UInt64} {o0 o1 o2 o3 o4 y1 y2 : Option Value} {t : VLs} (hd : decode M.1 pc = .ok (.dstore 5, 2)) (hc : clr o4 = o4) (k9 : Xm M (pc + 2) (o0 :: o1 :: o2 :: o3 :: o4 :: some (.double x) :: none :: t) st h Q) : Xm M pc (o0 :: o1 :: o2 :: o3 :: o4 :: y1 :: y2 :: t) (.double x :: st) h Q :=
  X_nx hd (by rw [act_dstore]; simp [stD, set2, nx, hc]) k9
theorem x_dstore_6 {x : UInt64} {o0 o1 o2 o3 o4 o5 y1 y2 : Option Value} {t : VLs} (hd : decode M.1 pc = .ok (.dstore 6, 2)) (hc : clr o5 = o5) (k9 : Xm M (pc + 2) (o0 :: o1 :: o2 :: o3 :: o4 :: o5 :: some (.double x) :: none :: t) st h Q) : Xm M pc (o0 :: o1 :: o2 :: o3 :: o4 :: o5 :: y1 :: y2 :: t) (.double x :: st) h Q :=
  X_nx hd (by rw [act_dstore]; simp [stD, set2, nx, hc]) k9
theorem x_dstore_7 {x : UInt64} {o0 o1 o2 o3 o4 o5 o6 y1 y2 : Option Value} {t : VLs} (hd : decode M.1 pc = .ok (.dstore 7, 2)) (hc : clr o6 = o6) (k9 : Xm M (pc + 2) (o0 :: o1 :: o2 :: o3 :: o4 :: o5 :: o6 :: some (.double x) :: none :: t) st h Q) : Xm M pc (o0 :: o1 :: o2 :: o3 :: o4 :: o5 :: o6 :: y1 :: y2 :: t) (.double x :: st) h Q :=
  X_nx hd (by rw [act_dstore]; simp [stD, set2, nx, hc]) k9
theorem x_dstore_8 {x : UInt64} {o0 o1 o2 o3 o4 o5 o6 o7 y1 y2 : Option Value} {t : VLs} (hd : decode M.1 pc = .ok (.dstore 8, 2)) (hc : clr o7 = o7) (k9 : Xm M (pc + 2) (o0 :: o1 :: o2 :: o3 :: o4 :: o5 :: o6 :: o7 :: some (.double x) :: none :: t) st h Q) : Xm M pc (o0 :: o1 :: o2 :: o3 :: o4 :: o5 :: o6 :: o7 :: y1 :: y2 :: t) (.double x :: st) h Q :=
  X_nx hd (by rw [act_dstore]; simp [stD, set2, nx, hc]) k9
theorem x_dstore_9 {x : UInt64} {o0 o1 o2 o3 o4 o5 o6 o7 o8 y1 y2 : Option Value} {t : VLs} (hd : decode M.1 pc = .ok (.dstore 9, 2)) (hc : clr o8 = o8) (k9 : Xm M (pc + 2) (o0 :: o1 :: o2 :: o3 :: o4 :: o5 :: o6 :: o7 :: o8 :: some (.double x) :: none :: t) st h Q) : Xm M pc (o0 :: o1 :: o2 :: o3 :: o4 :: o5 :: o6 :: o7 :: o8 :: y1 :: y2 :: t) (.double x :: st) h Q :=
  X_nx hd (by rw [act_dstore]; simp [stD, set2, nx, hc]) k9
theorem x_dstore_10 {x : UInt64} {o0 o1 o2 o3 o4 o5 o6 o7 o8 o9 y1 y2 : Option Value} {t : VLs} (hd : decode M.1 pc = .ok (.dstore 10, 2)) (hc : clr o9 = o9) (k9 : Xm M (pc + 2) (o0 :: o1 :: o2 :: o3 :: o4 :: o5 :: o6 :: o7 :: o8 :: o9 :: some (.double x) :: none :: t) st h Q) : Xm M pc (o0 :: o1 :: o2 :: o3 :: o4 :: o5 :: o6 :: o7 :: o8 :: o9 :: y1 :: y2 :: t) (.double x :: st) h Q :=
  X_nx hd (by rw [act_dstore]; simp [stD, set2, nx, hc]) k9
theorem x_dstore_11 {x : UInt64} {o0 o1 o2 o3 o4 o5 o6 o7 o8 o9 o10 y1 y2 : Option Value} {t : VLs} (hd : decode M.1 pc = .ok (.dstore 11, 2)) (hc : clr o10 = o10) (k9 : Xm M (pc + 2) (o0 :: o1 :: o2 :: o3 :: o4 :: o5 :: o6 :: o7 :: o8 :: o9 :: o10 :: some (.double x) :: none :: t) st h Q) : Xm M pc (o0 :: o1 :: o2 :: o3 :: o4 :: o5 :: o6 :: o7 :: o8 :: o9 :: o10 :: y1 :: y2 :: t) (.double x :: st) h Q :=
  X_nx hd (by rw [act_dstore]; simp [stD, set2, nx, hc]) k9
theorem x_iinc_0 {x : Int32} {n : Int} {t : VLs} (w : Int32) (hd : decode M.1 pc = .ok (.iinc 0 n, 3)) (hw : Int32.ofInt n = w) (k9 : Xm M (pc + 3) (some (.int (x + w)) :: t) st h Q) : Xm M pc (some (.int x) :: t) st h Q :=
  X_nx hd (by simp [act, set1, nx, hw]) k9
theorem x_iinc_1 {x : Int32} {n : Int} {o0 : Option Value} {t : VLs} (w : Int32) (hd : decode M.1 pc = .ok (.iinc 1 n, 3)) (hw : Int32.ofInt n = w) (hc : clr o0 = o0) (k9 : Xm M (pc + 3) (o0 :: some (.int (x + w)) :: t) st h Q) : Xm M pc (o0 :: some (.int x) :: t) st h Q :=
  X_nx hd (by simp [act, set1, nx, hw, hc]) k9
theorem x_iinc_2 {x : Int32} {n : Int} {o0 o1 : Option Value} {t : VLs} (w : Int32) (hd : decode M.1 pc = .ok (.iinc 2 n, 3)) (hw : Int32.ofInt n = w) (hc : clr o1 = o1) (k9 : Xm M (pc + 3) (o0 :: o1 :: some (.int (x + w)) :: t) st h Q) : Xm M pc (o0 :: o1 :: some (.int x) :: t) st h Q :=
  X_nx hd (by simp [act, set1, nx, hw, hc]) k9
theorem x_iinc_3 {x : Int32} {n : Int} {o0 o1 o2 : Option Value} {t : VLs} (w : Int32) (hd : decode M.1 pc = .ok (.iinc 3 n, 3)) (hw : Int32.ofInt n = w) (hc : clr o2 = o2) (k9 : Xm M (pc + 3) (o0 :: o1 :: o2 :: some (.int (x + w)) :: t) st h Q) : Xm M pc (o0 :: o1 :: o2 :: some (.int x) :: t) st h Q :=
  X_nx hd (by simp [act, set1, nx, hw, hc]) k9
theorem x_iinc_4 {x : Int32} {n : Int} {o0 o1 o2 o3 : Option Value} {t : VLs} (w : Int32) (hd : decode M.1 pc = .ok (.iinc 4 n, 3)) (hw : Int32.ofInt n = w) (hc : clr o3 = o3) (k9 : Xm M (pc + 3) (o0 :: o1 :: o2 :: o3 :: some (.int (x + w)) :: t) st h Q) : Xm M pc (o0 :: o1 :: o2 :: o3 :: some (.int x) :: t) st h Q :=
  X_nx hd (by simp [act, set1, nx, hw, hc]) k9
theorem x_iinc_5 {x : Int32} {n : Int} {o0 o1 o2 o3 o4 : Option Value} {t : VLs} (w : Int32) (hd : decode M.1 pc = .ok (.iinc 5 n, 3)) (hw : Int32.ofInt n = w) (hc : clr o4 = o4) (k9 : Xm M (pc + 3) (o0 :: o1 :: o2 :: o3 :: o4 :: some (.int (x + w)) :: t) st h Q) : Xm M pc (o0 :: o1 :: o2 :: o3 :: o4 :: some (.int x) :: t) st h Q :=
  X_nx hd (by simp [act, set1, nx, hw, hc]) k9
theorem x_iinc_6 {x : Int32} {n : Int} {o0 o1 o2 o3 o4 o5 : Option Value} {t : VLs} (w : Int32) (hd : decode M.1 pc = .ok (.iinc 6 n, 3)) (hw : Int32.ofInt n = w) (hc : clr o5 = o5) (k9 : Xm M (pc + 3) (o0 :: o1 :: o2 :: o3 :: o4 :: o5 :: some (.int (x + w)) :: t) st h Q) : Xm M pc (o0 :: o1 :: o2 :: o3 :: o4 :: o5 :: some (.int x) :: t) st h Q :=
  X_nx hd (by simp [act, set1, nx, hw, hc]) k9
theorem x_iinc_7 {x : Int32} {n : Int} {o0 o1 o2 o3 o4 o5 o6 : Option Value} {t : VLs} (w : Int32) (hd : decode M.1 pc = .ok (.iinc 7 n, 3)) (hw : Int32.ofInt n = w) (hc : clr o6 = o6) (k9 : Xm M (pc + 3) (o0 :: o1 :: o2 :: o3 :: o4 :: o5 :: o6 :: some (.int (x + w)) :: t) st h Q) : Xm M pc (o0 :: o1 :: o2 :: o3 :: o4 :: o5 :: o6 :: some (.int x) :: t) st h Q :=
  X_nx hd (by simp [act, set1, nx, hw, hc]) k9
theorem x_iinc_8 {x : Int32} {n : Int} {o0 o1 o2 o3 o4 o5 o6 o7 : Option Value} {t : VLs} (w : Int32) (hd : decode M.1 pc = .ok (.iinc 8 n, 3)) (hw : Int32.ofInt n = w) (hc : clr o7 = o7) (k9 : Xm M (pc + 3) (o0 :: o1 :: o2 :: o3 :: o4 :: o5 :: o6 :: o7 :: some (.int (x + w)) :: t) st h Q) : Xm M pc (o0 :: o1 :: o2 :: o3 :: o4 :: o5 :: o6 :: o7 :: some (.int x) :: t) st h Q :=
  X_nx hd (by simp [act, set1, nx, hw, hc]) k9
theorem x_iinc_9 {x : Int32} {n : Int} {o0 o1 o2 o3 o4 o5 o6 o7 o8 : Option Value} {t : VLs} (w : Int32) (hd : decode M.1 pc = .ok (.iinc 9 n, 3)) (hw : Int32.ofInt n = w) (hc : clr o8 = o8) (k9 : Xm M (pc + 3) (o0 :: o1 :: o2 :: o3 :: o4 :: o5 :: o6 :: o7 :: o8 :: some (.int (x + w)) :: t) st h Q) : Xm M pc (o0 :: o1 :: o2 :: o3 :: o4 :: o5 :: o6 :: o7 :: o8 :: some (.int x) :: t) st h Q :=
  X_nx hd (by simp [act, set1, nx, hw, hc]) k9
theorem x_iinc_10 {x : Int32} {n : Int} {o0 o1 o2 o3 o4 o5 o6 o7 o8 o9 : Option Value} {t : VLs} (w : Int32) (hd : decode M.1 pc = .ok (.iinc 10 n, 3)) (hw : Int32.ofInt n = w) (hc : clr o9 = o9) (k9 : Xm M (pc + 3) (o0 :: o1 :: o2 :: o3 :: o4 :: o5 :: o6 :: o7 :: o8 :: o9 :: some (.int (x + w)) :: t) st h Q) : Xm M pc (o0 :: o1 :: o2 :: o3 :: o4 :: o5 :: o6 :: o7 :: o8 :: o9 :: some (.int x) :: t) st h Q :=
  X_nx hd (by simp [act, set1, nx, hw, hc]) k9
theorem x_iinc_11 {x : Int32} {n : Int} {o0 o1 o2 o3 o4 o5 o6 o7 o8 o9 o10 : Option Value} {t : VLs} (w : Int32) (hd : decode M.1 pc = .ok (.iinc 11 n, 3)) (hw : Int32.ofInt n = w) (hc : clr o10 = o10) (k9 : Xm M (pc + 3) (o0 :: o1 :: o2 :: o3 :: o4 :: o5 :: o6 :: o7 :: o8 :: o9 :: o10 :: some (.int (x + w)) :: t) st h Q) : Xm M pc (o0 :: o1 :: o2 :: o3 :: o4 :: o5 :: o6 :: o7 :: o8 :: o9 :: o10 :: some (.int x) :: t) st h Q :=
  X_nx hd (by simp [act, set1, nx, hw, hc]) k9
theorem x_iconst {n : Int} (w : Int32) (hd : decode M.1 pc = .ok (.iconst n, 1)) (hw : Int32.ofInt n = w) (k9 : Xm M (pc + 1) ls (.int w :: st) h Q) : Xm M pc ls st h Q := X_nx hd (by subst hw; rfl) k9
theorem x_bipush {n : Int} (w : Int32) (hd : decode M.1 pc = .ok (.bipush n, 2)) (hw : (Int8.ofInt n).toInt32 = w) (k9 : Xm M (pc + 2) ls (.int w :: st) h Q) : Xm M pc ls st h Q := X_nx hd (by subst hw; rfl) k9
theorem x_sipush {n : Int} (w : Int32) (hd : decode M.1 pc = .ok (.sipush n, 3)) (hw : (Int16.ofInt n).toInt32 = w) (k9 : Xm M (pc + 3) ls (.int w :: st) h Q) : Xm M pc ls st h Q := X_nx hd (by subst hw; rfl) k9
theorem x_lconst {n : Fin 2} (w : Int64) (hd : decode M.1 pc = .ok (.lconst n, 1)) (hw : Int64.ofNat (n : Nat) = w) (k9 : Xm M (pc + 1) ls (.long w :: st) h Q) : Xm M pc ls st h Q := X_nx hd (by subst hw; rfl) k9
theorem x_ldc2_w {i a b : Nat} {w : Int64} (hd : decode M.1 pc = .ok (.ldc2_w i, 3)) (hw : lkf M.2.1 i = (10, a, b, w)) (k9 : Xm M (pc + 3) ls (.long w :: st) h Q) : Xm M pc ls st h Q := X_nx hd (by simp [act, hw, nx]) k9
theorem x_dup {v : Value} (hd : decode M.1 pc = .ok (.dup, 1)) (hv : v.category = 1) (k9 : Xm M (pc + 1) ls (v :: v :: st) h Q) : Xm M pc ls (v :: st) h Q := X_nx hd (by simp [act, hv, nx]) k9
theorem x_dup2 {v u : Value} (hd : decode M.1 pc = .ok (.dup2, 1)) (hv : v.category = 1) (hu : u.category = 1) (k9 : Xm M (pc + 1) ls (v :: u :: v :: u :: st) h Q) : Xm M pc ls (v :: u :: st) h Q := X_nx hd (by simp [act, hv, hu, nx]) k9
theorem x_pop {v : Value} (hd : decode M.1 pc = .ok (.pop, 1)) (hv : v.category = 1) (k9 : Xm M (pc + 1) ls st h Q) : Xm M pc ls (v :: st) h Q := X_nx hd (by simp [act, hv, nx]) k9
theorem x_iadd {x y : Int32} (hd : decode M.1 pc = .ok (.iadd, 1)) (k9 : Xm M (pc + 1) ls (.int (x + y) :: st) h Q) : Xm M pc ls (.int y :: .int x :: st) h Q := X_nx hd rfl k9
theorem x_isub {x y : Int32} (hd : decode M.1 pc = .ok (.isub, 1)) (k9 : Xm M (pc + 1) ls (.int (x - y) :: st) h Q) : Xm M pc ls (.int y :: .int x :: st) h Q := X_nx hd rfl k9
theorem x_imul {x y : Int32} (hd : decode M.1 pc = .ok (.imul, 1)) (k9 : Xm M (pc + 1) ls (.int (x * y) :: st) h Q) : Xm M pc ls (.int y :: .int x :: st) h Q := X_nx hd rfl k9
theorem x_iand {x y : Int32} (hd : decode M.1 pc = .ok (.iand, 1)) (k9 : Xm M (pc + 1) ls (.int (x &&& y) :: st) h Q) : Xm M pc ls (.int y :: .int x :: st) h Q := X_nx hd rfl k9
theorem x_ixor {x y : Int32} (hd : decode M.1 pc = .ok (.ixor, 1)) (k9 : Xm M (pc + 1) ls (.int (x ^^^ y) :: st) h Q) : Xm M pc ls (.int y :: .int x :: st) h Q := X_nx hd rfl k9
theorem x_ladd {x y : Int64} (hd : decode M.1 pc = .ok (.ladd, 1)) (k9 : Xm M (pc + 1) ls (.long (x + y) :: st) h Q) : Xm M pc ls (.long y :: .long x :: st) h Q := X_nx hd rfl k9
theorem x_lsub {x y : Int64} (hd : decode M.1 pc = .ok (.lsub, 1)) (k9 : Xm M (pc + 1) ls (.long (x - y) :: st) h Q) : Xm M pc ls (.long y :: .long x :: st) h Q := X_nx hd rfl k9
theorem x_lmul {x y : Int64} (hd : decode M.1 pc = .ok (.lmul, 1)) (k9 : Xm M (pc + 1) ls (.long (x * y) :: st) h Q) : Xm M pc ls (.long y :: .long x :: st) h Q := X_nx hd rfl k9
theorem x_irem {x y : Int32} (hd : decode M.1 pc = .ok (.irem, 1)) (hy : ¬ y = 0) (k9 : Xm M (pc + 1) ls (.int (x - x / y * y) :: st) h Q) : Xm M pc ls (.int y :: .int x :: st) h Q := X_nx hd (by simp [act, hy, nx]) k9
theorem x_lcmp {x y : Int64} (hd : decode M.1 pc = .ok (.lcmp, 1)) (k9 : Xm M (pc + 1) ls (.int (lg_cmp x y) :: st) h Q) : Xm M pc ls (.long y :: .long x :: st) h Q := X_nx hd rfl k9
theorem x_i2l {x : Int32} (hd : decode M.1 pc = .ok (.i2l, 1)) (k9 : Xm M (pc + 1) ls (.long x.toInt64 :: st) h Q) : Xm M pc ls (.int x :: st) h Q := X_nx hd rfl k9
theorem x_i2d {x : Int32} (hd : decode M.1 pc = .ok (.i2d, 1)) (k9 : Xm M (pc + 1) ls (.double (FP.i2d x) :: st) h Q) : Xm M pc ls (.int x :: st) h Q := X_nx hd rfl k9
theorem x_dconst1 (hd : decode M.1 pc = .ok (.dconst 1, 1)) (k9 : Xm M (pc + 1) ls (.double FP.dconst1 :: st) h Q) : Xm M pc ls st h Q := X_nx hd rfl k9
theorem x_ddiv {x y : UInt64} (hd : decode M.1 pc = .ok (.ddiv, 1)) (hn : FP.ddiv x y &&& 0x7fffffffffffffff ≤ 0x7ff0000000000000) (k9 : Xm M (pc + 1) ls (.double (FP.ddiv x y) :: st) h Q) : Xm M pc ls (.double y :: .double x :: st) h Q := X_nx hd (by simp only [act]; rw [if_pos hn]; rfl) k9
theorem x_dcmp {x y : UInt64} {op : ClassFile.CmpOp} (hd : decode M.1 pc = .ok (.dcmp op, 1)) (k9 : Xm M (pc + 1) ls (.int (Op.cmpValue (FP.dcmp x y) op) :: st) h Q) : Xm M pc ls (.double y :: .double x :: st) h Q := X_nx hd rfl k9
theorem jmp_eq {off : Int} {tgt : Nat} (ht : (pc : Int) + off = (tgt : Int)) : jmp pc off ls st h = some (Sum.inl (tgt, ls, st, h)) := by
  unfold jmp
  rw [ht, if_pos (Int.natCast_nonneg tgt), Int.toNat_natCast]
theorem x_goto {off : Int} (tgt : Nat) (hd : decode M.1 pc = .ok (.goto off, 3)) (ht : (pc : Int) + off = (tgt : Int)) (k9 : Xm M tgt ls st h Q) : Xm M pc ls st h Q := X_nx hd (jmp_eq ht) k9
theorem x_if_eq {x : Int32} {off : Int} (tgt : Nat) (hd : decode M.1 pc = .ok (.ifCond .eq off, 3)) (ht : (pc : Int) + off = (tgt : Int)) (kt : x = 0 → Xm M tgt ls st h Q) (kf : ¬ x = 0 → Xm M (pc + 3) ls st h Q) : Xm M pc ls (.int x :: st) h Q := by
  by_cases hP : x = 0
  · exact X_nx hd (by rw [act_ifc]; unfold cnd bra; rw [if_pos (show 0 ≤ (pc : Int) + off by rw [ht]; exact Int.natCast_nonneg tgt), if_pos (decide_eq_true hP)]; exact jmp_eq ht) (kt hP)
  · exact X_nx hd (by rw [act_ifc]; unfold cnd bra; rw [if_pos (show 0 ≤ (pc : Int) + off by rw [ht]; exact Int.natCast_nonneg tgt), if_neg (by simpa using hP)]; rfl) (kf hP)
theorem x_icmp_eq {x y : Int32} {off : Int} (tgt : Nat) (hd : decode M.1 pc = .ok (.if_icmp .eq off, 3)) (ht : (pc : Int) + off = (tgt : Int)) (kt : x = y → Xm M tgt ls st h Q) (kf : ¬ x = y → Xm M (pc + 3) ls st h Q) : Xm M pc ls (.int y :: .int x :: st) h Q := by
  by_cases hP : x = y
  · exact X_nx hd (by rw [act_icmp]; unfold cnd bra; rw [if_pos (show 0 ≤ (pc : Int) + off by rw [ht]; exact Int.natCast_nonneg tgt), if_pos (decide_eq_true hP)]; exact jmp_eq ht) (kt hP)
  · exact X_nx hd (by rw [act_icmp]; unfold cnd bra; rw [if_pos (show 0 ≤ (pc : Int) + off by rw [ht]; exact Int.natCast_nonneg tgt), if_neg (by simpa using hP)]; rfl) (kf hP)
theorem x_if_ne {x : Int32} {off : Int} (tgt : Nat) (hd : decode M.1 pc = .ok (.ifCond .ne off, 3)) (ht : (pc : Int) + off = (tgt : Int)) (kt : ¬ x = 0 → Xm M tgt ls st h Q) (kf : x = 0 → Xm M (pc + 3) ls st h Q) : Xm M pc ls (.int x :: st) h Q := by
  by_cases hP : ¬ x = 0
  · exact X_nx hd (by rw [act_ifc]; unfold cnd bra; rw [if_pos (show 0 ≤ (pc : Int) + off by rw [ht]; exact Int.natCast_nonneg tgt), if_pos (decide_eq_true hP)]; exact jmp_eq ht) (kt hP)
  · exact X_nx hd (by rw [act_ifc]; unfold cnd bra; rw [if_pos (show 0 ≤ (pc : Int) + off by rw [ht]; exact Int.natCast_nonneg tgt), if_neg (by simpa using hP)]; rfl) (kf (Classical.not_not.mp hP))
theorem x_icmp_ne {x y : Int32} {off : Int} (tgt : Nat) (hd : decode M.1 pc = .ok (.if_icmp .ne off, 3)) (ht : (pc : Int) + off = (tgt : Int)) (kt : ¬ x = y → Xm M tgt ls st h Q) (kf : x = y → Xm M (pc + 3) ls st h Q) : Xm M pc ls (.int y :: .int x :: st) h Q := by
  by_cases hP : ¬ x = y
  · exact X_nx hd (by rw [act_icmp]; unfold cnd bra; rw [if_pos (show 0 ≤ (pc : Int) + off by rw [ht]; exact Int.natCast_nonneg tgt), if_pos (decide_eq_true hP)]; exact jmp_eq ht) (kt hP)
  · exact X_nx hd (by rw [act_icmp]; unfold cnd bra; rw [if_pos (show 0 ≤ (pc : Int) + off by rw [ht]; exact Int.natCast_nonneg tgt), if_neg (by simpa using hP)]; rfl) (kf (Classical.not_not.mp hP))
theorem x_if_lt {x : Int32} {off : Int} (tgt : Nat) (hd : decode M.1 pc = .ok (.ifCond .lt off, 3)) (ht : (pc : Int) + off = (tgt : Int)) (kt : x < 0 → Xm M tgt ls st h Q) (kf : ¬ x < 0 → Xm M (pc + 3) ls st h Q) : Xm M pc ls (.int x :: st) h Q := by
  by_cases hP : x < 0
  · exact X_nx hd (by rw [act_ifc]; unfold cnd bra; rw [if_pos (show 0 ≤ (pc : Int) + off by rw [ht]; exact Int.natCast_nonneg tgt), if_pos (decide_eq_true hP)]; exact jmp_eq ht) (kt hP)
  · exact X_nx hd (by rw [act_ifc]; unfold cnd bra; rw [if_pos (show 0 ≤ (pc : Int) + off by rw [ht]; exact Int.natCast_nonneg tgt), if_neg (by simpa using hP)]; rfl) (kf hP)
theorem x_icmp_lt {x y : Int32} {off : Int} (tgt : Nat) (hd : decode M.1 pc = .ok (.if_icmp .lt off, 3)) (ht : (pc : Int) + off = (tgt : Int)) (kt : x < y → Xm M tgt ls st h Q) (kf : ¬ x < y → Xm M (pc + 3) ls st h Q) : Xm M pc ls (.int y :: .int x :: st) h Q := by
  by_cases hP : x < y
  · exact X_nx hd (by rw [act_icmp]; unfold cnd bra; rw [if_pos (show 0 ≤ (pc : Int) + off by rw [ht]; exact Int.natCast_nonneg tgt), if_pos (decide_eq_true hP)]; exact jmp_eq ht) (kt hP)
  · exact X_nx hd (by rw [act_icmp]; unfold cnd bra; rw [if_pos (show 0 ≤ (pc : Int) + off by rw [ht]; exact Int.natCast_nonneg tgt), if_neg (by simpa using hP)]; rfl) (kf hP)
theorem x_if_ge {x : Int32} {off : Int} (tgt : Nat) (hd : decode M.1 pc = .ok (.ifCond .ge off, 3)) (ht : (pc : Int) + off = (tgt : Int)) (kt : 0 ≤ x → Xm M tgt ls st h Q) (kf : ¬ 0 ≤ x → Xm M (pc + 3) ls st h Q) : Xm M pc ls (.int x :: st) h Q := by
  by_cases hP : 0 ≤ x
  · exact X_nx hd (by rw [act_ifc]; unfold cnd bra; rw [if_pos (show 0 ≤ (pc : Int) + off by rw [ht]; exact Int.natCast_nonneg tgt), if_pos (decide_eq_true hP)]; exact jmp_eq ht) (kt hP)
  · exact X_nx hd (by rw [act_ifc]; unfold cnd bra; rw [if_pos (show 0 ≤ (pc : Int) + off by rw [ht]; exact Int.natCast_nonneg tgt), if_neg (by simpa using hP)]; rfl) (kf hP)
theorem x_icmp_ge {x y : Int32} {off : Int} (tgt : Nat) (hd : decode M.1 pc = .ok (.if_icmp .ge off, 3)) (ht : (pc : Int) + off = (tgt : Int)) (kt : y ≤ x → Xm M tgt ls st h Q) (kf : ¬ y ≤ x → Xm M (pc + 3) ls st h Q) : Xm M pc ls (.int y :: .int x :: st) h Q := by
  by_cases hP : y ≤ x
  · exact X_nx hd (by rw [act_icmp]; unfold cnd bra; rw [if_pos (show 0 ≤ (pc : Int) + off by rw [ht]; exact Int.natCast_nonneg tgt), if_pos (decide_eq_true hP)]; exact jmp_eq ht) (kt hP)
  · exact X_nx hd (by rw [act_icmp]; unfold cnd bra; rw [if_pos (show 0 ≤ (pc : Int) + off by rw [ht]; exact Int.natCast_nonneg tgt), if_neg (by simpa using hP)]; rfl) (kf hP)
theorem x_if_gt {x : Int32} {off : Int} (tgt : Nat) (hd : decode M.1 pc = .ok (.ifCond .gt off, 3)) (ht : (pc : Int) + off = (tgt : Int)) (kt : 0 < x → Xm M tgt ls st h Q) (kf : ¬ 0 < x → Xm M (pc + 3) ls st h Q) : Xm M pc ls (.int x :: st) h Q := by
  by_cases hP : 0 < x
  · exact X_nx hd (by rw [act_ifc]; unfold cnd bra; rw [if_pos (show 0 ≤ (pc : Int) + off by rw [ht]; exact Int.natCast_nonneg tgt), if_pos (decide_eq_true hP)]; exact jmp_eq ht) (kt hP)
  · exact X_nx hd (by rw [act_ifc]; unfold cnd bra; rw [if_pos (show 0 ≤ (pc : Int) + off by rw [ht]; exact Int.natCast_nonneg tgt), if_neg (by simpa using hP)]; rfl) (kf hP)
theorem x_icmp_gt {x y : Int32} {off : Int} (tgt : Nat) (hd : decode M.1 pc = .ok (.if_icmp .gt off, 3)) (ht : (pc : Int) + off = (tgt : Int)) (kt : y < x → Xm M tgt ls st h Q) (kf : ¬ y < x → Xm M (pc + 3) ls st h Q) : Xm M pc ls (.int y :: .int x :: st) h Q := by
  by_cases hP : y < x
  · exact X_nx hd (by rw [act_icmp]; unfold cnd bra; rw [if_pos (show 0 ≤ (pc : Int) + off by rw [ht]; exact Int.natCast_nonneg tgt), if_pos (decide_eq_true hP)]; exact jmp_eq ht) (kt hP)
  · exact X_nx hd (by rw [act_icmp]; unfold cnd bra; rw [if_pos (show 0 ≤ (pc : Int) + off by rw [ht]; exact Int.natCast_nonneg tgt), if_neg (by simpa using hP)]; rfl) (kf hP)
theorem x_if_le {x : Int32} {off : Int} (tgt : Nat) (hd : decode M.1 pc = .ok (.ifCond .le off, 3)) (ht : (pc : Int) + off = (tgt : Int)) (kt : x ≤ 0 → Xm M tgt ls st h Q) (kf : ¬ x ≤ 0 → Xm M (pc + 3) ls st h Q) : Xm M pc ls (.int x :: st) h Q := by
  by_cases hP : x ≤ 0
  · exact X_nx hd (by rw [act_ifc]; unfold cnd bra; rw [if_pos (show 0 ≤ (pc : Int) + off by rw [ht]; exact Int.natCast_nonneg tgt), if_pos (decide_eq_true hP)]; exact jmp_eq ht) (kt hP)
  · exact X_nx hd (by rw [act_ifc]; unfold cnd bra; rw [if_pos (show 0 ≤ (pc : Int) + off by rw [ht]; exact Int.natCast_nonneg tgt), if_neg (by simpa using hP)]; rfl) (kf hP)
theorem x_icmp_le {x y : Int32} {off : Int} (tgt : Nat) (hd : decode M.1 pc = .ok (.if_icmp .le off, 3)) (ht : (pc : Int) + off = (tgt : Int)) (kt : x ≤ y → Xm M tgt ls st h Q) (kf : ¬ x ≤ y → Xm M (pc + 3) ls st h Q) : Xm M pc ls (.int y :: .int x :: st) h Q := by
  by_cases hP : x ≤ y
  · exact X_nx hd (by rw [act_icmp]; unfold cnd bra; rw [if_pos (show 0 ≤ (pc : Int) + off by rw [ht]; exact Int.natCast_nonneg tgt), if_pos (decide_eq_true hP)]; exact jmp_eq ht) (kt hP)
  · exact X_nx hd (by rw [act_icmp]; unfold cnd bra; rw [if_pos (show 0 ≤ (pc : Int) + off by rw [ht]; exact Int.natCast_nonneg tgt), if_neg (by simpa using hP)]; rfl) (kf hP)
theorem x_tab {dflt lo hi off : Int} {offs : Array Int} {len : Nat} {x : Int32} (tgt : Nat) (hd : decode M.1 pc = .ok (.tableswitch dflt lo hi offs, len)) (h1 : ¬ (x.toInt < lo ∨ hi < x.toInt)) (ho : offs[(x.toInt - lo).toNat]? = some off) (ht : (pc : Int) + off = (tgt : Int)) (k9 : Xm M tgt ls st h Q) : Xm M pc ls (.int x :: st) h Q :=
  X_nx hd (by rw [act_tab]; unfold aTab; simp only; rw [if_neg h1, ho]; exact jmp_eq ht) k9
theorem x_tabD {dflt lo hi : Int} {offs : Array Int} {len : Nat} {x : Int32} (tgt : Nat) (hd : decode M.1 pc = .ok (.tableswitch dflt lo hi offs, len)) (h1 : x.toInt < lo ∨ hi < x.toInt) (ht : (pc : Int) + dflt = (tgt : Int)) (k9 : Xm M tgt ls st h Q) : Xm M pc ls (.int x :: st) h Q :=
  X_nx hd (by rw [act_tab]; unfold aTab; simp only; rw [if_pos h1]; exact jmp_eq ht) k9
theorem x_getfield {i t k j a : Nat} {w : Int64} {fs : List Value} {v : Value} (hd : decode M.1 pc = .ok (.getfield i, 3)) (hl : lkf M.2.1 i = (t, k, j, w)) (ht : t ≤ 1) (ha : h.2 a = cO k fs) (hv : fs[j]? = some v) (k9 : Xm M (pc + 3) ls (v :: st) h Q) : Xm M pc ls (.ref a :: st) h Q :=
  X_nx hd (by rw [act_getfield]; unfold aGet; simp only [ha, hl]; rw [if_pos ⟨ht, trivial⟩, hv]; rfl) k9
theorem x_putfield {g : VG} {c : Nat → VC} {i t k j a : Nat} {w : Int64} {fs : List Value} {v : Value} (hd : decode M.1 pc = .ok (.putfield i, 3)) (hl : lkf M.2.1 i = (t, k, j, w)) (ha : c a = cO k fs) (hk : okP M.2.2.1.2 k fs.length t j v = true) (k9 : Xm M (pc + 3) ls st (g, up c a (cO k (fs.set j v))) Q) : Xm M pc ls (v :: .ref a :: st) (g, c) Q :=
  X_nx hd (by rw [act_putfield]; unfold aPut; simp only [ha, hl]; rw [if_pos ⟨trivial, hk⟩]; rfl) k9

theorem x_putfield0 {g : VG} {c : Nat → VC} {i t k a : Nat} {w : Int64} {y : Value} {fs : List Value} {v : Value} (hd : decode M.1 pc = .ok (.putfield i, 3)) (hl : lkf M.2.1 i = (t, k, 0, w)) (ha : c a = cO k (y :: fs)) (hk : okP M.2.2.1.2 k (y :: fs).length t 0 v = true) (k9 : Xm M (pc + 3) ls st (g, up c a (cO k (v :: fs))) Q) : Xm M pc ls (v :: .ref a :: st) (g, c) Q :=
  x_putfield hd hl ha hk k9
theorem x_putfield1 {g : VG} {c : Nat → VC} {i t k a : Nat} {w : Int64} {b0 y : Value} {fs : List Value} {v : Value} (hd : decode M.1 pc = .ok (.putfield i, 3)) (hl : lkf M.2.1 i = (t, k, 1, w)) (ha : c a = cO k (b0 :: y :: fs)) (hk : okP M.2.2.1.2 k (b0 :: y :: fs).length t 1 v = true) (k9 : Xm M (pc + 3) ls st (g, up c a (cO k (b0 :: v :: fs))) Q) : Xm M pc ls (v :: .ref a :: st) (g, c) Q :=
  x_putfield hd hl ha hk k9
theorem x_putfield2 {g : VG} {c : Nat → VC} {i t k a : Nat} {w : Int64} {b0 b1 y : Value} {fs : List Value} {v : Value} (hd : decode M.1 pc = .ok (.putfield i, 3)) (hl : lkf M.2.1 i = (t, k, 2, w)) (ha : c a = cO k (b0 :: b1 :: y :: fs)) (hk : okP M.2.2.1.2 k (b0 :: b1 :: y :: fs).length t 2 v = true) (k9 : Xm M (pc + 3) ls st (g, up c a (cO k (b0 :: b1 :: v :: fs))) Q) : Xm M pc ls (v :: .ref a :: st) (g, c) Q :=
  x_putfield hd hl ha hk k9
theorem x_putfield3 {g : VG} {c : Nat → VC} {i t k a : Nat} {w : Int64} {b0 b1 b2 y : Value} {fs : List Value} {v : Value} (hd : decode M.1 pc = .ok (.putfield i, 3)) (hl : lkf M.2.1 i = (t, k, 3, w)) (ha : c a = cO k (b0 :: b1 :: b2 :: y :: fs)) (hk : okP M.2.2.1.2 k (b0 :: b1 :: b2 :: y :: fs).length t 3 v = true) (k9 : Xm M (pc + 3) ls st (g, up c a (cO k (b0 :: b1 :: b2 :: v :: fs))) Q) : Xm M pc ls (v :: .ref a :: st) (g, c) Q :=
  x_putfield hd hl ha hk k9
theorem x_putfield4 {g : VG} {c : Nat → VC} {i t k a : Nat} {w : Int64} {b0 b1 b2 b3 y : Value} {fs : List Value} {v : Value} (hd : decode M.1 pc = .ok (.putfield i, 3)) (hl : lkf M.2.1 i = (t, k, 4, w)) (ha : c a = cO k (b0 :: b1 :: b2 :: b3 :: y :: fs)) (hk : okP M.2.2.1.2 k (b0 :: b1 :: b2 :: b3 :: y :: fs).length t 4 v = true) (k9 : Xm M (pc + 3) ls st (g, up c a (cO k (b0 :: b1 :: b2 :: b3 :: v :: fs))) Q) : Xm M pc ls (v :: .ref a :: st) (g, c) Q :=
  x_putfield hd hl ha hk k9
theorem x_putfield5 {g : VG} {c : Nat → VC} {i t k a : Nat} {w : Int64} {b0 b1 b2 b3 b4 y : Value} {fs : List Value} {v : Value} (hd : decode M.1 pc = .ok (.putfield i, 3)) (hl : lkf M.2.1 i = (t, k, 5, w)) (ha : c a = cO k (b0 :: b1 :: b2 :: b3 :: b4 :: y :: fs)) (hk : okP M.2.2.1.2 k (b0 :: b1 :: b2 :: b3 :: b4 :: y :: fs).length t 5 v = true) (k9 : Xm M (pc + 3) ls st (g, up c a (cO k (b0 :: b1 :: b2 :: b3 :: b4 :: v :: fs))) Q) : Xm M pc ls (v :: .ref a :: st) (g, c) Q :=
  x_putfield hd hl ha hk k9
theorem x_putfield6 {g : VG} {c : Nat → VC} {i t k a : Nat} {w : Int64} {b0 b1 b2 b3 b4 b5 y : Value} {fs : List Value} {v : Value} (hd : decode M.1 pc = .ok (.putfield i, 3)) (hl : lkf M.2.1 i = (t, k, 6, w)) (ha : c a = cO k (b0 :: b1 :: b2 :: b3 :: b4 :: b5 :: y :: fs)) (hk : okP M.2.2.1.2 k (b0 :: b1 :: b2 :: b3 :: b4 :: b5 :: y :: fs).length t 6 v = true) (k9 : Xm M (pc + 3) ls st (g, up c a (cO k (b0 :: b1 :: b2 :: b3 :: b4 :: b5 :: v :: fs))) Q) : Xm M pc ls (v :: .ref a :: st) (g, c) Q :=
  x_putfield hd hl ha hk k9
theorem x_putfield7 {g : VG} {c : Nat → VC} {i t k a : Nat} {w : Int64} {b0 b1 b2 b3 b4 b5 b6 y : Value} {fs : List Value} {v : Value} (hd : decode M.1 pc = .ok (.putfield i, 3)) (hl : lkf M.2.1 i = (t, k, 7, w)) (ha : c a = cO k (b0 :: b1 :: b2 :: b3 :: b4 :: b5 :: b6 :: y :: fs)) (hk : okP M.2.2.1.2 k (b0 :: b1 :: b2 :: b3 :: b4 :: b5 :: b6 :: y :: fs).length t 7 v = true) (k9 : Xm M (pc + 3) ls st (g, up c a (cO k (b0 :: b1 :: b2 :: b3 :: b4 :: b5 :: b6 :: v :: fs))) Q) : Xm M pc ls (v :: .ref a :: st) (g, c) Q :=
  x_putfield hd hl ha hk k9
theorem x_putfield8 {g : VG} {c : Nat → VC} {i t k a : Nat} {w : Int64} {b0 b1 b2 b3 b4 b5 b6 b7 y : Value} {fs : List Value} {v : Value} (hd : decode M.1 pc = .ok (.putfield i, 3)) (hl : lkf M.2.1 i = (t, k, 8, w)) (ha : c a = cO k (b0 :: b1 :: b2 :: b3 :: b4 :: b5 :: b6 :: b7 :: y :: fs)) (hk : okP M.2.2.1.2 k (b0 :: b1 :: b2 :: b3 :: b4 :: b5 :: b6 :: b7 :: y :: fs).length t 8 v = true) (k9 : Xm M (pc + 3) ls st (g, up c a (cO k (b0 :: b1 :: b2 :: b3 :: b4 :: b5 :: b6 :: b7 :: v :: fs))) Q) : Xm M pc ls (v :: .ref a :: st) (g, c) Q :=
  x_putfield hd hl ha hk k9
theorem x_putfield9 {g : VG} {c : Nat → VC} {i t k a : Nat} {w : Int64} {b0 b1 b2 b3 b4 b5 b6 b7 b8 y : Value} {fs : List Value} {v : Value} (hd : decode M.1 pc = .ok (.putfield i, 3)) (hl : lkf M.2.1 i = (t, k, 9, w)) (ha : c a = cO k (b0 :: b1 :: b2 :: b3 :: b4 :: b5 :: b6 :: b7 :: b8 :: y :: fs)) (hk : okP M.2.2.1.2 k (b0 :: b1 :: b2 :: b3 :: b4 :: b5 :: b6 :: b7 :: b8 :: y :: fs).length t 9 v = true) (k9 : Xm M (pc + 3) ls st (g, up c a (cO k (b0 :: b1 :: b2 :: b3 :: b4 :: b5 :: b6 :: b7 :: b8 :: v :: fs))) Q) : Xm M pc ls (v :: .ref a :: st) (g, c) Q :=
  x_putfield hd hl ha hk k9
theorem x_getstatic {i : Nat} (hd : decode M.1 pc = .ok (.getstatic i, 3)) (hl : (lkf M.2.1 i).1 = 7) (k9 : Xm M (pc + 3) ls (.ref 1 :: st) h Q) : Xm M pc ls st h Q := X_nx hd (by simp only [act]; rw [if_pos hl]; rfl) k9
theorem x_newI {z k1 s1 : Nat} {c : Nat → VC} {n : Int32} (hd : decode M.1 pc = .ok (.newarray .int, 2)) (hn : ¬ n < 0 ∧ n.toNatClampNeg ≤ 100000) (k9 : Xm M (pc + 2) ls (.ref z :: st) ((z + 1, true, k1 + 1, s1 + n.toNatClampNeg), up c z (cI n.toNatClampNeg (fun _ => 0))) Q) : Xm M pc ls (.int n :: st) ((z, true, k1, s1), c) Q :=
  X_nx hd (by rw [act_newI]; unfold aNewI; simp only; rw [if_pos ⟨hn.1, hn.2, trivial⟩]; rfl) k9
theorem x_newJ {z k1 s1 : Nat} {c : Nat → VC} {n : Int32} (hd : decode M.1 pc = .ok (.newarray .long, 2)) (hn : ¬ n < 0 ∧ n.toNatClampNeg ≤ 100000) (k9 : Xm M (pc + 2) ls (.ref z :: st) ((z + 1, true, k1 + 1, s1 + n.toNatClampNeg), up c z (cL n.toNatClampNeg (fun _ => 0))) Q) : Xm M pc ls (.int n :: st) ((z, true, k1, s1), c) Q :=
  X_nx hd (by rw [act_newJ]; unfold aNewJ; simp only; rw [if_pos ⟨hn.1, hn.2, trivial⟩]; rfl) k9
theorem x_newR {z k1 s1 : Nat} {c : Nat → VC} {i t b : Nat} {w : Int64} {n : Int32} (hd : decode M.1 pc = .ok (.anewarray i, 3)) (hl : lkf M.2.1 i = (5, t, b, w)) (hn : ¬ n < 0 ∧ n.toNatClampNeg ≤ 100000) (k9 : Xm M (pc + 3) ls (.ref z :: st) ((z + 1, true, k1 + 1, s1 + n.toNatClampNeg), up c z (cR t n.toNatClampNeg (fun _ => none))) Q) (hq : okA t = true := by rfl) : Xm M pc ls (.int n :: st) ((z, true, k1, s1), c) Q :=
  X_nx hd (by rw [act_anew]; simp [aNewR, hl, hn, hq, nx]) k9
theorem x_new {z k1 s1 : Nat} {c : Nat → VC} {i k b : Nat} {w : Int64} (hd : decode M.1 pc = .ok (.new i, 3)) (hl : lkf M.2.1 i = (5, k, b, w)) (k9 : Xm M (pc + 3) ls (.ref z :: st) ((z + 1, true, k1 + 1, s1 + (dfl k).length), up c z (cO k (dfl k))) Q) : Xm M pc ls st ((z, true, k1, s1), c) Q :=
  X_nx hd (by rw [act_new]; simp [aNew, hl, nx]) k9
/-- new, dup, ldc, <init>, athrow -/
theorem x_throw {z k1 s1 i E b : Nat} {x1 : Bool} {c : Nat → VC} {w : Int64} (hd : decode M.1 pc = .ok (.new i, 3)) (hl : lkf M.2.1 i = (8, E, b, w)) (hh : M.2.2.2 = []) (k9 : Q (Sum.inr E) ((z, false, k1 + 1, s1 + 6), c)) (ht : thr M pc E = true := by decide +kernel) : Xm M pc ls [] ((z, x1, k1, s1), c) Q :=
  X_thr hd (by rw [act_new]; simp [aNew, hl, hh, ht]) k9
theorem x_iaload {n a : Nat} {f : Nat → Int32} {i : Int32} (hd : decode M.1 pc = .ok (.iaload, 1)) (ha : h.2 a = cI n f) (hi : inB i n = true) (k9 : Xm M (pc + 1) ls (.int (f i.toNatClampNeg) :: st) h Q) : Xm M pc ls (.int i :: .ref a :: st) h Q :=
  X_nx hd (by rw [act_iald]; unfold aIld; simp only [ha]; rw [if_pos hi]; rfl) k9
theorem x_ialoadS {n a : Nat} {f : Nat → Int32} {i : Int32} (hd : decode M.1 pc = .ok (.iaload, 1)) (ha : h.2 a = cS n f) (hi : inB i n = true) (k9 : Xm M (pc + 1) ls (.int (f i.toNatClampNeg) :: st) h Q) : Xm M pc ls (.int i :: .ref a :: st) h Q :=
  X_nx hd (by rw [act_iald]; unfold aIld; simp only [ha]; rw [if_pos hi]; rfl) k9
theorem x_laload {n a : Nat} {f : Nat → Int64} {i : Int32} (hd : decode M.1 pc = .ok (.laload, 1)) (ha : h.2 a = cL n f) (hi : inB i n = true) (k9 : Xm M (pc + 1) ls (.long (f i.toNatClampNeg) :: st) h Q) : Xm M pc ls (.int i :: .ref a :: st) h Q :=
  X_nx hd (by rw [act_jald]; unfold aJld; simp only [ha]; rw [if_pos hi]; rfl) k9
theorem x_aaload {t n a : Nat} {f : Nat → Option Nat} {i : Int32} {v : Value} (hd : decode M.1 pc = .ok (.aaload, 1)) (ha : h.2 a = cR t n f) (hi : inB i n = true) (hv : va_rf (f i.toNatClampNeg) = v) (k9 : Xm M (pc + 1) ls (v :: st) h Q) : Xm M pc ls (.int i :: .ref a :: st) h Q :=
  X_nx hd (by rw [act_aald]; unfold aAld; simp only [ha]; rw [if_pos hi, hv]; rfl) k9
theorem x_iastore {g : VG} {c : Nat → VC} {n a : Nat} {f : Nat → Int32} {i x : Int32} (hd : decode M.1 pc = .ok (.iastore, 1)) (ha : c a = cI n f) (hi : inB i n = true) (k9 : Xm M (pc + 1) ls st (g, up c a (cI n (upd f i.toNatClampNeg x))) Q) : Xm M pc ls (.int x :: .int i :: .ref a :: st) (g, c) Q :=
  X_nx hd (by rw [act_iast]; unfold aIst; simp only [ha]; rw [if_pos hi]; rfl) k9
theorem x_lastore {g : VG} {c : Nat → VC} {n a : Nat} {f : Nat → Int64} {i : Int32} {x : Int64} (hd : decode M.1 pc = .ok (.lastore, 1)) (ha : c a = cL n f) (hi : inB i n = true) (k9 : Xm M (pc + 1) ls st (g, up c a (cL n (vp_updL f i.toNatClampNeg x))) Q) : Xm M pc ls (.long x :: .int i :: .ref a :: st) (g, c) Q :=
  X_nx hd (by rw [act_jast]; unfold aJst; simp only [ha]; rw [if_pos hi]; rfl) k9
theorem x_aastore {g : VG} {c : Nat → VC} {t n a v : Nat} {f : Nat → Option Nat} {fs : List Value} {i : Int32} (hd : decode M.1 pc = .ok (.aastore, 1)) (ha : c a = cR t n f) (hv : c v = cO t fs) (hi : inB i n = true) (k9 : Xm M (pc + 1) ls st (g, up c a (cR t n (va_up f i.toNatClampNeg (some v)))) Q) : Xm M pc ls (.ref v :: .int i :: .ref a :: st) (g, c) Q :=
  X_nx hd (by rw [act_aast]; unfold aAst; simp only [ha, hv]; rw [if_pos ⟨hi, trivial⟩]; rfl) k9
theorem x_alenI {n a : Nat} {f : Nat → Int32} (hd : decode M.1 pc = .ok (.arraylength, 1)) (ha : h.2 a = cI n f) (k9 : Xm M (pc + 1) ls (.int (nI n) :: st) h Q) : Xm M pc ls (.ref a :: st) h Q :=
  X_nx hd (by rw [act_alen]; unfold aLen; simp only [ha]; rfl) k9
theorem x_alenR {t n a : Nat} {f : Nat → Option Nat} (hd : decode M.1 pc = .ok (.arraylength, 1)) (ha : h.2 a = cR t n f) (k9 : Xm M (pc + 1) ls (.int (nI n) :: st) h Q) : Xm M pc ls (.ref a :: st) h Q :=
  X_nx hd (by rw [act_alen]; unfold aLen; simp only [ha]; rfl) k9
theorem x_alenS {n a : Nat} {f : Nat → Int32} (hd : decode M.1 pc = .ok (.arraylength, 1)) (ha : h.2 a = cS n f) (k9 : Xm M (pc + 1) ls (.int (nI n) :: st) h Q) : Xm M pc ls (.ref a :: st) h Q :=
  X_nx hd (by rw [act_alen]; unfold aLen; simp only [ha]; rfl) k9
theorem x_max {i b : Nat} {w : Int64} {x y : Int32} (hd : decode M.1 pc = .ok (.invokestatic i, 3)) (hl : lkf M.2.1 i = (9, 0, b, w)) (k9 : Xm M (pc + 3) ls (.int (if x < y then y else x) :: st) h Q) (hr : catS st ≤ 8 := by first | exact Nat.le_of_ble_eq_true rfl | (simp [catS, Value.category]; done)) : Xm M pc ls (.int y :: .int x :: st) h Q :=
  X_nx hd (by rw [act_sta]; simp [aSta, hl, hr, nx]) k9
theorem x_min {i b : Nat} {w : Int64} {x y : Int32} (hd : decode M.1 pc = .ok (.invokestatic i, 3)) (hl : lkf M.2.1 i = (9, 1, b, w)) (k9 : Xm M (pc + 3) ls (.int (if x < y then x else y) :: st) h Q) (hr : catS st ≤ 8 := by first | exact Nat.le_of_ble_eq_true rfl | (simp [catS, Value.category]; done)) : Xm M pc ls (.int y :: .int x :: st) h Q :=
  X_nx hd (by rw [act_sta]; simp [aSta, hl, hr, nx]) k9
theorem x_acopy {g : VG} {c : Nat → VC} {i b n0 n1 s d : Nat} {w : Int64} {f f1 : Nat → Int32} {n sp dp : Int32} (hd : decode M.1 pc = .ok (.invokestatic i, 3)) (hl : lkf M.2.1 i = (9, 2, b, w)) (hs : c s = cI n0 f) (he : c d = cI n1 f1) (hb : ¬ sp < 0 ∧ ¬ dp < 0 ∧ ¬ n < 0 ∧ sp.toNatClampNeg + n.toNatClampNeg ≤ n0 ∧ dp.toNatClampNeg + n.toNatClampNeg ≤ n1) (k9 : Xm M (pc + 3) ls st (g, up c d (cI n1 (va_cpy f f1 sp.toNatClampNeg dp.toNatClampNeg n.toNatClampNeg))) Q) (hr : catS st ≤ 8 := by first | exact Nat.le_of_ble_eq_true rfl | (simp [catS, Value.category]; done)) : Xm M pc ls (.int n :: .int dp :: .ref d :: .int sp :: .ref s :: st) (g, c) Q :=
  X_nx hd (by rw [act_sta]; simp [aSta, hl, aCpy, hs, he, hb, hr, nx]) k9
theorem x_objinit {i a b d : Nat} {w : Int64} (hd : decode M.1 pc = .ok (.invokespecial i, 3)) (hl : lkf M.2.1 i = (6, b, d, w)) (k9 : Xm M (pc + 3) ls [] h Q) : Xm M pc ls [.ref a] h Q :=
  X_nx hd (by rw [act_spc]; simp [aSpc, hl, nx]) k9
theorem x_return (hd : decode M.1 pc = .ok (.return_, 1)) (k9 : Q (Sum.inl none) h) (hz : M.2.2.1.2 < 11 := by exact Nat.le_of_ble_eq_true rfl) : Xm M pc ls [] h Q := X_ret hd (by simp only [act]; rw [if_pos hz]) k9
def bV (b : Bool) : Int32 := if b then nI 1 else nI 0
theorem bV_01 (b : Bool) : bV b = nI 0 ∨ bV b = nI 1 := by
  unfold bV
  split
  · exact Or.inr rfl
  · exact Or.inl rfl
theorem rz_b {M : MI} {x : Int32} (h : M.2.2.1.2 = 12) (hx : x = nI 0 ∨ x = nI 1) : rz M x = true := by
  unfold rz
  rw [h]
  rcases hx with rfl | rfl <;> decide
theorem x_ireturn {x : Int32} (hd : decode M.1 pc = .ok (.ireturn, 1)) (k9 : Q (Sum.inl (some (.int x))) h) (hz : rz M x = true := by first | rfl | exact rz_b rfl (bV_01 _) | exact rz_b rfl (by assumption)) : Xm M pc ls [.int x] h Q := X_ret hd (by simp only [act]; rw [if_pos hz]) k9
theorem x_lreturn {x : Int64} (hd : decode M.1 pc = .ok (.lreturn, 1)) (k9 : Q (Sum.inl (some (.long x))) h) (hz : M.2.2.1.2 = 13 := by rfl) : Xm M pc ls [.long x] h Q := X_ret hd (by simp only [act]; rw [if_pos hz]) k9
theorem x_dreturn {x : UInt64} (hd : decode M.1 pc = .ok (.dreturn, 1)) (k9 : Q (Sum.inl (some (.double x))) h) (hz : M.2.2.1.2 = 14 := by rfl) : Xm M pc ls [.double x] h Q := X_ret hd (by simp only [act]; rw [if_pos hz]) k9
theorem x_areturn {x : Nat} (hd : decode M.1 pc = .ok (.areturn, 1)) (k9 : Q (Sum.inl (some (.ref x))) h) (hz : M.2.2.1.2 = 15 := by rfl) : Xm M pc ls [.ref x] h Q := X_ret hd (by simp only [act]; rw [if_pos hz]) k9
theorem x_cs0 {i μ : Nat} {w : Int64} (hd : decode M.1 pc = .ok (.invokestatic i, 3)) (hl : lkf M.2.1 i = (3, μ, 0, w)) (k9 : Cm μ [] h (Xk M pc ls st Q)) (he : (entA []).length ≤ (mt μ).2.2.1.1 := by first | exact Nat.le_of_ble_eq_true rfl | (simp [entA, Value.category]; done)) (hr : catS st ≤ 8 := by first | exact Nat.le_of_ble_eq_true rfl | (simp [catS, Value.category]; done)) : Xm M pc ls (st) h Q :=
  X_call hd (by rw [act_sta]; simp [aSta, hl, cal, hr]) he k9
theorem x_cs1 {i μ : Nat} {w : Int64} {a0 : Value} (hd : decode M.1 pc = .ok (.invokestatic i, 3)) (hl : lkf M.2.1 i = (3, μ, 1, w)) (k9 : Cm μ [a0] h (Xk M pc ls st Q)) (he : (entA [a0]).length ≤ (mt μ).2.2.1.1 := by first | exact Nat.le_of_ble_eq_true rfl | (simp [entA, Value.category]; done)) (hr : catS st ≤ 8 := by first | exact Nat.le_of_ble_eq_true rfl | (simp [catS, Value.category]; done)) : Xm M pc ls (a0 :: st) h Q :=
  X_call hd (by rw [act_sta]; simp [aSta, hl, cal, hr]) he k9
theorem x_cv1 {i μ a k : Nat} {w : Int64} {fs : List Value} (hd : decode M.1 pc = .ok (.invokevirtual i, 3)) (hl : lkf M.2.1 i = (2, μ, 1, w)) (ha : h.2 a = cO k fs) (hk : w.toNatClampNeg = k) (k9 : Cm μ [.ref a] h (Xk M pc ls st Q)) (he : (entA [.ref a]).length ≤ (mt μ).2.2.1.1 := by first | exact Nat.le_of_ble_eq_true rfl | (simp [entA, Value.category]; done)) (hr : catS st ≤ 8 := by first | exact Nat.le_of_ble_eq_true rfl | (simp [catS, Value.category]; done)) : Xm M pc ls (.ref a :: st) h Q :=
  X_call hd (by rw [act_vir]; simp [aVir, hl, isK, ha, hk, cal, hr]) he k9
theorem x_ci1 {i μ a k : Nat} {w : Int64} {fs : List Value} (hd : decode M.1 pc = .ok (.invokespecial i, 3)) (hl : lkf M.2.1 i = (4, μ, 1, w)) (ha : h.2 a = cO k fs) (hk : w.toNatClampNeg = k) (k9 : Cm μ [.ref a] h (Xk M pc ls st Q)) (he : (entA [.ref a]).length ≤ (mt μ).2.2.1.1 := by first | exact Nat.le_of_ble_eq_true rfl | (simp [entA, Value.category]; done)) (hr : catS st ≤ 8 := by first | exact Nat.le_of_ble_eq_true rfl | (simp [catS, Value.category]; done)) : Xm M pc ls (.ref a :: st) h Q :=
  X_call hd (by rw [act_spc]; simp [aSpc, hl, isK, ha, hk, cal, hr]) he k9
theorem x_cs2 {i μ : Nat} {w : Int64} {a0 a1 : Value} (hd : decode M.1 pc = .ok (.invokestatic i, 3)) (hl : lkf M.2.1 i = (3, μ, 2, w)) (k9 : Cm μ [a0, a1] h (Xk M pc ls st Q)) (he : (entA [a0, a1]).length ≤ (mt μ).2.2.1.1 := by first | exact Nat.le_of_ble_eq_true rfl | (simp [entA, Value.category]; done)) (hr : catS st ≤ 8 := by first | exact Nat.le_of_ble_eq_true rfl | (simp [catS, Value.category]; done)) : Xm M pc ls (a1 :: a0 :: st) h Q :=
  X_call hd (by rw [act_sta]; simp [aSta, hl, cal, hr]) he k9
theorem x_cv2 {i μ a k : Nat} {w : Int64} {a1 : Value} {fs : List Value} (hd : decode M.1 pc = .ok (.invokevirtual i, 3)) (hl : lkf M.2.1 i = (2, μ, 2, w)) (ha : h.2 a = cO k fs) (hk : w.toNatClampNeg = k) (k9 : Cm μ [.ref a, a1] h (Xk M pc ls st Q)) (he : (entA [.ref a, a1]).length ≤ (mt μ).2.2.1.1 := by first | exact Nat.le_of_ble_eq_true rfl | (simp [entA, Value.category]; done)) (hr : catS st ≤ 8 := by first | exact Nat.le_of_ble_eq_true rfl | (simp [catS, Value.category]; done)) : Xm M pc ls (a1 :: .ref a :: st) h Q :=
  X_call hd (by rw [act_vir]; simp [aVir, hl, isK, ha, hk, cal, hr]) he k9
theorem x_ci2 {i μ a k : Nat} {w : Int64} {a1 : Value} {fs : List Value} (hd : decode M.1 pc = .ok (.invokespecial i, 3)) (hl : lkf M.2.1 i = (4, μ, 2, w)) (ha : h.2 a = cO k fs) (hk : w.toNatClampNeg = k) (k9 : Cm μ [.ref a, a1] h (Xk M pc ls st Q)) (he : (entA [.ref a, a1]).length ≤ (mt μ).2.2.1.1 := by first | exact Nat.le_of_ble_eq_true rfl | (simp [entA, Value.category]; done)) (hr : catS st ≤ 8 := by first | exact Nat.le_of_ble_eq_true rfl | (simp [catS, Value.category]; done)) : Xm M pc ls (a1 :: .ref a :: st) h Q :=
  X_call hd (by rw [act_spc]; simp [aSpc, hl, isK, ha, hk, cal, hr]) he k9
theorem x_cs3 {i μ : Nat} {w : Int64} {a0 a1 a2 : Value} (hd : decode M.1 pc = .ok (.invokestatic i, 3)) (hl : lkf M.2.1 i = (3, μ, 3, w)) (k9 : Cm μ [a0, a1, a2] h (Xk M pc ls st Q)) (he : (entA [a0, a1, a2]).length ≤ (mt μ).2.2.1.1 := by first | exact Nat.le_of_ble_eq_true rfl | (simp [entA, Value.category]; done)) (hr : catS st ≤ 8 := by first | exact Nat.le_of_ble_eq_true rfl | (simp [catS, Value.category]; done)) : Xm M pc ls (a2 :: a1 :: a0 :: st) h Q :=
  X_call hd (by rw [act_sta]; simp [aSta, hl, cal, hr]) he k9
theorem x_cv3 {i μ a k : Nat} {w : Int64} {a1 a2 : Value} {fs : List Value} (hd : decode M.1 pc = .ok (.invokevirtual i, 3)) (hl : lkf M.2.1 i = (2, μ, 3, w)) (ha : h.2 a = cO k fs) (hk : w.toNatClampNeg = k) (k9 : Cm μ [.ref a, a1, a2] h (Xk M pc ls st Q)) (he : (entA [.ref a, a1, a2]).length ≤ (mt μ).2.2.1.1 := by first | exact Nat.le_of_ble_eq_true rfl | (simp [entA, Value.category]; done)) (hr : catS st ≤ 8 := by first | exact Nat.le_of_ble_eq_true rfl | (simp [catS, Value.category]; done)) : Xm M pc ls (a2 :: a1 :: .ref a :: st) h Q :=
  X_call hd (by rw [act_vir]; simp [aVir, hl, isK, ha, hk, cal, hr]) he k9
theorem x_ci3 {i μ a k : Nat} {w : Int64} {a1 a2 : Value} {fs : List Value} (hd : decode M.1 pc = .ok (.invokespecial i, 3)) (hl : lkf M.2.1 i = (4, μ, 3, w)) (ha : h.2 a = cO k fs) (hk : w.toNatClampNeg = k) (k9 : Cm μ [.ref a, a1, a2] h (Xk M pc ls st Q)) (he : (entA [.ref a, a1, a2]).length ≤ (mt μ).2.2.1.1 := by first | exact Nat.le_of_ble_eq_true rfl | (simp [entA, Value.category]; done)) (hr : catS st ≤ 8 := by first | exact Nat.le_of_ble_eq_true rfl | (simp [catS, Value.category]; done)) : Xm M pc ls (a2 :: a1 :: .ref a :: st) h Q :=
  X_call hd (by rw [act_spc]; simp [aSpc, hl, isK, ha, hk, cal, hr]) he k9
theorem x_cs4 {i μ : Nat} {w : Int64} {a0 a1 a2 a3 : Value} (hd : decode M.1 pc = .ok (.invokestatic i, 3)) (hl : lkf M.2.1 i = (3, μ, 4, w)) (k9 : Cm μ [a0, a1, a2, a3] h (Xk M pc ls st Q)) (he : (entA [a0, a1, a2, a3]).length ≤ (mt μ).2.2.1.1 := by first | exact Nat.le_of_ble_eq_true rfl | (simp [entA, Value.category]; done)) (hr : catS st ≤ 8 := by first | exact Nat.le_of_ble_eq_true rfl | (simp [catS, Value.category]; done)) : Xm M pc ls (a3 :: a2 :: a1 :: a0 :: st) h Q :=
  X_call hd (by rw [act_sta]; simp [aSta, hl, cal, hr]) he k9
theorem x_cv4 {i μ a k : Nat} {w : Int64} {a1 a2 a3 : Value} {fs : List Value} (hd : decode M.1 pc = .ok (.invokevirtual i, 3)) (hl : lkf M.2.1 i = (2, μ, 4, w)) (ha : h.2 a = cO k fs) (hk : w.toNatClampNeg = k) (k9 : Cm μ [.ref a, a1, a2, a3] h (Xk M pc ls st Q)) (he : (entA [.ref a, a1, a2, a3]).length ≤ (mt μ).2.2.1.1 := by first | exact Nat.le_of_ble_eq_true rfl | (simp [entA, Value.category]; done)) (hr : catS st ≤ 8 := by first | exact Nat.le_of_ble_eq_true rfl | (simp [catS, Value.category]; done)) : Xm M pc ls (a3 :: a2 :: a1 :: .ref a :: st) h Q :=
  X_call hd (by rw [act_vir]; simp [aVir, hl, isK, ha, hk, cal, hr]) he k9
theorem x_ci4 {i μ a k : Nat} {w : Int64} {a1 a2 a3 : Value} {fs : List Value} (hd : decode M.1 pc = .ok (.invokespecial i, 3)) (hl : lkf M.2.1 i = (4, μ, 4, w)) (ha : h.2 a = cO k fs) (hk : w.toNatClampNeg = k) (k9 : Cm μ [.ref a, a1, a2, a3] h (Xk M pc ls st Q)) (he : (entA [.ref a, a1, a2, a3]).length ≤ (mt μ).2.2.1.1 := by first | exact Nat.le_of_ble_eq_true rfl | (simp [entA, Value.category]; done)) (hr : catS st ≤ 8 := by first | exact Nat.le_of_ble_eq_true rfl | (simp [catS, Value.category]; done)) : Xm M pc ls (a3 :: a2 :: a1 :: .ref a :: st) h Q :=
  X_call hd (by rw [act_spc]; simp [aSpc, hl, isK, ha, hk, cal, hr]) he k9
theorem x_cs5 {i μ : Nat} {w : Int64} {a0 a1 a2 a3 a4 : Value} (hd : decode M.1 pc = .ok (.invokestatic i, 3)) (hl : lkf M.2.1 i = (3, μ, 5, w)) (k9 : Cm μ [a0, a1, a2, a3, a4] h (Xk M pc ls st Q)) (he : (entA [a0, a1, a2, a3, a4]).length ≤ (mt μ).2.2.1.1 := by first | exact Nat.le_of_ble_eq_true rfl | (simp [entA, Value.category]; done)) (hr : catS st ≤ 8 := by first | exact Nat.le_of_ble_eq_true rfl | (simp [catS, Value.category]; done)) : Xm M pc ls (a4 :: a3 :: a2 :: a1 :: a0 :: st) h Q :=
  X_call hd (by rw [act_sta]; simp [aSta, hl, cal, hr]) he k9
theorem x_cv5 {i μ a k : Nat} {w : Int64} {a1 a2 a3 a4 : Value} {fs : List Value} (hd : decode M.1 pc = .ok (.invokevirtual i, 3)) (hl : lkf M.2.1 i = (2, μ, 5, w)) (ha : h.2 a = cO k fs) (hk : w.toNatClampNeg = k) (k9 : Cm μ [.ref a, a1, a2, a3, a4] h (Xk M pc ls st Q)) (he : (entA [.ref a, a1, a2, a3, a4]).length ≤ (mt μ).2.2.1.1 := by first | exact Nat.le_of_ble_eq_true rfl | (simp [entA, Value.category]; done)) (hr : catS st ≤ 8 := by first | exact Nat.le_of_ble_eq_true rfl | (simp [catS, Value.category]; done)) : Xm M pc ls (a4 :: a3 :: a2 :: a1 :: .ref a :: st) h Q :=
  X_call hd (by rw [act_vir]; simp [aVir, hl, isK, ha, hk, cal, hr]) he k9
theorem x_ci5 {i μ a k : Nat} {w : Int64} {a1 a2 a3 a4 : Value} {fs : List Value} (hd : decode M.1 pc = .ok (.invokespecial i, 3)) (hl : lkf M.2.1 i = (4, μ, 5, w)) (ha : h.2 a = cO k fs) (hk : w.toNatClampNeg = k) (k9 : Cm μ [.ref a, a1, a2, a3, a4] h (Xk M pc ls st Q)) (he : (entA [.ref a, a1, a2, a3, a4]).length ≤ (mt μ).2.2.1.1 := by first | exact Nat.le_of_ble_eq_true rfl | (simp [entA, Value.category]; done)) (hr : catS st ≤ 8 := by first | exact Nat.le_of_ble_eq_true rfl | (simp [catS, Value.category]; done)) : Xm M pc ls (a4 :: a3 :: a2 :: a1 :: .ref a :: st) h Q :=
  X_call hd (by rw [act_spc]; simp [aSpc, hl, isK, ha, hk, cal, hr]) he k9
theorem x_cs6 {i μ : Nat} {w : Int64} {a0 a1 a2 a3 a4 a5 : Value} (hd : decode M.1 pc = .ok (.invokestatic i, 3)) (hl : lkf M.2.1 i = (3, μ, 6, w)) (k9 : Cm μ [a0, a1, a2, a3, a4, a5] h (Xk M pc ls st Q)) (he : (entA [a0, a1, a2, a3, a4, a5]).length ≤ (mt μ).2.2.1.1 := by first | exact Nat.le_of_ble_eq_true rfl | (simp [entA, Value.category]; done)) (hr : catS st ≤ 8 := by first | exact Nat.le_of_ble_eq_true rfl | (simp [catS, Value.category]; done)) : Xm M pc ls (a5 :: a4 :: a3 :: a2 :: a1 :: a0 :: st) h Q :=
  X_call hd (by rw [act_sta]; simp [aSta, hl, cal, hr]) he k9
theorem x_cv6 {i μ a k : Nat} {w : Int64} {a1 a2 a3 a4 a5 : Value} {fs : List Value} (hd : decode M.1 pc = .ok (.invokevirtual i, 3)) (hl : lkf M.2.1 i = (2, μ, 6, w)) (ha : h.2 a = cO k fs) (hk : w.toNatClampNeg = k) (k9 : Cm μ [.ref a, a1, a2, a3, a4, a5] h (Xk M pc ls st Q)) (he : (entA [.ref a, a1, a2, a3, a4, a5]).length ≤ (mt μ).2.2.1.1 := by first | exact Nat.le_of_ble_eq_true rfl | (simp [entA, Value.category]; done)) (hr : catS st ≤ 8 := by first | exact Nat.le_of_ble_eq_true rfl | (simp [catS, Value.category]; done)) : Xm M pc ls (a5 :: a4 :: a3 :: a2 :: a1 :: .ref a :: st) h Q :=
  X_call hd (by rw [act_vir]; simp [aVir, hl, isK, ha, hk, cal, hr]) he k9
theorem x_ci6 {i μ a k : Nat} {w : Int64} {a1 a2 a3 a4 a5 : Value} {fs : List Value} (hd : decode M.1 pc = .ok (.invokespecial i, 3)) (hl : lkf M.2.1 i = (4, μ, 6, w)) (ha : h.2 a = cO k fs) (hk : w.toNatClampNeg = k) (k9 : Cm μ [.ref a, a1, a2, a3, a4, a5] h (Xk M pc ls st Q)) (he : (entA [.ref a, a1, a2, a3, a4, a5]).length ≤ (mt μ).2.2.1.1 := by first | exact Nat.le_of_ble_eq_true rfl | (simp [entA, Value.category]; done)) (hr : catS st ≤ 8 := by first | exact Nat.le_of_ble_eq_true rfl | (simp [catS, Value.category]; done)) : Xm M pc ls (a5 :: a4 :: a3 :: a2 :: a1 :: .ref a :: st) h Q :=
  X_call hd (by rw [act_spc]; simp [aSpc, hl, isK, ha, hk, cal, hr]) he k9
theorem x_iaddN {a b : Nat} (hd : decode M.1 pc = .ok (.iadd, 1)) (k9 : Xm M (pc + 1) ls (.int (nI (a + b)) :: st) h Q) : Xm M pc ls (.int (nI b) :: .int (nI a) :: st) h Q := x_iadd hd (by rw [nI_add]; exact k9)
theorem x_isubN {a b : Nat} (hd : decode M.1 pc = .ok (.isub, 1)) (hab : b ≤ a) (k9 : Xm M (pc + 1) ls (.int (nI (a - b)) :: st) h Q) : Xm M pc ls (.int (nI b) :: .int (nI a) :: st) h Q := x_isub hd (by rw [pk_sub hab]; exact k9)
theorem x_imulN {a b : Nat} (hd : decode M.1 pc = .ok (.imul, 1)) (k9 : Xm M (pc + 1) ls (.int (nI (a * b)) :: st) h Q) : Xm M pc ls (.int (nI b) :: .int (nI a) :: st) h Q := x_imul hd (by rw [pk_mul]; exact k9)
theorem x_i2lN {a : Nat} (hd : decode M.1 pc = .ok (.i2l, 1)) (ha : a < 2 ^ 31) (k9 : Xm M (pc + 1) ls (.long (lN a) :: st) h Q) : Xm M pc ls (.int (nI a) :: st) h Q := x_i2l hd (by rw [nI_l ha]; exact k9)
theorem x_ialoadN {n a i : Nat} {f : Nat → Int32} (hd : decode M.1 pc = .ok (.iaload, 1)) (ha : h.2 a = cI n f) (hi : i < n) (hn : n < 2 ^ 31) (k9 : Xm M (pc + 1) ls (.int (f i) :: st) h Q) : Xm M pc ls (.int (nI i) :: .ref a :: st) h Q := x_iaload hd ha (decide_eq_true (nI_in hi hn)) (by rw [nI_clamp (by omega)]; exact k9)
theorem x_iastoreN {g : VG} {c : Nat → VC} {n a i : Nat} {f : Nat → Int32} {x : Int32} (hd : decode M.1 pc = .ok (.iastore, 1)) (ha : c a = cI n f) (hi : i < n) (hn : n < 2 ^ 31) (k9 : Xm M (pc + 1) ls st (g, up c a (cI n (upd f i x))) Q) : Xm M pc ls (.int x :: .int (nI i) :: .ref a :: st) (g, c) Q := x_iastore hd ha (decide_eq_true (nI_in hi hn)) (by rw [nI_clamp (by omega)]; exact k9)
theorem x_aaloadN {t n a i q : Nat} {f : Nat → Option Nat} (hd : decode M.1 pc = .ok (.aaload, 1)) (ha : h.2 a = cR t n f) (hi : i < n) (hn : n < 2 ^ 31) (hv : f i = some q) (k9 : Xm M (pc + 1) ls (.ref q :: st) h Q) : Xm M pc ls (.int (nI i) :: .ref a :: st) h Q := x_aaload hd ha (decide_eq_true (nI_in hi hn)) (by rw [nI_clamp (by omega), hv]; rfl) k9
theorem x_aastoreN {g : VG} {c : Nat → VC} {t n a v i : Nat} {f : Nat → Option Nat} {fs : List Value} (hd : decode M.1 pc = .ok (.aastore, 1)) (ha : c a = cR t n f) (hv : c v = cO t fs) (hi : i < n) (hn : n < 2 ^ 31) (k9 : Xm M (pc + 1) ls st (g, up c a (cR t n (va_up f i (some v)))) Q) : Xm M pc ls (.ref v :: .int (nI i) :: .ref a :: st) (g, c) Q := x_aastore hd ha hv (decide_eq_true (nI_in hi hn)) (by rw [nI_clamp (by omega)]; exact k9)
theorem x_acopyN {g : VG} {c : Nat → VC} {i b n0 n1 s d n sp dp : Nat} {w : Int64} {f f1 : Nat → Int32} (hd : decode M.1 pc = .ok (.invokestatic i, 3)) (hl : lkf M.2.1 i = (9, 2, b, w)) (hs : c s = cI n0 f) (he : c d = cI n1 f1) (h1 : sp + n ≤ n0) (h2 : dp + n ≤ n1) (h3 : n0 < 2 ^ 31) (h4 : n1 < 2 ^ 31) (k9 : Xm M (pc + 3) ls st (g, up c d (cI n1 (va_cpy f f1 sp dp n))) Q) (hr : catS st ≤ 8 := by first | exact Nat.le_of_ble_eq_true rfl | (simp [catS, Value.category]; done)) : Xm M pc ls (.int (nI n) :: .int (nI dp) :: .ref d :: .int (nI sp) :: .ref s :: st) (g, c) Q := x_acopy hd hl hs he ⟨nI_pos (by omega), nI_pos (by omega), nI_pos (by omega), by rw [nI_clamp (by omega), nI_clamp (by omega)]; exact h1, by rw [nI_clamp (by omega), nI_clamp (by omega)]; exact h2⟩ (by rw [nI_clamp (by omega), nI_clamp (by omega), nI_clamp (by omega)]; exact k9) hr
theorem x_newIN {z k1 s1 n : Nat} {c : Nat → VC} (hd : decode M.1 pc = .ok (.newarray .int, 2)) (hn : n ≤ 100000) (k9 : Xm M (pc + 2) ls (.ref z :: st) ((z + 1, true, k1 + 1, s1 + n), up c z (cI n (fun _ => 0))) Q) : Xm M pc ls (.int (nI n) :: st) ((z, true, k1, s1), c) Q := x_newI hd ⟨nI_pos (by omega), by rw [nI_clamp (by omega)]; exact hn⟩ (by rw [nI_clamp (by omega)]; exact k9)
theorem x_newJN {z k1 s1 n : Nat} {c : Nat → VC} (hd : decode M.1 pc = .ok (.newarray .long, 2)) (hn : n ≤ 100000) (k9 : Xm M (pc + 2) ls (.ref z :: st) ((z + 1, true, k1 + 1, s1 + n), up c z (cL n (fun _ => 0))) Q) : Xm M pc ls (.int (nI n) :: st) ((z, true, k1, s1), c) Q := x_newJ hd ⟨nI_pos (by omega), by rw [nI_clamp (by omega)]; exact hn⟩ (by rw [nI_clamp (by omega)]; exact k9)
theorem x_newRN {z k1 s1 i t b n : Nat} {c : Nat → VC} {w : Int64} (hd : decode M.1 pc = .ok (.anewarray i, 3)) (hl : lkf M.2.1 i = (5, t, b, w)) (hn : n ≤ 100000) (k9 : Xm M (pc + 3) ls (.ref z :: st) ((z + 1, true, k1 + 1, s1 + n), up c z (cR t n (fun _ => none))) Q) (hq : okA t = true := by rfl) : Xm M pc ls (.int (nI n) :: st) ((z, true, k1, s1), c) Q := x_newR hd hl ⟨nI_pos (by omega), by rw [nI_clamp (by omega)]; exact hn⟩ (by rw [nI_clamp (by omega)]; exact k9) hq
theorem x_ixlt {a b : Nat} {c1 c2 : Int32} (h1 : c1 = nI a) (h2 : c2 = nI b) (ha : a < 2 ^ 31) (hb : b < 2 ^ 31) : c1 < c2 ↔ a < b := by rw [h1, h2]; exact nI_ltI ha hb
theorem x_iincN_0 {x : Nat} {n : Int} {t : VLs} (w : Nat) (hd : decode M.1 pc = .ok (.iinc 0 n, 3)) (hw : Int32.ofInt n = nI w) (k9 : Xm M (pc + 3) (some (.int (nI (x + w))) :: t) st h Q) : Xm M pc (some (.int (nI x)) :: t) st h Q := x_iinc_0 (nI w) hd hw (by rw [nI_add]; exact k9)
theorem x_iincN_1 {x : Nat} {n : Int} {o0 : Option Value} {t : VLs} (w : Nat) (hd : decode M.1 pc = .ok (.iinc 1 n, 3)) (hw : Int32.ofInt n = nI w) (hc : clr o0 = o0) (k9 : Xm M (pc + 3) (o0 :: some (.int (nI (x + w))) :: t) st h Q) : Xm M pc (o0 :: some (.int (nI x)) :: t) st h Q := x_iinc_1 (nI w) hd hw hc (by rw [nI_add]; exact k9)
theorem x_iincN_2 {x : Nat} {n : Int} {o0 o1 : Option Value} {t : VLs} (w : Nat) (hd : decode M.1 pc = .ok (.iinc 2 n, 3)) (hw : Int32.ofInt n = nI w) (hc : clr o1 = o1) (k9 : Xm M (pc + 3) (o0 :: o1 :: some (.int (nI (x + w))) :: t) st h Q) : Xm M pc (o0 :: o1 :: some (.int (nI x)) :: t) st h Q := x_iinc_2 (nI w) hd hw hc (by rw [nI_add]; exact k9)
theorem x_iincN_3 {x : Nat} {n : Int} {o0 o1 o2 : Option Value} {t : VLs} (w : Nat) (hd : decode M.1 pc = .ok (.iinc 3 n, 3)) (hw : Int32.ofInt n = nI w) (hc : clr o2 = o2) (k9 : Xm M (pc + 3) (o0 :: o1 :: o2 :: some (.int (nI (x + w))) :: t) st h Q) : Xm M pc (o0 :: o1 :: o2 :: some (.int (nI x)) :: t) st h Q := x_iinc_3 (nI w) hd hw hc (by rw [nI_add]; exact k9)
theorem x_iincN_4 {x : Nat} {n : Int} {o0 o1 o2 o3 : Option Value} {t : VLs} (w : Nat) (hd : decode M.1 pc = .ok (.iinc 4 n, 3)) (hw : Int32.ofInt n = nI w) (hc : clr o3 = o3) (k9 : Xm M (pc + 3) (o0 :: o1 :: o2 :: o3 :: some (.int (nI (x + w))) :: t) st h Q) : Xm M pc (o0 :: o1 :: o2 :: o3 :: some (.int (nI x)) :: t) st h Q := x_iinc_4 (nI w) hd hw hc (by rw [nI_add]; exact k9)
theorem x_iincN_5 {x : Nat} {n : Int} {o0 o1 o2 o3 o4 : Option Value} {t : VLs} (w : Nat) (hd : decode M.1 pc = .ok (.iinc 5 n, 3)) (hw : Int32.ofInt n = nI w) (hc : clr o4 = o4) (k9 : Xm M (pc + 3) (o0 :: o1 :: o2 :: o3 :: o4 :: some (.int (nI (x + w))) :: t) st h Q) : Xm M pc (o0 :: o1 :: o2 :: o3 :: o4 :: some (.int (nI x)) :: t) st h Q := x_iinc_5 (nI w) hd hw hc (by rw [nI_add]; exact k9)
theorem x_iincN_6 {x : Nat} {n : Int} {o0 o1 o2 o3 o4 o5 : Option Value} {t : VLs} (w : Nat) (hd : decode M.1 pc = .ok (.iinc 6 n, 3)) (hw : Int32.ofInt n = nI w) (hc : clr o5 = o5) (k9 : Xm M (pc + 3) (o0 :: o1 :: o2 :: o3 :: o4 :: o5 :: some (.int (nI (x + w))) :: t) st h Q) : Xm M pc (o0 :: o1 :: o2 :: o3 :: o4 :: o5 :: some (.int (nI x)) :: t) st h Q := x_iinc_6 (nI w) hd hw hc (by rw [nI_add]; exact k9)
theorem x_iincN_7 {x : Nat} {n : Int} {o0 o1 o2 o3 o4 o5 o6 : Option Value} {t : VLs} (w : Nat) (hd : decode M.1 pc = .ok (.iinc 7 n, 3)) (hw : Int32.ofInt n = nI w) (hc : clr o6 = o6) (k9 : Xm M (pc + 3) (o0 :: o1 :: o2 :: o3 :: o4 :: o5 :: o6 :: some (.int (nI (x + w))) :: t) st h Q) : Xm M pc (o0 :: o1 :: o2 :: o3 :: o4 :: o5 :: o6 :: some (.int (nI x)) :: t) st h Q := x_iinc_7 (nI w) hd hw hc (by rw [nI_add]; exact k9)
theorem x_iincN_8 {x : Nat} {n : Int} {o0 o1 o2 o3 o4 o5 o6 o7 : Option Value} {t : VLs} (w : Nat) (hd : decode M.1 pc = .ok (.iinc 8 n, 3)) (hw : Int32.ofInt n = nI w) (hc : clr o7 = o7) (k9 : Xm M (pc + 3) (o0 :: o1 :: o2 :: o3 :: o4 :: o5 :: o6 :: o7 :: some (.int (nI (x + w))) :: t) st h Q) : Xm M pc (o0 :: o1 :: o2 :: o3 :: o4 :: o5 :: o6 :: o7 :: some (.int (nI x)) :: t) st h Q := x_iinc_8 (nI w) hd hw hc (by rw [nI_add]; exact k9)
theorem x_iincN_9 {x : Nat} {n : Int} {o0 o1 o2 o3 o4 o5 o6 o7 o8 : Option Value} {t : VLs} (w : Nat) (hd : decode M.1 pc = .ok (.iinc 9 n, 3)) (hw : Int32.ofInt n = nI w) (hc : clr o8 = o8) (k9 : Xm M (pc + 3) (o0 :: o1 :: o2 :: o3 :: o4 :: o5 :: o6 :: o7 :: o8 :: some (.int (nI (x + w))) :: t) st h Q) : Xm M pc (o0 :: o1 :: o2 :: o3 :: o4 :: o5 :: o6 :: o7 :: o8 :: some (.int (nI x)) :: t) st h Q := x_iinc_9 (nI w) hd hw hc (by rw [nI_add]; exact k9)
theorem x_iincN_10 {x : Nat} {n : Int} {o0 o1 o2 o3 o4 o5 o6 o7 o8 o9 : Option Value} {t : VLs} (w : Nat) (hd : decode M.1 pc = .ok (.iinc 10 n, 3)) (hw : Int32.ofInt n = nI w) (hc : clr o9 = o9) (k9 : Xm M (pc + 3) (o0 :: o1 :: o2 :: o3 :: o4 :: o5 :: o6 :: o7 :: o8 :: o9 :: some (.int (nI (x + w))) :: t) st h Q) : Xm M pc (o0 :: o1 :: o2 :: o3 :: o4 :: o5 :: o6 :: o7 :: o8 :: o9 :: some (.int (nI x)) :: t) st h Q := x_iinc_10 (nI w) hd hw hc (by rw [nI_add]; exact k9)
theorem x_iincN_11 {x : Nat} {n : Int} {o0 o1 o2 o3 o4 o5 o6 o7 o8 o9 o10 : Option Value} {t : VLs} (w : Nat) (hd : decode M.1 pc = .ok (.iinc 11 n, 3)) (hw : Int32.ofInt n = nI w) (hc : clr o10 = o10) (k9 : Xm M (pc + 3) (o0 :: o1 :: o2 :: o3 :: o4 :: o5 :: o6 :: o7 :: o8 :: o9 :: o10 :: some (.int (nI (x + w))) :: t) st h Q) : Xm M pc (o0 :: o1 :: o2 :: o3 :: o4 :: o5 :: o6 :: o7 :: o8 :: o9 :: o10 :: some (.int (nI x)) :: t) st h Q := x_iinc_11 (nI w) hd hw hc (by rw [nI_add]; exact k9)
end XR
theorem up_s {c : Nat → VC} {a : Nat} {x : VC} : up c a x a = x := if_pos rfl
theorem up_n {c : Nat → VC} {a b : Nat} {x : VC} (hb : b ≠ a) : up c a x b = c b := if_neg hb
theorem inB_nI {i n : Nat} (h : i < n) (hn : n < 2 ^ 31) : inB (nI i) n = true := decide_eq_true (nI_in h hn)
def Rt (v : Value) (h : VH) : (Option Value ⊕ Nat) → VH → Prop := fun r h' => r = Sum.inl (some v) ∧ h' = h
def Rv (h : VH) : (Option Value ⊕ Nat) → VH → Prop := fun r h' => r = Sum.inl none ∧ h' = h
def Ev (g : VG) (P : (Nat → VC) → Prop) : (Option Value ⊕ Nat) → VH → Prop := fun r h' => ∃ c', r = Sum.inl none ∧ h' = (g, c') ∧ P c'
def Ei (g : VG) (P : Value → (Nat → VC) → Prop) : (Option Value ⊕ Nat) → VH → Prop := fun r h' => ∃ v c', r = Sum.inl (some v) ∧ h' = (g, c') ∧ P v c'
theorem Cm.rt {M : MI} {pc μ : Nat} {ls : VLs} {as rest : List Value} {Q : (Option Value ⊕ Nat) → VH → Prop} {v : Value} {h h1 : VH} (hc : Cm μ as h (Rt v h1)) (k : Xm M (pc + 3) ls (v :: rest) h1 Q) : Cm μ as h (Xk M pc ls rest Q) := hc.mono (fun r h' q => by obtain ⟨rfl, rfl⟩ := q; exact k)
theorem Cm.rv {M : MI} {pc μ : Nat} {ls : VLs} {as rest : List Value} {Q : (Option Value ⊕ Nat) → VH → Prop} {h h1 : VH} (hc : Cm μ as h (Rv h1)) (k : Xm M (pc + 3) ls rest h1 Q) : Cm μ as h (Xk M pc ls rest Q) := hc.mono (fun r h' q => by obtain ⟨rfl, rfl⟩ := q; exact k)
theorem Cm.ev {M : MI} {pc μ : Nat} {ls : VLs} {as rest : List Value} {Q : (Option Value ⊕ Nat) → VH → Prop} {h : VH} {g : VG} {P : (Nat → VC) → Prop} (hc : Cm μ as h (Ev g P)) (k : ∀ c', P c' → Xm M (pc + 3) ls rest (g, c') Q) : Cm μ as h (Xk M pc ls rest Q) := hc.mono (fun r h' q => by obtain ⟨c', rfl, rfl, p⟩ := q; exact k c' p)
theorem Cm.ei {M : MI} {pc μ : Nat} {ls : VLs} {as rest : List Value} {Q : (Option Value ⊕ Nat) → VH → Prop} {h : VH} {g : VG} {P : Value → (Nat → VC) → Prop} (hc : Cm μ as h (Ei g P)) (k : ∀ v c', P v c' → Xm M (pc + 3) ls (v :: rest) (g, c') Q) : Cm μ as h (Xk M pc ls rest Q) := hc.mono (fun r h' q => by obtain ⟨v, c', rfl, rfl, p⟩ := q; exact k v c' p)
theorem Xk.i {M : MI} {pc : Nat} {ls : VLs} {rest : List Value} {Q : (Option Value ⊕ Nat) → VH → Prop} {v : Value} {h : VH} (k : Xm M (pc + 3) ls (v :: rest) h Q) : Xk M pc ls rest Q (Sum.inl (some v)) h := k
theorem Xk.v {M : MI} {pc : Nat} {ls : VLs} {rest : List Value} {Q : (Option Value ⊕ Nat) → VH → Prop} {h : VH} (k : Xm M (pc + 3) ls rest h Q) : Xk M pc ls rest Q (Sum.inl none) h := k
end
section
/-! SOUND 1: the small machine's values, locals and heap, seen in the great one -/
def tv (τ : Nat → Nat) (v : Value) : Value := match v with
  | .ref a => .ref (τ a)
  | v => v
theorem tv_cat (τ : Nat → Nat) (v : Value) : (tv τ v).category = v.category := by cases v <;> rfl
theorem tv_map_cat (τ : Nat → Nat) (l : List Value) : ((l.map (tv τ)).map fun v => v.category).sum = catS l := by
  induction l with
  | nil => rfl
  | cons v t ih =>
    simp only [List.map_cons, List.sum_cons, catS, tv_cat]
    rw [ih]
theorem set1_len (v : Option Value) : ∀ (i : Nat) (ls : VLs), (set1 i v ls).length = ls.length
  | 0, [] => rfl
  | 0, _ :: _ => rfl
  | 1, [] => rfl
  | 1, [_] => rfl
  | 1, _ :: _ :: _ => rfl
  | _ + 2, [] => rfl
  | i + 2, a :: t => by
    show (a :: set1 (i + 1) v t).length = _
    rw [List.length_cons, set1_len v (i + 1) t, List.length_cons]
theorem set1_get (v : Option Value) : ∀ (i : Nat) (ls : VLs) (j : Nat), i < ls.length → (set1 i v ls)[j]? = if j = i then some v else if j + 1 = i then (ls[j]?).map clr else ls[j]?
  | 0, [], j, h => by cases h
  | 0, _ :: t, j, _ => by
    cases j with
    | zero => rfl
    | succ j =>
      show (v :: t)[j + 1]? = _
      simp
  | 1, [], j, h => by cases h
  | 1, [_], j, h => by simp at h
  | 1, a :: b :: t, j, _ => by
    show (clr a :: v :: t)[j]? = _
    cases j with
    | zero => simp
    | succ j =>
      cases j with
      | zero => simp
      | succ j => simp
  | i + 2, [], j, h => by cases h
  | i + 2, a :: t, j, h => by
    show (a :: set1 (i + 1) v t)[j]? = _
    cases j with
    | zero => simp
    | succ j =>
      have h1 := set1_get v (i + 1) t j (by rw [List.length_cons] at h; omega)
      simp only [List.getElem?_cons_succ]
      rw [h1]
      by_cases e1 : j = i + 1
      · simp [e1]
      · by_cases e2 : j + 1 = i + 1
        · simp [e1, e2]
        · have e3 : ¬ j + 1 = i + 2 := by omega
          have e4 : ¬ j + 1 + 1 = i + 2 := by omega
          rw [if_neg e1, if_neg e2, if_neg e3, if_neg e4]
theorem set2_len (v : Option Value) : ∀ (i : Nat) (ls : VLs), (set2 i v ls).length = ls.length
  | 0, [] => rfl
  | 0, [_] => rfl
  | 0, _ :: _ :: _ => rfl
  | 1, [] => rfl
  | 1, [_] => rfl
  | 1, [_, _] => rfl
  | 1, _ :: _ :: _ :: _ => rfl
  | _ + 2, [] => rfl
  | i + 2, a :: t => by
    show (a :: set2 (i + 1) v t).length = _
    rw [List.length_cons, set2_len v (i + 1) t, List.length_cons]
theorem set2_get (v : Option Value) : ∀ (i : Nat) (ls : VLs) (j : Nat), i + 1 < ls.length → (set2 i v ls)[j]? = if j = i then some v else if j = i + 1 then some none else if j + 1 = i then (ls[j]?).map clr else ls[j]?
  | 0, [], j, h => by cases h
  | 0, [_], j, h => by simp at h
  | 0, _ :: _ :: t, j, _ => by
    show (v :: none :: t)[j]? = _
    cases j with
    | zero => rfl
    | succ j =>
      cases j with
      | zero => simp
      | succ j => simp
  | 1, [], j, h => by cases h
  | 1, [_], j, h => by simp at h
  | 1, [_, _], j, h => by simp at h
  | 1, a :: b :: d :: t, j, _ => by
    show (clr a :: v :: none :: t)[j]? = _
    cases j with
    | zero => simp
    | succ j =>
      cases j with
      | zero => simp
      | succ j =>
        cases j with
        | zero => simp
        | succ j => simp
  | i + 2, [], j, h => by cases h
  | i + 2, a :: t, j, h => by
    show (a :: set2 (i + 1) v t)[j]? = _
    cases j with
    | zero => simp
    | succ j =>
      have h1 := set2_get v (i + 1) t j (by rw [List.length_cons] at h; omega)
      simp only [List.getElem?_cons_succ]
      rw [h1]
      by_cases e1 : j = i + 1
      · simp [e1]
      · by_cases e0 : j = i + 1 + 1
        · simp [e0]
        · by_cases e2 : j + 1 = i + 1
          · have e4 : ¬ j + 1 = i + 2 := by omega
            have e5 : ¬ j + 1 = i + 2 + 1 := by omega
            have e6 : j + 1 + 1 = i + 2 := by omega
            rw [if_neg e1, if_neg e0, if_pos e2, if_neg e4, if_neg e5, if_pos e6]
          · have e3 : ¬ j + 1 = i + 2 := by omega
            have e5 : ¬ j + 1 = i + 2 + 1 := by omega
            have e4 : ¬ j + 1 + 1 = i + 2 := by omega
            rw [if_neg e1, if_neg e0, if_neg e2, if_neg e3, if_neg e5, if_neg e4]
/-- the locals that are known, as the kit lists them -/
def lvl (τ : Nat → Nat) (ls : VLs) : List (Nat × Value) := (List.range ls.length).filterMap (fun j => match ls[j]? with
  | some (some v) => some (j, tv τ v)
  | _ => none)
theorem lvl_mem {τ : Nat → Nat} {ls : VLs} {q : Nat × Value} : q ∈ lvl τ ls ↔ ∃ v, ls[q.1]? = some (some v) ∧ q.2 = tv τ v := by
  unfold lvl
  rw [List.mem_filterMap]
  constructor
  · rintro ⟨j, hj, h⟩
    split at h
    · next v hv =>
      cases h
      exact ⟨v, hv, rfl⟩
    · cases h
  · rintro ⟨v, hv, he⟩
    refine ⟨q.1, List.mem_range.mpr (List.getElem?_eq_some_iff.mp hv).1, ?_⟩
    rw [hv]
    show some (q.1, tv τ v) = some q
    rw [← he]
def LsR (τ : Nat → Nat) (ls : VLs) (LS : Array Slot) : Prop := lv_has LS ls.length (lvl τ ls)
theorem LsR.at {τ : Nat → Nat} {ls : VLs} {LS : Array Slot} (h : LsR τ ls LS) {j : Nat} {v : Value} (hv : ls[j]? = some (some v)) : LS[j]? = some (.val (tv τ v)) := h.2.2 (j, tv τ v) (lvl_mem.mpr ⟨v, hv, rfl⟩)
theorem clr_some {o : Option Value} {u : Value} (h : clr o = some u) : o = some u ∧ ¬ u.category = 2 := by
  cases o with
  | none => cases h
  | some w =>
    unfold clr at h
    simp only at h
    split at h
    · cases h
    · next hc => cases h; exact ⟨rfl, hc⟩
theorem LsR.st1 {τ : Nat → Nat} {ls : VLs} {LS' : Array Slot} {i : Nat} {o : Option Value} {x : Value} (hi : i < ls.length) (ho : ∀ v, o = some v → x = tv τ v)
    (h' : lv_has LS' ls.length ((i, x) :: (lvl τ ls).filter (fun q => !(q.1 == i) && !(q.1 + 1 == i && q.2.category == 2)))) : LsR τ (set1 i o ls) LS' := by
  refine ⟨h'.1.trans (set1_len o i ls).symm, h'.2.1, fun q hq => ?_⟩
  obtain ⟨u, hu, he⟩ := lvl_mem.mp hq
  rw [set1_get o i ls q.1 hi] at hu
  by_cases e1 : q.1 = i
  · rw [if_pos e1] at hu
    have hx := ho u (Option.some.inj hu)
    have := h'.2.2 (i, x) List.mem_cons_self
    rw [he, ← hx, e1]
    exact this
  · rw [if_neg e1] at hu
    by_cases e2 : q.1 + 1 = i
    · rw [if_pos e2] at hu
      cases hl : ls[q.1]? with
      | none => rw [hl] at hu; cases hu
      | some o' =>
        rw [hl] at hu
        obtain ⟨h1, h2⟩ := clr_some (Option.some.inj hu)
        subst h1
        refine h'.2.2 q (List.mem_cons_of_mem _ (List.mem_filter.mpr ⟨lvl_mem.mpr ⟨u, hl, he⟩, ?_⟩))
        rw [he, tv_cat]
        simp [e1, h2]
    · rw [if_neg e2] at hu
      refine h'.2.2 q (List.mem_cons_of_mem _ (List.mem_filter.mpr ⟨lvl_mem.mpr ⟨u, hu, he⟩, ?_⟩))
      simp [e1, e2]
theorem LsR.st2 {τ : Nat → Nat} {ls : VLs} {LS' : Array Slot} {i : Nat} {v : Value} (hi : i + 1 < ls.length)
    (h' : lv_has LS' ls.length ((i, tv τ v) :: (lvl τ ls).filter (fun q => !(q.1 == i) && (!(q.1 == i + 1) && !(q.1 + 1 == i && q.2.category == 2))))) : LsR τ (set2 i (some v) ls) LS' := by
  refine ⟨h'.1.trans (set2_len (some v) i ls).symm, h'.2.1, fun q hq => ?_⟩
  obtain ⟨u, hu, he⟩ := lvl_mem.mp hq
  rw [set2_get (some v) i ls q.1 hi] at hu
  by_cases e1 : q.1 = i
  · rw [if_pos e1] at hu
    have hx : v = u := Option.some.inj (Option.some.inj hu)
    have := h'.2.2 (i, tv τ v) List.mem_cons_self
    rw [he, ← hx, e1]
    exact this
  · rw [if_neg e1] at hu
    by_cases e0 : q.1 = i + 1
    · rw [if_pos e0] at hu
      cases hu
    · rw [if_neg e0] at hu
      by_cases e2 : q.1 + 1 = i
      · rw [if_pos e2] at hu
        cases hl : ls[q.1]? with
        | none => rw [hl] at hu; cases hu
        | some o' =>
          rw [hl] at hu
          obtain ⟨h1, h2⟩ := clr_some (Option.some.inj hu)
          subst h1
          refine h'.2.2 q (List.mem_cons_of_mem _ (List.mem_filter.mpr ⟨lvl_mem.mpr ⟨u, hl, he⟩, ?_⟩))
          rw [he, tv_cat]
          simp [e1, e0, h2]
      · rw [if_neg e2] at hu
        refine h'.2.2 q (List.mem_cons_of_mem _ (List.mem_filter.mpr ⟨lvl_mem.mpr ⟨u, hu, he⟩, ?_⟩))
        simp [e1, e0, e2]
theorem entA_len (τ : Nat → Nat) (vs : List Value) : (lg_sl (vs.map (tv τ))).length = (entA vs).length := by
  induction vs with
  | nil => rfl
  | cons v t ih =>
    have hc := tv_cat τ v
    simp only [lg_sl, List.map_cons, List.flatMap_cons, List.length_append, entA] at ih ⊢
    rw [ih, hc]
    by_cases h : v.category = 2
    · simp [h]; omega
    · simp [h]; omega
theorem entA_get (τ : Nat → Nat) : ∀ (vs : List Value) (k j : Nat) (u : Value), (entA vs)[j]? = some (some u) → (k + j, tv τ u) ∈ lv_args k (vs.map (tv τ))
  | [], k, j, u, h => by simp [entA] at h
  | v :: t, k, j, u, h => by
    simp only [entA] at h
    simp only [List.map_cons, lv_args, tv_cat]
    by_cases hc : v.category = 2
    · rw [if_pos hc] at h
      rw [if_pos hc]
      cases j with
      | zero => cases h; exact List.mem_cons_self
      | succ j =>
        cases j with
        | zero => simp at h
        | succ j =>
          have := entA_get τ t (k + 2) j u (by simpa using h)
          rw [show k + (j + 1 + 1) = k + 2 + j by omega]
          exact List.mem_cons_of_mem _ this
    · rw [if_neg hc] at h
      rw [if_neg hc]
      cases j with
      | zero => cases h; exact List.mem_cons_self
      | succ j =>
        have := entA_get τ t (k + 1) j u (by simpa using h)
        rw [show k + (j + 1) = k + 1 + j by omega]
        exact List.mem_cons_of_mem _ this
theorem entL_len {n : Nat} {vs : List Value} (h : (entA vs).length ≤ n) : (entL n vs).length = n := by
  unfold entL
  rw [List.length_append, List.length_replicate]
  omega
theorem LsR.ent (τ : Nat → Nat) {n : Nat} {vs : List Value} (h : (entA vs).length ≤ n) : LsR τ (entL n vs) ((lg_sl (vs.map (tv τ)) ++ List.replicate (n - (lg_sl (vs.map (tv τ))).length) Slot.unset).toArray) := by
  have h0 := lv_entry (vs.map (tv τ)) (n := n) (by rw [entA_len]; exact h)
  refine ⟨h0.1.trans (entL_len h).symm, h0.2.1, fun q hq => ?_⟩
  obtain ⟨u, hu, he⟩ := lvl_mem.mp hq
  refine h0.2.2 q ?_
  have h1 : (entA vs)[q.1]? = some (some u) := by
    unfold entL at hu
    by_cases hl : q.1 < (entA vs).length
    · rw [List.getElem?_append_left hl] at hu; exact hu
    · rw [List.getElem?_append_right (by omega), List.getElem?_replicate] at hu
      split at hu
      · cases hu
      · cases hu
  have h2 := entA_get τ vs 0 q.1 u h1
  rw [Nat.zero_add, ← he] at h2
  exact h2
/-! the heap -/
def cNm (k : Nat) : String := match k with
  | 0 => RX0
  | 1 => RX1
  | 2 => RX2
  | 3 => RX3
  | 4 => RX4
  | _ => RX5
def tFd (k : Nat) : u_T := match k with
  | 0 => TX0
  | 1 => TX1
  | 2 => TX2
  | 3 => TX3
  | 4 => TX4
  | _ => TX5
def yFd (k : Nat) : Nat → FieldType := match k with
  | 0 => tyX0
  | 1 => tyX1
  | 2 => tyX2
  | 3 => tyX3
  | 4 => tyX4
  | _ => tyX5
def nFd (k : Nat) : Nat := (fdI k).length
section HEAP
variable (τ : Nat → Nat) (D : va_G) (cA : Nat → ClassId) (s0 : State)
def AtC (x : VC) (q : Nat) (H : Heap) : Prop := match x with
  | Sum.inl (n, f) => H[q]? = some (arrV (cA 0) n (fun j => .int (f j)))
  | Sum.inr (Sum.inl (t, n, f)) => okA t = true ∧ H[q]? = some (arrV (cA (2 + t)) n (fun j => tv τ (va_rf (f j))))
  | Sum.inr (Sum.inr (Sum.inl (n, f))) => H[q]? = some (arrV (cA 1) n (fun j => .long (f j)))
  | Sum.inr (Sum.inr (Sum.inr (Sum.inl (k, fs)))) => k < 6 ∧ fs.length = nFd k ∧ t_OB q (D.1 k) (nFd k) (D.2 k) H (vp_V (fs.map (tv τ)))
  | Sum.inr (Sum.inr (Sum.inr (Sum.inr (Sum.inl (n, f))))) => va_X q n f s0 H
  | _ => True
theorem AtC.kept {x : VC} {q : Nat} {H H1 : Heap} (h : AtC τ D cA s0 x q H) (hq : q < H.size → H1[q]? = H[q]?) : AtC τ D cA s0 x q H1 := by
  rcases x with ⟨n, f⟩ | ⟨t, n, f⟩ | ⟨n, f⟩ | ⟨k, fs⟩ | ⟨n, f⟩ | u
  · exact (hq (Array.getElem?_eq_some_iff.mp h).1).trans h
  · exact ⟨h.1, (hq (Array.getElem?_eq_some_iff.mp h.2).1).trans h.2⟩
  · exact (hq (Array.getElem?_eq_some_iff.mp h).1).trans h
  · obtain ⟨h1, h2, h3⟩ := h
    obtain ⟨cell, g1, g2⟩ := h3
    exact ⟨h1, h2, cell, (hq (Array.getElem?_eq_some_iff.mp g1).1).trans g1, g2⟩
  · obtain ⟨cell, g1, g2⟩ := h
    exact ⟨cell, (hq (Array.getElem?_eq_some_iff.mp g1).1).trans g1, g2⟩
  · trivial
def roC (x : VC) : Prop := match x with
  | Sum.inr (Sum.inr (Sum.inr (Sum.inr _))) => True
  | _ => False
def RelH (h : VH) (H : Heap) : Prop := (∀ a, AtC τ D cA s0 (h.2 a) (τ a) H) ∧ (∀ a, a < 2 → roC (h.2 a)) ∧ 2 ≤ h.1.1 ∧ (h.1.2.1 = true → H.size + 2 = s0.heap.size + h.1.1)
/-- where the small machine's addresses lie -/
def Tau : Prop := (∀ a, 2 ≤ a → τ a + 2 = s0.heap.size + a) ∧ ∀ a, a < 2 → τ a < s0.heap.size
theorem RelH.set {h : VH} {H H1 : Heap} {a : Nat} {x : VC} (hτ : Tau τ s0) (hR : RelH τ D cA s0 h H) (ha : ¬ roC (h.2 a)) (hx : AtC τ D cA s0 x (τ a) H1) (hz : H1.size = H.size) (ho : ∀ q, q ≠ τ a → H1[q]? = H[q]?) : RelH τ D cA s0 (h.1, up h.2 a x) H1 := by
  obtain ⟨r1, r2, r3, r4⟩ := hR
  have h2 : 2 ≤ a := by
    by_cases q : 2 ≤ a
    · exact q
    · exact absurd (r2 a (by omega)) ha
  refine ⟨fun j => ?_, fun j hj => ?_, r3, fun q => by rw [hz]; exact r4 q⟩
  · by_cases e : j = a
    · subst e
      show AtC τ D cA s0 (up h.2 j x j) (τ j) H1
      unfold up
      rw [if_pos rfl]
      exact hx
    · show AtC τ D cA s0 (up h.2 a x j) (τ j) H1
      unfold up
      rw [if_neg e]
      refine (r1 j).kept τ D cA s0 (fun _ => ho _ (fun q => ?_))
      by_cases q2 : 2 ≤ j
      · have := hτ.1 j q2
        have := hτ.1 a h2
        omega
      · have := hτ.2 j (by omega)
        have := hτ.1 a h2
        omega
  · show roC (up h.2 a x j)
    unfold up
    rw [if_neg (by omega)]
    exact r2 j hj
theorem RelH.push {z k1 n1 k2 n2 : Nat} {b : Bool} {c : Nat → VC} {H H1 : Heap} {x : VC} (hτ : Tau τ s0) (hR : RelH τ D cA s0 ((z, true, k1, n1), c) H) (hx : AtC τ D cA s0 x H.size H1) (hz : H1.size = H.size + 1) (ho : ∀ q, q < H.size → H1[q]? = H[q]?) : H.size = τ z ∧ RelH τ D cA s0 ((z + 1, b, k2, n2), up c z x) H1 := by
  obtain ⟨r1, r2, r3, r4⟩ := hR
  have r3' : 2 ≤ z := r3
  have r4' : H.size + 2 = s0.heap.size + z := r4 rfl
  have hq : H.size = τ z := by
    have := hτ.1 z r3'
    omega
  refine ⟨hq, fun j => ?_, fun j hj => ?_, by show 2 ≤ z + 1; omega, fun _ => by show H1.size + 2 = s0.heap.size + (z + 1); omega⟩
  · show AtC τ D cA s0 (up c z x j) (τ j) H1
    unfold up
    by_cases e : j = z
    · subst e
      rw [if_pos rfl, ← hq]
      exact hx
    · rw [if_neg e]
      exact (r1 j).kept τ D cA s0 (fun q => ho _ q)
  · show roC (up c z x j)
    unfold up
    rw [if_neg (by omega)]
    exact r2 j hj
theorem RelH.fuzz {z k1 n1 k2 n2 : Nat} {b : Bool} {c : Nat → VC} {H H1 : Heap} (hR : RelH τ D cA s0 ((z, b, k1, n1), c) H) (ho : ∀ q, q < H.size → H1[q]? = H[q]?) : RelH τ D cA s0 ((z, false, k2, n2), c) H1 := by
  obtain ⟨r1, r2, r3, r4⟩ := hR
  exact ⟨fun j => (r1 j).kept τ D cA s0 (fun q => ho _ q), r2, r3, fun q => by cases q⟩
/-- within a method's frame: s is its start -/
def Inv (s : State) (h : VH) (H : Heap) (locs : List Loc) : Prop := RelH τ D cA s0 h H ∧ s.heap.size ≤ H.size ∧ (∀ q, q < s0.heap.size → H[q]? = s0.heap[q]?) ∧ ∀ l ∈ locs, s0.heap.size ≤ l.base
theorem Inv.put {s : State} {h : VH} {H H1 : Heap} {locs : List Loc} {a k : Nat} {x : VC} (hτ : Tau τ s0) (hI : Inv τ D cA s0 s h H locs) (ha : ¬ roC (h.2 a)) (hx : AtC τ D cA s0 x (τ a) H1) (hz : H1.size = H.size) (ho : ∀ q, q ≠ τ a → H1[q]? = H[q]?) : Inv τ D cA s0 s (h.1, up h.2 a x) H1 (locs ++ [⟨τ a, k⟩]) := by
  have h2 : 2 ≤ a := by
    by_cases q : 2 ≤ a
    · exact q
    · exact absurd (hI.1.2.1 a (by omega)) ha
  have h3 := hτ.1 a h2
  refine ⟨hI.1.set τ D cA s0 hτ ha hx hz ho, by rw [hz]; exact hI.2.1, fun q hq => ?_, fun l hl => ?_⟩
  · rw [ho q (by omega)]
    exact hI.2.2.1 q hq
  · rcases List.mem_append.mp hl with h4 | h4
    · exact hI.2.2.2 l h4
    · rw [List.mem_singleton.mp h4]
      show s0.heap.size ≤ τ a
      omega
end HEAP
end
section
/-! SOUND 2: printed by gen_snd.py: names, return types and rooms of the methods by number; the tables have the words that they need -/
def yML : List MethodName := [yX2_init, yX2_size, yX2_at, yX2_put, yX2_takeAt, yX2_takeLast, yX2_dropFirst, yX2_clear, yX2_countOf, yX2_lastIndexOf, yX2_mixedInto, yX2_copyFrom, yX0_init, yX0_size, yX0_lines, yX0_startOf, yX0_lengthOf, yX0_sortAt, yX0_wantedAt, yX0_turnedAt, yX0_wrongAt, yX0_about, yX0_add, yX0_endLine, yX0_putRight, yX0_clear, yX0_errors, yX0_turnedSorts, yX0_countOf, yX0_errorAt, yX0_mixedInto, yX0_copyFrom, yX3_init, yX3_boxOf, yX3_formeOf, yX3_putBack, yX3_buySorts, yX3_spillSorts, yX3_cleanBox, yX3_setText, yX3_lenderFor, yX3_correctForme, yX3_correctPlace, yX3_distributeForme, yX3_slips, yX3_pieForme, yX3_sortFromHeap, yX3_number, yX3_allSorts, yX3_sortsInBoxes, yX3_foulSorts, yX3_countInBoxes, yX3_sortsInFormes, yX3_countInFormes, yX3_errorsInFormes, yX3_turnedInFormes, yX3_copyFrom, yX1_init, yX1_size, yX1_save, yX1_restore, yX1_dropOldest, yX4_init, yX4_buy, yX4_buyLacking, yX4_spill, yX4_clean, yX4_set, yX4_letter, yX4_inBox, yX4_value, yX4_setLine, yX4_correct, yX4_distribute, yX4_pie, yX4_sortHeap, yX4_forme, yX4_places, yX4_place, yX4_proof, yX4_inHeap, yX4_errorsIfSet, yX4_turnedIfSet, yX4_copies, yX4_bestToDistribute, yX4_order, yX4_append, yX4_clearText, yX4_undo, yX4_digest, yX4_aboutLetter, yX4_aboutForme, yX4_lackingOf, yX4_settingGoes, yX4_trialGoes, yX4_requireLetter, yX4_requireForme, yX4_requireIndex, yX4_requireRange, yX4_requireRoomFor, yX4_widthOf, yX4_mixed, yJ9_floorMod_7cf53, yX5_init, yX5_thrown, yX5_in, yX5_fine, yX5_throwing, yX5_save, yX5_laysAside, yX5_takesBack, yX5_isLetter, yX5_isForme, yX5_widthOf, yX5_puts, yX5_takes, yX5_countIn, yX5_foulIn, yX5_inBoxes, yX5_takesOwn, yX5_empties, yX5_lineAt, yX5_places0, yX5_of, yX5_isWrong, yX5_countOf, yX5_countAll, yX5_sorts, yX5_loosens, yX5_buys, yX5_buy, yX5_lacking, yX5_buyLacking, yX5_spill, yX5_clean, yX5_set, yX5_inAllBoxes, yX5_inTheHeap, yX5_letterOf, yX5_letter, yX5_inBox, yX5_allFoul, yX5_valueOf, yX5_value, yX5_lender, yX5_sets, yX5_wrongInLine, yX5_turnedInLine, yX5_setLine, yX5_corrects, yX5_correct, yX5_distributes, yX5_distribute, yX5_pie, yX5_sortHeap, yX5_formeOf, yX5_forme, yX5_isLine, yX5_places, yX5_placeOf, yX5_place, yX5_proof, yX5_inHeap, yX5_errorsIfSet, yX5_turnedIfSet, yX5_copies, yX5_bestToDistribute, yX5_order, yX5_append, yX5_clearText, yX5_undo, yX5_hashBoxes, yX5_hashForme, yX5_digest, yL_buy, yL_buyLacking, yL_spill, yL_clean, yL_set, yL_letter, yL_inBox, yL_value, yL_setLine, yL_correct, yL_distribute, yL_pie, yL_sortHeap, yL_forme, yL_places, yL_place, yL_proof, yL_inHeap, yL_append, yL_undo, yL_law]
def yM (μ : Nat) : MethodName := yML.getD μ ⟨"", "", ""⟩
def rtML : List (Option FieldType) := [none, (some .int), (some .int), none, (some .int), (some .int), none, none, (some .int), (some .int), (some .long), none, none, (some .int), (some .int), (some .int), (some .int), (some .int), (some .int), (some .boolean), (some .boolean), (some .int), none, none, none, none, (some .int), (some .int), (some .int), (some .int), (some .long), none, none, (some (.object "SortsCase$Row")), (some (.object "SortsCase$Forme")), none, none, none, (some .int), (some .boolean), (some (.object "SortsCase$Row")), (some .int), (some .boolean), (some .int), (some .boolean), none, (some .int), (some .int), (some .int), (some .int), (some .int), (some .int), (some .int), (some .int), (some .int), (some .int), none, none, (some .int), none, none, none, none, (some .int), (some .int), (some .int), (some .int), (some .int), (some .int), (some .int), (some .int), (some .int), (some .int), (some .int), (some .int), (some .int), (some .int), (some .int), (some .int), (some .int), (some .int), (some .int), (some .int), (some .int), (some .int), (some .double), (some .int), (some .int), (some .int), (some .long), (some .int), (some .int), (some .int), (some .boolean), (some .boolean), none, none, none, none, none, (some .int), (some .long), (some .int), none, (some .int), (some .boolean), (some .int), (some .int), none, none, none, (some .boolean), (some .boolean), (some .int), none, (some .int), (some .int), (some .int), (some .int), (some .boolean), (some .int), (some .int), (some .int), (some .int), (some .boolean), (some .int), (some .int), (some .int), none, none, (some .int), (some .int), (some .int), (some .int), (some .int), (some .int), (some .int), (some .int), (some .int), (some .int), (some .int), (some .int), (some .int), (some .int), (some .int), (some .boolean), (some .int), (some .int), (some .int), (some .int), (some .int), (some .int), (some .int), (some .int), (some .int), (some .int), (some .int), (some .boolean), (some .int), (some .int), (some .int), (some .int), (some .int), (some .int), (some .int), (some .int), (some .int), (some .double), (some .int), (some .int), (some .int), (some .long), (some .long), (some .long), (some .int), (some .int), (some .int), (some .int), (some .int), (some .int), (some .int), (some .int), (some .int), (some .int), (some .int), (some .int), (some .int), (some .int), (some .int), (some .int), (some .int), (some .int), (some .int), (some .int), (some .boolean)]
def rtM (μ : Nat) : Option FieldType := rtML.getD μ none
def hhML : List (List (Nat × Nat × Nat × Nat)) := [[], [], [], [], [], [], [], [], [], [], [], [], [], [], [], [], [], [], [], [], [], [], [], [], [], [], [], [], [], [], [], [], [], [], [], [], [], [], [], [], [], [], [], [], [], [], [], [], [], [], [], [], [], [], [], [], [], [], [], [], [], [], [], [], [], [], [], [], [], [], [], [], [], [], [], [], [], [], [], [], [], [], [], [], [], [], [], [], [], [], [], [], [], [], [], [], [], [], [], [], [], [], [], [], [], [], [], [], [], [], [], [], [], [], [], [], [], [], [], [], [], [], [], [], [], [], [], [], [], [], [], [], [], [], [], [], [], [], [], [], [], [], [], [], [], [], [], [], [], [], [], [], [], [], [], [], [], [], [], [], [], [], [], [], [], [], [], [], [], [], [], [], [], [], [(0, 10, 13, 13), (0, 10, 17, 15), (0, 10, 21, 17)], [(0, 8, 11, 17)], [(0, 12, 15, 13), (0, 12, 19, 15), (0, 12, 23, 17)], [(0, 9, 12, 13)], [(0, 10, 13, 15)], [(0, 10, 13, 13), (0, 10, 17, 15)], [(0, 10, 13, 13)], [(0, 9, 12, 15)], [(0, 9, 12, 13), (0, 9, 15, 17)], [(0, 9, 12, 13)], [(0, 9, 12, 13)], [(0, 9, 12, 13)], [(0, 9, 12, 15)], [(0, 10, 13, 13), (0, 10, 17, 15)], [(0, 10, 13, 13)], [(0, 14, 17, 13), (0, 14, 21, 15)], [(0, 10, 13, 13)], [(0, 9, 12, 13)], [(0, 9, 12, 15), (0, 9, 15, 17)], [(0, 8, 11, 17)], []]
def hhM (μ : Nat) : List (Nat × Nat × Nat × Nat) := hhML.getD μ []
def rmML : List (Nat × Nat) := [(1, 21), (0, 0), (0, 0), (0, 0), (1, 26), (2, 48), (1, 26), (0, 0), (1, 21), (1, 21), (1, 23), (1, 26), (1, 12), (0, 0), (0, 0), (0, 0), (1, 21), (0, 0), (0, 0), (0, 0), (1, 21), (2, 42), (0, 0), (0, 0), (0, 0), (0, 0), (2, 42), (1, 21), (1, 21), (2, 42), (3, 64), (1, 26), (2, 42), (1, 22), (1, 22), (2, 43), (3, 64), (3, 68), (3, 64), (3, 68), (2, 43), (4, 90), (3, 64), (2, 43), (0, 0), (1, 21), (3, 64), (4, 89), (2, 45), (1, 20), (2, 44), (2, 44), (1, 20), (2, 44), (3, 64), (2, 43), (2, 47), (3, 63), (0, 0), (3, 69), (3, 69), (0, 0), (4, 84), (8, 123), (7, 103), (8, 123), (8, 123), (7, 104), (8, 123), (8, 123), (7, 110), (8, 134), (8, 123), (8, 123), (8, 123), (7, 104), (8, 136), (8, 123), (8, 123), (8, 123), (7, 103), (6, 134), (6, 134), (5, 114), (5, 114), (3, 66), (6, 82), (1, 20), (6, 90), (6, 136), (3, 70), (5, 113), (2, 44), (5, 114), (4, 94), (7, 103), (7, 103), (6, 82), (6, 82), (6, 82), (0, 0), (0, 0), (0, 0), (1, 12), (0, 0), (0, 0), (0, 0), (0, 0), (0, 0), (0, 0), (0, 0), (1, 25), (1, 25), (0, 0), (0, 0), (0, 0), (0, 0), (1, 24), (0, 0), (0, 0), (1, 24), (0, 0), (1, 21), (1, 21), (2, 45), (3, 68), (4, 94), (5, 115), (1, 21), (1, 23), (6, 135), (1, 24), (6, 135), (2, 45), (2, 47), (1, 25), (0, 0), (0, 0), (5, 115), (6, 137), (2, 45), (2, 45), (6, 135), (7, 156), (1, 24), (2, 48), (0, 0), (0, 0), (3, 71), (3, 68), (4, 94), (2, 45), (3, 71), (2, 45), (1, 25), (4, 94), (5, 117), (2, 45), (3, 67), (3, 68), (4, 92), (3, 68), (1, 25), (3, 71), (3, 71), (3, 71), (3, 71), (3, 67), (1, 25), (1, 21), (1, 21), (6, 137), (5, 117), (7, 165), (9, 145), (8, 125), (9, 146), (9, 144), (8, 127), (9, 145), (9, 146), (8, 131), (9, 156), (9, 144), (9, 144), (9, 144), (8, 125), (9, 158), (9, 146), (9, 148), (9, 145), (8, 124), (7, 103), (7, 110), (10, 188)]
def rmM (μ : Nat) : Nat × Nat := rmML.getD μ (0, 0)
def psML : List (List Nat) := [[82, 83, 86, 81, 48],
  [87, 232, 48],
  [86, 87, 241, 48],
  [86, 87, 321, 48],
  [86, 87, 259, 239, 240, 208, 258, 48],
  [87, 255, 256, 257, 254, 48],
  [86, 87, 208, 710, 48],
  [87, 346, 48],
  [87, 259, 239, 240, 338, 48],
  [87, 259, 239, 240, 432, 48],
  [87, 259, 239, 240, 360, 353, 359, 48],
  [86, 87, 208, 205, 204, 48],
  [98, 99, 100, 101, 102, 97, 50],
  [103, 312, 50],
  [104, 417, 50],
  [102, 453, 50],
  [104, 450, 451, 452, 449, 50],
  [100, 283, 50],
  [99, 287, 50],
  [101, 279, 50],
  [276, 277, 278, 280, 281, 282, 284, 285, 286, 275, 50],
  [276, 277, 278, 280, 281, 282, 284, 285, 286, 272, 273, 274, 458, 50],
  [99, 100, 101, 103, 263, 50],
  [102, 103, 104, 267, 50],
  [99, 100, 101, 437, 50],
  [103, 104, 228, 50],
  [103, 272, 273, 274, 271, 50],
  [103, 276, 277, 278, 295, 50],
  [103, 280, 281, 282, 402, 50],
  [104, 450, 451, 452, 272, 273, 274, 446, 447, 448, 746, 50],
  [104, 450, 451, 452, 446, 447, 448, 454, 353, 455, 456, 457, 445, 50],
  [99, 100, 101, 102, 103, 104, 219, 220, 218, 50],
  [73, 74, 118, 76, 119, 79, 80, 120, 124, 95, 96, 72, 47],
  [118, 198, 199, 197, 47],
  [119, 198, 199, 214, 47],
  [194, 195, 196, 318, 319, 320, 441, 47],
  [124, 438, 439, 440, 126, 599, 47],
  [194, 195, 196, 318, 319, 320, 251, 252, 253, 619, 47],
  [194, 195, 196, 438, 439, 440, 237, 230, 231, 238, 239, 240, 433, 256, 257, 127, 630, 47],
  [194, 195, 196, 251, 252, 253, 237, 230, 231, 238, 239, 240, 127, 242, 243, 244, 260, 261, 262, 264, 265, 266, 236, 47],
  [194, 195, 196, 237, 230, 231, 246, 247, 245, 47],
  [127, 309, 310, 311, 423, 273, 274, 424, 425, 426, 422, 47],
  [194, 195, 196, 438, 439, 440, 433, 256, 257, 428, 285, 286, 313, 281, 282, 429, 430, 431, 434, 435, 436, 427, 47],
  [194, 195, 196, 318, 319, 320, 127, 309, 310, 311, 313, 281, 282, 128, 314, 315, 316, 322, 226, 227, 308, 47],
  [123, 317, 47],
  [120, 318, 319, 320, 309, 310, 311, 313, 281, 282, 322, 226, 227, 694, 47],
  [120, 438, 439, 440, 237, 230, 231, 238, 239, 240, 127, 706, 707, 708, 709, 705, 47],
  [120, 124, 126, 237, 230, 231, 127, 128, 123, 365, 328, 329, 366, 367, 368, 370, 371, 372, 374, 332, 333, 375, 376, 377, 380, 381, 382, 364, 47],
  [120, 237, 230, 231, 365, 328, 329, 366, 367, 368, 373, 47],
  [118, 237, 230, 231, 330, 47],
  [194, 195, 196, 237, 230, 231, 335, 336, 337, 334, 47],
  [118, 335, 336, 337, 394, 47],
  [119, 309, 310, 311, 369, 47],
  [119, 399, 400, 401, 398, 47],
  [119, 379, 269, 270, 378, 47],
  [119, 384, 293, 294, 383, 47],
  [120, 124, 194, 195, 196, 126, 127, 128, 123, 201, 202, 203, 211, 212, 213, 215, 216, 217, 193, 47],
  [153, 154, 157, 156, 71, 152, 51],
  [158, 462, 51],
  [157, 158, 591, 593, 7, 595, 191, 192, 590, 51],
  [157, 158, 595, 191, 192, 775, 51],
  [157, 158, 594, 51],
  [65, 68, 70, 71, 166, 146, 147, 80, 167, 148, 150, 151, 168, 169, 164, 165, 96, 170, 64, 46],
  [166, 168, 473, 474, 547, 548, 566, 568, 6, 587, 588, 589, 596, 597, 598, 389, 195, 196, 229, 230, 231, 472, 46],
  [166, 168, 566, 568, 6, 587, 588, 589, 596, 597, 598, 405, 407, 3, 606, 46],
  [166, 168, 473, 474, 547, 548, 587, 588, 589, 389, 195, 196, 229, 230, 231, 550, 614, 560, 571, 615, 581, 616, 617, 618, 613, 46],
  [166, 168, 473, 474, 587, 588, 589, 627, 628, 629, 626, 46],
  [166, 168, 547, 548, 587, 588, 589, 122, 125, 637, 46],
  [473, 474, 547, 548, 385, 387, 2, 644, 46],
  [166, 473, 474, 389, 195, 196, 229, 230, 231, 476, 477, 404, 239, 240, 651, 46],
  [166, 547, 548, 361, 362, 363, 658, 46],
  [166, 167, 168, 587, 588, 589, 229, 230, 231, 571, 581, 666, 667, 304, 212, 213, 414, 415, 416, 186, 188, 0, 669, 233, 234, 235, 665, 46],
  [166, 168, 587, 588, 589, 666, 667, 304, 212, 213, 419, 420, 421, 676, 46],
  [166, 168, 587, 588, 589, 666, 667, 304, 212, 213, 305, 306, 307, 683, 46],
  [166, 168, 587, 588, 589, 229, 230, 231, 666, 667, 304, 212, 213, 691, 692, 693, 121, 690, 46],
  [166, 168, 547, 548, 587, 588, 589, 702, 703, 704, 701, 46],
  [547, 548, 666, 667, 410, 412, 4, 717, 46],
  [166, 476, 477, 666, 667, 304, 212, 213, 414, 415, 416, 725, 447, 448, 724, 46],
  [166, 547, 548, 476, 477, 666, 667, 304, 212, 213, 414, 415, 416, 725, 447, 448, 733, 451, 452, 734, 456, 457, 732, 46],
  [166, 666, 667, 304, 212, 213, 479, 742, 521, 743, 744, 745, 741, 46],
  [166, 229, 230, 231, 476, 477, 404, 239, 240, 121, 753, 46],
  [170, 186, 188, 0, 268, 269, 270, 185, 46],
  [170, 186, 188, 0, 292, 293, 294, 291, 46],
  [166, 167, 169, 170, 229, 230, 231, 268, 269, 270, 190, 191, 192, 221, 223, 1, 299, 46],
  [166, 169, 170, 304, 212, 213, 305, 306, 307, 268, 269, 270, 190, 191, 192, 221, 223, 1, 303, 46],
  [166, 327, 328, 329, 331, 332, 333, 326, 46],
  [167, 229, 230, 231, 550, 560, 571, 581, 761, 762, 763, 319, 320, 760, 46],
  [167, 229, 230, 231, 343, 344, 345, 342, 46],
  [166, 168, 571, 581, 459, 460, 461, 771, 772, 773, 774, 770, 46],
  [166, 167, 168, 389, 195, 196, 229, 230, 231, 385, 387, 2, 361, 362, 363, 304, 212, 213, 121, 410, 412, 4, 459, 460, 461, 351, 352, 353, 356, 357, 358, 442, 443, 444, 350, 46],
  [166, 389, 195, 196, 229, 230, 231, 405, 407, 3, 404, 239, 240, 121, 390, 336, 337, 391, 392, 393, 395, 396, 397, 403, 247, 388, 46],
  [166, 169, 304, 212, 213, 414, 415, 416, 419, 420, 421, 268, 269, 270, 292, 293, 294, 190, 191, 192, 418, 310, 311, 413, 46],
  [166, 167, 389, 195, 196, 390, 336, 337, 409, 408, 46],
  [166, 169, 190, 191, 192, 221, 223, 1, 189, 46],
  [167, 169, 170, 229, 230, 231, 233, 234, 235, 225, 226, 227, 224, 46],
  [476, 477, 475, 46],
  [476, 477, 668, 46],
  [479, 521, 520, 478, 46],
  [550, 560, 559, 549, 46],
  [166, 571, 581, 570, 371, 372, 580, 569, 46],
  [249, 248, 46],
  [355, 354, 46],
  [200, 49],
  [781, 782, 783, 784, 786, 788, 790, 791, 780, 52],
  [789, 816, 52],
  [827, 52],
  [789, 883, 52],
  [789, 831, 52],
  [782, 783, 785, 867, 52],
  [782, 784, 966, 52],
  [782, 784, 978, 52],
  [824, 825, 826, 823, 52],
  [825, 826, 912, 962, 52],
  [938, 52],
  [782, 875, 52],
  [782, 899, 52],
  [782, 879, 52],
  [876, 878, 19, 927, 52],
  [782, 840, 52],
  [782, 990, 52],
  [788, 876, 878, 19, 896, 898, 22, 907, 52],
  [855, 52],
  [782, 853, 854, 852, 52],
  [782, 853, 854, 863, 52],
  [860, 862, 15, 859, 52],
  [782, 860, 862, 15, 849, 851, 13, 856, 858, 14, 848, 52],
  [845, 847, 12, 844, 52],
  [782, 837, 839, 10, 841, 843, 11, 836, 52],
  [782, 853, 854, 1002, 52],
  [782, 872, 874, 18, 871, 52],
  [825, 826, 876, 878, 19, 821, 822, 828, 830, 8, 832, 833, 835, 9, 864, 866, 16, 868, 870, 17, 880, 882, 20, 820, 52],
  [786, 876, 878, 19, 787, 891, 52],
  [828, 830, 8, 833, 835, 9, 864, 866, 16, 868, 870, 17, 880, 882, 20, 888, 890, 21, 887, 52],
  [825, 826, 876, 878, 19, 896, 898, 22, 872, 874, 18, 821, 822, 828, 830, 8, 832, 864, 866, 16, 880, 882, 20, 895, 52],
  [782, 788, 872, 874, 18, 821, 822, 828, 830, 8, 864, 866, 16, 880, 882, 20, 904, 906, 23, 903, 52],
  [782, 825, 826, 912, 828, 830, 8, 864, 866, 16, 880, 882, 20, 913, 914, 911, 52],
  [782, 931, 52],
  [782, 935, 52],
  [782, 876, 878, 19, 841, 843, 11, 888, 890, 21, 924, 926, 25, 928, 930, 26, 932, 934, 27, 936, 937, 923, 52],
  [825, 826, 821, 822, 828, 830, 8, 880, 882, 20, 919, 920, 922, 24, 918, 52],
  [782, 876, 878, 19, 821, 822, 828, 830, 8, 880, 882, 20, 942, 52],
  [924, 926, 25, 955, 52],
  [782, 837, 839, 10, 841, 843, 11, 833, 835, 9, 952, 954, 29, 951, 52],
  [825, 826, 828, 830, 8, 880, 882, 20, 947, 948, 950, 28, 946, 52],
  [782, 876, 878, 19, 936, 937, 974, 52],
  [782, 786, 790, 791, 896, 898, 22, 787, 971, 973, 32, 970, 52],
  [786, 790, 791, 787, 1052, 52],
  [791, 787, 1060, 52],
  [782, 786, 790, 791, 853, 854, 828, 830, 8, 864, 866, 16, 880, 882, 20, 787, 960, 961, 963, 965, 30, 967, 969, 31, 975, 977, 33, 959, 52],
  [782, 853, 854, 860, 862, 15, 849, 851, 13, 856, 858, 14, 872, 874, 18, 987, 989, 35, 986, 52],
  [828, 830, 8, 864, 866, 16, 880, 882, 20, 960, 961, 983, 985, 34, 982, 52],
  [782, 860, 862, 15, 849, 851, 13, 872, 874, 18, 999, 1001, 37, 998, 52],
  [828, 830, 8, 864, 866, 16, 880, 882, 20, 960, 961, 995, 997, 36, 994, 52],
  [782, 860, 862, 15, 849, 851, 13, 828, 830, 8, 864, 866, 16, 880, 882, 20, 960, 961, 999, 1001, 37, 1006, 52],
  [782, 825, 826, 872, 874, 18, 828, 830, 8, 864, 866, 16, 880, 882, 20, 914, 1010, 52],
  [782, 845, 847, 12, 963, 965, 30, 975, 977, 33, 983, 985, 34, 1019, 52],
  [825, 826, 828, 830, 8, 880, 882, 20, 960, 961, 1015, 1016, 1018, 38, 1014, 52],
  [782, 825, 826, 960, 961, 1027, 52],
  [849, 851, 13, 828, 830, 8, 880, 882, 20, 1024, 1026, 39, 1023, 52],
  [860, 862, 15, 856, 858, 14, 1036, 52],
  [825, 826, 849, 851, 13, 828, 830, 8, 880, 882, 20, 1024, 1026, 39, 1032, 1033, 1035, 40, 1031, 52],
  [782, 849, 851, 13, 856, 858, 14, 828, 830, 8, 880, 882, 20, 960, 961, 1040, 52],
  [782, 825, 826, 828, 830, 8, 880, 882, 20, 1044, 52],
  [880, 882, 20, 963, 965, 30, 967, 969, 31, 975, 977, 33, 1049, 1051, 41, 1048, 52],
  [880, 882, 20, 963, 965, 30, 967, 969, 31, 975, 977, 33, 1057, 1059, 42, 1056, 52],
  [880, 882, 20, 787, 963, 965, 30, 967, 969, 31, 975, 977, 33, 1049, 1051, 41, 1064, 52],
  [880, 882, 20, 963, 965, 30, 967, 969, 31, 975, 977, 33, 995, 997, 36, 1049, 1051, 41, 1068, 52],
  [789, 837, 839, 10, 952, 954, 29, 1072, 52],
  [786, 825, 826, 828, 830, 8, 880, 882, 20, 787, 1077, 1078, 1076, 52],
  [880, 882, 20, 787, 1082, 52],
  [782, 783, 785, 828, 830, 8, 880, 882, 20, 1086, 52],
  [782, 788, 920, 922, 24, 1092, 1096, 52],
  [782, 849, 851, 13, 1016, 1018, 38, 1033, 1035, 40, 1092, 1100, 52],
  [782, 786, 789, 785, 787, 948, 950, 28, 1092, 1091, 1093, 1095, 43, 1097, 1099, 44, 1090, 52],
  [469, 470, 471, 466, 467, 468, 465, 45],
  [603, 604, 605, 468, 602, 45],
  [610, 611, 612, 466, 467, 468, 609, 45],
  [623, 624, 625, 466, 622, 45],
  [634, 635, 636, 467, 633, 45],
  [641, 642, 643, 466, 467, 640, 45],
  [648, 649, 650, 466, 647, 45],
  [655, 656, 657, 467, 654, 45],
  [662, 663, 664, 466, 468, 661, 45],
  [673, 674, 675, 466, 672, 45],
  [680, 681, 682, 466, 679, 45],
  [687, 688, 689, 466, 686, 45],
  [698, 699, 700, 467, 697, 45],
  [714, 715, 716, 466, 467, 713, 45],
  [721, 722, 723, 466, 720, 45],
  [729, 730, 731, 466, 467, 728, 45],
  [738, 739, 740, 466, 737, 45],
  [750, 751, 752, 466, 749, 45],
  [757, 758, 759, 467, 468, 756, 45],
  [767, 768, 769, 468, 766, 45],
  [60, 62, 63, 776, 778, 779, 463, 464, 817, 818, 819, 813, 814, 815, 600, 601, 884, 885, 886, 607, 608, 892, 893, 894, 620, 621, 900, 901, 902, 631, 632, 908, 909, 910, 638, 639, 915, 916, 917, 645, 646, 939, 940, 941, 652, 653, 943, 944, 945, 659, 660, 956, 957, 958, 670, 671, 979, 980, 981, 677, 678, 991, 992, 993, 684, 685, 1003, 1004, 1005, 695, 696, 1007, 1008, 1009, 711, 712, 1011, 1012, 1013, 718, 719, 1020, 1021, 1022, 726, 727, 1028, 1029, 1030, 735, 736, 1037, 1038, 1039, 747, 748, 1041, 1042, 1043, 182, 183, 184, 1045, 1046, 1047, 288, 289, 290, 1053, 1054, 1055, 296, 297, 298, 1061, 1062, 1063, 300, 301, 302, 1065, 1066, 1067, 323, 324, 325, 1069, 1070, 1071, 754, 755, 1073, 1074, 1075, 339, 340, 341, 1079, 1080, 1081, 764, 765, 1083, 1084, 1085, 347, 348, 349, 1087, 1088, 1089]]
def strL : List String := ["there is no such thing", "out of range", "there would be too many sorts", "the boxes are the same", "the box has fewer sorts", "the line cannot be set", "the index is negative", "neither a letter nor a space", "the text is full", "there is no saved state"]
def nstL : List (String × Nat) := [("SortsCase$Shop", 34), ("SortsCase", 141), ("SortsCase", 90), ("SortsCase", 94), ("SortsCase", 37), ("SortsCase$Shop", 81), ("SortsCase$Row", 38), ("SortsCase$Forme", 51)]
def nM : Nat := 195
def eNm (E : Nat) : String := if E = 1 then "java/lang/IndexOutOfBoundsException" else if E = 2 then "java/lang/IllegalArgumentException" else "java/lang/IllegalStateException"
def icE (E : Nat) : Nat := if E = 1 then 163 else if E = 2 then 76 else 83
abbrev exN : List String := ["java/lang/RuntimeException", "java/lang/Exception"]
def nst (own : String) (i : Nat) : Bool := nstL.contains (own, i)
def lkF (own : String) (i : Nat) (ref n d : String) : Cond := if nst own i = true then .fieldLinkNest own i ref n d RX4 else .fieldLink own i ref n d
def lkM (own : String) (i : Nat) (y : MethodName) : Cond := if nst own i = true then .methodLinkNest own i y RX4 else .methodLink own i y
def natN (a : Nat) : MethodName := if a = 0 then Lib.Math.max.name else if a = 1 then Lib.Math.min.name else arraycopyName
/-- the word of the method's code -/
def cdW (μ : Nat) : Cond := match hhM μ with
  | [] => .code (yM μ) (mt μ).1 (mt μ).2.2.1.1 (rtM μ)
  | q :: t => .codeWith (yM μ) (mt μ).1 (mt μ).2.2.1.1 (rtM μ) (q :: t)
/-- the words that an entry of a pool needs -/
def wdE (own : String) (i : Nat) (q : LI) : List Cond :=
  if q.1 ≤ 1 then [lkF own i (cNm q.2.1) (tFd q.2.1 q.2.2.1).2.1 (tFd q.2.1 q.2.2.1).2.2.1]
  else if q.1 = 2 then [lkM own i (yM q.2.1), .instanceMethod (yM q.2.1), .selects (cNm q.2.2.2.toNatClampNeg) (yM q.2.1) (yM q.2.1)]
  else if q.1 = 3 then [lkM own i (yM q.2.1), .static (yM q.2.1)]
  else if q.1 = 4 then [lkM own i (yM q.2.1), .instanceMethod (yM q.2.1)]
  else if q.1 = 5 then [.classLink own i (cNm q.2.1)]
  else if q.1 = 6 then [.methodLink own i Lib.objectInit]
  else if q.1 = 7 then [.fieldLink own i RX4 "WIDTHS" "[I"]
  else if q.1 = 8 then [.classLink own i (eNm q.2.1)]
  else if q.1 = 9 then [.methodLink own i (natN q.2.1)]
  else if q.1 = 10 then [.constantLong own i q.2.2.2]
  else if q.1 = 12 then [.methodLink own i ⟨eNm q.2.1, "<init>", "(Ljava/lang/String;)V"⟩]
  else if q.1 = 13 then [.stringRef own i (strL.getD q.2.1 "")]
  else []
def wdM (μ : Nat) : List Cond := (mt μ).2.1.flatMap (fun e => wdE (yM μ).cls e.1 e.2) ++ (((hhM μ).zip (mt μ).2.2.2).map (fun q => Cond.classLink (yM μ).cls q.1.2.2.2 (eNm q.2.2.2.2)) ++ if μ = k_L_law then [] else [cdW μ, .initialized (yM μ).cls])
def cll (μ ν : Nat) : Bool := decide (ν < nM) && (decide (ν ≠ k_L_law) && (decide ((rmM ν).1 + 1 ≤ (rmM μ).1) && decide (8 + ((mt ν).2.2.1.1 + 11) + (rmM ν).2 ≤ (rmM μ).2)))
def par (ν n : Nat) : Bool := (parseMethodDescriptor (yM ν).desc).map (fun d => d.parameters.length) == some n
def chkE (μ i : Nat) (q : LI) : Bool :=
  if q.1 ≤ 1 then decide (q.2.1 < 6) && decide (q.2.2.1 < nFd q.2.1)
  else if q.1 = 2 then cll μ q.2.1 && ((yM q.2.1).cls == cNm q.2.2.2.toNatClampNeg && (decide (hhM q.2.1 = []) && par q.2.1 (q.2.2.1 - 1)))
  else if q.1 = 3 then cll μ q.2.1 && par q.2.1 q.2.2.1
  else if q.1 = 4 then cll μ q.2.1 && ((yM q.2.1).name == "<init>" && (decide (hhM q.2.1 = []) && (par q.2.1 (q.2.2.1 - 1) && decide (rtM q.2.1 = none))))
  else if q.1 = 5 then decide (q.2.1 < 6)
  else if q.1 = 6 then decide (1 ≤ (rmM μ).1) && decide (12 ≤ (rmM μ).2)
  else if q.1 = 8 then (yM μ).cls == RX4 && (decide (1 ≤ q.2.1) && (decide (q.2.1 ≤ 3) && (decide (6 ≤ (rmM μ).1) && decide (82 ≤ (rmM μ).2))))
  else if q.1 = 9 then decide (1 ≤ (rmM μ).1) && decide (26 ≤ (rmM μ).2 ∨ (q.2.1 ≤ 1 ∧ 21 ≤ (rmM μ).2))
  else if q.1 = 12 then decide (i = icE q.2.1)
  else true
def rkc (ini : Nat) (rt : Option FieldType) (y : MethodName) : Bool :=
  if ini = 11 then decide (rt = some .int) else if ini = 12 then decide (rt = some .boolean) else if ini = 13 then decide (rt = some .long) else if ini = 14 then decide (rt = some .double)
  else if ini = 15 then (match rt with
    | some (.object _) => true
    | some (.array _) => true
    | _ => false)
  else if ini = 10 then decide (rt = none)
  else decide (rt = none) && (decide (1 ≤ ini) && (decide (ini ≤ 6) && (y.name == "<init>" && y.cls == cNm (ini - 1))))
def hck (hh exc : List (Nat × Nat × Nat × Nat)) : Bool := match hh, exc with
  | [], [] => true
  | q :: t, e :: u => (q.1 == e.1) && ((q.2.1 == e.2.1) && ((q.2.2.1 == e.2.2.1) && (decide (1 ≤ e.2.2.2) && (decide (e.2.2.2 ≤ 3) && (decide (q.2.2.2 ≠ 0) && hck t u)))))
  | _, _ => false
def okM (μ : Nat) : Bool := decide ((wdM μ).map some = (psML.getD μ []).map (fun i => lw_tbl[i]?)) && ((mt μ).2.1.all (fun e => chkE μ e.1 e.2) && (plainFor (yM μ) && (((yM μ).cls != "java/lang/invoke/MethodHandle") && (((yM μ).cls != "java/lang/invoke/VarHandle") && (rkc (mt μ).2.2.1.2 (rtM μ) (yM μ) && hck (hhM μ) (mt μ).2.2.2)))))
/-- the words that the classes, rows and the machine's own methods need -/
def gW : List Cond := (List.range 6).flatMap (fun k => [.instantiable (cNm k) (nFd k), .initialized (cNm k)] ++ u_ws (cNm k) (tFd k) (nFd k)) ++ ([.arrayClass .int, .arrayClass .long, .arrayOver (.object RX0), .arrayOver (.object RX2), .arrayOver (.object RX3), .instanceMethod Lib.objectInit, .code Lib.objectInit ⟨#[0xb1]⟩ 1 none, .static Lib.Math.max.name, .static Lib.Math.min.name, .initialized "java/lang/Math", .code Lib.Math.max.name Lib.Math.max.code 2 (some .int), .code Lib.Math.min.name Lib.Math.min.code 2 (some .int), .native arraycopyName, .static arraycopyName, .initialized "java/lang/System", .initialized (eNm 1), .initialized (eNm 2), .initialized (eNm 3), .castable (eNm 1) (eNm 1), .castable (eNm 2) (eNm 2), .castable (eNm 3) (eNm 3)]
  ++ (vx_atS RX4 163 (eNm 1) exN ++ (vx_atS RX4 76 (eNm 2) exN ++ vx_atS RX4 83 (eNm 3) exN)))
theorem gW_in : gW.all (fun w => decide (w ∈ lw_tbl)) = true := by decide +kernel

theorem okM_g0 : (List.range 3).all (fun i => okM (3 * 0 + i)) = true := by decide +kernel
theorem okM_g1 : (List.range 3).all (fun i => okM (3 * 1 + i)) = true := by decide +kernel
theorem okM_g2 : (List.range 3).all (fun i => okM (3 * 2 + i)) = true := by decide +kernel
theorem okM_g3 : (List.range 3).all (fun i => okM (3 * 3 + i)) = true := by decide +kernel
theorem okM_g4 : (List.range 3).all (fun i => okM (3 * 4 + i)) = true := by decide +kernel
theorem okM_g5 : (List.range 3).all (fun i => okM (3 * 5 + i)) = true := by decide +kernel
theorem okM_g6 : (List.range 3).all (fun i => okM (3 * 6 + i)) = true := by decide +kernel
theorem okM_g7 : (List.range 3).all (fun i => okM (3 * 7 + i)) = true := by decide +kernel
theorem okM_g8 : (List.range 3).all (fun i => okM (3 * 8 + i)) = true := by decide +kernel
theorem okM_g9 : (List.range 3).all (fun i => okM (3 * 9 + i)) = true := by decide +kernel
theorem okM_g10 : (List.range 3).all (fun i => okM (3 * 10 + i)) = true := by decide +kernel
theorem okM_g11 : (List.range 3).all (fun i => okM (3 * 11 + i)) = true := by decide +kernel
theorem okM_g12 : (List.range 3).all (fun i => okM (3 * 12 + i)) = true := by decide +kernel
theorem okM_g13 : (List.range 3).all (fun i => okM (3 * 13 + i)) = true := by decide +kernel
theorem okM_g14 : (List.range 3).all (fun i => okM (3 * 14 + i)) = true := by decide +kernel
theorem okM_g15 : (List.range 3).all (fun i => okM (3 * 15 + i)) = true := by decide +kernel
theorem okM_g16 : (List.range 3).all (fun i => okM (3 * 16 + i)) = true := by decide +kernel
theorem okM_g17 : (List.range 3).all (fun i => okM (3 * 17 + i)) = true := by decide +kernel
theorem okM_g18 : (List.range 3).all (fun i => okM (3 * 18 + i)) = true := by decide +kernel
theorem okM_g19 : (List.range 3).all (fun i => okM (3 * 19 + i)) = true := by decide +kernel
theorem okM_g20 : (List.range 3).all (fun i => okM (3 * 20 + i)) = true := by decide +kernel
theorem okM_g21 : (List.range 3).all (fun i => okM (3 * 21 + i)) = true := by decide +kernel
theorem okM_g22 : (List.range 3).all (fun i => okM (3 * 22 + i)) = true := by decide +kernel
theorem okM_g23 : (List.range 3).all (fun i => okM (3 * 23 + i)) = true := by decide +kernel
theorem okM_g24 : (List.range 3).all (fun i => okM (3 * 24 + i)) = true := by decide +kernel
theorem okM_g25 : (List.range 3).all (fun i => okM (3 * 25 + i)) = true := by decide +kernel
theorem okM_g26 : (List.range 3).all (fun i => okM (3 * 26 + i)) = true := by decide +kernel
theorem okM_g27 : (List.range 3).all (fun i => okM (3 * 27 + i)) = true := by decide +kernel
theorem okM_g28 : (List.range 3).all (fun i => okM (3 * 28 + i)) = true := by decide +kernel
theorem okM_g29 : (List.range 3).all (fun i => okM (3 * 29 + i)) = true := by decide +kernel
theorem okM_g30 : (List.range 3).all (fun i => okM (3 * 30 + i)) = true := by decide +kernel
theorem okM_g31 : (List.range 3).all (fun i => okM (3 * 31 + i)) = true := by decide +kernel
theorem okM_g32 : (List.range 3).all (fun i => okM (3 * 32 + i)) = true := by decide +kernel
theorem okM_g33 : (List.range 3).all (fun i => okM (3 * 33 + i)) = true := by decide +kernel
theorem okM_g34 : (List.range 3).all (fun i => okM (3 * 34 + i)) = true := by decide +kernel
theorem okM_g35 : (List.range 3).all (fun i => okM (3 * 35 + i)) = true := by decide +kernel
theorem okM_g36 : (List.range 3).all (fun i => okM (3 * 36 + i)) = true := by decide +kernel
theorem okM_g37 : (List.range 3).all (fun i => okM (3 * 37 + i)) = true := by decide +kernel
theorem okM_g38 : (List.range 3).all (fun i => okM (3 * 38 + i)) = true := by decide +kernel
theorem okM_g39 : (List.range 3).all (fun i => okM (3 * 39 + i)) = true := by decide +kernel
theorem okM_g40 : (List.range 3).all (fun i => okM (3 * 40 + i)) = true := by decide +kernel
theorem okM_g41 : (List.range 3).all (fun i => okM (3 * 41 + i)) = true := by decide +kernel
theorem okM_g42 : (List.range 3).all (fun i => okM (3 * 42 + i)) = true := by decide +kernel
theorem okM_g43 : (List.range 3).all (fun i => okM (3 * 43 + i)) = true := by decide +kernel
theorem okM_g44 : (List.range 3).all (fun i => okM (3 * 44 + i)) = true := by decide +kernel
theorem okM_g45 : (List.range 3).all (fun i => okM (3 * 45 + i)) = true := by decide +kernel
theorem okM_g46 : (List.range 3).all (fun i => okM (3 * 46 + i)) = true := by decide +kernel
theorem okM_g47 : (List.range 3).all (fun i => okM (3 * 47 + i)) = true := by decide +kernel
theorem okM_g48 : (List.range 3).all (fun i => okM (3 * 48 + i)) = true := by decide +kernel
theorem okM_g49 : (List.range 3).all (fun i => okM (3 * 49 + i)) = true := by decide +kernel
theorem okM_g50 : (List.range 3).all (fun i => okM (3 * 50 + i)) = true := by decide +kernel
theorem okM_g51 : (List.range 3).all (fun i => okM (3 * 51 + i)) = true := by decide +kernel
theorem okM_g52 : (List.range 3).all (fun i => okM (3 * 52 + i)) = true := by decide +kernel
theorem okM_g53 : (List.range 3).all (fun i => okM (3 * 53 + i)) = true := by decide +kernel
theorem okM_g54 : (List.range 3).all (fun i => okM (3 * 54 + i)) = true := by decide +kernel
theorem okM_g55 : (List.range 3).all (fun i => okM (3 * 55 + i)) = true := by decide +kernel
theorem okM_g56 : (List.range 3).all (fun i => okM (3 * 56 + i)) = true := by decide +kernel
theorem okM_g57 : (List.range 3).all (fun i => okM (3 * 57 + i)) = true := by decide +kernel
theorem okM_g58 : (List.range 3).all (fun i => okM (3 * 58 + i)) = true := by decide +kernel
theorem okM_g59 : (List.range 3).all (fun i => okM (3 * 59 + i)) = true := by decide +kernel
theorem okM_g60 : (List.range 3).all (fun i => okM (3 * 60 + i)) = true := by decide +kernel
theorem okM_g61 : (List.range 3).all (fun i => okM (3 * 61 + i)) = true := by decide +kernel
theorem okM_g62 : (List.range 3).all (fun i => okM (3 * 62 + i)) = true := by decide +kernel
theorem okM_g63 : (List.range 3).all (fun i => okM (3 * 63 + i)) = true := by decide +kernel
theorem okM_g64 : (List.range 3).all (fun i => okM (3 * 64 + i)) = true := by decide +kernel
theorem okM_g : ∀ k, k < 65 → (List.range 3).all (fun i => okM (3 * k + i)) = true
  | 0, _ => okM_g0
  | 1, _ => okM_g1
  | 2, _ => okM_g2
  | 3, _ => okM_g3
  | 4, _ => okM_g4
  | 5, _ => okM_g5
  | 6, _ => okM_g6
  | 7, _ => okM_g7
  | 8, _ => okM_g8
  | 9, _ => okM_g9
  | 10, _ => okM_g10
  | 11, _ => okM_g11
  | 12, _ => okM_g12
  | 13, _ => okM_g13
  | 14, _ => okM_g14
  | 15, _ => okM_g15
  | 16, _ => okM_g16
  | 17, _ => okM_g17
  | 18, _ => okM_g18
  | 19, _ => okM_g19
  | 20, _ => okM_g20
  | 21, _ => okM_g21
  | 22, _ => okM_g22
  | 23, _ => okM_g23
  | 24, _ => okM_g24
  | 25, _ => okM_g25
  | 26, _ => okM_g26
  | 27, _ => okM_g27
  | 28, _ => okM_g28
  | 29, _ => okM_g29
  | 30, _ => okM_g30
  | 31, _ => okM_g31
  | 32, _ => okM_g32
  | 33, _ => okM_g33
  | 34, _ => okM_g34
  | 35, _ => okM_g35
  | 36, _ => okM_g36
  | 37, _ => okM_g37
  | 38, _ => okM_g38
  | 39, _ => okM_g39
  | 40, _ => okM_g40
  | 41, _ => okM_g41
  | 42, _ => okM_g42
  | 43, _ => okM_g43
  | 44, _ => okM_g44
  | 45, _ => okM_g45
  | 46, _ => okM_g46
  | 47, _ => okM_g47
  | 48, _ => okM_g48
  | 49, _ => okM_g49
  | 50, _ => okM_g50
  | 51, _ => okM_g51
  | 52, _ => okM_g52
  | 53, _ => okM_g53
  | 54, _ => okM_g54
  | 55, _ => okM_g55
  | 56, _ => okM_g56
  | 57, _ => okM_g57
  | 58, _ => okM_g58
  | 59, _ => okM_g59
  | 60, _ => okM_g60
  | 61, _ => okM_g61
  | 62, _ => okM_g62
  | 63, _ => okM_g63
  | 64, _ => okM_g64
  | k + 65, h => absurd h (by omega)
theorem okM_all {μ : Nat} (h : μ < nM) : okM μ = true := by
  have h0 : μ < 195 := h
  have h1 := List.all_eq_true.mp (okM_g (μ / 3) (by omega)) (μ % 3) (List.mem_range.mpr (by omega))
  have e : 3 * (μ / 3) + μ % 3 = μ := by omega
  rw [e] at h1
  exact h1
end
section
/-! SOUND 3: what is known of the law's start and of a frame; one step of the great machine for one of the small one -/
/-- the law's start -/
def GX (l : Launch) (s0 : State) (a0 : Array Value) (τ : Nat → Nat) (D : va_G) (cA : Nat → ClassId) : Prop :=
  (∀ w ∈ lw_tbl, w.before a0 s0 = true) ∧ Tau τ s0 ∧ (∀ k, k < 6 → u_Kn s0 (cNm k) (tFd k) (nFd k) (D.1 k) (D.2 k)) ∧
  (ArrOfT s0 (cA 0) .int ∧ s0.vm.findClass ("[" ++ FieldType.int.toString) = some (cA 0)) ∧ (ArrOfT s0 (cA 1) .long ∧ s0.vm.findClass ("[" ++ FieldType.long.toString) = some (cA 1)) ∧
  (∀ t, okA t = true → ArrOfT s0 (cA (2 + t)) (.object (cNm t)) ∧ va_RA s0 (cA (2 + t)) (.object (cNm t))) ∧
  va_Z RX4 "WIDTHS" "[I" (.ref (τ 1)) (fun q => s0.heap.size ≤ q) s0 s0.heap ∧
  (vx_Zq Bundle.tN "UNASSIGNED_STACK" Bundle.steD (fun q => s0.heap.size ≤ q) s0 s0.heap ∧ vx_Zq Bundle.tN "SUPPRESSED_SENTINEL" Bundle.listD (fun q => s0.heap.size ≤ q) s0 s0.heap) ∧
  (∀ (own : String) (k : Nat) (tx : String), Cond.stringRef own k tx ∈ lw_tbl → ∃ sa, vk_R own k tx sa s0) ∧ l.stackTraces = false ∧
  (∀ E F : Nat, 1 ≤ E → E ≤ 3 → 1 ≤ F → F ≤ 3 → E ≠ F → va_Nc (eNm E) (eNm F) s0)
/-- a method's frame -/
def FX (s0 : State) (μ : Nat) (p : Program) (R : Room) (s : State) (m : MethodId) (meth : Method) (c : Code) : Prop :=
  μ < nM ∧ p.tables.exec = Jvm.exec ∧ c.code = (mt μ).1 ∧ c.maxLocals = (mt μ).2.2.1.1 ∧ s.vm.findClass (yM μ).cls = some m.cls ∧ s0.WarmedH s.vm ∧ s0.heap.size ≤ s.heap.size ∧ (∀ q, q < s0.heap.size → s.heap[q]? = s0.heap[q]?) ∧
  (rmM μ).1 ≤ R.frames ∧ (rmM μ).2 ≤ R.locals ∧ meth.locks = false ∧ meth.sig.returnType = rtM μ ∧ meth.name = (yM μ).name ∧ c.exceptionTable.toList = tableOf (hhM μ)
theorem lkf_mem {l : List (Nat × LI)} {i : Nat} (h : (lkf l i).1 ≠ 99) : (i, lkf l i) ∈ l := by
  unfold lkf at h ⊢
  cases hl : l.lookup i with
  | none => rw [hl] at h; exact absurd rfl h
  | some q =>
    clear h
    simp only [Option.getD_some]
    induction l with
    | nil => cases hl
    | cons a t ih =>
      rw [List.lookup_cons] at hl
      split at hl
      · next he =>
        cases hl
        have : i = a.1 := by simpa using he
        rw [this]
        exact List.mem_cons_self
      · exact List.mem_cons_of_mem _ (ih hl)
theorem okM_w {μ : Nat} (h : okM μ = true) : ∀ w ∈ wdM μ, w ∈ lw_tbl := by
  unfold okM at h
  simp only [Bool.and_eq_true, decide_eq_true_eq] at h
  intro w hw
  have h1 : some w ∈ (wdM μ).map some := List.mem_map.mpr ⟨w, hw, rfl⟩
  rw [h.1] at h1
  obtain ⟨i, -, hi⟩ := List.mem_map.mp h1
  exact List.mem_of_getElem? hi
theorem okM_e {μ i : Nat} (h : okM μ = true) (hq : (lkf (mt μ).2.1 i).1 ≠ 99) : chkE μ i (lkf (mt μ).2.1 i) = true ∧ ∀ w ∈ wdE (yM μ).cls i (lkf (mt μ).2.1 i), w ∈ lw_tbl := by
  have hm := lkf_mem hq
  refine ⟨?_, fun w hw => okM_w h w (List.mem_append_left _ (List.mem_flatMap.mpr ⟨_, hm, hw⟩))⟩
  unfold okM at h
  simp only [Bool.and_eq_true, List.all_eq_true] at h
  exact h.2.1 _ hm
theorem gW_mem {w : Cond} (h : w ∈ gW) : w ∈ lw_tbl := of_decide_eq_true (List.all_eq_true.mp gW_in w h)
section SND
variable {l : Launch} {s0 : State} {a0 : Array Value} {τ : Nat → Nat} {D : va_G} {cA : Nat → ClassId}
variable {p : Program} {e : Env} {R : Room} {s : State} {m : MethodId} {args : Array Value} {below : List Frame} {meth : Method} {c : Code} {Q : State → Prop} {μ : Nat}
theorem wd_at (G : GX l s0 a0 τ D cA) (hW : s0.WarmedH s.vm) {w : Cond} (hw : w ∈ lw_tbl) (hg : goodWord w = true) : w.before args s = true := word_at hW (good_of_word hg) (G.1 w hw)
theorem lkF_at (G : GX l s0 a0 τ D cA) (hW : s0.WarmedH s.vm) {own : String} {i : Nat} {ref n d : String} (hw : lkF own i ref n d ∈ lw_tbl) : (Cond.fieldLink own i ref n d).before args s = true ∨ (Cond.fieldLinkNest own i ref n d RX4).before args s = true := by
  unfold lkF at hw
  split at hw
  · exact Or.inr (va_Nw.use rfl (va_Nw.warmF hW (va_Nw.of rfl (G.1 _ hw))))
  · exact Or.inl (wd_at G hW hw rfl)
theorem lkM_at (G : GX l s0 a0 τ D cA) (hW : s0.WarmedH s.vm) {own : String} {i : Nat} {y : MethodName} (hw : lkM own i y ∈ lw_tbl) : (Cond.methodLink own i y).before args s = true ∨ (Cond.methodLinkNest own i y RX4).before args s = true := by
  unfold lkM at hw
  split at hw
  · exact Or.inr (va_Nw.use rfl (va_Nw.warmM hW (va_Nw.of rfl (G.1 _ hw))))
  · exact Or.inl (wd_at G hW hw rfl)
/-- the walk goes on from the small machine's next point -/
def Nxt (l : Launch) (s0 : State) (τ : Nat → Nat) (D : va_G) (cA : Nat → ClassId) (μ : Nat) (p : Program) (e : Env) (R : Room) (s : State) (m : MethodId) (args : Array Value) (below : List Frame) (meth : Method) (c : Code) (Q : State → Prop) (k0 z0 : Nat) (q : Nat × VLs × List Value × VH) : Prop :=
  ∀ (LS : Array Slot) (H : Heap) (locs : List Loc) (cells slots : Nat), LsR τ q.2.1 LS → q.2.1.length = (mt μ).2.2.1.1 → Inv τ D cA s0 s q.2.2.2 H locs → cells + k0 = q.2.2.2.1.2.2.1 → slots + z0 = q.2.2.2.1.2.2.2 →
    W p l e R s m args below meth c H locs cells slots Q (F0 m q.1 LS (q.2.2.1.map (tv τ)))
def SP (l : Launch) (s0 : State) (a0 : Array Value) (τ : Nat → Nat) (D : va_G) (cA : Nat → ClassId) (ins : ClassFile.Instr) (len : Nat) : Prop :=
  ∀ (μ : Nat) (p : Program) (e : Env) (R : Room) (s : State) (m : MethodId) (args : Array Value) (below : List Frame) (meth : Method) (c : Code) (Q : State → Prop), GX l s0 a0 τ D cA → FX s0 μ p R s m meth c → okM μ = true →
    ∀ (pc : Nat) (ls : VLs) (st : List Value) (h : VH) (q : Nat × VLs × List Value × VH) (LS : Array Slot) (H : Heap) (locs : List Loc) (cells slots k0 z0 : Nat), decode (mt μ).1 pc = .ok (ins, len) → act (mt μ) ins len pc ls st h = some (Sum.inl q) →
      LsR τ ls LS → ls.length = (mt μ).2.2.1.1 → Inv τ D cA s0 s h H locs → cells + k0 = h.1.2.2.1 → slots + z0 = h.1.2.2.2 → q.2.2.2.1.2.2.1 ≤ k0 + R.cells → q.2.2.2.1.2.2.2 ≤ z0 + R.slots →
      Nxt l s0 τ D cA μ p e R s m args below meth c Q k0 z0 q → W p l e R s m args below meth c H locs cells slots Q (F0 m pc LS (st.map (tv τ)))
theorem nx_inj {pc : Nat} {ls : VLs} {st : List Value} {h : VH} {q : Nat × VLs × List Value × VH} (k : nx pc ls st h = some (Sum.inl q)) : (pc, ls, st, h) = q := by
  unfold nx at k
  exact Sum.inl.inj (Option.some.inj k)
theorem jmp_inj {pc : Nat} {off : Int} {ls : VLs} {st : List Value} {h : VH} {q : Nat × VLs × List Value × VH} (k : jmp pc off ls st h = some (Sum.inl q)) : ∃ tgt : Nat, (pc : Int) + off = (tgt : Int) ∧ (tgt, ls, st, h) = q := by
  unfold jmp at k
  split at k
  · next h0 => exact ⟨_, (Int.toNat_of_nonneg h0).symm, Sum.inl.inj (Option.some.inj k)⟩
  · cases k
theorem sp_iadd : SP l s0 a0 τ D cA (.iadd) 1 := by
  intro μ p e R s m args below meth c Q G F hM pc ls st h q LS H locs cells slots k0 z0 hd ha hl hn hI hc hs h1 h2 kk
  obtain ⟨hμ, hx, hb, hml, hown, hW, hBs, hLow, hfr, hlo, hlk, hrt, hnm, hex⟩ := F
  simp only [act] at ha
  split at ha
  · obtain rfl := nx_inj ha
    exact lv_iadd hx hb hd (kk LS H locs cells slots hl hn hI hc hs)
  · cases ha
theorem sp_isub : SP l s0 a0 τ D cA (.isub) 1 := by
  intro μ p e R s m args below meth c Q G F hM pc ls st h q LS H locs cells slots k0 z0 hd ha hl hn hI hc hs h1 h2 kk
  obtain ⟨hμ, hx, hb, hml, hown, hW, hBs, hLow, hfr, hlo, hlk, hrt, hnm, hex⟩ := F
  simp only [act] at ha
  split at ha
  · obtain rfl := nx_inj ha
    exact lv_isub hx hb hd (kk LS H locs cells slots hl hn hI hc hs)
  · cases ha
theorem sp_imul : SP l s0 a0 τ D cA (.imul) 1 := by
  intro μ p e R s m args below meth c Q G F hM pc ls st h q LS H locs cells slots k0 z0 hd ha hl hn hI hc hs h1 h2 kk
  obtain ⟨hμ, hx, hb, hml, hown, hW, hBs, hLow, hfr, hlo, hlk, hrt, hnm, hex⟩ := F
  simp only [act] at ha
  split at ha
  · obtain rfl := nx_inj ha
    exact lv_imul hx hb hd (kk LS H locs cells slots hl hn hI hc hs)
  · cases ha
theorem sp_iand : SP l s0 a0 τ D cA (.iand) 1 := by
  intro μ p e R s m args below meth c Q G F hM pc ls st h q LS H locs cells slots k0 z0 hd ha hl hn hI hc hs h1 h2 kk
  obtain ⟨hμ, hx, hb, hml, hown, hW, hBs, hLow, hfr, hlo, hlk, hrt, hnm, hex⟩ := F
  simp only [act] at ha
  split at ha
  · obtain rfl := nx_inj ha
    exact lv_iand hx hb hd (kk LS H locs cells slots hl hn hI hc hs)
  · cases ha
theorem sp_ixor : SP l s0 a0 τ D cA (.ixor) 1 := by
  intro μ p e R s m args below meth c Q G F hM pc ls st h q LS H locs cells slots k0 z0 hd ha hl hn hI hc hs h1 h2 kk
  obtain ⟨hμ, hx, hb, hml, hown, hW, hBs, hLow, hfr, hlo, hlk, hrt, hnm, hex⟩ := F
  simp only [act] at ha
  split at ha
  · obtain rfl := nx_inj ha
    exact lv_ixor hx hb hd (kk LS H locs cells slots hl hn hI hc hs)
  · cases ha
theorem sp_ladd : SP l s0 a0 τ D cA (.ladd) 1 := by
  intro μ p e R s m args below meth c Q G F hM pc ls st h q LS H locs cells slots k0 z0 hd ha hl hn hI hc hs h1 h2 kk
  obtain ⟨hμ, hx, hb, hml, hown, hW, hBs, hLow, hfr, hlo, hlk, hrt, hnm, hex⟩ := F
  simp only [act] at ha
  split at ha
  · obtain rfl := nx_inj ha
    exact lv_ladd hx hb hd (kk LS H locs cells slots hl hn hI hc hs)
  · cases ha
theorem sp_lsub : SP l s0 a0 τ D cA (.lsub) 1 := by
  intro μ p e R s m args below meth c Q G F hM pc ls st h q LS H locs cells slots k0 z0 hd ha hl hn hI hc hs h1 h2 kk
  obtain ⟨hμ, hx, hb, hml, hown, hW, hBs, hLow, hfr, hlo, hlk, hrt, hnm, hex⟩ := F
  simp only [act] at ha
  split at ha
  · obtain rfl := nx_inj ha
    exact lv_lsub hx hb hd (kk LS H locs cells slots hl hn hI hc hs)
  · cases ha
theorem sp_lmul : SP l s0 a0 τ D cA (.lmul) 1 := by
  intro μ p e R s m args below meth c Q G F hM pc ls st h q LS H locs cells slots k0 z0 hd ha hl hn hI hc hs h1 h2 kk
  obtain ⟨hμ, hx, hb, hml, hown, hW, hBs, hLow, hfr, hlo, hlk, hrt, hnm, hex⟩ := F
  simp only [act] at ha
  split at ha
  · obtain rfl := nx_inj ha
    exact lv_lmul hx hb hd (kk LS H locs cells slots hl hn hI hc hs)
  · cases ha
theorem sp_i2l : SP l s0 a0 τ D cA (.i2l) 1 := by
  intro μ p e R s m args below meth c Q G F hM pc ls st h q LS H locs cells slots k0 z0 hd ha hl hn hI hc hs h1 h2 kk
  obtain ⟨hμ, hx, hb, hml, hown, hW, hBs, hLow, hfr, hlo, hlk, hrt, hnm, hex⟩ := F
  simp only [act] at ha
  split at ha
  · obtain rfl := nx_inj ha
    exact lv_i2l hx hb hd rfl (kk LS H locs cells slots hl hn hI hc hs)
  · cases ha
theorem sp_i2d : SP l s0 a0 τ D cA (.i2d) 1 := by
  intro μ p e R s m args below meth c Q G F hM pc ls st h q LS H locs cells slots k0 z0 hd ha hl hn hI hc hs h1 h2 kk
  obtain ⟨hμ, hx, hb, hml, hown, hW, hBs, hLow, hfr, hlo, hlk, hrt, hnm, hex⟩ := F
  simp only [act] at ha
  split at ha
  · obtain rfl := nx_inj ha
    exact lv_i2d hx hb hd (kk LS H locs cells slots hl hn hI hc hs)
  · cases ha
theorem sp_lcmp : SP l s0 a0 τ D cA (.lcmp) 1 := by
  intro μ p e R s m args below meth c Q G F hM pc ls st h q LS H locs cells slots k0 z0 hd ha hl hn hI hc hs h1 h2 kk
  obtain ⟨hμ, hx, hb, hml, hown, hW, hBs, hLow, hfr, hlo, hlk, hrt, hnm, hex⟩ := F
  simp only [act] at ha
  split at ha
  · obtain rfl := nx_inj ha
    exact W.lcmp hx hb hd (kk LS H locs cells slots hl hn hI hc hs)
  · cases ha
theorem sp_dcmp (op : CmpOp) : SP l s0 a0 τ D cA (.dcmp op) 1 := by
  intro μ p e R s m args below meth c Q G F hM pc ls st h q LS H locs cells slots k0 z0 hd ha hl hn hI hc hs h1 h2 kk
  obtain ⟨hμ, hx, hb, hml, hown, hW, hBs, hLow, hfr, hlo, hlk, hrt, hnm, hex⟩ := F
  simp only [act] at ha
  split at ha
  · obtain rfl := nx_inj ha
    exact lv_dcmp hx hb hd (kk LS H locs cells slots hl hn hI hc hs)
  · cases ha
theorem sp_irem : SP l s0 a0 τ D cA (.irem) 1 := by
  intro μ p e R s m args below meth c Q G F hM pc ls st h q LS H locs cells slots k0 z0 hd ha hl hn hI hc hs h1 h2 kk
  obtain ⟨hμ, hx, hb, hml, hown, hW, hBs, hLow, hfr, hlo, hlk, hrt, hnm, hex⟩ := F
  simp only [act] at ha
  split at ha
  · split at ha
    · cases ha
    · next hne =>
      obtain rfl := nx_inj ha
      exact lv_irem hx hb hd hne (kk LS H locs cells slots hl hn hI hc hs)
  · cases ha
theorem sp_ddiv : SP l s0 a0 τ D cA (.ddiv) 1 := by
  intro μ p e R s m args below meth c Q G F hM pc ls st h q LS H locs cells slots k0 z0 hd ha hl hn hI hc hs h1 h2 kk
  obtain ⟨hμ, hx, hb, hml, hown, hW, hBs, hLow, hfr, hlo, hlk, hrt, hnm, hex⟩ := F
  simp only [act] at ha
  split at ha
  · split at ha
    · next hne =>
      obtain rfl := nx_inj ha
      exact lv_ddiv hx hb hd hne (kk LS H locs cells slots hl hn hI hc hs)
    · cases ha
  · cases ha
theorem sp_dconst (d : Fin 2) : SP l s0 a0 τ D cA (.dconst d) 1 := by
  intro μ p e R s m args below meth c Q G F hM pc ls st h q LS H locs cells slots k0 z0 hd ha hl hn hI hc hs h1 h2 kk
  obtain ⟨hμ, hx, hb, hml, hown, hW, hBs, hLow, hfr, hlo, hlk, hrt, hnm, hex⟩ := F
  simp only [act] at ha
  split at ha
  · next hd1 =>
    subst hd1
    obtain rfl := nx_inj ha
    exact lv_dconst1 hx hb hd (kk LS H locs cells slots hl hn hI hc hs)
  · cases ha
theorem sp_iconst (n : Int) : SP l s0 a0 τ D cA (.iconst n) 1 := by
  intro μ p e R s m args below meth c Q G F hM pc ls st h q LS H locs cells slots k0 z0 hd ha hl hn hI hc hs h1 h2 kk
  obtain ⟨hμ, hx, hb, hml, hown, hW, hBs, hLow, hfr, hlo, hlk, hrt, hnm, hex⟩ := F
  simp only [act] at ha
  obtain rfl := nx_inj ha
  exact lv_iconst hx hb hd rfl (kk LS H locs cells slots hl hn hI hc hs)
theorem sp_bipush (n : Int) : SP l s0 a0 τ D cA (.bipush n) 2 := by
  intro μ p e R s m args below meth c Q G F hM pc ls st h q LS H locs cells slots k0 z0 hd ha hl hn hI hc hs h1 h2 kk
  obtain ⟨hμ, hx, hb, hml, hown, hW, hBs, hLow, hfr, hlo, hlk, hrt, hnm, hex⟩ := F
  simp only [act] at ha
  obtain rfl := nx_inj ha
  exact lv_bipush hx hb hd rfl (kk LS H locs cells slots hl hn hI hc hs)
theorem sp_sipush (n : Int) : SP l s0 a0 τ D cA (.sipush n) 3 := by
  intro μ p e R s m args below meth c Q G F hM pc ls st h q LS H locs cells slots k0 z0 hd ha hl hn hI hc hs h1 h2 kk
  obtain ⟨hμ, hx, hb, hml, hown, hW, hBs, hLow, hfr, hlo, hlk, hrt, hnm, hex⟩ := F
  simp only [act] at ha
  obtain rfl := nx_inj ha
  exact lv_sipush hx hb hd rfl (kk LS H locs cells slots hl hn hI hc hs)
theorem sp_lconst (n : Fin 2) : SP l s0 a0 τ D cA (.lconst n) 1 := by
  intro μ p e R s m args below meth c Q G F hM pc ls st h q LS H locs cells slots k0 z0 hd ha hl hn hI hc hs h1 h2 kk
  obtain ⟨hμ, hx, hb, hml, hown, hW, hBs, hLow, hfr, hlo, hlk, hrt, hnm, hex⟩ := F
  simp only [act] at ha
  obtain rfl := nx_inj ha
  exact lv_lconst hx hb hd rfl (kk LS H locs cells slots hl hn hI hc hs)
theorem sp_ldc2_w (i : Nat) : SP l s0 a0 τ D cA (.ldc2_w i) 3 := by
  intro μ p e R s m args below meth c Q G F hM pc ls st h q LS H locs cells slots k0 z0 hd ha hl hn hI hc hs h1 h2 kk
  obtain ⟨hμ, hx, hb, hml, hown, hW, hBs, hLow, hfr, hlo, hlk, hrt, hnm, hex⟩ := F
  simp only [act] at ha
  split at ha
  · next ht =>
    obtain rfl := nx_inj ha
    obtain ⟨-, hw⟩ := okM_e hM (i := i) (by rw [ht]; decide)
    have hw1 : Cond.constantLong (yM μ).cls i (lkf (mt μ).2.1 i).2.2.2 ∈ lw_tbl := hw _ (by unfold wdE; rw [ht]; simp)
    exact lv_ldc2 hx hb hown (wd_at G hW hw1 rfl) hd (kk LS H locs cells slots hl hn hI hc hs)
  · cases ha
theorem sp_dup : SP l s0 a0 τ D cA (.dup) 1 := by
  intro μ p e R s m args below meth c Q G F hM pc ls st h q LS H locs cells slots k0 z0 hd ha hl hn hI hc hs h1 h2 kk
  obtain ⟨hμ, hx, hb, hml, hown, hW, hBs, hLow, hfr, hlo, hlk, hrt, hnm, hex⟩ := F
  simp only [act] at ha
  split at ha
  · split at ha
    · next hv =>
      obtain rfl := nx_inj ha
      exact lv_dup hx hb hd ((tv_cat τ _).trans hv) (kk LS H locs cells slots hl hn hI hc hs)
    · cases ha
  · cases ha
theorem sp_pop : SP l s0 a0 τ D cA (.pop) 1 := by
  intro μ p e R s m args below meth c Q G F hM pc ls st h q LS H locs cells slots k0 z0 hd ha hl hn hI hc hs h1 h2 kk
  obtain ⟨hμ, hx, hb, hml, hown, hW, hBs, hLow, hfr, hlo, hlk, hrt, hnm, hex⟩ := F
  simp only [act] at ha
  split at ha
  · split at ha
    · next hv =>
      obtain rfl := nx_inj ha
      exact lv_pop hx hb hd ((tv_cat τ _).trans hv) (kk LS H locs cells slots hl hn hI hc hs)
    · cases ha
  · cases ha
theorem sp_dup2 : SP l s0 a0 τ D cA (.dup2) 1 := by
  intro μ p e R s m args below meth c Q G F hM pc ls st h q LS H locs cells slots k0 z0 hd ha hl hn hI hc hs h1 h2 kk
  obtain ⟨hμ, hx, hb, hml, hown, hW, hBs, hLow, hfr, hlo, hlk, hrt, hnm, hex⟩ := F
  simp only [act] at ha
  split at ha
  · split at ha
    · next hv =>
      obtain rfl := nx_inj ha
      exact lv_dup2_11 hx hb hd ((tv_cat τ _).trans hv.1) ((tv_cat τ _).trans hv.2) (kk LS H locs cells slots hl hn hI hc hs)
    · cases ha
  · cases ha
theorem sp_iload_n (k : Fin 4) : SP l s0 a0 τ D cA (.iload_n k) 1 := by
  intro μ p e R s m args below meth c Q G F hM pc ls st h q LS H locs cells slots k0 z0 hd ha hl hn hI hc hs h1 h2 kk
  obtain ⟨hμ, hx, hb, hml, hown, hW, hBs, hLow, hfr, hlo, hlk, hrt, hnm, hex⟩ := F
  simp only [act, ldI] at ha
  split at ha
  · next hv =>
    obtain rfl := nx_inj ha
    exact lv_iload_n hx hb hd rfl (hl.at hv) (kk LS H locs cells slots hl hn hI hc hs)
  · cases ha
theorem sp_iload (k : Nat) : SP l s0 a0 τ D cA (.iload k) 2 := by
  intro μ p e R s m args below meth c Q G F hM pc ls st h q LS H locs cells slots k0 z0 hd ha hl hn hI hc hs h1 h2 kk
  obtain ⟨hμ, hx, hb, hml, hown, hW, hBs, hLow, hfr, hlo, hlk, hrt, hnm, hex⟩ := F
  simp only [act, ldI] at ha
  split at ha
  · next hv =>
    obtain rfl := nx_inj ha
    exact lv_iload hx hb hd (hl.at hv) (kk LS H locs cells slots hl hn hI hc hs)
  · cases ha
theorem sp_lload_n (k : Fin 4) : SP l s0 a0 τ D cA (.lload_n k) 1 := by
  intro μ p e R s m args below meth c Q G F hM pc ls st h q LS H locs cells slots k0 z0 hd ha hl hn hI hc hs h1 h2 kk
  obtain ⟨hμ, hx, hb, hml, hown, hW, hBs, hLow, hfr, hlo, hlk, hrt, hnm, hex⟩ := F
  simp only [act, ldJ] at ha
  split at ha
  · next hv =>
    obtain rfl := nx_inj ha
    exact lv_lload_n hx hb hd rfl (hl.at hv) (kk LS H locs cells slots hl hn hI hc hs)
  · cases ha
theorem sp_lload (k : Nat) : SP l s0 a0 τ D cA (.lload k) 2 := by
  intro μ p e R s m args below meth c Q G F hM pc ls st h q LS H locs cells slots k0 z0 hd ha hl hn hI hc hs h1 h2 kk
  obtain ⟨hμ, hx, hb, hml, hown, hW, hBs, hLow, hfr, hlo, hlk, hrt, hnm, hex⟩ := F
  simp only [act, ldJ] at ha
  split at ha
  · next hv =>
    obtain rfl := nx_inj ha
    exact lv_lload hx hb hd (hl.at hv) (kk LS H locs cells slots hl hn hI hc hs)
  · cases ha
theorem sp_dload_n (k : Fin 4) : SP l s0 a0 τ D cA (.dload_n k) 1 := by
  intro μ p e R s m args below meth c Q G F hM pc ls st h q LS H locs cells slots k0 z0 hd ha hl hn hI hc hs h1 h2 kk
  obtain ⟨hμ, hx, hb, hml, hown, hW, hBs, hLow, hfr, hlo, hlk, hrt, hnm, hex⟩ := F
  simp only [act, ldD] at ha
  split at ha
  · next hv =>
    obtain rfl := nx_inj ha
    exact lv_dload_n hx hb hd rfl (hl.at hv) (kk LS H locs cells slots hl hn hI hc hs)
  · cases ha
theorem sp_dload (k : Nat) : SP l s0 a0 τ D cA (.dload k) 2 := by
  intro μ p e R s m args below meth c Q G F hM pc ls st h q LS H locs cells slots k0 z0 hd ha hl hn hI hc hs h1 h2 kk
  obtain ⟨hμ, hx, hb, hml, hown, hW, hBs, hLow, hfr, hlo, hlk, hrt, hnm, hex⟩ := F
  simp only [act, ldD] at ha
  split at ha
  · next hv =>
    obtain rfl := nx_inj ha
    exact lv_dload hx hb hd (hl.at hv) (kk LS H locs cells slots hl hn hI hc hs)
  · cases ha
theorem sp_aload_n (k : Fin 4) : SP l s0 a0 τ D cA (.aload_n k) 1 := by
  intro μ p e R s m args below meth c Q G F hM pc ls st h q LS H locs cells slots k0 z0 hd ha hl hn hI hc hs h1 h2 kk
  obtain ⟨hμ, hx, hb, hml, hown, hW, hBs, hLow, hfr, hlo, hlk, hrt, hnm, hex⟩ := F
  simp only [act, ldA] at ha
  split at ha
  · next hv =>
    obtain rfl := nx_inj ha
    exact lv_aload_n hx hb hd rfl (hl.at hv) (kk LS H locs cells slots hl hn hI hc hs)
  · cases ha
theorem sp_aload (k : Nat) : SP l s0 a0 τ D cA (.aload k) 2 := by
  intro μ p e R s m args below meth c Q G F hM pc ls st h q LS H locs cells slots k0 z0 hd ha hl hn hI hc hs h1 h2 kk
  obtain ⟨hμ, hx, hb, hml, hown, hW, hBs, hLow, hfr, hlo, hlk, hrt, hnm, hex⟩ := F
  simp only [act, ldA] at ha
  split at ha
  · next hv =>
    obtain rfl := nx_inj ha
    exact lv_aload hx hb hd (hl.at hv) (kk LS H locs cells slots hl hn hI hc hs)
  · cases ha
theorem sp_istore_n (k : Fin 4) : SP l s0 a0 τ D cA (.istore_n k) 1 := by
  intro μ p e R s m args below meth c Q G F hM pc ls st h q LS H locs cells slots k0 z0 hd ha hl hn hI hc hs h1 h2 kk
  obtain ⟨hμ, hx, hb, hml, hown, hW, hBs, hLow, hfr, hlo, hlk, hrt, hnm, hex⟩ := F
  simp only [act, stI] at ha
  split at ha
  · split at ha
    · next hi =>
      obtain rfl := nx_inj ha
      refine lv_istore_n hx hb hd rfl hl hi rfl (fun LS9 h9 => ?_)
      exact kk LS9 H locs cells slots (LsR.st1 (o := some (.int _)) hi (fun v q => by cases q; rfl) h9) ((set1_len _ _ _).trans hn) hI hc hs
    · cases ha
  · cases ha
theorem sp_istore (k : Nat) : SP l s0 a0 τ D cA (.istore k) 2 := by
  intro μ p e R s m args below meth c Q G F hM pc ls st h q LS H locs cells slots k0 z0 hd ha hl hn hI hc hs h1 h2 kk
  obtain ⟨hμ, hx, hb, hml, hown, hW, hBs, hLow, hfr, hlo, hlk, hrt, hnm, hex⟩ := F
  simp only [act, stI] at ha
  split at ha
  · split at ha
    · next hi =>
      obtain rfl := nx_inj ha
      refine lv_istore hx hb hd hl hi rfl (fun LS9 h9 => ?_)
      exact kk LS9 H locs cells slots (LsR.st1 (o := some (.int _)) hi (fun v q => by cases q; rfl) h9) ((set1_len _ _ _).trans hn) hI hc hs
    · cases ha
  · cases ha
theorem sp_astore_n (k : Fin 4) : SP l s0 a0 τ D cA (.astore_n k) 1 := by
  intro μ p e R s m args below meth c Q G F hM pc ls st h q LS H locs cells slots k0 z0 hd ha hl hn hI hc hs h1 h2 kk
  obtain ⟨hμ, hx, hb, hml, hown, hW, hBs, hLow, hfr, hlo, hlk, hrt, hnm, hex⟩ := F
  simp only [act, stA] at ha
  split at ha
  · split at ha
    · next hi =>
      obtain rfl := nx_inj ha
      refine lv_astore_n hx hb hd rfl hl hi rfl (fun LS9 h9 => ?_)
      exact kk LS9 H locs cells slots (LsR.st1 (o := some (.ref _)) hi (fun v q => by cases q; rfl) h9) ((set1_len _ _ _).trans hn) hI hc hs
    · cases ha
  · cases ha
theorem sp_astore (k : Nat) : SP l s0 a0 τ D cA (.astore k) 2 := by
  intro μ p e R s m args below meth c Q G F hM pc ls st h q LS H locs cells slots k0 z0 hd ha hl hn hI hc hs h1 h2 kk
  obtain ⟨hμ, hx, hb, hml, hown, hW, hBs, hLow, hfr, hlo, hlk, hrt, hnm, hex⟩ := F
  simp only [act, stA] at ha
  split at ha
  · split at ha
    · next hi =>
      obtain rfl := nx_inj ha
      refine lv_astore hx hb hd hl hi rfl (fun LS9 h9 => ?_)
      exact kk LS9 H locs cells slots (LsR.st1 (o := some (.ref _)) hi (fun v q => by cases q; rfl) h9) ((set1_len _ _ _).trans hn) hI hc hs
    · cases ha
  · cases ha
theorem sp_lstore_n (k : Fin 4) : SP l s0 a0 τ D cA (.lstore_n k) 1 := by
  intro μ p e R s m args below meth c Q G F hM pc ls st h q LS H locs cells slots k0 z0 hd ha hl hn hI hc hs h1 h2 kk
  obtain ⟨hμ, hx, hb, hml, hown, hW, hBs, hLow, hfr, hlo, hlk, hrt, hnm, hex⟩ := F
  simp only [act, stJ] at ha
  split at ha
  · split at ha
    · next hi =>
      obtain rfl := nx_inj ha
      refine lv_lstore_n hx hb hd rfl hl hi rfl (fun LS9 h9 => ?_)
      exact kk LS9 H locs cells slots (LsR.st2 (v := .long _) hi h9) ((set2_len _ _ _).trans hn) hI hc hs
    · cases ha
  · cases ha
theorem sp_lstore (k : Nat) : SP l s0 a0 τ D cA (.lstore k) 2 := by
  intro μ p e R s m args below meth c Q G F hM pc ls st h q LS H locs cells slots k0 z0 hd ha hl hn hI hc hs h1 h2 kk
  obtain ⟨hμ, hx, hb, hml, hown, hW, hBs, hLow, hfr, hlo, hlk, hrt, hnm, hex⟩ := F
  simp only [act, stJ] at ha
  split at ha
  · split at ha
    · next hi =>
      obtain rfl := nx_inj ha
      refine lv_lstore hx hb hd hl hi rfl (fun LS9 h9 => ?_)
      exact kk LS9 H locs cells slots (LsR.st2 (v := .long _) hi h9) ((set2_len _ _ _).trans hn) hI hc hs
    · cases ha
  · cases ha
theorem sp_dstore_n (k : Fin 4) : SP l s0 a0 τ D cA (.dstore_n k) 1 := by
  intro μ p e R s m args below meth c Q G F hM pc ls st h q LS H locs cells slots k0 z0 hd ha hl hn hI hc hs h1 h2 kk
  obtain ⟨hμ, hx, hb, hml, hown, hW, hBs, hLow, hfr, hlo, hlk, hrt, hnm, hex⟩ := F
  simp only [act, stD] at ha
  split at ha
  · split at ha
    · next hi =>
      obtain rfl := nx_inj ha
      refine lv_dstore_n hx hb hd rfl hl hi rfl (fun LS9 h9 => ?_)
      exact kk LS9 H locs cells slots (LsR.st2 (v := .double _) hi h9) ((set2_len _ _ _).trans hn) hI hc hs
    · cases ha
  · cases ha
theorem sp_dstore (k : Nat) : SP l s0 a0 τ D cA (.dstore k) 2 := by
  intro μ p e R s m args below meth c Q G F hM pc ls st h q LS H locs cells slots k0 z0 hd ha hl hn hI hc hs h1 h2 kk
  obtain ⟨hμ, hx, hb, hml, hown, hW, hBs, hLow, hfr, hlo, hlk, hrt, hnm, hex⟩ := F
  simp only [act, stD] at ha
  split at ha
  · split at ha
    · next hi =>
      obtain rfl := nx_inj ha
      refine lv_dstore hx hb hd hl hi rfl (fun LS9 h9 => ?_)
      exact kk LS9 H locs cells slots (LsR.st2 (v := .double _) hi h9) ((set2_len _ _ _).trans hn) hI hc hs
    · cases ha
  · cases ha
theorem sp_iinc (i : Nat) (n : Int) : SP l s0 a0 τ D cA (.iinc i n) 3 := by
  intro μ p e R s m args below meth c Q G F hM pc ls st h q LS H locs cells slots k0 z0 hd ha hl hn hI hc hs h1 h2 kk
  obtain ⟨hμ, hx, hb, hml, hown, hW, hBs, hLow, hfr, hlo, hlk, hrt, hnm, hex⟩ := F
  simp only [act] at ha
  split at ha
  · next x hv =>
    split at ha
    · next hi =>
      obtain rfl := nx_inj ha
      obtain ⟨k, hk⟩ := List.getElem?_of_mem (lvl_mem (τ := τ) (q := (i, .int x)).mpr ⟨_, hv, rfl⟩)
      refine lv_iinc hx hb hd hl hk rfl hi rfl (fun LS9 h9 => ?_)
      exact kk LS9 H locs cells slots (LsR.st1 (o := some (.int _)) hi (fun v q => by cases q; rfl) h9) ((set1_len _ _ _).trans hn) hI hc hs
    · cases ha
  · cases ha
theorem sp_ifCond (cn : ClassFile.Cond) (off : Int) : SP l s0 a0 τ D cA (.ifCond cn off) 3 := by
  intro μ p e R s m args below meth c Q G F hM pc ls st h q LS H locs cells slots k0 z0 hd ha hl hn hI hc hs h1 h2 kk
  obtain ⟨hμ, hx, hb, hml, hown, hW, hBs, hLow, hfr, hlo, hlk, hrt, hnm, hex⟩ := F
  simp only [act] at ha
  split at ha
  · next x r =>
    unfold bra at ha
    split at ha
    case isFalse => cases ha
    next h0 =>
    cases cn
    · by_cases hP : x = 0
      · rw [show cnd .eq x 0 = true from decide_eq_true hP, if_pos rfl] at ha
        obtain ⟨tgt, ht, rfl⟩ := jmp_inj ha
        exact lv_if_eq hx hb hd ht (fun _ => (kk LS H locs cells slots hl hn hI hc hs)) (fun hN => absurd hP hN)
      · rw [show cnd .eq x 0 = false from decide_eq_false hP, if_neg Bool.false_ne_true] at ha
        obtain rfl := nx_inj ha
        exact lv_if_eq hx hb hd (Int.toNat_of_nonneg h0).symm (fun hN => absurd hN hP) (fun _ => (kk LS H locs cells slots hl hn hI hc hs))
    · by_cases hP : ¬ x = 0
      · rw [show cnd .ne x 0 = true from decide_eq_true hP, if_pos rfl] at ha
        obtain ⟨tgt, ht, rfl⟩ := jmp_inj ha
        exact lv_if_ne hx hb hd ht (fun _ => (kk LS H locs cells slots hl hn hI hc hs)) (fun hN => absurd hP (fun z9 => z9 hN))
      · rw [show cnd .ne x 0 = false from decide_eq_false hP, if_neg Bool.false_ne_true] at ha
        obtain rfl := nx_inj ha
        exact lv_if_ne hx hb hd (Int.toNat_of_nonneg h0).symm (fun hN => absurd hN hP) (fun _ => (kk LS H locs cells slots hl hn hI hc hs))
    · by_cases hP : x < 0
      · rw [show cnd .lt x 0 = true from decide_eq_true hP, if_pos rfl] at ha
        obtain ⟨tgt, ht, rfl⟩ := jmp_inj ha
        exact lv_if_lt hx hb hd ht (fun _ => (kk LS H locs cells slots hl hn hI hc hs)) (fun hN => absurd hP hN)
      · rw [show cnd .lt x 0 = false from decide_eq_false hP, if_neg Bool.false_ne_true] at ha
        obtain rfl := nx_inj ha
        exact lv_if_lt hx hb hd (Int.toNat_of_nonneg h0).symm (fun hN => absurd hN hP) (fun _ => (kk LS H locs cells slots hl hn hI hc hs))
    · by_cases hP : 0 ≤ x
      · rw [show cnd .ge x 0 = true from decide_eq_true hP, if_pos rfl] at ha
        obtain ⟨tgt, ht, rfl⟩ := jmp_inj ha
        exact lv_if_ge hx hb hd ht (fun _ => (kk LS H locs cells slots hl hn hI hc hs)) (fun hN => absurd hP hN)
      · rw [show cnd .ge x 0 = false from decide_eq_false hP, if_neg Bool.false_ne_true] at ha
        obtain rfl := nx_inj ha
        exact lv_if_ge hx hb hd (Int.toNat_of_nonneg h0).symm (fun hN => absurd hN hP) (fun _ => (kk LS H locs cells slots hl hn hI hc hs))
    · by_cases hP : 0 < x
      · rw [show cnd .gt x 0 = true from decide_eq_true hP, if_pos rfl] at ha
        obtain ⟨tgt, ht, rfl⟩ := jmp_inj ha
        exact lv_if_gt hx hb hd ht (fun _ => (kk LS H locs cells slots hl hn hI hc hs)) (fun hN => absurd hP hN)
      · rw [show cnd .gt x 0 = false from decide_eq_false hP, if_neg Bool.false_ne_true] at ha
        obtain rfl := nx_inj ha
        exact lv_if_gt hx hb hd (Int.toNat_of_nonneg h0).symm (fun hN => absurd hN hP) (fun _ => (kk LS H locs cells slots hl hn hI hc hs))
    · by_cases hP : x ≤ 0
      · rw [show cnd .le x 0 = true from decide_eq_true hP, if_pos rfl] at ha
        obtain ⟨tgt, ht, rfl⟩ := jmp_inj ha
        exact lv_if_le hx hb hd ht (fun _ => (kk LS H locs cells slots hl hn hI hc hs)) (fun hN => absurd hP hN)
      · rw [show cnd .le x 0 = false from decide_eq_false hP, if_neg Bool.false_ne_true] at ha
        obtain rfl := nx_inj ha
        exact lv_if_le hx hb hd (Int.toNat_of_nonneg h0).symm (fun hN => absurd hN hP) (fun _ => (kk LS H locs cells slots hl hn hI hc hs))
  · cases ha
theorem sp_if_icmp (cn : ClassFile.Cond) (off : Int) : SP l s0 a0 τ D cA (.if_icmp cn off) 3 := by
  intro μ p e R s m args below meth c Q G F hM pc ls st h q LS H locs cells slots k0 z0 hd ha hl hn hI hc hs h1 h2 kk
  obtain ⟨hμ, hx, hb, hml, hown, hW, hBs, hLow, hfr, hlo, hlk, hrt, hnm, hex⟩ := F
  simp only [act] at ha
  split at ha
  · next y x r =>
    unfold bra at ha
    split at ha
    case isFalse => cases ha
    next h0 =>
    cases cn
    · by_cases hP : x = y
      · rw [show cnd .eq x y = true from decide_eq_true hP, if_pos rfl] at ha
        obtain ⟨tgt, ht, rfl⟩ := jmp_inj ha
        exact lv_icmp_eq hx hb hd ht (fun _ => (kk LS H locs cells slots hl hn hI hc hs)) (fun hN => absurd hP hN)
      · rw [show cnd .eq x y = false from decide_eq_false hP, if_neg Bool.false_ne_true] at ha
        obtain rfl := nx_inj ha
        exact lv_icmp_eq hx hb hd (Int.toNat_of_nonneg h0).symm (fun hN => absurd hN hP) (fun _ => (kk LS H locs cells slots hl hn hI hc hs))
    · by_cases hP : ¬ x = y
      · rw [show cnd .ne x y = true from decide_eq_true hP, if_pos rfl] at ha
        obtain ⟨tgt, ht, rfl⟩ := jmp_inj ha
        exact lv_icmp_ne hx hb hd ht (fun _ => (kk LS H locs cells slots hl hn hI hc hs)) (fun hN => absurd hP (fun z9 => z9 hN))
      · rw [show cnd .ne x y = false from decide_eq_false hP, if_neg Bool.false_ne_true] at ha
        obtain rfl := nx_inj ha
        exact lv_icmp_ne hx hb hd (Int.toNat_of_nonneg h0).symm (fun hN => absurd hN hP) (fun _ => (kk LS H locs cells slots hl hn hI hc hs))
    · by_cases hP : x < y
      · rw [show cnd .lt x y = true from decide_eq_true hP, if_pos rfl] at ha
        obtain ⟨tgt, ht, rfl⟩ := jmp_inj ha
        exact lv_icmp_lt hx hb hd ht (fun _ => (kk LS H locs cells slots hl hn hI hc hs)) (fun hN => absurd hP hN)
      · rw [show cnd .lt x y = false from decide_eq_false hP, if_neg Bool.false_ne_true] at ha
        obtain rfl := nx_inj ha
        exact lv_icmp_lt hx hb hd (Int.toNat_of_nonneg h0).symm (fun hN => absurd hN hP) (fun _ => (kk LS H locs cells slots hl hn hI hc hs))
    · by_cases hP : y ≤ x
      · rw [show cnd .ge x y = true from decide_eq_true hP, if_pos rfl] at ha
        obtain ⟨tgt, ht, rfl⟩ := jmp_inj ha
        exact lv_icmp_ge hx hb hd ht (fun _ => (kk LS H locs cells slots hl hn hI hc hs)) (fun hN => absurd hP hN)
      · rw [show cnd .ge x y = false from decide_eq_false hP, if_neg Bool.false_ne_true] at ha
        obtain rfl := nx_inj ha
        exact lv_icmp_ge hx hb hd (Int.toNat_of_nonneg h0).symm (fun hN => absurd hN hP) (fun _ => (kk LS H locs cells slots hl hn hI hc hs))
    · by_cases hP : y < x
      · rw [show cnd .gt x y = true from decide_eq_true hP, if_pos rfl] at ha
        obtain ⟨tgt, ht, rfl⟩ := jmp_inj ha
        exact lv_icmp_gt hx hb hd ht (fun _ => (kk LS H locs cells slots hl hn hI hc hs)) (fun hN => absurd hP hN)
      · rw [show cnd .gt x y = false from decide_eq_false hP, if_neg Bool.false_ne_true] at ha
        obtain rfl := nx_inj ha
        exact lv_icmp_gt hx hb hd (Int.toNat_of_nonneg h0).symm (fun hN => absurd hN hP) (fun _ => (kk LS H locs cells slots hl hn hI hc hs))
    · by_cases hP : x ≤ y
      · rw [show cnd .le x y = true from decide_eq_true hP, if_pos rfl] at ha
        obtain ⟨tgt, ht, rfl⟩ := jmp_inj ha
        exact lv_icmp_le hx hb hd ht (fun _ => (kk LS H locs cells slots hl hn hI hc hs)) (fun hN => absurd hP hN)
      · rw [show cnd .le x y = false from decide_eq_false hP, if_neg Bool.false_ne_true] at ha
        obtain rfl := nx_inj ha
        exact lv_icmp_le hx hb hd (Int.toNat_of_nonneg h0).symm (fun hN => absurd hN hP) (fun _ => (kk LS H locs cells slots hl hn hI hc hs))
  · cases ha
theorem sp_goto (off : Int) : SP l s0 a0 τ D cA (.goto off) 3 := by
  intro μ p e R s m args below meth c Q G F hM pc ls st h q LS H locs cells slots k0 z0 hd ha hl hn hI hc hs h1 h2 kk
  obtain ⟨hμ, hx, hb, hml, hown, hW, hBs, hLow, hfr, hlo, hlk, hrt, hnm, hex⟩ := F
  simp only [act] at ha
  obtain ⟨tgt, ht, rfl⟩ := jmp_inj ha
  exact lv_goto hx hb hd ht (kk LS H locs cells slots hl hn hI hc hs)
theorem sp_tab (df lo hi : Int) (offs : Array Int) (len : Nat) : SP l s0 a0 τ D cA (.tableswitch df lo hi offs) len := by
  intro μ p e R s m args below meth c Q G F hM pc ls st h q LS H locs cells slots k0 z0 hd ha hl hn hI hc hs h1 h2 kk
  obtain ⟨hμ, hx, hb, hml, hown, hW, hBs, hLow, hfr, hlo, hlk, hrt, hnm, hex⟩ := F
  simp only [act, aTab] at ha
  split at ha
  · split at ha
    · next ho =>
      obtain ⟨tgt, ht, rfl⟩ := jmp_inj ha
      exact lv_tableOut hx hb hd ho ht (kk LS H locs cells slots hl hn hI hc hs)
    · next ho =>
      split at ha
      · next off he =>
        obtain ⟨tgt, ht, rfl⟩ := jmp_inj ha
        exact lv_tableIn hx hb hd (fun z => ho (Or.inl z)) (fun z => ho (Or.inr z)) he ht (kk LS H locs cells slots hl hn hI hc hs)
      · cases ha
  · cases ha
end SND
end
section
/-! SOUND 4: steps that read or write the heap -/
def isRt (ty : FieldType) : Bool := match ty with
  | .object _ => true
  | .array _ => true
  | _ => false
def fdc (k j : Nat) : Bool := ((tFd k j).1 == cNm k) && (decide (parseFieldDescriptor (tFd k j).2.2.1 = some (yFd k j)) && (((tFd k j).2.2.2 == (fdF k).getD j true) && ((if (fdI k).getD j false = true then decide (yFd k j = .int) else isRt (yFd k j)) && (List.range (nFd k)).all (fun i => i == j || (tFd k i).2.1 != (tFd k j).2.1))))
theorem fdc_all : (List.range 6).all (fun k => (List.range (nFd k)).all (fdc k)) = true := by decide +kernel
theorem fdc_at {k j : Nat} (hk : k < 6) (hj : j < nFd k) : (tFd k j).1 = cNm k ∧ parseFieldDescriptor (tFd k j).2.2.1 = some (yFd k j) ∧ (tFd k j).2.2.2 = (fdF k).getD j true ∧ ((if (fdI k).getD j false = true then decide (yFd k j = .int) else isRt (yFd k j)) = true) ∧ ∀ i, i < nFd k → i ≠ j → (tFd k i).2.1 ≠ (tFd k j).2.1 := by
  have h := List.all_eq_true.mp (List.all_eq_true.mp fdc_all k (List.mem_range.mpr hk)) j (List.mem_range.mpr hj)
  unfold fdc at h
  simp only [Bool.and_eq_true, beq_iff_eq, decide_eq_true_eq] at h
  obtain ⟨h1, h2, h3, h4, h5⟩ := h
  refine ⟨h1, h2, h3, h4, fun i hi hne => ?_⟩
  have := List.all_eq_true.mp h5 i (List.mem_range.mpr hi)
  simp only [Bool.or_eq_true, beq_iff_eq, bne_iff_ne] at this
  exact this.resolve_left hne
theorem fd_fit (τ : Nat → Nat) {k j : Nat} {v : Value} (hk : k < 6) (hj : j < nFd k) (hv : okf ((fdI k).getD j false) v = true) : narrow (yFd k j) (tv τ v) = tv τ v ∧ fits (yFd k j) (tv τ v) = true := by
  obtain ⟨-, -, -, h4, -⟩ := fdc_at hk hj
  unfold okf at hv
  split at h4
  · next hb =>
    rw [if_pos hb] at hv
    rw [of_decide_eq_true h4]
    cases v <;> first | exact ⟨rfl, rfl⟩ | cases hv
  · next hb =>
    rw [if_neg hb] at hv
    generalize yFd k j = ty at h4 ⊢
    cases ty <;> first | (cases h4; done) | (cases v <;> first | exact ⟨rfl, rfl⟩ | cases hv)
theorem dfl_ok : (List.range 6).all (fun k => (List.range (nFd k)).all (fun j => decide (defaultValue (yFd k j) = vp_V (dfl k) j))) = true := by decide +kernel
theorem dfl_at {k j : Nat} (hk : k < 6) (hj : j < nFd k) : defaultValue (yFd k j) = vp_V (dfl k) j := of_decide_eq_true (List.all_eq_true.mp (List.all_eq_true.mp dfl_ok k (List.mem_range.mpr hk)) j (List.mem_range.mpr hj))
theorem dfl_len (k : Nat) : (dfl k).length = nFd k := by unfold dfl nFd; rw [List.length_map]
theorem dfl_tv (τ : Nat → Nat) (k : Nat) : (dfl k).map (tv τ) = dfl k := by
  unfold dfl
  rw [List.map_map]
  congr 1
  funext b
  cases b <;> rfl
theorem vpV_map {τ : Nat → Nat} {fs : List Value} {j : Nat} {v : Value} (h : fs[j]? = some v) : vp_V (fs.map (tv τ)) j = tv τ v := by
  unfold vp_V
  rw [List.getD_eq_getElem?_getD, List.getElem?_map, h]
  rfl
theorem inB_of {i : Int32} {n : Nat} (h : inB i n = true) : ¬ (i < 0 ∨ n ≤ i.toNatClampNeg) := of_decide_eq_true h
theorem inB_lt {i : Int32} {n : Nat} (h : inB i n = true) : i.toNatClampNeg < n := Nat.not_le.mp fun q => inB_of h (Or.inr q)
section SND
variable {l : Launch} {s0 : State} {a0 : Array Value} {τ : Nat → Nat} {D : va_G} {cA : Nat → ClassId}
variable {p : Program} {e : Env} {R : Room} {s : State} {m : MethodId} {args : Array Value} {below : List Frame} {meth : Method} {c : Code} {Q : State → Prop} {μ : Nat} {H : Heap} {locs : List Loc} {cells slots : Nat}
theorem Inv.push {z k1 n1 k2 n2 : Nat} {b : Bool} {c : Nat → VC} {H1 : Heap} {x : VC} (hτ : Tau τ s0) (hI : Inv τ D cA s0 s ((z, true, k1, n1), c) H locs) (hx : AtC τ D cA s0 x H.size H1) (hz : H1.size = H.size + 1) (ho : ∀ q, q < H.size → H1[q]? = H[q]?) : H.size = τ z ∧ Inv τ D cA s0 s ((z + 1, b, k2, n2), up c z x) H1 locs := by
  obtain ⟨i1, i2, i3, i4⟩ := hI
  obtain ⟨g1, g2⟩ := i1.push τ D cA s0 (b := b) (k2 := k2) (n2 := n2) hτ hx hz ho
  have r3 : 2 ≤ z := i1.2.2.1
  have r4 : H.size + 2 = s0.heap.size + z := i1.2.2.2 rfl
  exact ⟨g1, g2, by omega, fun q hq => (ho q (by omega)).trans (i3 q hq), i4⟩
theorem gw_at (G : GX l s0 a0 τ D cA) (hW : s0.WarmedH s.vm) {w : Cond} (hw : w ∈ gW) (hg : goodWord w = true) : w.before args s = true := wd_at G hW (gW_mem hw) hg
theorem gW_cls {k : Nat} (hk : k < 6) : Cond.instantiable (cNm k) (nFd k) ∈ gW ∧ Cond.initialized (cNm k) ∈ gW ∧ ∀ w ∈ u_ws (cNm k) (tFd k) (nFd k), w ∈ gW := by
  have h : ∀ w ∈ ([.instantiable (cNm k) (nFd k), .initialized (cNm k)] ++ u_ws (cNm k) (tFd k) (nFd k) : List Cond), w ∈ gW := fun w hw => List.mem_append_left _ (List.mem_flatMap.mpr ⟨k, List.mem_range.mpr hk, hw⟩)
  exact ⟨h _ (by simp), h _ (by simp), fun w hw => h w (List.mem_append_right _ hw)⟩
theorem ulay_good (C : String) (T : u_T) (k : Nat) : goodWord (u_lay C T k) = true := by
  unfold u_lay
  split <;> rfl
theorem uws_at (G : GX l s0 a0 τ D cA) (hW : s0.WarmedH s.vm) {k : Nat} (hk : k < 6) : ∀ w ∈ u_ws (cNm k) (tFd k) (nFd k), w.before args s = true := by
  intro w hw
  refine gw_at G hW ((gW_cls hk).2.2 w hw) ?_
  obtain ⟨j, -, rfl⟩ := List.mem_map.mp hw
  exact ulay_good _ _ _
theorem kn_at (G : GX l s0 a0 τ D cA) (hW : s0.WarmedH s.vm) {k : Nat} (hk : k < 6) : u_Kn s (cNm k) (tFd k) (nFd k) (D.1 k) (D.2 k) := u_Kn_moved hW.alike (G.2.2.1 k hk)
/-- an object's fields lie apart -/
theorem ap_at (G : GX l s0 a0 τ D cA) (hW : s0.WarmedH s.vm) (args : Array Value) {k : Nat} (hk : k < 6) : ∀ x y, x < nFd k → y < nFd k → x ≠ y → D.2 k x ≠ D.2 k y := by
  intro x y hx hy hne
  obtain ⟨hS, -⟩ := kn_at G hW hk
  obtain ⟨_, _, _, fa, hia, ea⟩ := hS x hx
  obtain ⟨_, _, _, fb, hib, eb⟩ := hS y hy
  rw [← ea, ← eb]
  refine u_apart (u_lays (uws_at (args := args) G hW hk) (fun w h => h) hx) (u_lays (uws_at (args := args) G hW hk) (fun w h => h) hy) hia hib ?_
  rw [(State.fieldFound?_type hia (fdc_at hk hx).2.1).1, (State.fieldFound?_type hib (fdc_at hk hy).2.1).1]
  exact (fdc_at hk hy).2.2.2.2 x hx hne
theorem sp_getfield (i : Nat) : SP l s0 a0 τ D cA (.getfield i) 3 := by
  intro μ p e R s m args below meth c Q G F hM pc ls st h q LS H locs cells slots k0 z0 hd ha hl hn hI hc hs h1 h2 kk
  obtain ⟨hμ, hx, hb, hml, hown, hW, hBs, hLow, hfr, hlo, hlk, hrt, hnm, hex⟩ := F
  simp only [act, aGet] at ha
  split at ha
  · next a r =>
    split at ha
    · next k fs he =>
      split at ha
      · next hq =>
        obtain ⟨ht, hk⟩ := hq
        split at ha
        · next v hv =>
          obtain rfl := nx_inj ha
          have hA := hI.1.1 a
          rw [he] at hA
          obtain ⟨hk6, hlen, cell, q1, q2, q3, q4⟩ := hA
          have hj : (lkf (mt μ).2.1 i).2.2.1 < nFd k := by
            rw [← hlen]; exact (List.getElem?_eq_some_iff.mp hv).1
          obtain ⟨-, hw⟩ := okM_e hM (i := i) (by omega)
          have hw1 : lkF (yM μ).cls i (cNm k) (tFd k (lkf (mt μ).2.1 i).2.2.1).2.1 (tFd k (lkf (mt μ).2.1 i).2.2.1).2.2.1 ∈ lw_tbl := hw _ (by unfold wdE; rw [if_pos ht, ← hk]; exact List.mem_cons_self)
          generalize (lkf (mt μ).2.1 i).2.2.1 = j at hj hw1 hv
          obtain ⟨hS, hfc, kC, hkC, hkind⟩ := kn_at G hW hk6
          obtain ⟨cf, kf, fi, f, hi, hsl⟩ := hS j hj
          have hst := (u_facts hfc hkC (u_lays (uws_at (args := args) G hW hk6) (fun w h => h) hj) hi).1
          rw [(fdc_at hk6 hj).1] at hi
          have hsv : cell.slots[f.slot]? = some (tv τ v) := by rw [hsl, q4 j hj, vpV_map hv]
          rcases lkF_at (args := args) G hW hw1 with hlk1 | hlk1
          · exact W.getf hx hb hown hlk1 hi hst q1 (by rw [q3]; exact fun h => by cases h) hsv rfl rfl hd (kk LS H locs cells slots hl hn hI hc hs)
          · exact va_Wgetf hx hb hown hlk1 hi hst q1 (by rw [q3]; exact fun h => by cases h) hsv rfl rfl hd (kk LS H locs cells slots hl hn hI hc hs)
        · cases ha
      · cases ha
    · cases ha
  · cases ha
theorem sp_putfield (i : Nat) : SP l s0 a0 τ D cA (.putfield i) 3 := by
  intro μ p e R s m args below meth c Q G F hM pc ls st h q LS H locs cells slots k0 z0 hd ha hl hn hI hc hs h1 h2 kk
  obtain ⟨hμ, hx, hb, hml, hown, hW, hBs, hLow, hfr, hlo, hlk, hrt, hnm, hex⟩ := F
  simp only [act, aPut] at ha
  split at ha
  · next v a r =>
    split at ha
    · next k fs he =>
      split at ha
      · next hq =>
        obtain ⟨hk, hP⟩ := hq
        obtain rfl := nx_inj ha
        have hA := hI.1.1 a
        rw [he] at hA
        obtain ⟨hk6, hlen, cell, q1, q2, q3, q4⟩ := hA
        unfold okP at hP
        simp only [Bool.and_eq_true, decide_eq_true_eq, Bool.or_eq_true] at hP
        obtain ⟨⟨⟨ht, hj0⟩, hf⟩, hfin⟩ := hP
        have hj : (lkf (mt μ).2.1 i).2.2.1 < nFd k := by rw [← hlen]; exact hj0
        obtain ⟨-, hw⟩ := okM_e hM (i := i) (by omega)
        have hw1 : lkF (yM μ).cls i (cNm k) (tFd k (lkf (mt μ).2.1 i).2.2.1).2.1 (tFd k (lkf (mt μ).2.1 i).2.2.1).2.2.1 ∈ lw_tbl := hw _ (by unfold wdE; rw [if_pos ht, ← hk]; exact List.mem_cons_self)
        generalize (lkf (mt μ).2.1 i).2.2.1 = j at hj hw1 hf hfin hj0 kk
        obtain ⟨hS, hfc, kC, hkC, hkind⟩ := kn_at G hW hk6
        obtain ⟨cf, kf, fi, f, hi, hsl⟩ := hS j hj
        have hlays := u_lays (uws_at (args := args) G hW hk6) (fun w h => h) hj
        have hst := (u_facts hfc hkC hlays hi).1
        obtain ⟨hn1, hn2⟩ := fd_fit τ hk6 hj hf
        have hi' := hi
        rw [(fdc_at hk6 hj).1] at hi'
        have hlt : f.slot < cell.slots.size := by rw [hsl]; exact k2_hasslot (q4 j hj)
        have fin : ∀ (H' : Heap), H'[τ a]? = some (cell.setSlot f.slot (tv τ v)) → H'.size = H.size → (∀ q, q ≠ τ a → H'[q]? = H[q]?) → W p l e R s m args below meth c H' (locs ++ [⟨τ a, f.slot⟩]) cells slots Q (F0 m (pc + 3) LS (r.map (tv τ))) := by
          intro H' e1 e2 e3
          refine kk LS H' _ cells slots hl hn (hI.put τ D cA s0 G.2.1 (by rw [he]; exact fun z => z) ?_ e2 e3) hc hs
          refine ⟨hk6, by rw [List.length_set]; exact hlen, _, e1, q2, q3, ?_⟩
          rw [hsl]
          intro y hy
          rw [t_set q4 (ap_at G hW args hk6) hj (tv τ v) y hy, List.map_set]
          exact congrArg some (vp_updV_set (by rw [List.length_map]; exact hj0) (tv τ v) y)
        by_cases hfb : (fdF k).getD j true = true
        · have hw2 : (lkf (mt μ).2.1 i).1 = 0 ∧ (mt μ).2.2.1.2 = k + 1 := by
            rcases hfin with z | z
            · rw [hfb] at z; cases z
            · exact z
          have hlay := uws_at (args := args) G hW hk6 _ (u_in_lay hj)
          unfold u_lay at hlay
          rw [if_pos ((fdc_at hk6 hj).2.2.1.trans hfb)] at hlay
          have hrk : rkc (mt μ).2.2.1.2 (rtM μ) (yM μ) = true := by
            have := hM
            unfold okM at this
            simp only [Bool.and_eq_true] at this
            exact this.2.2.2.2.2.1
          have hy : (yM μ).name = "<init>" ∧ (yM μ).cls = cNm k := by
            unfold rkc at hrk
            rw [hw2.2] at hrk
            rw [if_neg (by omega), if_neg (by omega), if_neg (by omega), if_neg (by omega), if_neg (by omega), if_neg (by omega)] at hrk
            simp only [Bool.and_eq_true, beq_iff_eq, Nat.add_sub_cancel] at hrk
            exact hrk.2.2.2
          have hcf : m.cls = cf := by
            obtain ⟨_, _, c', _, _, _, -, -, hf', -, -, -, hown2, -⟩ := Cond.laysFinal_spec hlay
            have e1 : c' = cf := by have := hi.symm.trans hf'; simp at this; exact this.1.symm
            rw [(fdc_at hk6 hj).1, ← hy.2] at hown2
            rw [← e1]; exact Option.some.inj (hown.symm.trans hown2)
          have h6 := u_fits hfc hkC hkind hlays hi (fdc_at hk6 hj).2.1 hn1 hn2
          rcases lkF_at (args := args) G hW hw1 with hlk1 | hlk1
          · exact W.putFinK hx hb hown hlk1 hi' hst hcf (hnm.trans hy.1) (by rw [q2]; exact h6) q1 q3 hlt rfl rfl hd fin
          · refine va_Wputf hx hb hown hlk1 hi' hst (Or.inr ⟨hcf, hnm.trans hy.1⟩) q1 (by rw [q3]; exact fun h => by cases h) hlt h6.1 (by rw [q2, q3]; exact h6.2) rfl rfl hd ?_
            have hsz : τ a < H.size := (Array.getElem?_eq_some_iff.mp q1).1
            exact fin _ (by simp [Array.getElem?_setIfInBounds, hsz]) (by simp) (fun q hq => by simp [Array.getElem?_setIfInBounds, Ne.symm hq])
        · have hlay := uws_at (args := args) G hW hk6 _ (u_in_lay hj)
          unfold u_lay at hlay
          rw [if_neg (by rw [(fdc_at hk6 hj).2.2.1]; exact hfb)] at hlay
          have h6 := u_store hfc hkC hkind hlay hi (fdc_at hk6 hj).2.1 hn1 hn2
          rcases lkF_at (args := args) G hW hw1 with hlk1 | hlk1
          · exact W.putK hx hb (f := f) ⟨hown, hlk1, ⟨_, _, _, hi'⟩, hst⟩ (by rw [q2]; exact h6) q1 q3 hlt rfl rfl hd fin
          · exact va_WputK hx hb (f := f) hown hlk1 hi' hst (by rw [q2]; exact h6) q1 q3 hlt rfl rfl hd fin
      · cases ha
    · cases ha
  · cases ha
theorem sp_new (i : Nat) : SP l s0 a0 τ D cA (.new i) 3 := by
  intro μ p e R s m args below meth c Q G F hM pc ls st h q LS H locs cells slots k0 z0 hd ha hl hn hI hc hs h1 h2 kk
  obtain ⟨hμ, hx, hb, hml, hown, hW, hBs, hLow, hfr, hlo, hlk, hrt, hnm, hex⟩ := F
  simp only [act, aNew] at ha
  split at ha
  · next ht =>
    split at ha
    · next hex1 =>
      obtain rfl := nx_inj ha
      obtain ⟨⟨z, x, k1, n1⟩, cc⟩ := h
      simp only at hex1
      subst hex1
      obtain ⟨hck, hw⟩ := okM_e hM (i := i) (by rw [ht]; decide)
      have hk6 : (lkf (mt μ).2.1 i).2.1 < 6 := by
        unfold chkE at hck
        rw [ht] at hck
        simpa using hck
      have hw1 : Cond.classLink (yM μ).cls i (cNm (lkf (mt μ).2.1 i).2.1) ∈ lw_tbl := hw _ (by unfold wdE; rw [ht]; simp)
      generalize (lkf (mt μ).2.1 i).2.1 = k at hk6 hw1 kk h1 h2
      have hKn := kn_at G hW hk6
      have hlen := dfl_len k
      have h1' : k1 + 1 ≤ k0 + R.cells := h1
      have h2' : n1 + (dfl k).length ≤ z0 + R.slots := h2
      have hc' : cells + k0 = k1 := hc
      have hs' : slots + z0 = n1 := hs
      refine W.newcK hx hb hown (wd_at G hW hw1 rfl) (gw_at G hW (gW_cls hk6).1 rfl) (gw_at G hW (gW_cls hk6).2.1 rfl) rfl hd (by omega) (by omega) hKn.2.1 rfl fun H1 kC hkC e1 z1 o1 => ?_
      have hOB := (u_born (yFd k) (uws_at (args := args) G hW hk6) (fun w h => h) hKn hkC e1 (fun j hj => (fdc_at hk6 hj).2.1)).to (V' := vp_V ((dfl k).map (tv τ))) (fun j hj => by rw [dfl_tv]; exact dfl_at hk6 hj)
      obtain ⟨g1, g2⟩ := hI.push (b := true) (k2 := k1 + 1) (n2 := n1 + (dfl k).length) (x := cO k (dfl k)) G.2.1 ⟨hk6, hlen, hOB⟩ z1 o1
      have := kk LS H1 locs (cells + 1) (slots + nFd k) hl hn g2 (show cells + 1 + k0 = k1 + 1 by omega) (show slots + nFd k + z0 = n1 + (dfl k).length by omega)
      rw [g1]
      exact this
    · cases ha
  · split at ha
    · cases ha
    · cases ha
theorem sp_newI : SP l s0 a0 τ D cA (.newarray .int) 2 := by
  intro μ p e R s m args below meth c Q G F hM pc ls st h q LS H locs cells slots k0 z0 hd ha hl hn hI hc hs h1 h2 kk
  obtain ⟨hμ, hx, hb, hml, hown, hW, hBs, hLow, hfr, hlo, hlk, hrt, hnm, hex⟩ := F
  simp only [act, aNewI, reduceCtorEq, if_true, if_false] at ha
  split at ha
  · next n r =>
    split at ha
    · next hq =>
      obtain ⟨hn0, hn1, hex1⟩ := hq
      obtain rfl := nx_inj ha
      obtain ⟨⟨z, x, k1, n1⟩, cc⟩ := h
      simp only at hex1
      subst hex1
      have h1' : k1 + 1 ≤ k0 + R.cells := h1
      have h2' : n1 + n.toNatClampNeg ≤ z0 + R.slots := h2
      have hc' : cells + k0 = k1 := hc
      have hs' : slots + z0 = n1 := hs
      refine va_newaK (atype := .int) hx hb (gw_at G hW (w := .arrayClass .int) (List.mem_append_right _ (by simp)) rfl) rfl hd rfl hn0 rfl (Nat.le_trans (Nat.mul_le_mul_right _ hn1) (Nat.le_of_ble_eq_true rfl)) (by omega) (by omega) rfl fun H1 cA1 e1 z1 o1 hAr hNm => ?_
      have hcA : cA1 = cA 0 := by
        have g := G.2.2.2.1.2
        rw [hW.alike.findClass] at hNm
        exact Option.some.inj (hNm.symm.trans g)
      obtain ⟨g1, g2⟩ := hI.push (b := true) (k2 := k1 + 1) (n2 := n1 + n.toNatClampNeg) (x := cI n.toNatClampNeg (fun _ => 0)) G.2.1 (show H1[H.size]? = _ from e1.trans (by rw [hcA]; rfl)) z1 o1
      have := kk LS H1 locs (cells + 1) (slots + n.toNatClampNeg) hl hn g2 (show cells + 1 + k0 = k1 + 1 by omega) (show slots + n.toNatClampNeg + z0 = n1 + n.toNatClampNeg by omega)
      rw [g1]
      exact this
    · cases ha
  · cases ha
theorem sp_newJ : SP l s0 a0 τ D cA (.newarray .long) 2 := by
  intro μ p e R s m args below meth c Q G F hM pc ls st h q LS H locs cells slots k0 z0 hd ha hl hn hI hc hs h1 h2 kk
  obtain ⟨hμ, hx, hb, hml, hown, hW, hBs, hLow, hfr, hlo, hlk, hrt, hnm, hex⟩ := F
  simp only [act, aNewJ, reduceCtorEq, if_true, if_false] at ha
  split at ha
  · next n r =>
    split at ha
    · next hq =>
      obtain ⟨hn0, hn1, hex1⟩ := hq
      obtain rfl := nx_inj ha
      obtain ⟨⟨z, x, k1, n1⟩, cc⟩ := h
      simp only at hex1
      subst hex1
      have h1' : k1 + 1 ≤ k0 + R.cells := h1
      have h2' : n1 + n.toNatClampNeg ≤ z0 + R.slots := h2
      have hc' : cells + k0 = k1 := hc
      have hs' : slots + z0 = n1 := hs
      refine va_newaK (atype := .long) hx hb (gw_at G hW (w := .arrayClass .long) (List.mem_append_right _ (by simp)) rfl) rfl hd rfl hn0 rfl (Nat.le_trans (Nat.mul_le_mul_right _ hn1) (Nat.le_of_ble_eq_true rfl)) (by omega) (by omega) rfl fun H1 cA1 e1 z1 o1 hAr hNm => ?_
      have hcA : cA1 = cA 1 := by
        have g := G.2.2.2.2.1.2
        rw [hW.alike.findClass] at hNm
        exact Option.some.inj (hNm.symm.trans g)
      obtain ⟨g1, g2⟩ := hI.push (b := true) (k2 := k1 + 1) (n2 := n1 + n.toNatClampNeg) (x := cL n.toNatClampNeg (fun _ => 0)) G.2.1 (show H1[H.size]? = _ from e1.trans (by rw [hcA]; rfl)) z1 o1
      have := kk LS H1 locs (cells + 1) (slots + n.toNatClampNeg) hl hn g2 (show cells + 1 + k0 = k1 + 1 by omega) (show slots + n.toNatClampNeg + z0 = n1 + n.toNatClampNeg by omega)
      rw [g1]
      exact this
    · cases ha
  · cases ha
theorem gW_ao {t : Nat} (h : okA t = true) : Cond.arrayOver (.object (cNm t)) ∈ gW := by
  unfold okA at h
  simp only [Bool.or_eq_true, beq_iff_eq] at h
  rcases h with rfl | rfl | rfl
  · exact List.mem_append_right _ (by simp [cNm])
  · exact List.mem_append_right _ (by simp [cNm])
  · exact List.mem_append_right _ (by simp [cNm])
theorem okA_lt {t : Nat} (h : okA t = true) : t < 6 := by
  unfold okA at h
  simp only [Bool.or_eq_true, beq_iff_eq] at h
  omega
theorem sp_anewarray (i : Nat) : SP l s0 a0 τ D cA (.anewarray i) 3 := by
  intro μ p e R s m args below meth c Q G F hM pc ls st h q LS H locs cells slots k0 z0 hd ha hl hn hI hc hs h1 h2 kk
  obtain ⟨hμ, hx, hb, hml, hown, hW, hBs, hLow, hfr, hlo, hlk, hrt, hnm, hex⟩ := F
  simp only [act, aNewR] at ha
  split at ha
  · next n r =>
    split at ha
    · next hq =>
      obtain ⟨ht, hA, hn0, hn1, hex1⟩ := hq
      obtain rfl := nx_inj ha
      obtain ⟨⟨z, x, k1, n1⟩, cc⟩ := h
      simp only at hex1
      subst hex1
      obtain ⟨-, hw⟩ := okM_e hM (i := i) (by rw [ht]; decide)
      have hw1 : Cond.classLink (yM μ).cls i (cNm (lkf (mt μ).2.1 i).2.1) ∈ lw_tbl := hw _ (by unfold wdE; rw [ht]; simp)
      generalize (lkf (mt μ).2.1 i).2.1 = t at hA hw1 kk h1 h2
      have h1' : k1 + 1 ≤ k0 + R.cells := h1
      have h2' : n1 + n.toNatClampNeg ≤ z0 + R.slots := h2
      have hc' : cells + k0 = k1 := hc
      have hs' : slots + z0 = n1 := hs
      have hao : (Cond.arrayOver (.object (cNm t))).before args s = true := va_AO.use (va_AO.moved hW.alike (va_AO.of (G.1 _ (gW_mem (gW_ao hA)))))
      refine W.anew hx hb hown (wd_at G hW hw1 rfl) hao rfl hd rfl hn0 (Nat.le_trans (Nat.mul_le_mul_right _ hn1) (Nat.le_of_ble_eq_true rfl)) (by omega) (by omega) fun cA1 kA comp f1 f2 f3 f4 => ?_
      have hcA : cA1 = cA (2 + t) := by
        obtain ⟨-, -, -, -, -, g⟩ := (G.2.2.2.2.2.1 t hA).2
        rw [hW.alike.findClass] at f1
        exact Option.some.inj (f1.symm.trans g)
      have e1 : (H.push { cls := cA1, slots := Array.replicate n.toNatClampNeg .null, vm := .none })[H.size]? = some (arrV (cA (2 + t)) n.toNatClampNeg (fun j => tv τ (va_rf ((fun _ => none : Nat → Option Nat) j)))) := by
        rw [hcA, arrV_new]
        simp
        rfl
      obtain ⟨g1, g2⟩ := hI.push (b := true) (k2 := k1 + 1) (n2 := n1 + n.toNatClampNeg) (x := cR t n.toNatClampNeg (fun _ => none)) G.2.1 ⟨hA, e1⟩ (by simp) (fun q hq => by rw [Array.getElem?_push, if_neg (Nat.ne_of_lt hq)])
      have := kk LS _ locs (cells + 1) (slots + n.toNatClampNeg) hl hn g2 (show cells + 1 + k0 = k1 + 1 by omega) (show slots + n.toNatClampNeg + z0 = n1 + n.toNatClampNeg by omega)
      rw [g1]
      exact this
    · cases ha
  · cases ha
theorem nR {x : VmData} (h : x = .none) : x ≠ .unknown := by rw [h]; exact fun q => by cases q
theorem sp_iaload : SP l s0 a0 τ D cA (.iaload) 1 := by
  intro μ p e R s m args below meth c Q G F hM pc ls st h q LS H locs cells slots k0 z0 hd ha hl hn hI hc hs h1 h2 kk
  obtain ⟨hμ, hx, hb, hml, hown, hW, hBs, hLow, hfr, hlo, hlk, hrt, hnm, hex⟩ := F
  simp only [act, aIld] at ha
  split at ha
  · next i a r =>
    split at ha
    · next n f he =>
      split at ha
      · next hi =>
        obtain rfl := nx_inj ha
        have hA := hI.1.1 a
        rw [he] at hA
        exact W.iald (v := .int (f i.toNatClampNeg)) hx hb hA (arrOfT_moved hW.alike G.2.2.2.1.1 _ _) (fun q => by cases q) (by rw [arrV_size]; exact inB_of hi) (by rw [arrV_read _ _ (inB_lt hi)]) rfl rfl hd (kk LS H locs cells slots hl hn hI hc hs)
      · cases ha
    · next n f he =>
      split at ha
      · next hi =>
        obtain rfl := nx_inj ha
        have hA := hI.1.1 a
        rw [he] at hA
        obtain ⟨scr, x1, x2, x3, x4, x5⟩ := hA
        exact W.iald (v := .int (f i.toNatClampNeg)) hx hb x1 (State.isArrayOf_alike hW.alike x2) x3 (by rw [x4]; exact inB_of hi) (x5 _ (inB_lt hi)) rfl rfl hd (kk LS H locs cells slots hl hn hI hc hs)
      · cases ha
    · cases ha
  · cases ha
theorem sp_laload : SP l s0 a0 τ D cA (.laload) 1 := by
  intro μ p e R s m args below meth c Q G F hM pc ls st h q LS H locs cells slots k0 z0 hd ha hl hn hI hc hs h1 h2 kk
  obtain ⟨hμ, hx, hb, hml, hown, hW, hBs, hLow, hfr, hlo, hlk, hrt, hnm, hex⟩ := F
  simp only [act, aJld] at ha
  split at ha
  · next i a r =>
    split at ha
    · next n f he =>
      split at ha
      · next hi =>
        obtain rfl := nx_inj ha
        have hA := hI.1.1 a
        rw [he] at hA
        exact W.lald (v := .long (f i.toNatClampNeg)) hx hb hA (arrOfT_moved hW.alike G.2.2.2.2.1.1 _ _) (fun q => by cases q) (by rw [arrV_size]; exact inB_of hi) (by rw [arrV_read _ _ (inB_lt hi)]) rfl rfl hd (kk LS H locs cells slots hl hn hI hc hs)
      · cases ha
    · cases ha
  · cases ha
theorem sp_aaload : SP l s0 a0 τ D cA (.aaload) 1 := by
  intro μ p e R s m args below meth c Q G F hM pc ls st h q LS H locs cells slots k0 z0 hd ha hl hn hI hc hs h1 h2 kk
  obtain ⟨hμ, hx, hb, hml, hown, hW, hBs, hLow, hfr, hlo, hlk, hrt, hnm, hex⟩ := F
  simp only [act, aAld] at ha
  split at ha
  · next i a r =>
    split at ha
    · next t n f he =>
      split at ha
      · next hi =>
        obtain rfl := nx_inj ha
        have hA := hI.1.1 a
        rw [he] at hA
        exact W.aald (v := tv τ (va_rf (f i.toNatClampNeg))) (ty := .object (cNm t)) hx hb hA.2 (arrOfT_moved hW.alike (G.2.2.2.2.2.1 t hA.1).1 _ _) rfl (fun q => by cases q) (by rw [arrV_size]; exact inB_of hi) (by rw [arrV_read _ _ (inB_lt hi)]) rfl rfl hd (kk LS H locs cells slots hl hn hI hc hs)
      · cases ha
    · cases ha
  · cases ha
theorem sp_alen : SP l s0 a0 τ D cA (.arraylength) 1 := by
  intro μ p e R s m args below meth c Q G F hM pc ls st h q LS H locs cells slots k0 z0 hd ha hl hn hI hc hs h1 h2 kk
  obtain ⟨hμ, hx, hb, hml, hown, hW, hBs, hLow, hfr, hlo, hlk, hrt, hnm, hex⟩ := F
  simp only [act, aLen] at ha
  split at ha
  · next a r =>
    split at ha
    · next n f he =>
      obtain rfl := nx_inj ha
      have hA := hI.1.1 a
      rw [he] at hA
      exact W.alen (n := nI n) hx hb hA (arrOfT_moved hW.alike G.2.2.2.1.1 _ _) (by rw [arrV_size]; rfl) rfl rfl hd (kk LS H locs cells slots hl hn hI hc hs)
    · next t n f he =>
      obtain rfl := nx_inj ha
      have hA := hI.1.1 a
      rw [he] at hA
      exact W.alen (n := nI n) hx hb hA.2 (arrOfT_moved hW.alike (G.2.2.2.2.2.1 t hA.1).1 _ _) (by rw [arrV_size]; rfl) rfl rfl hd (kk LS H locs cells slots hl hn hI hc hs)
    · next n f he =>
      obtain rfl := nx_inj ha
      have hA := hI.1.1 a
      rw [he] at hA
      exact W.alen (n := nI n) hx hb hA (arrOfT_moved hW.alike G.2.2.2.2.1.1 _ _) (by rw [arrV_size]; rfl) rfl rfl hd (kk LS H locs cells slots hl hn hI hc hs)
    · next n f he =>
      obtain rfl := nx_inj ha
      have hA := hI.1.1 a
      rw [he] at hA
      obtain ⟨scr, x1, x2, x3, x4, x5⟩ := hA
      exact W.alen (n := nI n) hx hb x1 (State.isArrayOf_alike hW.alike x2) (by rw [x4]; rfl) rfl rfl hd (kk LS H locs cells slots hl hn hI hc hs)
    · cases ha
  · cases ha
theorem upd_v (f : Nat → Int32) (k : Nat) (x : Int32) : updV (fun j => Value.int (f j)) k (.int x) = fun j => .int (upd f k x j) := by
  funext j
  unfold updV upd
  by_cases h : j = k
  · rw [if_pos h, if_pos h]
  · rw [if_neg h, if_neg h]
theorem upd_l (f : Nat → Int64) (k : Nat) (x : Int64) : updV (fun j => Value.long (f j)) k (.long x) = fun j => .long (vp_updL f k x j) := by
  funext j
  unfold updV vp_updL
  by_cases h : j = k
  · rw [if_pos h, if_pos h]
  · rw [if_neg h, if_neg h]
theorem upd_r (τ : Nat → Nat) (f : Nat → Option Nat) (k v : Nat) : updV (fun j => tv τ (va_rf (f j))) k (.ref (τ v)) = fun j => tv τ (va_rf (va_up f k (some v) j)) := by
  funext j
  unfold updV va_up
  by_cases h : j = k
  · rw [if_pos h, if_pos h]
    rfl
  · rw [if_neg h, if_neg h]
theorem sp_iastore : SP l s0 a0 τ D cA (.iastore) 1 := by
  intro μ p e R s m args below meth c Q G F hM pc ls st h q LS H locs cells slots k0 z0 hd ha hl hn hI hc hs h1 h2 kk
  obtain ⟨hμ, hx, hb, hml, hown, hW, hBs, hLow, hfr, hlo, hlk, hrt, hnm, hex⟩ := F
  simp only [act, aIst] at ha
  split at ha
  · next x i a r =>
    split at ha
    · next n f he =>
      split at ha
      · next hi =>
        obtain rfl := nx_inj ha
        have hA := hI.1.1 a
        rw [he] at hA
        refine W.iast hx hb hA (arrOfT_moved hW.alike G.2.2.2.1.1 _ _) (fun q => by cases q) (by rw [arrV_size]; exact inB_of hi) rfl rfl hd fun H1 e1 e2 e3 => ?_
        refine kk LS H1 _ cells slots hl hn (hI.put τ D cA s0 G.2.1 (by rw [he]; exact fun z => z) ?_ e2 e3) hc hs
        rw [arrV_store, upd_v] at e1
        exact e1
      · cases ha
    · cases ha
  · cases ha
theorem sp_lastore : SP l s0 a0 τ D cA (.lastore) 1 := by
  intro μ p e R s m args below meth c Q G F hM pc ls st h q LS H locs cells slots k0 z0 hd ha hl hn hI hc hs h1 h2 kk
  obtain ⟨hμ, hx, hb, hml, hown, hW, hBs, hLow, hfr, hlo, hlk, hrt, hnm, hex⟩ := F
  simp only [act, aJst] at ha
  split at ha
  · next x i a r =>
    split at ha
    · next n f he =>
      split at ha
      · next hi =>
        obtain rfl := nx_inj ha
        have hA := hI.1.1 a
        rw [he] at hA
        refine W.last hx hb hA (arrOfT_moved hW.alike G.2.2.2.2.1.1 _ _) (fun q => by cases q) (by rw [arrV_size]; exact inB_of hi) rfl rfl hd fun H1 e1 e2 e3 => ?_
        refine kk LS H1 _ cells slots hl hn (hI.put τ D cA s0 G.2.1 (by rw [he]; exact fun z => z) ?_ e2 e3) hc hs
        rw [arrV_store, upd_l] at e1
        exact e1
      · cases ha
    · cases ha
  · cases ha
theorem sp_aastore : SP l s0 a0 τ D cA (.aastore) 1 := by
  intro μ p e R s m args below meth c Q G F hM pc ls st h q LS H locs cells slots k0 z0 hd ha hl hn hI hc hs h1 h2 kk
  obtain ⟨hμ, hx, hb, hml, hown, hW, hBs, hLow, hfr, hlo, hlk, hrt, hnm, hex⟩ := F
  simp only [act, aAst] at ha
  split at ha
  · next v i a r =>
    split at ha
    · next t n f he =>
      split at ha
      · next k fs hv =>
        split at ha
        · next hq =>
          obtain ⟨hi, hkt⟩ := hq
          subst hkt
          obtain rfl := nx_inj ha
          have hA := hI.1.1 a
          rw [he] at hA
          have hV := hI.1.1 v
          rw [hv] at hV
          obtain ⟨hk6, hlen, cellV, g1, g2, g3, -⟩ := hV
          have hcls := (kn_at G hW hk6).2
          obtain ⟨kA, comp, k1, k2, k3, -⟩ := va_RA.moved hW.alike (G.2.2.2.2.2.1 k hA.1).2
          have hcomp : comp = D.1 k := Option.some.inj (k3.symm.trans hcls.1)
          subst hcomp
          obtain ⟨kC, hkC, -⟩ := hcls.2
          refine W.aast hx hb hA.2 (fun q h => by cases h) (fun h => by cases h) k1 k2 rfl hkC ⟨fun q => inB_of hi (Or.inl q), by rw [arrV_size]; exact inB_lt hi⟩ g1 (fun q h => by rw [g3] at h; cases h) (by rw [g2]; exact hkC) (by rw [g2]; exact va_assign hcls) rfl rfl hd fun H1 e1 e2 e3 => ?_
          refine kk LS H1 _ cells slots hl hn (hI.put τ D cA s0 G.2.1 (by rw [he]; exact fun z => z) ?_ e2 e3) hc hs
          rw [arrV_store, upd_r] at e1
          exact ⟨hA.1, e1⟩
        · cases ha
      · cases ha
    · cases ha
  · cases ha
theorem sp_getstatic (i : Nat) : SP l s0 a0 τ D cA (.getstatic i) 3 := by
  intro μ p e R s m args below meth c Q G F hM pc ls st h q LS H locs cells slots k0 z0 hd ha hl hn hI hc hs h1 h2 kk
  obtain ⟨hμ, hx, hb, hml, hown, hW, hBs, hLow, hfr, hlo, hlk, hrt, hnm, hex⟩ := F
  simp only [act] at ha
  split at ha
  · next ht =>
    obtain rfl := nx_inj ha
    obtain ⟨-, hw⟩ := okM_e hM (i := i) (by rw [ht]; decide)
    have hw1 : Cond.fieldLink (yM μ).cls i RX4 "WIDTHS" "[I" ∈ lw_tbl := hw _ (by unfold wdE; rw [ht]; simp)
    obtain ⟨cf, kf, fi, f, a, cell, z1, z2, z3, z4, z5, z6, z7, z8⟩ := va_Z.moved hW.alike G.2.2.2.2.2.2.1
    have hlt : a < s0.heap.size := (Array.getElem?_eq_some_iff.mp z5).1
    exact W.gets hx hb hown (wd_at G hW hw1 rfl) z1 z2 z3 z4 ((hI.2.2.1 a hlt).trans z5) (fun e => by rw [e] at z6; cases z6) z7 rfl hd (kk LS H locs cells slots hl hn hI hc hs)
  · cases ha
theorem min_sw (x y : Int32) : (if y < x then y else x) = if x < y then x else y := by
  by_cases h1 : x < y
  · have h2 : ¬ y < x := by
      rw [Int32.lt_iff_toInt_lt] at h1 ⊢
      omega
    rw [if_neg h2, if_pos h1]
  · rw [if_neg h1]
    by_cases h2 : y < x
    · rw [if_pos h2]
    · rw [if_neg h2]
      apply Int32.toInt_inj.mp
      rw [Int32.lt_iff_toInt_lt] at h1 h2
      omega
theorem catS_le {τ : Nat → Nat} {r : List Value} {n : Nat} (h : catS r ≤ n) : ((r.map (tv τ)).map fun v => v.category).sum ≤ n := by rw [tv_map_cat]; exact h
/-- System.arraycopy of ints, with all that stays -/
theorem acpy_W {cc : ByteArray} {ls : Array Slot} {pc : Nat} {rest : List Value} (hexec : p.tables.exec = Jvm.exec) (hb : c.code = cc) (hml : c.maxLocals = ls.size) {own : String} {index : Nat} (hown : s.vm.findClass own = some m.cls) (hlink : (Cond.methodLink own index arraycopyName).before args s = true) (hnat : (Cond.native arraycopyName).before args s = true) (hstat : (Cond.static arraycopyName).before args s = true) (hini : (Cond.initialized "java/lang/System").before args s = true)
    {cI : ClassId} (hArr : ArrOfT s cI .int) {a a0 : Nat} {n0 n1 : Nat} {f g : Nat → Int32} (hc0 : H[a0]? = some (arrV cI n0 (fun j => .int (f j)))) (hc1 : H[a]? = some (arrV cI n1 (fun j => .int (g j))))
    {sp dp n : Int32} (h1 : ¬ sp < 0) (h2 : ¬ dp < 0) (h3 : ¬ n < 0) (h4 : sp.toNatClampNeg + n.toNatClampNeg ≤ n0) (h5 : dp.toNatClampNeg + n.toNatClampNeg ≤ n1)
    (hframes : 1 ≤ R.frames) (hlocals : (rest.map fun v => v.category).sum + (nativeFrameWords "java/lang/System" "arraycopy" 5 + 11) ≤ R.locals) (hdg : decode cc pc = .ok (.invokestatic index, 3))
    (kk : ∀ (H1 : Heap) (locs1 : List Loc), H1[a]? = some (arrV cI n1 (fun j => .int (va_cpy f g sp.toNatClampNeg dp.toNatClampNeg n.toNatClampNeg j))) → H1.size = H.size → (∀ q, q ≠ a → H1[q]? = H[q]?) → (∀ z ∈ locs1, z ∈ locs ∨ z.base = a) → W p l e R s m args below meth c H1 locs1 cells slots Q (F0 m (pc + 3) ls rest)) : W p l e R s m args below meth c H locs cells slots Q (F0 m pc ls (.int n :: .int dp :: .ref a :: .int sp :: .ref a0 :: rest)) := by
  have nn : ∀ z : Int32, ¬ z < 0 → z.toInt = (z.toNatClampNeg : Int) := by
    intro z hz
    have hz0 : (0 : Int) ≤ z.toInt := by
      have := Int32.not_lt.mp hz
      simpa using Int32.le_iff_toInt_le.mp this
    show z.toInt = ((z.toInt.toNat : Nat) : Int)
    omega
  intro T hT X
  have hc0 : H[a0]? = some (vp_cell cI (n0, .inl f)) := hc0
  have hc1 : H[a]? = some (vp_cell cI (n1, .inl g)) := hc1
  obtain ⟨-, k0, hk0, cm0, hkk0⟩ := hArr n0 (fun j => .int (f j))
  obtain ⟨-, k1, hk1, cm1, hkk1⟩ := hArr n1 (fun j => .int (g j))
  obtain ⟨vm', X', step⟩ := X.arraycopy hexec hown hlink hnat hstat hini (src := a0) (dst := a) (cs := vp_cell cI (n0, .inl f)) (cd := vp_cell cI (n1, .inl g)) (srcPos := sp) (destPos := dp) (n := n) (by rw [hT]; exact hc0) (by rw [hT]; exact hc1)
    (fun _ h => by cases h) (fun _ h => by cases h) (fun h => by cases h) (fun h => by cases h) hk0 hk1 hkk0 hkk1 (by rfl) h1 h2 h3
    (by rw [nn sp h1, nn n h3]; show ¬ _ > ((arrV cI n0 (fun j => .int (f j))).slots.size : Int); rw [arrV_size]; omega)
    (by rw [nn dp h2, nn n h3]; show ¬ _ > ((arrV cI n1 (fun j => .int (g j))).slots.size : Int); rw [arrV_size]; omega)
    (fun vm₁ _ i hi => by
      have e : (vp_cell cI (n0, .inl f)).slots.getD (sp.toNatClampNeg + i) .null = .int (f (sp.toNatClampNeg + i)) := by
        show (arrV cI n0 (fun j => .int (f j))).slots.getD _ _ = _
        rw [Array.getD_eq_getD_getElem?, arrV_read _ _ (by omega)]
        rfl
      refine ⟨?_, ?_⟩
      · rw [e]
        rfl
      · rw [e]
        exact trivial)
    (g := F0 m pc ls (.int n :: .int dp :: .ref a :: .int sp :: .ref a0 :: rest)) rfl (by rw [hml]) (rest := rest) rfl (by rw [hb]; exact hdg) hframes (by show 2 * 0 + _ + _ ≤ _; omega)
  have e1 : copied (vp_cell cI (n0, .inl f)) (vp_cell cI (n1, .inl g)) sp dp n = vp_cell cI (n1, .inl (va_cpy f g sp.toNatClampNeg dp.toNatClampNeg n.toNatClampNeg)) := va_copied (fun z => .int z) cI cI f g h4
  rw [e1] at X' step
  have hl : a < H.size := (Array.getElem?_eq_some_iff.mp hc1).1
  have hheap : ((T.setVm vm').setCell a (vp_cell cI (n1, .inl (va_cpy f g sp.toNatClampNeg dp.toNatClampNeg n.toNatClampNeg)))).heap = H.setIfInBounds a (vp_cell cI (n1, .inl (va_cpy f g sp.toNatClampNeg dp.toNatClampNeg n.toNatClampNeg))) := by rw [← hT]; rfl
  obtain ⟨t, a1, b1⟩ := kk _ _ (by rw [show arrV cI n1 (fun j => .int (va_cpy f g sp.toNatClampNeg dp.toNatClampNeg n.toNatClampNeg j)) = vp_cell cI (n1, .inl (va_cpy f g sp.toNatClampNeg dp.toNatClampNeg n.toNatClampNeg)) from rfl]; simp [Array.getElem?_setIfInBounds, hl]) (by simp) (fun q hq => by simp [Array.getElem?_setIfInBounds, Ne.symm hq]) (fun q hq => by
      rcases List.mem_append.mp hq with h | h
      · exact Or.inl h
      · obtain ⟨z, -, hz⟩ := List.mem_map.mp h
        exact Or.inr (by rw [← hz])) _ hheap X'
  exact ⟨t, step t a1, b1⟩
theorem sp_invokestaticN (i : Nat) : SP l s0 a0 τ D cA (.invokestatic i) 3 := by
  intro μ p e R s m args below meth c Q G F hM pc ls st h q LS H locs cells slots k0 z0 hd ha hl hn hI hc hs h1 h2 kk
  obtain ⟨hμ, hx, hb, hml, hown, hW, hBs, hLow, hfr, hlo, hlk, hrt, hnm, hex⟩ := F
  simp only [act, aSta] at ha
  split at ha
  · unfold cal at ha
    split at ha <;> cases ha
  · split at ha
    · next ht3 ht =>
      obtain ⟨hck, hw⟩ := okM_e hM (i := i) (by rw [ht]; decide)
      have hw1 : Cond.methodLink (yM μ).cls i (natN (lkf (mt μ).2.1 i).2.1) ∈ lw_tbl := hw _ (by unfold wdE; rw [ht]; simp)
      have hck1 : 1 ≤ (rmM μ).1 ∧ (26 ≤ (rmM μ).2 ∨ ((lkf (mt μ).2.1 i).2.1 ≤ 1 ∧ 21 ≤ (rmM μ).2)) := by
        unfold chkE at hck
        rw [ht] at hck
        simpa using hck
      generalize (lkf (mt μ).2.1 i).2.1 = t at hck1 hw1 ha
      split at ha
      · next h0 =>
        subst h0
        split at ha
        · next y x r =>
          split at ha
          · next hr =>
            obtain rfl := nx_inj ha
            have hr' := catS_le (τ := τ) hr
            have h1' : h.1.2.2.1 ≤ k0 + R.cells := h1
            have h2' : h.1.2.2.2 ≤ z0 + R.slots := h2
            have hls : c.maxLocals = LS.size := by rw [hml, ← hn]; exact hl.1.symm
            refine va_mmax hx hb hls hown (wd_at G hW hw1 rfl) (gw_at G hW (w := .static Lib.Math.max.name) (List.mem_append_right _ (by simp)) rfl) (gw_at G hW (w := .initialized "java/lang/Math") (List.mem_append_right _ (by simp)) rfl) (gw_at G hW (w := .code Lib.Math.max.name Lib.Math.max.code 2 (some .int)) (List.mem_append_right _ (by simp)) rfl) (by omega) (by omega) (by omega) (by omega) hd (kk LS H locs cells slots hl hn hI hc hs)
          · cases ha
        · cases ha
      · split at ha
        · next h0 =>
          subst h0
          split at ha
          · next y x r =>
            split at ha
            · next hr =>
              obtain rfl := nx_inj ha
              have hr' := catS_le (τ := τ) hr
              have h1' : h.1.2.2.1 ≤ k0 + R.cells := h1
              have h2' : h.1.2.2.2 ≤ z0 + R.slots := h2
              have hls : c.maxLocals = LS.size := by rw [hml, ← hn]; exact hl.1.symm
              refine va_mmin hx hb hls hown (wd_at G hW hw1 rfl) (gw_at G hW (w := .static Lib.Math.min.name) (List.mem_append_right _ (by simp)) rfl) (gw_at G hW (w := .initialized "java/lang/Math") (List.mem_append_right _ (by simp)) rfl) (gw_at G hW (w := .code Lib.Math.min.name Lib.Math.min.code 2 (some .int)) (List.mem_append_right _ (by simp)) rfl) (by omega) (by omega) (by omega) (by omega) hd ?_
              rw [min_sw]
              exact (kk LS H locs cells slots hl hn hI hc hs)
            · cases ha
          · cases ha
        · next h00 h01 =>
          unfold aCpy at ha
          split at ha
          · next n dp d sp sq r =>
            split at ha
            · next n0 f hes =>
              split at ha
              · next n1 g hed =>
                split at ha
                · next hq =>
                  obtain ⟨hr, y1, y2, y3, y4, y5⟩ := hq
                  obtain rfl := nx_inj ha
                  have hr' := catS_le (τ := τ) hr
                  have hls : c.maxLocals = LS.size := by rw [hml, ← hn]; exact hl.1.symm
                  have hnat : natN t = arraycopyName := by unfold natN; rw [if_neg h00, if_neg h01]
                  rw [hnat] at hw1
                  have hA := hI.1.1 sq
                  rw [hes] at hA
                  have hB := hI.1.1 d
                  rw [hed] at hB
                  refine acpy_W hx hb hls hown (wd_at G hW hw1 rfl) (gw_at G hW (w := .native arraycopyName) (List.mem_append_right _ (by simp)) rfl) (gw_at G hW (w := .static arraycopyName) (List.mem_append_right _ (by simp)) rfl) (gw_at G hW (w := .initialized "java/lang/System") (List.mem_append_right _ (by simp)) rfl) (arrOfT_moved hW.alike G.2.2.2.1.1) hA hB y1 y2 y3 y4 y5 (by omega) (by show _ + (7 + 11) ≤ _; omega) hd fun H1 locs1 e1 e2 e3 e4 => ?_
                  refine kk LS H1 locs1 cells slots hl hn ?_ hc hs
                  have hP := hI.put τ D cA s0 (x := cI n1 (va_cpy f g sp.toNatClampNeg dp.toNatClampNeg n.toNatClampNeg)) (k := 0) G.2.1 (by rw [hed]; exact fun z => z) e1 e2 e3
                  refine ⟨hP.1, hP.2.1, hP.2.2.1, fun z hz => ?_⟩
                  rcases e4 z hz with h9 | h9
                  · exact hI.2.2.2 z h9
                  · rw [h9]
                    exact hP.2.2.2 ⟨τ d, 0⟩ (by simp)
                · cases ha
              · cases ha
            · cases ha
          · cases ha
    · cases ha
theorem sp_objinit (i : Nat) : SP l s0 a0 τ D cA (.invokespecial i) 3 := by
  intro μ p e R s m args below meth c Q G F hM pc ls st h q LS H locs cells slots k0 z0 hd ha hl hn hI hc hs h1 h2 kk
  obtain ⟨hμ, hx, hb, hml, hown, hW, hBs, hLow, hfr, hlo, hlk, hrt, hnm, hex⟩ := F
  simp only [act, aSpc] at ha
  split at ha
  · unfold cal at ha
    split at ha <;> cases ha
  · split at ha
    · next ht3 ht =>
      split at ha
      · next a =>
        obtain rfl := nx_inj ha
        obtain ⟨hck, hw⟩ := okM_e hM (i := i) (by rw [ht]; decide)
        have hw1 : Cond.methodLink (yM μ).cls i Lib.objectInit ∈ lw_tbl := hw _ (by unfold wdE; rw [ht]; simp)
        have hck1 : 1 ≤ (rmM μ).1 ∧ 12 ≤ (rmM μ).2 := by
          unfold chkE at hck
          rw [ht] at hck
          simpa using hck
        have hls : LS.size = c.maxLocals := by rw [hml, ← hn]; exact hl.1
        exact W.objInit hx hb hown (wd_at G hW hw1 rfl) (gw_at G hW (w := .instanceMethod Lib.objectInit) (List.mem_append_right _ (by simp)) rfl) (gw_at G hW (w := .code Lib.objectInit ⟨#[0xb1]⟩ 1 none) (List.mem_append_right _ (by simp)) rfl) (g := F0 m pc LS [.ref (τ a)]) rfl hls rfl hd (by omega) (by show 2 * 0 + 0 + 12 ≤ _; omega) (kk LS H locs cells slots hl hn hI hc hs)
      · cases ha
    · cases ha
end SND
end
section
/-! SOUND 5: counts; how a call begins; how a method ends -/
set_option maxHeartbeats 4000000 in
theorem act_cnt {M : MI} {ins : ClassFile.Instr} {len pc : Nat} {ls : VLs} {st : List Value} {h : VH} {q : Nat × VLs × List Value × VH} (ha : act M ins len pc ls st h = some (Sum.inl q)) : h.1.2.2.1 ≤ q.2.2.2.1.2.2.1 ∧ h.1.2.2.2 ≤ q.2.2.2.1.2.2.2 := by
  cases ins <;> first
    | (exact absurd (show (none : Option VA) = some (Sum.inl q) from ha) (fun z => by cases z))
    | (simp only [act, ldl, ldI, ldJ, ldD, ldA, stI, stA, stJ, stD, nx, jmp, bra, aGet, aPut, aNewI, aNewJ, aNewR, aNew, aIld, aJld, aAld, aIst, aJst, aAst, aLen, aCpy, aSta, aVir, aSpc, aTab, cal] at ha
       repeat' split at ha
       all_goals first
         | (cases ha; done)
         | (cases ha; exact ⟨Nat.le_refl _, Nat.le_refl _⟩)
         | (cases ha; exact ⟨Nat.le_add_right _ _, Nat.le_add_right _ _⟩))
theorem run_cnt : ∀ (f : Nat) {M : MI} {pc : Nat} {ls : VLs} {st : List Value} {h : VH} {x : VR}, run f M pc ls st h = some x → h.1.2.2.1 ≤ x.2.1.2.2.1 ∧ h.1.2.2.2 ≤ x.2.1.2.2.2 := by
  intro f
  induction f with
  | zero => intro M pc ls st h x hx; cases hx
  | succ f ih =>
    intro M pc ls st h x hx
    rw [run] at hx
    cases hd : decode M.1 pc with
    | error e => rw [hd] at hx; cases hx
    | ok q =>
      rw [hd] at hx
      obtain ⟨ins, len⟩ := q
      simp only at hx
      by_cases ho : okL ins len = true
      case neg => rw [if_neg ho] at hx; cases hx
      rw [if_pos ho] at hx
      cases ha : act M ins len pc ls st h with
      | none => rw [ha] at hx; cases hx
      | some a =>
        rw [ha] at hx
        rcases a with q | ⟨μ, as, rest⟩ | v | E
        · have g := act_cnt ha
          have g2 := ih hx
          exact ⟨Nat.le_trans g.1 g2.1, Nat.le_trans g.2 g2.2⟩
        · simp only [stepc] at hx
          by_cases he : (entA as).length ≤ (mt μ).2.2.1.1
          case neg => rw [if_neg he] at hx; cases hx
          rw [if_pos he] at hx
          cases h1 : run f (mt μ) 0 (entL (mt μ).2.2.1.1 as) [] h with
          | none => rw [h1] at hx; cases hx
          | some y =>
            rw [h1] at hx
            have g := ih h1
            obtain ⟨v | E, h'⟩ := y
            · have g2 := ih hx
              exact ⟨Nat.le_trans g.1 g2.1, Nat.le_trans g.2 g2.2⟩
            · simp only at hx
              cases h2 : hnd M.2.2.2 pc E with
              | none => rw [h2] at hx; cases hx; exact g
              | some hp =>
                rw [h2] at hx
                simp only at hx
                cases h3 : ctch M hp ls with
                | none => rw [h3] at hx; cases hx
                | some z =>
                  rw [h3] at hx
                  have g2 := ih hx
                  exact ⟨Nat.le_trans g.1 g2.1, Nat.le_trans g.2 g2.2⟩
        · cases hx
          exact ⟨Nat.le_refl _, Nat.le_refl _⟩
        · cases hx
          exact ⟨Nat.le_add_right _ _, Nat.le_add_right _ _⟩
theorem okM_rk {μ : Nat} (hM : okM μ = true) : rkc (mt μ).2.2.1.2 (rtM μ) (yM μ) = true ∧ hck (hhM μ) (mt μ).2.2.2 = true ∧ plainFor (yM μ) = true ∧ ((yM μ).cls ≠ "java/lang/invoke/MethodHandle" ∧ (yM μ).cls ≠ "java/lang/invoke/VarHandle") := by
  unfold okM at hM
  simp only [Bool.and_eq_true, bne_iff_ne] at hM
  obtain ⟨-, -, h1, h2, h3, h4, h5⟩ := hM
  exact ⟨h4, h5, h1, h2, h3⟩
theorem okM_cd {μ : Nat} (hM : okM μ = true) (hl : μ ≠ k_L_law) : cdW μ ∈ lw_tbl ∧ Cond.initialized (yM μ).cls ∈ lw_tbl := by
  have h : ∀ w ∈ (if μ = k_L_law then [] else [cdW μ, .initialized (yM μ).cls] : List Cond), w ∈ lw_tbl := fun w hw => okM_w hM w (List.mem_append_right _ (List.mem_append_right _ hw))
  rw [if_neg hl] at h
  exact ⟨h _ (by simp), h _ (by simp)⟩
theorem cdW_good (μ : Nat) : goodWord (cdW μ) = true := by
  unfold cdW
  split <;> rfl
section SND
variable {l : Launch} {s0 : State} {a0 : Array Value} {τ : Nat → Nat} {D : va_G} {cA : Nat → ClassId}
variable {p : Program} {e : Env} {R : Room} {s : State} {m : MethodId} {args : Array Value} {below : List Frame} {meth : Method} {c : Code} {T : State} {locs : List Loc} {cells slots : Nat} {H : Heap} {Q : State → Prop} {μ ν : Nat}
/-- what a method is called with, and what it gives back -/
def PcM (s0 : State) (τ : Nat → Nat) (D : va_G) (cA : Nat → ClassId) (as : List Value) (h : VH) : Array Value → State → Prop := fun v U => v = (as.map (tv τ)).toArray ∧ s0.WarmedH U.vm ∧ RelH τ D cA s0 h U.heap ∧ s0.heap.size ≤ U.heap.size ∧ ∀ q, q < s0.heap.size → U.heap[q]? = s0.heap[q]?
def PstH (s0 : State) (τ : Nat → Nat) (D : va_G) (cA : Nat → ClassId) (x : VR) (st t : State) : Prop := RelH τ D cA s0 x.2 t.heap ∧ st.heap.size ≤ t.heap.size ∧ ∀ q, q < s0.heap.size → t.heap[q]? = s0.heap[q]?
def QcM (s0 : State) (τ : Nat → Nat) (D : va_G) (cA : Nat → ClassId) (x : VR) : Array Value → State → Outcome → State → Prop := fun _ st o t => ∃ v : Option Value, x.1 = Sum.inl v ∧ o = .returned (v.map (tv τ)) ∧ PstH s0 τ D cA x st t
def XcM (s0 : State) (τ : Nat → Nat) (D : va_G) (cA : Nat → ClassId) (x : VR) : String → State → State → Prop := fun E st t => ∃ k : Nat, x.1 = Sum.inr k ∧ 1 ≤ k ∧ k ≤ 3 ∧ E = eNm k ∧ PstH s0 τ D cA x st t
def FrM (s0 : State) : Addr → Prop := fun q => s0.heap.size ≤ q
theorem PcM.blind (as : List Value) (h : VH) : FrameBlind (PcM s0 τ D cA as h) := fun _ _ _ _ q => q
/-- a call's beginning: the machine stands at the invocation of ν -/
def CE (p : Program) (l : Launch) (e : Env) (R : Room) (s : State) (m : MethodId) (args : Array Value) (below : List Frame) (meth : Method) (c : Code) (locs : List Loc) (cells slots : Nat) (T : State) (g : JFrame) (rest : List Value) (ν : Nat) (vs : Array Value) : Prop :=
  ∃ (mk : MethodId) (vm₁ : Vm) (ig : Instr), s.WarmedH vm₁ ∧ Stand p l e R s m args below meth c (T.setVm vm₁) locs cells slots ∧ s.methodNamed? (yM ν) = some mk ∧ decode c.code g.pc = .ok (ig, 3) ∧
    ∀ target, (∀ acts, Steps p.tables e below (doInvoke e ((T.setVm vm₁).setTop { g with stack := rest }) acts mk vs).1 target) → Steps p.tables e below (T.setTop g) target
theorem cd_spec (h : (cdW ν).before args s = true) : ∃ mk methM cM, s.methodNamed? (yM ν) = some mk ∧ s.vm.method? mk = some methM ∧ methM.code = some cM ∧ parseMethodDescriptor (yM ν).desc = some methM.sig := by
  unfold cdW at h
  split at h
  · obtain ⟨mk, hnamed⟩ := Cond.code_named h
    obtain ⟨methM, cM, h1, h2, -, -, -, -, -, h3⟩ := Cond.code_spec hnamed h
    exact ⟨mk, methM, cM, hnamed, h1, h2, h3⟩
  · obtain ⟨mk, methM, cM, hnamed, h1, h2, -, -, -, -, -, h3⟩ := Cond.codeWith_spec h
    exact ⟨mk, methM, cM, hnamed, h1, h2, h3⟩
theorem ce_S (X : Stand p l e R s m args below meth c T locs cells slots) (hexec : p.tables.exec = Jvm.exec) {own : String} {index : Nat} (hown : s.vm.findClass own = some m.cls)
    (hlink : (Cond.methodLink own index (yM ν)).before args s = true ∨ (Cond.methodLinkNest own index (yM ν) RX4).before args s = true) (hstat : (Cond.static (yM ν)).before args s = true) (hinit : (Cond.initialized (yM ν).cls).before args s = true) (hcode : (cdW ν).before args s = true)
    (hy : (yM ν).cls ≠ "java/lang/invoke/MethodHandle" ∧ (yM ν).cls ≠ "java/lang/invoke/VarHandle") {g : JFrame} (hg : g.method = m) {argsL rest : List Value} (hlen : par ν argsL.length = true) (hstack : g.stack = argsL.reverse ++ rest) (hdg : decode c.code g.pc = .ok (.invokestatic index, 3)) :
    CE p l e R s m args below meth c locs cells slots T g rest ν argsL.toArray := by
  obtain ⟨mk, methM, cM, hnamed, hmethM, -, hsigM⟩ := cd_spec hcode
  have hstatic : methM.isStatic = true := Cond.static_spec hnamed hmethM hstat
  obtain ⟨kP, hkP, -⟩ := className_of_methodNamed hnamed
  have hinitP : kP.init = .initialized := Cond.initialized_spec (findClass_of_methodNamed hnamed) hkP hinit
  have hl : argsL.length = methM.sig.parameters.length := by
    unfold par at hlen
    rw [hsigM] at hlen
    have h9 := eq_of_beq hlen
    exact (Option.some.inj h9).symm
  rcases hlink with hlink | hlink
  · obtain ⟨vm₁, X₁, hstep₁⟩ := X.invokestatic hexec hown hlink hnamed hmethM hstatic hkP hinitP hy (g := g) hg (argsL := argsL) (rest := rest) hl hstack hdg
    exact ⟨mk, vm₁, _, X₁.warmed, X₁, hnamed, hdg, hstep₁⟩
  · obtain ⟨vm₁, X₁, hstep₁⟩ := X.invokestaticNest hexec hown hlink hnamed hmethM hstatic hkP hinitP hy (g := g) hg (argsL := argsL) (rest := rest) hl hstack hdg
    exact ⟨mk, vm₁, _, X₁.warmed, X₁, hnamed, hdg, hstep₁⟩
theorem ce_V (X : Stand p l e R s m args below meth c T locs cells slots) (hexec : p.tables.exec = Jvm.exec) {own C : String} {index : Nat} (hown : s.vm.findClass own = some m.cls)
    (hlink : (Cond.methodLink own index (yM ν)).before args s = true ∨ (Cond.methodLinkNest own index (yM ν) RX4).before args s = true) (hinst : (Cond.instanceMethod (yM ν)).before args s = true) (hsel : (Cond.selects C (yM ν) (yM ν)).before args s = true) (hcode : (cdW ν).before args s = true)
    (hy : (yM ν).cls ≠ "java/lang/invoke/MethodHandle" ∧ (yM ν).cls ≠ "java/lang/invoke/VarHandle") {b : Addr} {cellB : Cell} (hcell : T.heap[b]? = some cellB) (hobj : cellB.vm = .none) (hcls : s.vm.findClass C = some cellB.cls)
    {g : JFrame} (hg : g.method = m) {argsL rest : List Value} (hlen : par ν argsL.length = true) (hstack : g.stack = argsL.reverse ++ .ref b :: rest) (hdg : decode c.code g.pc = .ok (.invokevirtual index, 3)) :
    CE p l e R s m args below meth c locs cells slots T g rest ν (Value.ref b :: argsL).toArray := by
  obtain ⟨mk, methM, hnamed, hmethM, hstM, habM⟩ := Cond.instanceMethod_spec hinst
  obtain ⟨mk', methM', cM, hnamed', hmethM', -, hsigM⟩ := cd_spec hcode
  cases hnamed.symm.trans hnamed'
  cases hmethM.symm.trans hmethM'
  have hl : argsL.length = methM.sig.parameters.length := by
    unfold par at hlen
    rw [hsigM] at hlen
    have h9 := eq_of_beq hlen
    exact (Option.some.inj h9).symm
  obtain ⟨c2, r2, m2, q1, q2, q3, q4, kP, hkP, hkPi⟩ := Cond.selects_spec hsel
  cases hcls.symm.trans q1
  cases (State.methodFound?_of_named hnamed hy).symm.trans q2
  cases hnamed.symm.trans q3
  have hselP : selectMethod e.platform s.vm cellB.cls mk = .method mk := by rw [Launch.admits_selectMethod X.admits]; exact q4
  rcases hlink with hlink | hlink
  · obtain ⟨vm₁, X₁, hstep₁⟩ := X.invokevirtual hexec hown hlink hnamed hmethM hstM hkP hkPi hy (a := b) (cell := cellB) hcell
      (fun z h => by rw [h] at hobj; cases hobj) hselP hmethM habM hkP hkPi (g := g) hg (argsL := argsL) (rest := rest) hl hstack hdg
    exact ⟨mk, vm₁, _, X₁.warmed, X₁, hnamed, hdg, hstep₁⟩
  · obtain ⟨vm₁, X₁, hstep₁⟩ := X.invokevirtualNest hexec hown hlink hnamed hmethM hstM hkP hkPi hy (a := b) (cell := cellB) hcell
      (fun z h => by rw [h] at hobj; cases hobj) hselP hmethM habM hkP hkPi (g := g) hg (argsL := argsL) (rest := rest) hl hstack hdg
    exact ⟨mk, vm₁, _, X₁.warmed, X₁, hnamed, hdg, hstep₁⟩
theorem ce_I (X : Stand p l e R s m args below meth c T locs cells slots) (hexec : p.tables.exec = Jvm.exec) {own : String} {index : Nat} (hown : s.vm.findClass own = some m.cls) (hy1 : (yM ν).name = "<init>") (hh0 : hhM ν = []) (hr0 : rtM ν = none)
    (hlink : (Cond.methodLink own index (yM ν)).before args s = true ∨ (Cond.methodLinkNest own index (yM ν) RX4).before args s = true) (hinst : (Cond.instanceMethod (yM ν)).before args s = true) (hcode : (cdW ν).before args s = true)
    (hy : (yM ν).cls ≠ "java/lang/invoke/MethodHandle" ∧ (yM ν).cls ≠ "java/lang/invoke/VarHandle") {b : Addr}
    {g : JFrame} (hg : g.method = m) {argsL rest : List Value} (hlen : par ν argsL.length = true) (hstack : g.stack = argsL.reverse ++ .ref b :: rest) (hdg : decode c.code g.pc = .ok (.invokespecial index, 3)) :
    CE p l e R s m args below meth c locs cells slots T g rest ν (Value.ref b :: argsL).toArray := by
  subst hg
  have hpl : e.platform.magicAccessors = ({} : Platform).magicAccessors := by rw [X.admits.platform]
  have hl : ∀ sig, parseMethodDescriptor (yM ν).desc = some sig → argsL.length = sig.parameters.length := by
    intro sig h
    unfold par at hlen
    rw [h] at hlen
    have h9 := eq_of_beq hlen
    exact (Option.some.inj h9).symm
  have hc1 : (Cond.code (yM ν) (mt ν).1 (mt ν).2.2.1.1 none).before args s = true := by
    unfold cdW at hcode
    rw [hh0, hr0] at hcode
    exact hcode
  rcases hlink with hlink | hlink
  · obtain ⟨mk, methM, cM, kP, vm₁, hnamed, hmethM, hcodeM, -, hlocalsM, -, hkP, -, hW₁, hstep₁⟩ := Steps.initColdArgs (e := e) X.here hexec X.warmed hpl hown hy1 hy hlink hinst hc1 (f := g) rfl hl hstack hdg
    exact ⟨mk, vm₁, _, hW₁, X.noted hW₁, hnamed, hdg, hstep₁⟩
  · obtain ⟨mk, methM, cM, kP, vm₁, hnamed, hmethM, hcodeM, -, hlocalsM, -, hkP, -, hW₁, hstep₁⟩ := Steps.initColdArgsNest (e := e) X.here hexec X.warmed hpl hown hy1 hy hlink hinst hc1 (f := g) rfl hl hstack hdg
    exact ⟨mk, vm₁, _, hW₁, X.noted hW₁, hnamed, hdg, hstep₁⟩
abbrev rmK (ν mc ms : Nat) : Room := { frames := (rmM ν).1, locals := (rmM ν).2, cells := mc, slots := ms }
theorem bk_of (G : GX l s0 a0 τ D cA) (hW : s0.WarmedH s.vm) (hN : okM ν = true) (hl : ν ≠ k_L_law) {Pc : Array Value → State → Prop} {Qc : Array Value → State → Outcome → State → Prop} {XC : String → State → State → Prop} {mc ms : Nat} {free : Addr → Prop}
    (hM : vx_Met l (yM ν) [cdW ν] (rmK ν mc ms) Pc Qc XC mc ms free) (hbl : FrameBlind Pc) (hfr : (rmM ν).1 + 1 ≤ R.frames) (hlo : 8 + ((mt ν).2.2.1.1 + 11) + (rmM ν).2 ≤ R.locals) :
    vx_Back l R p e below s args (yM ν) 3 8 (PreOf R mc ms Pc) (PostOf Qc mc ms free) (vx_Post XC mc ms free) := by
  have hcd := okM_cd hN hl
  have hws : ∀ w ∈ [cdW ν], ∀ (a' : Array Value) (U : State), s.WarmedH U.vm → w.before a' U = true := by
    intro w hw a' U hU
    rw [List.mem_singleton.mp hw]
    exact wd_at G (hW.trans hU) hcd.1 (cdW_good ν)
  have hini : ∀ (a' : Array Value) (U : State), s.WarmedH U.vm → (Cond.initialized (yM ν).cls).before a' U = true := fun a' U hU => wd_at G (hW.trans hU) hcd.2 rfl
  cases hh : hhM ν with
  | nil => exact vx_back (bytes := (mt ν).1) (maxL := (mt ν).2.2.1.1) (ret := rtM ν) hM hbl rfl rfl hfr hlo hws (by unfold cdW; rw [hh]; exact List.mem_cons_self) hini
  | cons q t => exact vx_backW (hh := q :: t) (bytes := (mt ν).1) (maxL := (mt ν).2.2.1.1) (ret := rtM ν) hM hbl rfl rfl hfr hlo hws (by unfold cdW; rw [hh]; exact List.mem_cons_self) hini
set_option maxHeartbeats 1000000 in
/-- a call, over the callee's contract -/
theorem cl_W (G : GX l s0 a0 τ D cA) (F : FX s0 μ p R s m meth c) (hN : okM ν = true) (hcl : cll μ ν = true) {as rest : List Value} {h : VH} {x : VR} {mc ms : Nat} {pc : Nat} {LS : Array Slot} {st0 : List Value}
    (hM : vx_Met l (yM ν) [cdW ν] (rmK ν mc ms) (PcM s0 τ D cA as h) (QcM s0 τ D cA x) (XcM s0 τ D cA x) mc ms (FrM s0)) (hI : Inv τ D cA s0 s h H locs) (hLS : LS.size = (mt μ).2.2.1.1) (hr8 : catS rest ≤ 8) (hcc : cells + mc ≤ R.cells) (hss : slots + ms ≤ R.slots)
    (hce : ∀ T, T.heap = H → Stand p l e R s m args below meth c T locs cells slots → CE p l e R s m args below meth c locs cells slots T (F0 m pc LS st0) (rest.map (tv τ)) ν (as.map (tv τ)).toArray)
    (kr : ∀ v, x.1 = Sum.inl v → ∀ (H1 : Heap) (locs1 : List Loc), Inv τ D cA s0 s x.2 H1 locs1 → W p l e R s m args below meth c H1 locs1 (cells + mc) (slots + ms) Q (F0 m (pc + 3) LS ((v.toList ++ rest).map (tv τ))))
    (kx : ∀ E, x.1 = Sum.inr E → 1 ≤ E → E ≤ 3 → ∀ (H1 : Heap) (locs1 : List Loc) (q : Addr) (ce : Cell), Inv τ D cA s0 s x.2 H1 locs1 → H1[q]? = some ce → ce.vm = .none → s.vm.findClass (eNm E) = some ce.cls → vx_W p l e R s m args below meth c H1 locs1 (cells + mc) (slots + ms) Q (F0 m pc LS (rest.map (tv τ))) q) :
    W p l e R s m args below meth c H locs cells slots Q (F0 m pc LS st0) := by
  obtain ⟨hμ, hx, hb, hml, hown, hW, hBs, hLow, hfr, hlo, hlk, hrt, hnm, hex⟩ := F
  unfold cll at hcl
  simp only [Bool.and_eq_true, decide_eq_true_eq] at hcl
  obtain ⟨c1, c2, c3, c4⟩ := hcl
  intro T hT X
  obtain ⟨mk, vm₁, ig, hW₁, X₁, hn, hdg, hstep⟩ := hce T hT X
  have hK : vx_Back l R p e below s args (yM ν) 3 8 (PreOf R mc ms (PcM s0 τ D cA as h)) (PostOf (QcM s0 τ D cA x) mc ms (FrM s0)) (vx_Post (XcM s0 τ D cA x) mc ms (FrM s0)) := bk_of G hW hN c2 hM (PcM.blind as h) (by omega) (by omega)
  obtain ⟨i1, i2, i3, i4⟩ := hI
  have hP : PcM s0 τ D cA as h (as.map (tv τ)).toArray (T.setVm vm₁) := ⟨rfl, hW.trans hW₁, by show RelH τ D cA s0 h T.heap; rw [hT]; exact i1, by show _ ≤ T.heap.size; rw [hT]; omega, by show ∀ q, q < _ → T.heap[q]? = _; rw [hT]; exact i3⟩
  have hr8' := catS_le (τ := τ) hr8
  rcases hK m meth c ⟨T.setVm vm₁, locs, cells, slots⟩ { F0 m pc LS st0 with stack := rest.map (tv τ) } ig mk (as.map (tv τ)).toArray X₁ rfl (hLS.trans hml.symm) hdg (by show 2 * 0 + ((rest.map (tv τ)).map fun v => v.category).sum ≤ 8; omega) (X₁.named hn) ⟨hcc, hss, hP⟩ with ⟨v, ⟨U', l2, k2, n2⟩, X', ⟨g', mk', t, L, e1, e2, hq, h1, hL, h2, h3⟩, hsteps⟩ | ⟨q, ⟨U', l2, k2, n2⟩, X', ⟨g', mk', t, L, E, ce, e1, e2, hq, hce1, hcv, hcl1, h1, hL, h2, h3⟩, hsteps⟩
  · dsimp only [Pt.U, Pt.locs, Pt.cells, Pt.slots] at X' e1 e2 h1 h2 h3 hsteps
    subst h1; subst h2; subst h3
    obtain ⟨w, hw1, hw2, r1, r2, r3⟩ := hq
    cases hw2
    have hsz : H.size ≤ t.heap.size := by
      have : T.heap.size ≤ t.heap.size := r2
      rw [hT] at this
      exact this
    obtain ⟨t2, a1, b1⟩ := kr w hw1 U'.heap (locs ++ L) ⟨by rw [e1]; exact r1, by rw [e1]; omega, by rw [e1]; exact r3, fun z hz => by
      rcases List.mem_append.mp hz with h9 | h9
      · exact i4 z h9
      · exact hL z h9⟩ U' rfl X'
    refine ⟨t2, hstep _ fun acts => ?_, b1⟩
    rw [doInvoke_state]
    refine hsteps.trans ?_
    have e9 : (w.toList ++ rest).map (tv τ) = (w.map (tv τ)).toList ++ rest.map (tv τ) := by cases w <;> rfl
    rw [e9] at a1
    exact a1
  · dsimp only [Pt.U, Pt.locs, Pt.cells, Pt.slots] at X' e1 e2 h1 h2 h3 hsteps hcl1
    subst h1; subst h2; subst h3
    obtain ⟨k, hk1, hk2, hk3, hk4, r1, r2, r3⟩ := hq
    subst hk4
    have hsz : H.size ≤ t.heap.size := by
      have : T.heap.size ≤ t.heap.size := r2
      rw [hT] at this
      exact this
    obtain ⟨t2, a1, b1⟩ := kx k hk1 hk2 hk3 U'.heap (locs ++ L) q ce ⟨by rw [e1]; exact r1, by rw [e1]; omega, by rw [e1]; exact r3, fun z hz => by
      rcases List.mem_append.mp hz with h9 | h9
      · exact i4 z h9
      · exact hL z h9⟩ (by rw [e1]; exact hce1) hcv (vx_cls hW₁ hcl1) U' rfl X'
    refine ⟨t2, hstep _ fun acts => ?_, b1⟩
    rw [doInvoke_state]
    exact hsteps.trans a1
end SND
end
section
/-! SOUND 6: the end of a method, handlers, and the whole -/
section SND
variable {l : Launch} {s0 : State} {a0 : Array Value} {τ : Nat → Nat} {D : va_G} {cA : Nat → ClassId}
variable {p : Program} {e : Env} {R : Room} {s : State} {m : MethodId} {args : Array Value} {below : List Frame} {meth : Method} {c : Code} {T : State} {locs : List Loc} {cells slots : Nat} {H : Heap} {Q : State → Prop} {μ ν : Nat}
theorem rk_at {ini : Nat} {rt : Option FieldType} {y : MethodName} (h : rkc ini rt y = true) : (ini = 11 → rt = some .int) ∧ (ini = 12 → rt = some .boolean) ∧ (ini = 13 → rt = some .long) ∧ (ini = 14 → rt = some .double) ∧ (ini = 15 → ∃ t, rt = some t ∧ ((∃ n, t = .object n) ∨ ∃ u, t = .array u)) ∧ (ini < 11 → rt = none) := by
  refine ⟨fun q => ?_, fun q => ?_, fun q => ?_, fun q => ?_, fun q => ?_, fun q => ?_⟩
  · subst q; exact of_decide_eq_true h
  · subst q; exact of_decide_eq_true h
  · subst q; exact of_decide_eq_true h
  · subst q; exact of_decide_eq_true h
  · subst q
    unfold rkc at h
    rw [if_neg (by decide), if_neg (by decide), if_neg (by decide), if_neg (by decide), if_pos rfl] at h
    split at h
    · exact ⟨_, rfl, Or.inl ⟨_, rfl⟩⟩
    · exact ⟨_, rfl, Or.inr ⟨_, rfl⟩⟩
    · cases h
  · unfold rkc at h
    rw [if_neg (by omega), if_neg (by omega), if_neg (by omega), if_neg (by omega), if_neg (by omega)] at h
    split at h
    · exact of_decide_eq_true h
    · simp only [Bool.and_eq_true, decide_eq_true_eq] at h
      exact h.1
set_option maxHeartbeats 4000000 in
theorem en_ret (F : FX s0 μ p R s m meth c) (hM : okM μ = true) {ins : ClassFile.Instr} {len pc : Nat} {ls : VLs} {st : List Value} {h : VH} {v : Option Value} {LS : Array Slot} (ho : okL ins len = true) (hd : decode (mt μ).1 pc = .ok (ins, len)) (ha : act (mt μ) ins len pc ls st h = some (Sum.inr (Sum.inr (Sum.inl v)))) (hI : Inv τ D cA s0 s h H locs) :
    W p l e R s m args below meth c H locs cells slots (vx_MQ below (QcM s0 τ D cA (Sum.inl v, h)) (XcM s0 τ D cA (Sum.inl v, h)) args s cells slots (FrM s0)) (F0 m pc LS (st.map (tv τ))) := by
  obtain ⟨hμ, hx, hb, hml, hown, hW, hBs, hLow, hfr, hlo, hlk, hrt, hnm, hex⟩ := F
  obtain ⟨r11, r12, r13, r14, r15, r10⟩ := rk_at (okM_rk hM).1
  have hq : ∀ t : State, t.heap = H → s.WarmedH t.vm → QcM s0 τ D cA (Sum.inl v, h) args s (.returned (v.map (tv τ))) t := fun t ht _ => ⟨v, rfl, rfl, by rw [ht]; exact hI.1, by rw [ht]; exact hI.2.1, by rw [ht]; exact hI.2.2.1⟩
  have hf : ∀ q ∈ locs, FrM s0 q.base := hI.2.2.2
  cases ins
  case ireturn =>
    obtain rfl : len = 1 := eq_of_beq ho
    simp only [act] at ha
    split at ha
    · next x9 =>
      split at ha
      · next hz =>
        cases ha
        unfold rz at hz
        simp only [Bool.or_eq_true, Bool.and_eq_true, beq_iff_eq] at hz
        rcases hz with h11 | ⟨h12, h01⟩
        · exact vx_ret (W.iret hx hb (hrt.trans (r11 h11)) hq hf hd (hlocks := hlk))
        · refine vx_ret (W.zret (ty := .boolean) hx hb (hrt.trans (r12 h12)) ?_ hq hf hd (hlocks := hlk))
          rcases h01 with h01 | h01
          · rw [h01]; rfl
          · rw [h01]; rfl
      · cases ha
    · cases ha
  case lreturn =>
    obtain rfl : len = 1 := eq_of_beq ho
    simp only [act] at ha
    split at ha
    · split at ha
      · next hz =>
        cases ha
        exact vx_ret (W.lret hx hb (hrt.trans (r13 hz)) hq hf hd (hlocks := hlk))
      · cases ha
    · cases ha
  case dreturn =>
    obtain rfl : len = 1 := eq_of_beq ho
    simp only [act] at ha
    split at ha
    · split at ha
      · next hz =>
        cases ha
        exact vx_ret (W.dret hx hb (hrt.trans (r14 hz)) hq hf hd (hlocks := hlk))
      · cases ha
    · cases ha
  case areturn =>
    obtain rfl : len = 1 := eq_of_beq ho
    simp only [act] at ha
    split at ha
    · split at ha
      · next x9 hz =>
        cases ha
        obtain ⟨t, ht, ht2⟩ := r15 hz
        exact vx_ret (W.aret (v := .ref (τ _)) hx hb (hrt.trans ht) ht2 (Or.inr ⟨_, rfl⟩) hq hf hd (hlocks := hlk))
      · cases ha
    · cases ha
  case return_ =>
    obtain rfl : len = 1 := eq_of_beq ho
    simp only [act] at ha
    split at ha
    · split at ha
      · next hz =>
        cases ha
        exact vx_ret (W.vret hx hb (hrt.trans (r10 hz)) hq hf hd (hlocks := hlk))
      · cases ha
    · cases ha
  all_goals first
    | (exact absurd (show (none : Option VA) = some _ from ha) (fun z => by cases z))
    | (simp only [act, ldl, ldI, ldJ, ldD, ldA, stI, stA, stJ, stD, nx, jmp, bra, aGet, aPut, aNewI, aNewJ, aNewR, aNew, aIld, aJld, aAld, aIst, aJst, aAst, aLen, aCpy, aSta, aVir, aSpc, aTab, cal] at ha
       repeat' split at ha
       all_goals (cases ha; done))
/-! handlers -/
def PassE (own : String) (pc E : Nat) (z : ExceptionTableEntry) : Prop := covers z pc = false ∨ (z.catchType ≠ 0 ∧ ∃ F : Nat, 1 ≤ F ∧ F ≤ 3 ∧ E ≠ F ∧ Cond.classLink own z.catchType (eNm F) ∈ lw_tbl)
theorem hnd_spec (own : String) (pc E : Nat) : ∀ (hh exc : List (Nat × Nat × Nat × Nat)), hck hh exc = true → (∀ q ∈ hh.zip exc, Cond.classLink own q.1.2.2.2 (eNm q.2.2.2.2) ∈ lw_tbl) →
    (∀ hp, hnd exc pc E = some hp → ∃ (pre : List ExceptionTableEntry) (x : ExceptionTableEntry) (suf : List ExceptionTableEntry), tableOf hh = pre ++ x :: suf ∧ (∀ z ∈ pre, PassE own pc E z) ∧ covers x pc = true ∧ x.catchType ≠ 0 ∧ x.handlerPc = hp ∧ Cond.classLink own x.catchType (eNm E) ∈ lw_tbl) ∧
    (hnd exc pc E = none → ∀ z ∈ tableOf hh, PassE own pc E z)
  | [], [], _, _ => ⟨fun hp q => (by cases q), fun _ z hz => (by cases hz)⟩
  | [], _ :: _, h, _ => by cases h
  | _ :: _, [], h, _ => by cases h
  | q :: t, x :: u, h, hw => by
    simp only [hck, Bool.and_eq_true, beq_iff_eq, decide_eq_true_eq] at h
    obtain ⟨h1, h2, h3, h4, h5, h6, h7⟩ := h
    have hw0 := hw (q, x) (by rw [List.zip_cons_cons]; exact List.mem_cons_self)
    obtain ⟨g1, g2⟩ := hnd_spec own pc E t u h7 (fun z hz => hw z (by rw [List.zip_cons_cons]; exact List.mem_cons_of_mem _ hz))
    have hpass : ¬ (x.1 ≤ pc ∧ pc < x.2.1 ∧ x.2.2.2 = E) → PassE own pc E ⟨q.1, q.2.1, q.2.2.1, q.2.2.2⟩ := by
      intro hn
      by_cases hc : x.1 ≤ pc ∧ pc < x.2.1
      · exact Or.inr ⟨h6, x.2.2.2, h4, h5, fun z => hn ⟨hc.1, hc.2, z.symm⟩, hw0⟩
      · refine Or.inl ?_
        show (decide (q.1 ≤ pc) && decide (pc < q.2.1)) = false
        rw [h1, h2]
        by_cases hc1 : x.1 ≤ pc
        · have hc2 : ¬ pc < x.2.1 := fun z => hc ⟨hc1, z⟩
          simp [hc2]
        · simp [hc1]
    refine ⟨fun hp hh => ?_, fun hh => ?_⟩
    · unfold hnd at hh
      by_cases hm : x.1 ≤ pc ∧ pc < x.2.1 ∧ x.2.2.2 = E
      · rw [if_pos hm] at hh
        refine ⟨[], ⟨q.1, q.2.1, q.2.2.1, q.2.2.2⟩, tableOf t, rfl, fun z hz => (by cases hz), ?_, h6, ?_, ?_⟩
        · show (decide (q.1 ≤ pc) && decide (pc < q.2.1)) = true
          rw [h1, h2]
          simp [hm.1, hm.2.1]
        · show q.2.2.1 = hp
          rw [h3]
          exact Option.some.inj hh
        · rw [← hm.2.2]
          exact hw0
      · rw [if_neg hm] at hh
        obtain ⟨pre, y, suf, e1, e2, e3⟩ := g1 hp hh
        refine ⟨⟨q.1, q.2.1, q.2.2.1, q.2.2.2⟩ :: pre, y, suf, ?_, ?_, e3⟩
        · show (⟨q.1, q.2.1, q.2.2.1, q.2.2.2⟩ : ExceptionTableEntry) :: tableOf t = _
          rw [e1]
          rfl
        · intro z hz
          rcases List.mem_cons.mp hz with rfl | hz
          · exact hpass hm
          · exact e2 z hz
    · unfold hnd at hh
      by_cases hm : x.1 ≤ pc ∧ pc < x.2.1 ∧ x.2.2.2 = E
      · rw [if_pos hm] at hh
        cases hh
      · rw [if_neg hm] at hh
        intro z hz
        have hz' : z ∈ (⟨q.1, q.2.1, q.2.2.1, q.2.2.2⟩ : ExceptionTableEntry) :: tableOf t := hz
        rcases List.mem_cons.mp hz' with rfl | hz'
        · exact hpass hm
        · exact g2 hh z hz'
theorem hw_at {μ : Nat} (hM : okM μ = true) : ∀ q ∈ (hhM μ).zip (mt μ).2.2.2, Cond.classLink (yM μ).cls q.1.2.2.2 (eNm q.2.2.2.2) ∈ lw_tbl := fun q hq => okM_w hM _ (List.mem_append_right _ (List.mem_append_left _ (List.mem_map.mpr ⟨q, hq, rfl⟩)))
theorem pass_at (G : GX l s0 a0 τ D cA) (hW : s0.WarmedH s.vm) {own : String} {pc E : Nat} (h1 : 1 ≤ E) (h3 : E ≤ 3) {z : ExceptionTableEntry} (h : PassE own pc E z) : covers z pc = false ∨ (z.catchType ≠ 0 ∧ ∃ nm : String, (Cond.classLink own z.catchType nm).before args s = true ∧ va_Nc (eNm E) nm s) := by
  rcases h with h | ⟨h0, F, f1, f2, f3, f4⟩
  · exact Or.inl h
  · exact Or.inr ⟨h0, eNm F, wd_at G hW f4 rfl, va_Nc.moved hW.alike (G.2.2.2.2.2.2.2.2.2.2 E F h1 h3 f1 f2 f3)⟩
theorem cast_at (G : GX l s0 a0 τ D cA) (hW : s0.WarmedH s.vm) {E : String} (hw : Cond.castable E E ∈ lw_tbl) : (Cond.castable E E).before args s = true := by
  obtain ⟨c1, t1, h1, h2, h3⟩ := Cond.castable_spec (G.1 _ hw)
  cases Option.some.inj (h1.symm.trans h2)
  simp [Cond.before, Cond.holds, Cond.value, hW.alike.findClass, h1, hW.alike.assignable, h3]
theorem gW_e {E : Nat} (h1 : 1 ≤ E) (h3 : E ≤ 3) : Cond.initialized (eNm E) ∈ gW ∧ Cond.castable (eNm E) (eNm E) ∈ gW ∧ ∀ w ∈ vx_atS RX4 (icE E) (eNm E) exN, w ∈ gW := by
  have h : E = 1 ∨ E = 2 ∨ E = 3 := by omega
  rcases h with rfl | rfl | rfl
  · exact ⟨List.mem_append_right _ (List.mem_append_left _ (by simp)), List.mem_append_right _ (List.mem_append_left _ (by simp)), fun w hw => List.mem_append_right _ (List.mem_append_right _ (List.mem_append_left _ hw))⟩
  · exact ⟨List.mem_append_right _ (List.mem_append_left _ (by simp)), List.mem_append_right _ (List.mem_append_left _ (by simp)), fun w hw => List.mem_append_right _ (List.mem_append_right _ (List.mem_append_right _ (List.mem_append_left _ hw)))⟩
  · exact ⟨List.mem_append_right _ (List.mem_append_left _ (by simp)), List.mem_append_right _ (List.mem_append_left _ (by simp)), fun w hw => List.mem_append_right _ (List.mem_append_right _ (List.mem_append_right _ (List.mem_append_right _ hw)))⟩
def isDcl (w : Cond) : Bool := match w with
  | .declares _ => true
  | _ => false
theorem dcl_at (G : GX l s0 a0 τ D cA) (hW : s0.WarmedH s.vm) {w : Cond} (hd : isDcl w = true) (hw : w ∈ lw_tbl) : w.before args s = true := by
  unfold isDcl at hd
  split at hd
  · exact va_Nw.use rfl (va_Nw.warmD hW (va_Nw.of rfl (G.1 _ hw)))
  · cases hd
theorem atS_good : ([1, 2, 3] : List Nat).all (fun E => (vx_atS RX4 (icE E) (eNm E) exN).all (fun w => (goodWord w || (isDcl w || decide (w = .castable (eNm E) (eNm E)))) && vx_ot w) && (Bundle.fit (eNm E) && exN.all Bundle.fit)) = true := by decide +kernel
theorem atS_at {E : Nat} (h1 : 1 ≤ E) (h3 : E ≤ 3) : (∀ w ∈ vx_atS RX4 (icE E) (eNm E) exN, (goodWord w = true ∨ isDcl w = true ∨ w = .castable (eNm E) (eNm E)) ∧ vx_ot w = true) ∧ Bundle.fit (eNm E) = true ∧ ∀ n ∈ exN, Bundle.fit n = true := by
  have hm : E ∈ ([1, 2, 3] : List Nat) := by
    have h : E = 1 ∨ E = 2 ∨ E = 3 := by omega
    rcases h with rfl | rfl | rfl <;> simp
  have h := List.all_eq_true.mp atS_good E hm
  simp only [Bool.and_eq_true] at h
  refine ⟨fun w hw => ?_, h.2.1, List.all_eq_true.mp h.2.2⟩
  have h9 := List.all_eq_true.mp h.1 w hw
  simp only [Bool.and_eq_true, Bool.or_eq_true, decide_eq_true_eq] at h9
  exact h9
theorem hck_nil {hh : List (Nat × Nat × Nat × Nat)} (h : hck hh [] = true) : hh = [] := by
  cases hh with
  | nil => rfl
  | cons q t => cases h
set_option maxHeartbeats 4000000 in
theorem en_thr (G : GX l s0 a0 τ D cA) (F : FX s0 μ p R s m meth c) (hM : okM μ = true) {ins : ClassFile.Instr} {len pc : Nat} {ls : VLs} {st : List Value} {h : VH} {E : Nat} {LS : Array Slot} (hLS : LS.size = (mt μ).2.2.1.1) (ho : okL ins len = true) (hd : decode (mt μ).1 pc = .ok (ins, len)) (ha : act (mt μ) ins len pc ls st h = some (Sum.inr (Sum.inr (Sum.inr E)))) (hI : Inv τ D cA s0 s h H locs)
    {mc ms : Nat} (hmc : mc = cells + 1) (hms : ms = slots + 6) (hRc : mc ≤ R.cells) (hRs : ms ≤ R.slots) :
    W p l e R s m args below meth c H locs cells slots (vx_MQ below (QcM s0 τ D cA (Sum.inr E, ((h.1.1, false, h.1.2.2.1 + 1, h.1.2.2.2 + 6), h.2))) (XcM s0 τ D cA (Sum.inr E, ((h.1.1, false, h.1.2.2.1 + 1, h.1.2.2.2 + 6), h.2))) args s mc ms (FrM s0)) (F0 m pc LS (st.map (tv τ))) := by
  obtain ⟨hμ, hx, hb, hml, hown, hW, hBs, hLow, hfr, hlo, hlk, hrt, hnm, hex⟩ := F
  cases ins
  case new i =>
    obtain rfl : len = 3 := eq_of_beq ho
    simp only [act, aNew] at ha
    split at ha
    · split at ha
      · cases ha
      · cases ha
    · split at ha
      · next h8 =>
        obtain ⟨h8a, h8b, h8c, h8d⟩ := h8
        subst h8c
        have hE : (lkf (mt μ).2.1 i).2.1 = E := by cases ha; rfl
        rw [hE] at h8d
        unfold thr at h8d
        split at h8d
        · next d3 =>
          split at h8d
          · next is d4 =>
            split at h8d
            · next ic d6 =>
              split at h8d
              · next d9 =>
                simp only [Bool.and_eq_true, beq_iff_eq] at h8d
                obtain ⟨z1, z2, z3⟩ := h8d
                obtain ⟨hck1, hw1⟩ := okM_e hM (i := i) (by rw [h8a]; decide)
                obtain ⟨hck2, hw2⟩ := okM_e hM (i := is) (by rw [z1]; decide)
                obtain ⟨hck3, hw3⟩ := okM_e hM (i := ic) (by rw [z2]; decide)
                have g1 : (yM μ).cls = RX4 ∧ 1 ≤ E ∧ E ≤ 3 ∧ 6 ≤ (rmM μ).1 ∧ 82 ≤ (rmM μ).2 := by
                  unfold chkE at hck1
                  rw [h8a, hE] at hck1
                  simpa using hck1
                obtain ⟨gR, e1, e3, gf, gl⟩ := g1
                have g3 : ic = icE E := by
                  unfold chkE at hck3
                  rw [z2, z3] at hck3
                  simpa using hck3
                have hwa : Cond.classLink (yM μ).cls i (eNm E) ∈ lw_tbl := hw1 _ (by unfold wdE; rw [h8a, hE]; simp)
                have hws : Cond.stringRef (yM μ).cls is (strL.getD (lkf (mt μ).2.1 is).2.1 "") ∈ lw_tbl := hw2 _ (by unfold wdE; rw [z1]; simp)
                obtain ⟨sa, hsa⟩ := G.2.2.2.2.2.2.2.2.1 _ _ _ hws
                have hstr := vk_R.warm hW hsa
                obtain ⟨t1, t2, t3⟩ := atS_at e1 e3
                obtain ⟨u1, u2, u3⟩ := gW_e e1 e3
                have hno : hhM μ = [] := hck_nil (by rw [← h8b]; exact (okM_rk hM).2.1)
                rw [gR] at hwa hown hstr
                subst g3
                have hat : ∀ w ∈ vx_atS RX4 (icE E) (eNm E) exN, w.before args s = true := by
                  intro w hw
                  rcases (t1 w hw).1 with h9 | h9 | h9
                  · exact gw_at G hW (u3 w hw) h9
                  · exact dcl_at G hW h9 (gW_mem (u3 w hw))
                  · rw [h9]
                    exact cast_at G hW (gW_mem u2)
                refine vx_throwS (own := RX4) (cls := eNm E) (names := exN) (ik := i) (is := is) (ic := icE E) (sa := sa) (A := fun q => s0.heap.size ≤ q) hx hb G.2.2.2.2.2.2.2.2.2.1 hown t2 t3 (wd_at G hW hwa rfl) (gw_at G hW u1 rfl) hstr hat ?_ ?_ ?_ ?_ (hLS.trans hml.symm) hd d3 d4 d6 d9 ?_ ?_ ?_ (by omega) (by omega) hlk ?_ hI.2.2.2 (by omega) (by omega)
                · intro w hw
                  rcases List.mem_cons.mp hw with rfl | hw
                  · rfl
                  · rcases List.mem_cons.mp hw with rfl | hw
                    · rfl
                    · exact (t1 w hw).2
                · exact (vx_Zq.moved hW.alike G.2.2.2.2.2.2.2.1.1).kept (fun a ha9 _ => hLow a ha9)
                · exact (vx_Zq.moved hW.alike G.2.2.2.2.2.2.2.1.2).kept (fun a ha9 _ => hLow a ha9)
                · exact ⟨hI.2.1, fun q q1 q2 => (hI.2.2.1 q (by omega)).trans (hLow q (by omega)).symm, hI.2.2.2⟩
                · rw [hex, hno]
                  intro x hx9
                  cases hx9
                · show 2 + 3 < R.frames
                  omega
                · show 0 + (13 * (2 + 1) + 43) ≤ R.locals
                  omega
                · intro t hal hsz ho9
                  refine ⟨E, rfl, e1, e3, rfl, ?_, ?_, ?_⟩
                  · obtain ⟨⟨z, b9, k9, n9⟩, c9⟩ := h
                    exact hI.1.fuzz τ D cA s0 ho9
                  · exact Nat.le_trans hI.2.1 hsz
                  · intro q hq
                    have h9 : q < H.size := Nat.lt_of_lt_of_le (Nat.lt_of_lt_of_le hq hBs) hI.2.1
                    exact (ho9 q h9).trans (hI.2.2.1 q hq)
              · cases h8d
            · cases h8d
          · cases h8d
        · cases h8d
      · cases ha
  all_goals first
    | (exact absurd (show (none : Option VA) = some _ from ha) (fun z => by cases z))
    | (simp only [act, ldl, ldI, ldJ, ldD, ldA, stI, stA, stJ, stD, nx, jmp, bra, aGet, aPut, aNewI, aNewJ, aNewR, aNew, aIld, aJld, aAld, aIst, aJst, aAst, aLen, aCpy, aSta, aVir, aSpc, aTab, cal] at ha
       repeat' split at ha
       all_goals (cases ha; done))
/-! every instruction that goes on -/
theorem sp_none {ins : ClassFile.Instr} {len : Nat} (h : ∀ (M : MI) (pc : Nat) (ls : VLs) (st : List Value) (h : VH) (q : Nat × VLs × List Value × VH), act M ins len pc ls st h ≠ some (Sum.inl q)) : SP l s0 a0 τ D cA ins len := by
  intro μ p e R s m args below meth c Q G F hM pc ls st hh q LS H locs cells slots k0 z0 hd ha
  exact absurd ha (h _ _ _ _ _ _)
set_option maxHeartbeats 4000000 in
theorem sp_all {ins : ClassFile.Instr} {len : Nat} (ho : okL ins len = true) : SP l s0 a0 τ D cA ins len := by
  cases ins
  case tableswitch df lo hi offs => exact sp_tab df lo hi offs len
  case iadd =>
    obtain rfl : len = 1 := eq_of_beq ho
    exact sp_iadd
  case isub =>
    obtain rfl : len = 1 := eq_of_beq ho
    exact sp_isub
  case imul =>
    obtain rfl : len = 1 := eq_of_beq ho
    exact sp_imul
  case iand =>
    obtain rfl : len = 1 := eq_of_beq ho
    exact sp_iand
  case ixor =>
    obtain rfl : len = 1 := eq_of_beq ho
    exact sp_ixor
  case ladd =>
    obtain rfl : len = 1 := eq_of_beq ho
    exact sp_ladd
  case lsub =>
    obtain rfl : len = 1 := eq_of_beq ho
    exact sp_lsub
  case lmul =>
    obtain rfl : len = 1 := eq_of_beq ho
    exact sp_lmul
  case i2l =>
    obtain rfl : len = 1 := eq_of_beq ho
    exact sp_i2l
  case i2d =>
    obtain rfl : len = 1 := eq_of_beq ho
    exact sp_i2d
  case lcmp =>
    obtain rfl : len = 1 := eq_of_beq ho
    exact sp_lcmp
  case irem =>
    obtain rfl : len = 1 := eq_of_beq ho
    exact sp_irem
  case ddiv =>
    obtain rfl : len = 1 := eq_of_beq ho
    exact sp_ddiv
  case dup =>
    obtain rfl : len = 1 := eq_of_beq ho
    exact sp_dup
  case pop =>
    obtain rfl : len = 1 := eq_of_beq ho
    exact sp_pop
  case dup2 =>
    obtain rfl : len = 1 := eq_of_beq ho
    exact sp_dup2
  case iaload =>
    obtain rfl : len = 1 := eq_of_beq ho
    exact sp_iaload
  case laload =>
    obtain rfl : len = 1 := eq_of_beq ho
    exact sp_laload
  case aaload =>
    obtain rfl : len = 1 := eq_of_beq ho
    exact sp_aaload
  case iastore =>
    obtain rfl : len = 1 := eq_of_beq ho
    exact sp_iastore
  case lastore =>
    obtain rfl : len = 1 := eq_of_beq ho
    exact sp_lastore
  case aastore =>
    obtain rfl : len = 1 := eq_of_beq ho
    exact sp_aastore
  case dcmp op =>
    obtain rfl : len = 1 := eq_of_beq ho
    exact sp_dcmp op
  case dconst d =>
    obtain rfl : len = 1 := eq_of_beq ho
    exact sp_dconst d
  case iconst n =>
    obtain rfl : len = 1 := eq_of_beq ho
    exact sp_iconst n
  case bipush n =>
    obtain rfl : len = 2 := eq_of_beq ho
    exact sp_bipush n
  case sipush n =>
    obtain rfl : len = 3 := eq_of_beq ho
    exact sp_sipush n
  case lconst n =>
    obtain rfl : len = 1 := eq_of_beq ho
    exact sp_lconst n
  case iload_n k =>
    obtain rfl : len = 1 := eq_of_beq ho
    exact sp_iload_n k
  case iload k =>
    obtain rfl : len = 2 := eq_of_beq ho
    exact sp_iload k
  case istore_n k =>
    obtain rfl : len = 1 := eq_of_beq ho
    exact sp_istore_n k
  case istore k =>
    obtain rfl : len = 2 := eq_of_beq ho
    exact sp_istore k
  case lload_n k =>
    obtain rfl : len = 1 := eq_of_beq ho
    exact sp_lload_n k
  case lload k =>
    obtain rfl : len = 2 := eq_of_beq ho
    exact sp_lload k
  case lstore_n k =>
    obtain rfl : len = 1 := eq_of_beq ho
    exact sp_lstore_n k
  case lstore k =>
    obtain rfl : len = 2 := eq_of_beq ho
    exact sp_lstore k
  case dload_n k =>
    obtain rfl : len = 1 := eq_of_beq ho
    exact sp_dload_n k
  case dload k =>
    obtain rfl : len = 2 := eq_of_beq ho
    exact sp_dload k
  case dstore_n k =>
    obtain rfl : len = 1 := eq_of_beq ho
    exact sp_dstore_n k
  case dstore k =>
    obtain rfl : len = 2 := eq_of_beq ho
    exact sp_dstore k
  case aload_n k =>
    obtain rfl : len = 1 := eq_of_beq ho
    exact sp_aload_n k
  case aload k =>
    obtain rfl : len = 2 := eq_of_beq ho
    exact sp_aload k
  case astore_n k =>
    obtain rfl : len = 1 := eq_of_beq ho
    exact sp_astore_n k
  case astore k =>
    obtain rfl : len = 2 := eq_of_beq ho
    exact sp_astore k
  case iinc i n =>
    obtain rfl : len = 3 := eq_of_beq ho
    exact sp_iinc i n
  case ifCond cn off =>
    obtain rfl : len = 3 := eq_of_beq ho
    exact sp_ifCond cn off
  case if_icmp cn off =>
    obtain rfl : len = 3 := eq_of_beq ho
    exact sp_if_icmp cn off
  case goto off =>
    obtain rfl : len = 3 := eq_of_beq ho
    exact sp_goto off
  case ldc2_w i =>
    obtain rfl : len = 3 := eq_of_beq ho
    exact sp_ldc2_w i
  case getfield i =>
    obtain rfl : len = 3 := eq_of_beq ho
    exact sp_getfield i
  case putfield i =>
    obtain rfl : len = 3 := eq_of_beq ho
    exact sp_putfield i
  case new i =>
    obtain rfl : len = 3 := eq_of_beq ho
    exact sp_new i
  case anewarray i =>
    obtain rfl : len = 3 := eq_of_beq ho
    exact sp_anewarray i
  case getstatic i =>
    obtain rfl : len = 3 := eq_of_beq ho
    exact sp_getstatic i
  case invokestatic i =>
    obtain rfl : len = 3 := eq_of_beq ho
    exact sp_invokestaticN i
  case invokespecial i =>
    obtain rfl : len = 3 := eq_of_beq ho
    exact sp_objinit i
  case arraylength =>
    obtain rfl : len = 1 := eq_of_beq ho
    exact sp_alen
  case newarray t =>
    obtain rfl : len = 2 := eq_of_beq ho
    by_cases h1 : t = .int
    · subst h1; exact sp_newI
    · by_cases h2 : t = .long
      · subst h2; exact sp_newJ
      · refine sp_none (fun M pc ls st h q ha => ?_)
        simp only [act] at ha
        rw [if_neg h1, if_neg h2] at ha
        cases ha
  all_goals first
    | (refine sp_none (fun M pc ls st h q ha => ?_); exact absurd (show (none : Option VA) = some (Sum.inl q) from ha) (fun z => by cases z); done)
    | (refine sp_none (fun M pc ls st h q ha => ?_)
       simp only [act, ldl, ldI, ldJ, ldD, ldA, stI, stA, stJ, stD, nx, jmp, bra, aGet, aPut, aNewI, aNewJ, aNewR, aNew, aIld, aJld, aAld, aIst, aJst, aAst, aLen, aCpy, aSta, aVir, aSpc, aTab, cal] at ha
       repeat' split at ha
       all_goals (cases ha; done))
end SND
end
