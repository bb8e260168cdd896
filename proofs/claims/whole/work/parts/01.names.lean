-- ===== PART A: goes FIRST, ahead of the names: the tables' words, and 'selects' of the private methods out of them =====
/-- a private method of a class that the tables say can be made, by its rows of tables_1 -/
def lw_okq (q : MethodName × Nat) : Prop := (q.1.cls ≠ "java/lang/invoke/MethodHandle" ∧ q.1.cls ≠ "java/lang/invoke/VarHandle") ∧ Cond.instantiable q.1.cls q.2 ∈ tables_1 ∧ Cond.privateMethod q.1 ∈ tables_1 ∧ Cond.instanceMethod q.1 ∈ tables_1
theorem lw_p0 : lw_okq (⟨"CircuitReels", "recorded", "(I)I"⟩, 9) := ⟨⟨by decide +kernel, by decide +kernel⟩, List.mem_of_getElem? (i := 17) (by decide +kernel), List.mem_of_getElem? (i := 298) (by decide +kernel), List.mem_of_getElem? (i := 299) (by decide +kernel)⟩
theorem lw_p1 : lw_okq (⟨"CircuitReels$Programme", "putInOrder", "(LCircuitReels$Circuit;)V"⟩, 11) := ⟨⟨by decide +kernel, by decide +kernel⟩, List.mem_of_getElem? (i := 100) (by decide +kernel), List.mem_of_getElem? (i := 392) (by decide +kernel), List.mem_of_getElem? (i := 393) (by decide +kernel)⟩
theorem lw_p2 : lw_okq (⟨"CircuitReels$Programme", "playShow", "(LCircuitReels$Circuit;I)V"⟩, 11) := ⟨⟨by decide +kernel, by decide +kernel⟩, List.mem_of_getElem? (i := 100) (by decide +kernel), List.mem_of_getElem? (i := 396) (by decide +kernel), List.mem_of_getElem? (i := 397) (by decide +kernel)⟩
theorem lw_p3 : lw_okq (⟨"CircuitReels$Reels", "mend", "(LCircuitReels$Circuit;II)I"⟩, 9) := ⟨⟨by decide +kernel, by decide +kernel⟩, List.mem_of_getElem? (i := 107) (by decide +kernel), List.mem_of_getElem? (i := 408) (by decide +kernel), List.mem_of_getElem? (i := 409) (by decide +kernel)⟩
theorem lw_p4 : lw_okq (⟨"CircuitReels$Programme", "reckon", "(LCircuitReels$Circuit;I)V"⟩, 11) := ⟨⟨by decide +kernel, by decide +kernel⟩, List.mem_of_getElem? (i := 100) (by decide +kernel), List.mem_of_getElem? (i := 413) (by decide +kernel), List.mem_of_getElem? (i := 414) (by decide +kernel)⟩
theorem lw_p5 : lw_okq (⟨"CircuitReels", "showsWith", "([II)I"⟩, 9) := ⟨⟨by decide +kernel, by decide +kernel⟩, List.mem_of_getElem? (i := 17) (by decide +kernel), List.mem_of_getElem? (i := 424) (by decide +kernel), List.mem_of_getElem? (i := 425) (by decide +kernel)⟩
theorem lw_p6 : lw_okq (⟨"CircuitReels", "sumWith", "([I[II)I"⟩, 9) := ⟨⟨by decide +kernel, by decide +kernel⟩, List.mem_of_getElem? (i := 17) (by decide +kernel), List.mem_of_getElem? (i := 428) (by decide +kernel), List.mem_of_getElem? (i := 429) (by decide +kernel)⟩
theorem lw_p7 : lw_okq (⟨"CircuitReels", "firstAdvert", "(I)I"⟩, 9) := ⟨⟨by decide +kernel, by decide +kernel⟩, List.mem_of_getElem? (i := 17) (by decide +kernel), List.mem_of_getElem? (i := 437) (by decide +kernel), List.mem_of_getElem? (i := 438) (by decide +kernel)⟩
theorem lw_p8 : lw_okq (⟨"CircuitReels", "placeOfReel", "(III)I"⟩, 9) := ⟨⟨by decide +kernel, by decide +kernel⟩, List.mem_of_getElem? (i := 17) (by decide +kernel), List.mem_of_getElem? (i := 450) (by decide +kernel), List.mem_of_getElem? (i := 451) (by decide +kernel)⟩
theorem lw_p9 : lw_okq (⟨"CircuitReels", "playShowsUntil", "(III)I"⟩, 9) := ⟨⟨by decide +kernel, by decide +kernel⟩, List.mem_of_getElem? (i := 17) (by decide +kernel), List.mem_of_getElem? (i := 485) (by decide +kernel), List.mem_of_getElem? (i := 486) (by decide +kernel)⟩
theorem lw_p10 : lw_okq (⟨"CircuitReels", "noneIsWorse", "(II)Z"⟩, 9) := ⟨⟨by decide +kernel, by decide +kernel⟩, List.mem_of_getElem? (i := 17) (by decide +kernel), List.mem_of_getElem? (i := 493) (by decide +kernel), List.mem_of_getElem? (i := 494) (by decide +kernel)⟩
theorem lw_p11 : lw_okq (⟨"CircuitReels$Pad", "readPart", "(C)Z"⟩, 6) := ⟨⟨by decide +kernel, by decide +kernel⟩, List.mem_of_getElem? (i := 214) (by decide +kernel), List.mem_of_getElem? (i := 595) (by decide +kernel), List.mem_of_getElem? (i := 596) (by decide +kernel)⟩
theorem lw_p12 : lw_okq (⟨"CircuitReels$Pad", "readNumber", "(I)Z"⟩, 6) := ⟨⟨by decide +kernel, by decide +kernel⟩, List.mem_of_getElem? (i := 214) (by decide +kernel), List.mem_of_getElem? (i := 599) (by decide +kernel), List.mem_of_getElem? (i := 600) (by decide +kernel)⟩
theorem lw_p13 : lw_okq (⟨"CircuitReels$Pad", "isDigitNext", "()Z"⟩, 6) := ⟨⟨by decide +kernel, by decide +kernel⟩, List.mem_of_getElem? (i := 214) (by decide +kernel), List.mem_of_getElem? (i := 603) (by decide +kernel), List.mem_of_getElem? (i := 604) (by decide +kernel)⟩
theorem lw_p14 : lw_okq (⟨"CircuitReels", "carryOutOrders", "()I"⟩, 9) := ⟨⟨by decide +kernel, by decide +kernel⟩, List.mem_of_getElem? (i := 17) (by decide +kernel), List.mem_of_getElem? (i := 616) (by decide +kernel), List.mem_of_getElem? (i := 617) (by decide +kernel)⟩
theorem lw_p15 : lw_okq (⟨"CircuitReels", "carryOutOrder", "()I"⟩, 9) := ⟨⟨by decide +kernel, by decide +kernel⟩, List.mem_of_getElem? (i := 17) (by decide +kernel), List.mem_of_getElem? (i := 621) (by decide +kernel), List.mem_of_getElem? (i := 622) (by decide +kernel)⟩
def lw_privs_1 : List (MethodName × Nat) := [(⟨"CircuitReels", "recorded", "(I)I"⟩, 9), (⟨"CircuitReels$Programme", "putInOrder", "(LCircuitReels$Circuit;)V"⟩, 11), (⟨"CircuitReels$Programme", "playShow", "(LCircuitReels$Circuit;I)V"⟩, 11), (⟨"CircuitReels$Reels", "mend", "(LCircuitReels$Circuit;II)I"⟩, 9), (⟨"CircuitReels$Programme", "reckon", "(LCircuitReels$Circuit;I)V"⟩, 11), (⟨"CircuitReels", "showsWith", "([II)I"⟩, 9), (⟨"CircuitReels", "sumWith", "([I[II)I"⟩, 9), (⟨"CircuitReels", "firstAdvert", "(I)I"⟩, 9), (⟨"CircuitReels", "placeOfReel", "(III)I"⟩, 9), (⟨"CircuitReels", "playShowsUntil", "(III)I"⟩, 9), (⟨"CircuitReels", "noneIsWorse", "(II)Z"⟩, 9), (⟨"CircuitReels$Pad", "readPart", "(C)Z"⟩, 6), (⟨"CircuitReels$Pad", "readNumber", "(I)Z"⟩, 6), (⟨"CircuitReels$Pad", "isDigitNext", "()Z"⟩, 6), (⟨"CircuitReels", "carryOutOrders", "()I"⟩, 9), (⟨"CircuitReels", "carryOutOrder", "()I"⟩, 9)]
theorem lw_r1 : ∀ q ∈ lw_privs_1, lw_okq q := List.forall_mem_cons.mpr ⟨lw_p0, List.forall_mem_cons.mpr ⟨lw_p1, List.forall_mem_cons.mpr ⟨lw_p2, List.forall_mem_cons.mpr ⟨lw_p3, List.forall_mem_cons.mpr ⟨lw_p4, List.forall_mem_cons.mpr ⟨lw_p5, List.forall_mem_cons.mpr ⟨lw_p6, List.forall_mem_cons.mpr ⟨lw_p7, List.forall_mem_cons.mpr ⟨lw_p8, List.forall_mem_cons.mpr ⟨lw_p9, List.forall_mem_cons.mpr ⟨lw_p10, List.forall_mem_cons.mpr ⟨lw_p11, List.forall_mem_cons.mpr ⟨lw_p12, List.forall_mem_cons.mpr ⟨lw_p13, List.forall_mem_cons.mpr ⟨lw_p14, List.forall_mem_cons.mpr ⟨lw_p15, fun _ h => absurd h List.not_mem_nil⟩⟩⟩⟩⟩⟩⟩⟩⟩⟩⟩⟩⟩⟩⟩⟩
theorem lw_p16 : lw_okq (⟨"CircuitReelsModel", "records", "()V"⟩, 25) := ⟨⟨by decide +kernel, by decide +kernel⟩, List.mem_of_getElem? (i := 642) (by decide +kernel), List.mem_of_getElem? (i := 734) (by decide +kernel), List.mem_of_getElem? (i := 735) (by decide +kernel)⟩
theorem lw_p17 : lw_okq (⟨"CircuitReelsModel", "refusesFilm", "(III)I"⟩, 25) := ⟨⟨by decide +kernel, by decide +kernel⟩, List.mem_of_getElem? (i := 642) (by decide +kernel), List.mem_of_getElem? (i := 742) (by decide +kernel), List.mem_of_getElem? (i := 743) (by decide +kernel)⟩
theorem lw_p18 : lw_okq (⟨"CircuitReelsModel", "laysFilm", "(III)I"⟩, 25) := ⟨⟨by decide +kernel, by decide +kernel⟩, List.mem_of_getElem? (i := 642) (by decide +kernel), List.mem_of_getElem? (i := 749) (by decide +kernel), List.mem_of_getElem? (i := 750) (by decide +kernel)⟩
theorem lw_p19 : lw_okq (⟨"CircuitReelsModel", "laysWay", "(III)I"⟩, 25) := ⟨⟨by decide +kernel, by decide +kernel⟩, List.mem_of_getElem? (i := 642) (by decide +kernel), List.mem_of_getElem? (i := 760) (by decide +kernel), List.mem_of_getElem? (i := 761) (by decide +kernel)⟩
theorem lw_p20 : lw_okq (⟨"CircuitReelsModel", "refusesShow", "(IIII)I"⟩, 25) := ⟨⟨by decide +kernel, by decide +kernel⟩, List.mem_of_getElem? (i := 642) (by decide +kernel), List.mem_of_getElem? (i := 768) (by decide +kernel), List.mem_of_getElem? (i := 769) (by decide +kernel)⟩
theorem lw_p21 : lw_okq (⟨"CircuitReelsModel", "isFilm", "(I)Z"⟩, 25) := ⟨⟨by decide +kernel, by decide +kernel⟩, List.mem_of_getElem? (i := 642) (by decide +kernel), List.mem_of_getElem? (i := 772) (by decide +kernel), List.mem_of_getElem? (i := 773) (by decide +kernel)⟩
theorem lw_p22 : lw_okq (⟨"CircuitReelsModel", "laysShow", "(IIII)I"⟩, 25) := ⟨⟨by decide +kernel, by decide +kernel⟩, List.mem_of_getElem? (i := 642) (by decide +kernel), List.mem_of_getElem? (i := 776) (by decide +kernel), List.mem_of_getElem? (i := 777) (by decide +kernel)⟩
theorem lw_p23 : lw_okq (⟨"CircuitReelsModel", "isShow", "(I)Z"⟩, 25) := ⟨⟨by decide +kernel, by decide +kernel⟩, List.mem_of_getElem? (i := 642) (by decide +kernel), List.mem_of_getElem? (i := 784) (by decide +kernel), List.mem_of_getElem? (i := 785) (by decide +kernel)⟩
theorem lw_p24 : lw_okq (⟨"CircuitReelsModel", "dropsShow", "(I)I"⟩, 25) := ⟨⟨by decide +kernel, by decide +kernel⟩, List.mem_of_getElem? (i := 642) (by decide +kernel), List.mem_of_getElem? (i := 788) (by decide +kernel), List.mem_of_getElem? (i := 789) (by decide +kernel)⟩
theorem lw_p25 : lw_okq (⟨"CircuitReelsModel", "refusesTear", "(III)I"⟩, 25) := ⟨⟨by decide +kernel, by decide +kernel⟩, List.mem_of_getElem? (i := 642) (by decide +kernel), List.mem_of_getElem? (i := 796) (by decide +kernel), List.mem_of_getElem? (i := 797) (by decide +kernel)⟩
theorem lw_p26 : lw_okq (⟨"CircuitReelsModel", "isReel", "(II)Z"⟩, 25) := ⟨⟨by decide +kernel, by decide +kernel⟩, List.mem_of_getElem? (i := 642) (by decide +kernel), List.mem_of_getElem? (i := 800) (by decide +kernel), List.mem_of_getElem? (i := 801) (by decide +kernel)⟩
theorem lw_p27 : lw_okq (⟨"CircuitReelsModel", "film0", "(II)I"⟩, 25) := ⟨⟨by decide +kernel, by decide +kernel⟩, List.mem_of_getElem? (i := 642) (by decide +kernel), List.mem_of_getElem? (i := 804) (by decide +kernel), List.mem_of_getElem? (i := 805) (by decide +kernel)⟩
theorem lw_p28 : lw_okq (⟨"CircuitReelsModel", "tornFrom", "(II)I"⟩, 25) := ⟨⟨by decide +kernel, by decide +kernel⟩, List.mem_of_getElem? (i := 642) (by decide +kernel), List.mem_of_getElem? (i := 808) (by decide +kernel), List.mem_of_getElem? (i := 809) (by decide +kernel)⟩
theorem lw_p29 : lw_okq (⟨"CircuitReelsModel", "runs", "(I)V"⟩, 25) := ⟨⟨by decide +kernel, by decide +kernel⟩, List.mem_of_getElem? (i := 642) (by decide +kernel), List.mem_of_getElem? (i := 820) (by decide +kernel), List.mem_of_getElem? (i := 821) (by decide +kernel)⟩
theorem lw_p30 : lw_okq (⟨"CircuitReelsModel", "placeOf", "(I)I"⟩, 25) := ⟨⟨by decide +kernel, by decide +kernel⟩, List.mem_of_getElem? (i := 642) (by decide +kernel), List.mem_of_getElem? (i := 824) (by decide +kernel), List.mem_of_getElem? (i := 825) (by decide +kernel)⟩
theorem lw_p31 : lw_okq (⟨"CircuitReelsModel", "show0", "(II)I"⟩, 25) := ⟨⟨by decide +kernel, by decide +kernel⟩, List.mem_of_getElem? (i := 642) (by decide +kernel), List.mem_of_getElem? (i := 828) (by decide +kernel), List.mem_of_getElem? (i := 829) (by decide +kernel)⟩
def lw_privs_2 : List (MethodName × Nat) := [(⟨"CircuitReelsModel", "records", "()V"⟩, 25), (⟨"CircuitReelsModel", "refusesFilm", "(III)I"⟩, 25), (⟨"CircuitReelsModel", "laysFilm", "(III)I"⟩, 25), (⟨"CircuitReelsModel", "laysWay", "(III)I"⟩, 25), (⟨"CircuitReelsModel", "refusesShow", "(IIII)I"⟩, 25), (⟨"CircuitReelsModel", "isFilm", "(I)Z"⟩, 25), (⟨"CircuitReelsModel", "laysShow", "(IIII)I"⟩, 25), (⟨"CircuitReelsModel", "isShow", "(I)Z"⟩, 25), (⟨"CircuitReelsModel", "dropsShow", "(I)I"⟩, 25), (⟨"CircuitReelsModel", "refusesTear", "(III)I"⟩, 25), (⟨"CircuitReelsModel", "isReel", "(II)Z"⟩, 25), (⟨"CircuitReelsModel", "film0", "(II)I"⟩, 25), (⟨"CircuitReelsModel", "tornFrom", "(II)I"⟩, 25), (⟨"CircuitReelsModel", "runs", "(I)V"⟩, 25), (⟨"CircuitReelsModel", "placeOf", "(I)I"⟩, 25), (⟨"CircuitReelsModel", "show0", "(II)I"⟩, 25)]
theorem lw_r2 : ∀ q ∈ lw_privs_2, lw_okq q := List.forall_mem_cons.mpr ⟨lw_p16, List.forall_mem_cons.mpr ⟨lw_p17, List.forall_mem_cons.mpr ⟨lw_p18, List.forall_mem_cons.mpr ⟨lw_p19, List.forall_mem_cons.mpr ⟨lw_p20, List.forall_mem_cons.mpr ⟨lw_p21, List.forall_mem_cons.mpr ⟨lw_p22, List.forall_mem_cons.mpr ⟨lw_p23, List.forall_mem_cons.mpr ⟨lw_p24, List.forall_mem_cons.mpr ⟨lw_p25, List.forall_mem_cons.mpr ⟨lw_p26, List.forall_mem_cons.mpr ⟨lw_p27, List.forall_mem_cons.mpr ⟨lw_p28, List.forall_mem_cons.mpr ⟨lw_p29, List.forall_mem_cons.mpr ⟨lw_p30, List.forall_mem_cons.mpr ⟨lw_p31, fun _ h => absurd h List.not_mem_nil⟩⟩⟩⟩⟩⟩⟩⟩⟩⟩⟩⟩⟩⟩⟩⟩
theorem lw_p32 : lw_okq (⟨"CircuitReelsModel", "goesThrough", "(I)V"⟩, 25) := ⟨⟨by decide +kernel, by decide +kernel⟩, List.mem_of_getElem? (i := 642) (by decide +kernel), List.mem_of_getElem? (i := 832) (by decide +kernel), List.mem_of_getElem? (i := 833) (by decide +kernel)⟩
theorem lw_p33 : lw_okq (⟨"CircuitReelsModel", "goes", "(III)I"⟩, 25) := ⟨⟨by decide +kernel, by decide +kernel⟩, List.mem_of_getElem? (i := 642) (by decide +kernel), List.mem_of_getElem? (i := 836) (by decide +kernel), List.mem_of_getElem? (i := 837) (by decide +kernel)⟩
theorem lw_p34 : lw_okq (⟨"CircuitReelsModel", "wayBetween", "(II)I"⟩, 25) := ⟨⟨by decide +kernel, by decide +kernel⟩, List.mem_of_getElem? (i := 642) (by decide +kernel), List.mem_of_getElem? (i := 840) (by decide +kernel), List.mem_of_getElem? (i := 841) (by decide +kernel)⟩
theorem lw_p35 : lw_okq (⟨"CircuitReelsModel", "sumOver", "(III)I"⟩, 25) := ⟨⟨by decide +kernel, by decide +kernel⟩, List.mem_of_getElem? (i := 642) (by decide +kernel), List.mem_of_getElem? (i := 844) (by decide +kernel), List.mem_of_getElem? (i := 845) (by decide +kernel)⟩
theorem lw_p36 : lw_okq (⟨"CircuitReelsModel", "kept", "(I)I"⟩, 25) := ⟨⟨by decide +kernel, by decide +kernel⟩, List.mem_of_getElem? (i := 642) (by decide +kernel), List.mem_of_getElem? (i := 848) (by decide +kernel), List.mem_of_getElem? (i := 849) (by decide +kernel)⟩
theorem lw_p37 : lw_okq (⟨"CircuitReelsModel", "takings", "(I)I"⟩, 25) := ⟨⟨by decide +kernel, by decide +kernel⟩, List.mem_of_getElem? (i := 642) (by decide +kernel), List.mem_of_getElem? (i := 852) (by decide +kernel), List.mem_of_getElem? (i := 853) (by decide +kernel)⟩
theorem lw_p38 : lw_okq (⟨"CircuitReelsModel", "givenBack", "(I)I"⟩, 25) := ⟨⟨by decide +kernel, by decide +kernel⟩, List.mem_of_getElem? (i := 642) (by decide +kernel), List.mem_of_getElem? (i := 856) (by decide +kernel), List.mem_of_getElem? (i := 857) (by decide +kernel)⟩
theorem lw_p39 : lw_okq (⟨"CircuitReelsModel", "rental", "(I)I"⟩, 25) := ⟨⟨by decide +kernel, by decide +kernel⟩, List.mem_of_getElem? (i := 642) (by decide +kernel), List.mem_of_getElem? (i := 863) (by decide +kernel), List.mem_of_getElem? (i := 864) (by decide +kernel)⟩
theorem lw_p40 : lw_okq (⟨"CircuitReelsModel", "firstAdvert", "(I)I"⟩, 25) := ⟨⟨by decide +kernel, by decide +kernel⟩, List.mem_of_getElem? (i := 642) (by decide +kernel), List.mem_of_getElem? (i := 871) (by decide +kernel), List.mem_of_getElem? (i := 872) (by decide +kernel)⟩
theorem lw_p41 : lw_okq (⟨"CircuitReelsModel", "placeIn", "(III)I"⟩, 25) := ⟨⟨by decide +kernel, by decide +kernel⟩, List.mem_of_getElem? (i := 642) (by decide +kernel), List.mem_of_getElem? (i := 883) (by decide +kernel), List.mem_of_getElem? (i := 884) (by decide +kernel)⟩
theorem lw_p42 : lw_okq (⟨"CircuitReelsModel", "allCarried", "()I"⟩, 25) := ⟨⟨by decide +kernel, by decide +kernel⟩, List.mem_of_getElem? (i := 642) (by decide +kernel), List.mem_of_getElem? (i := 891) (by decide +kernel), List.mem_of_getElem? (i := 892) (by decide +kernel)⟩
theorem lw_p43 : lw_okq (⟨"CircuitReelsModel", "lastEnd", "()I"⟩, 25) := ⟨⟨by decide +kernel, by decide +kernel⟩, List.mem_of_getElem? (i := 642) (by decide +kernel), List.mem_of_getElem? (i := 895) (by decide +kernel), List.mem_of_getElem? (i := 896) (by decide +kernel)⟩
theorem lw_p44 : lw_okq (⟨"CircuitReelsModel", "isFree", "()Z"⟩, 25) := ⟨⟨by decide +kernel, by decide +kernel⟩, List.mem_of_getElem? (i := 642) (by decide +kernel), List.mem_of_getElem? (i := 911) (by decide +kernel), List.mem_of_getElem? (i := 912) (by decide +kernel)⟩
theorem lw_p45 : lw_okq (⟨"CircuitReelsModel", "reads", "()I"⟩, 25) := ⟨⟨by decide +kernel, by decide +kernel⟩, List.mem_of_getElem? (i := 642) (by decide +kernel), List.mem_of_getElem? (i := 932) (by decide +kernel), List.mem_of_getElem? (i := 933) (by decide +kernel)⟩
theorem lw_p46 : lw_okq (⟨"CircuitReelsModel", "readsOrder", "()V"⟩, 25) := ⟨⟨by decide +kernel, by decide +kernel⟩, List.mem_of_getElem? (i := 642) (by decide +kernel), List.mem_of_getElem? (i := 936) (by decide +kernel), List.mem_of_getElem? (i := 937) (by decide +kernel)⟩
theorem lw_p47 : lw_okq (⟨"CircuitReelsModel", "sign", "()I"⟩, 25) := ⟨⟨by decide +kernel, by decide +kernel⟩, List.mem_of_getElem? (i := 642) (by decide +kernel), List.mem_of_getElem? (i := 940) (by decide +kernel), List.mem_of_getElem? (i := 941) (by decide +kernel)⟩
def lw_privs_3 : List (MethodName × Nat) := [(⟨"CircuitReelsModel", "goesThrough", "(I)V"⟩, 25), (⟨"CircuitReelsModel", "goes", "(III)I"⟩, 25), (⟨"CircuitReelsModel", "wayBetween", "(II)I"⟩, 25), (⟨"CircuitReelsModel", "sumOver", "(III)I"⟩, 25), (⟨"CircuitReelsModel", "kept", "(I)I"⟩, 25), (⟨"CircuitReelsModel", "takings", "(I)I"⟩, 25), (⟨"CircuitReelsModel", "givenBack", "(I)I"⟩, 25), (⟨"CircuitReelsModel", "rental", "(I)I"⟩, 25), (⟨"CircuitReelsModel", "firstAdvert", "(I)I"⟩, 25), (⟨"CircuitReelsModel", "placeIn", "(III)I"⟩, 25), (⟨"CircuitReelsModel", "allCarried", "()I"⟩, 25), (⟨"CircuitReelsModel", "lastEnd", "()I"⟩, 25), (⟨"CircuitReelsModel", "isFree", "()Z"⟩, 25), (⟨"CircuitReelsModel", "reads", "()I"⟩, 25), (⟨"CircuitReelsModel", "readsOrder", "()V"⟩, 25), (⟨"CircuitReelsModel", "sign", "()I"⟩, 25)]
theorem lw_r3 : ∀ q ∈ lw_privs_3, lw_okq q := List.forall_mem_cons.mpr ⟨lw_p32, List.forall_mem_cons.mpr ⟨lw_p33, List.forall_mem_cons.mpr ⟨lw_p34, List.forall_mem_cons.mpr ⟨lw_p35, List.forall_mem_cons.mpr ⟨lw_p36, List.forall_mem_cons.mpr ⟨lw_p37, List.forall_mem_cons.mpr ⟨lw_p38, List.forall_mem_cons.mpr ⟨lw_p39, List.forall_mem_cons.mpr ⟨lw_p40, List.forall_mem_cons.mpr ⟨lw_p41, List.forall_mem_cons.mpr ⟨lw_p42, List.forall_mem_cons.mpr ⟨lw_p43, List.forall_mem_cons.mpr ⟨lw_p44, List.forall_mem_cons.mpr ⟨lw_p45, List.forall_mem_cons.mpr ⟨lw_p46, List.forall_mem_cons.mpr ⟨lw_p47, fun _ h => absurd h List.not_mem_nil⟩⟩⟩⟩⟩⟩⟩⟩⟩⟩⟩⟩⟩⟩⟩⟩
theorem lw_p48 : lw_okq (⟨"CircuitReelsModel", "number", "()I"⟩, 25) := ⟨⟨by decide +kernel, by decide +kernel⟩, List.mem_of_getElem? (i := 642) (by decide +kernel), List.mem_of_getElem? (i := 944) (by decide +kernel), List.mem_of_getElem? (i := 945) (by decide +kernel)⟩
theorem lw_p49 : lw_okq (⟨"CircuitReelsModel", "digit", "()I"⟩, 25) := ⟨⟨by decide +kernel, by decide +kernel⟩, List.mem_of_getElem? (i := 642) (by decide +kernel), List.mem_of_getElem? (i := 948) (by decide +kernel), List.mem_of_getElem? (i := 949) (by decide +kernel)⟩
theorem lw_p50 : lw_okq (⟨"CircuitReelsModel", "wants", "(I)V"⟩, 25) := ⟨⟨by decide +kernel, by decide +kernel⟩, List.mem_of_getElem? (i := 642) (by decide +kernel), List.mem_of_getElem? (i := 952) (by decide +kernel), List.mem_of_getElem? (i := 953) (by decide +kernel)⟩
theorem lw_p51 : lw_okq (⟨"CircuitReelsModel", "refuses", "(I)I"⟩, 25) := ⟨⟨by decide +kernel, by decide +kernel⟩, List.mem_of_getElem? (i := 642) (by decide +kernel), List.mem_of_getElem? (i := 960) (by decide +kernel), List.mem_of_getElem? (i := 961) (by decide +kernel)⟩
theorem lw_p52 : lw_okq (⟨"CircuitReelsModel", "does", "(I)V"⟩, 25) := ⟨⟨by decide +kernel, by decide +kernel⟩, List.mem_of_getElem? (i := 642) (by decide +kernel), List.mem_of_getElem? (i := 964) (by decide +kernel), List.mem_of_getElem? (i := 965) (by decide +kernel)⟩
def lw_privs_4 : List (MethodName × Nat) := [(⟨"CircuitReelsModel", "number", "()I"⟩, 25), (⟨"CircuitReelsModel", "digit", "()I"⟩, 25), (⟨"CircuitReelsModel", "wants", "(I)V"⟩, 25), (⟨"CircuitReelsModel", "refuses", "(I)I"⟩, 25), (⟨"CircuitReelsModel", "does", "(I)V"⟩, 25)]
theorem lw_r4 : ∀ q ∈ lw_privs_4, lw_okq q := List.forall_mem_cons.mpr ⟨lw_p48, List.forall_mem_cons.mpr ⟨lw_p49, List.forall_mem_cons.mpr ⟨lw_p50, List.forall_mem_cons.mpr ⟨lw_p51, List.forall_mem_cons.mpr ⟨lw_p52, fun _ h => absurd h List.not_mem_nil⟩⟩⟩⟩⟩
def lw_privs : List (MethodName × Nat) := lw_privs_1 ++ (lw_privs_2 ++ (lw_privs_3 ++ (lw_privs_4)))
def lw_tbl : List Cond := k2_sels lw_privs ++ tables_1
theorem lw_privs_ok : ∀ q ∈ lw_privs, lw_okq q := by
  show ∀ q ∈ lw_privs_1 ++ (lw_privs_2 ++ (lw_privs_3 ++ (lw_privs_4))), lw_okq q
  exact List.forall_mem_append.mpr ⟨lw_r1, List.forall_mem_append.mpr ⟨lw_r2, List.forall_mem_append.mpr ⟨lw_r3, lw_r4⟩⟩⟩
def RX0 : String := "CircuitReels$Circuit"
def TX0 : u_T := fun k => match k with
  | 0 => ("CircuitReels$Circuit", "settings", "[I", true)
  | 1 => ("CircuitReels$Circuit", "ways", "[I", true)
  | 2 => ("CircuitReels$Circuit", "films", "I", false)
  | 3 => ("CircuitReels$Circuit", "reelsOf", "[I", true)
  | 4 => ("CircuitReels$Circuit", "homeOf", "[I", true)
  | 5 => ("CircuitReels$Circuit", "rentalOf", "[I", true)
  | 6 => ("CircuitReels$Circuit", "tornFrom", "[I", true)
  | 7 => ("CircuitReels$Circuit", "shows", "I", false)
  | 8 => ("CircuitReels$Circuit", "showFilm", "[I", true)
  | 9 => ("CircuitReels$Circuit", "showHouse", "[I", true)
  | 10 => ("CircuitReels$Circuit", "showMinute", "[I", true)
  | _ => ("CircuitReels$Circuit", "showSeats", "[I", true)
def tyX0 : Nat → FieldType := fun k => match k with
  | 0 => .array .int
  | 1 => .array .int
  | 2 => .int
  | 3 => .array .int
  | 4 => .array .int
  | 5 => .array .int
  | 6 => .array .int
  | 7 => .int
  | 8 => .array .int
  | 9 => .array .int
  | 10 => .array .int
  | _ => .array .int
theorem nmX0 : ∀ a, a < 12 → ∀ b, b < 12 → a ≠ b → (TX0 a).2.1 ≠ (TX0 b).2.1 := by decide +kernel
theorem tyX0_ok : ∀ k, k < 12 → parseFieldDescriptor (TX0 k).2.2.1 = some (tyX0 k) := by decide +kernel
abbrev cX0_init : ByteArray := prog_2_method_1_code
def yX0_init : MethodName := ⟨RX0, "<init>", "()V"⟩
abbrev cX0_takeOver : ByteArray := prog_2_method_2_code
def yX0_takeOver : MethodName := ⟨RX0, "takeOver", "(LCircuitReels$Circuit;)V"⟩
abbrev cX0_hasFilm : ByteArray := prog_2_method_3_code
def yX0_hasFilm : MethodName := ⟨RX0, "hasFilm", "(I)Z"⟩
abbrev cX0_hasReel : ByteArray := prog_2_method_4_code
def yX0_hasReel : MethodName := ⟨RX0, "hasReel", "(II)Z"⟩
abbrev cX0_hasShow : ByteArray := prog_2_method_5_code
def yX0_hasShow : MethodName := ⟨RX0, "hasShow", "(I)Z"⟩
abbrev cX0_minutesBetween : ByteArray := prog_2_method_6_code
def yX0_minutesBetween : MethodName := ⟨RX0, "minutesBetween", "(II)I"⟩
abbrev cX0_changeSetting : ByteArray := prog_2_method_7_code
def yX0_changeSetting : MethodName := ⟨RX0, "changeSetting", "(II)I"⟩
abbrev cX0_addFilm : ByteArray := prog_2_method_8_code
def yX0_addFilm : MethodName := ⟨RX0, "addFilm", "(III)I"⟩
abbrev cX0_changeWay : ByteArray := prog_2_method_9_code
def yX0_changeWay : MethodName := ⟨RX0, "changeWay", "(III)I"⟩
abbrev cX0_lengthenWays : ByteArray := prog_2_method_10_code
def yX0_lengthenWays : MethodName := ⟨RX0, "lengthenWays", "(I)V"⟩
abbrev cX0_addShow : ByteArray := prog_2_method_11_code
def yX0_addShow : MethodName := ⟨RX0, "addShow", "(IIII)I"⟩
abbrev cX0_removeShow : ByteArray := prog_2_method_12_code
def yX0_removeShow : MethodName := ⟨RX0, "removeShow", "(I)I"⟩
abbrev cX0_tearReel : ByteArray := prog_2_method_13_code
def yX0_tearReel : MethodName := ⟨RX0, "tearReel", "(III)I"⟩
abbrev cX0_glueReel : ByteArray := prog_2_method_14_code
def yX0_glueReel : MethodName := ⟨RX0, "glueReel", "(II)I"⟩
def RX1 : String := "CircuitReels$History"
def TX1 : u_T := fun k => match k with
  | 0 => ("CircuitReels$History", "ring", "[LCircuitReels$Circuit;", true)
  | 1 => ("CircuitReels$History", "oldest", "I", false)
  | _ => ("CircuitReels$History", "states", "I", false)
def tyX1 : Nat → FieldType := fun k => match k with
  | 0 => .array (.object "CircuitReels$Circuit")
  | 1 => .int
  | _ => .int
theorem nmX1 : ∀ a, a < 3 → ∀ b, b < 3 → a ≠ b → (TX1 a).2.1 ≠ (TX1 b).2.1 := by decide +kernel
theorem tyX1_ok : ∀ k, k < 3 → parseFieldDescriptor (TX1 k).2.2.1 = some (tyX1 k) := by decide +kernel
abbrev cX1_init : ByteArray := prog_3_method_1_code
def yX1_init : MethodName := ⟨RX1, "<init>", "()V"⟩
abbrev cX1_prepare : ByteArray := prog_3_method_2_code
def yX1_prepare : MethodName := ⟨RX1, "prepare", "(LCircuitReels$Circuit;)V"⟩
abbrev cX1_keepPrepared : ByteArray := prog_3_method_3_code
def yX1_keepPrepared : MethodName := ⟨RX1, "keepPrepared", "()V"⟩
abbrev cX1_goBack : ByteArray := prog_3_method_4_code
def yX1_goBack : MethodName := ⟨RX1, "goBack", "(LCircuitReels$Circuit;)I"⟩
def RX2 : String := "CircuitReels$Pad"
def TX2 : u_T := fun k => match k with
  | 0 => ("CircuitReels$Pad", "text", "[C", true)
  | 1 => ("CircuitReels$Pad", "values", "[I", true)
  | 2 => ("CircuitReels$Pad", "length", "I", false)
  | 3 => ("CircuitReels$Pad", "at", "I", false)
  | 4 => ("CircuitReels$Pad", "kind", "C", false)
  | _ => ("CircuitReels$Pad", "filled", "I", false)
def tyX2 : Nat → FieldType := fun k => match k with
  | 0 => .array .char
  | 1 => .array .int
  | 2 => .int
  | 3 => .int
  | 4 => .char
  | _ => .int
theorem nmX2 : ∀ a, a < 6 → ∀ b, b < 6 → a ≠ b → (TX2 a).2.1 ≠ (TX2 b).2.1 := by decide +kernel
theorem tyX2_ok : ∀ k, k < 6 → parseFieldDescriptor (TX2 k).2.2.1 = some (tyX2 k) := by decide +kernel
abbrev cX2_init : ByteArray := prog_4_method_1_code
def yX2_init : MethodName := ⟨RX2, "<init>", "()V"⟩
abbrev cX2_append : ByteArray := prog_4_method_2_code
def yX2_append : MethodName := ⟨RX2, "append", "(J)I"⟩
abbrev cX2_findFault : ByteArray := prog_4_method_3_code
def yX2_findFault : MethodName := ⟨RX2, "findFault", "()I"⟩
abbrev cX2_readOrder : ByteArray := prog_4_method_4_code
def yX2_readOrder : MethodName := ⟨RX2, "readOrder", "()Z"⟩
abbrev cX2_shapeOf : ByteArray := prog_4_method_5_code
def yX2_shapeOf : MethodName := ⟨RX2, "shapeOf", "(C)Ljava/lang/String;"⟩
abbrev cX2_readPart : ByteArray := prog_4_method_6_code
def yX2_readPart : MethodName := ⟨RX2, "readPart", "(C)Z"⟩
abbrev cX2_readNumber : ByteArray := prog_4_method_7_code
def yX2_readNumber : MethodName := ⟨RX2, "readNumber", "(I)Z"⟩
abbrev cX2_readSign : ByteArray := prog_4_method_8_code
def yX2_readSign : MethodName := ⟨RX2, "readSign", "(C)Z"⟩
abbrev cX2_isDigitNext : ByteArray := prog_4_method_9_code
def yX2_isDigitNext : MethodName := ⟨RX2, "isDigitNext", "()Z"⟩
def RX3 : String := "CircuitReels$Programme"
def TX3 : u_T := fun k => match k with
  | 0 => ("CircuitReels$Programme", "order", "[I", true)
  | 1 => ("CircuitReels$Programme", "place", "[I", true)
  | 2 => ("CircuitReels$Programme", "end", "[I", true)
  | 3 => ("CircuitReels$Programme", "waited", "[I", true)
  | 4 => ("CircuitReels$Programme", "missed", "[I", true)
  | 5 => ("CircuitReels$Programme", "shownAt", "[I", true)
  | 6 => ("CircuitReels$Programme", "takings", "[I", true)
  | 7 => ("CircuitReels$Programme", "left", "[I", true)
  | 8 => ("CircuitReels$Programme", "rental", "[I", true)
  | 9 => ("CircuitReels$Programme", "carried", "[I", true)
  | _ => ("CircuitReels$Programme", "reels", "[LCircuitReels$Reels;", true)
def tyX3 : Nat → FieldType := fun k => match k with
  | 0 => .array .int
  | 1 => .array .int
  | 2 => .array .int
  | 3 => .array .int
  | 4 => .array .int
  | 5 => .array .int
  | 6 => .array .int
  | 7 => .array .int
  | 8 => .array .int
  | 9 => .array .int
  | _ => .array (.object "CircuitReels$Reels")
theorem nmX3 : ∀ a, a < 11 → ∀ b, b < 11 → a ≠ b → (TX3 a).2.1 ≠ (TX3 b).2.1 := by decide +kernel
theorem tyX3_ok : ∀ k, k < 11 → parseFieldDescriptor (TX3 k).2.2.1 = some (tyX3 k) := by decide +kernel
abbrev cX3_init : ByteArray := prog_5_method_1_code
def yX3_init : MethodName := ⟨RX3, "<init>", "()V"⟩
abbrev cX3_goThrough : ByteArray := prog_5_method_2_code
def yX3_goThrough : MethodName := ⟨RX3, "goThrough", "(LCircuitReels$Circuit;)V"⟩
abbrev cX3_putInOrder : ByteArray := prog_5_method_3_code
def yX3_putInOrder : MethodName := ⟨RX3, "putInOrder", "(LCircuitReels$Circuit;)V"⟩
abbrev cX3_playShow : ByteArray := prog_5_method_4_code
def yX3_playShow : MethodName := ⟨RX3, "playShow", "(LCircuitReels$Circuit;I)V"⟩
abbrev cX3_reckon : ByteArray := prog_5_method_5_code
def yX3_reckon : MethodName := ⟨RX3, "reckon", "(LCircuitReels$Circuit;I)V"⟩
abbrev cX3_allMissed : ByteArray := prog_5_method_6_code
def yX3_allMissed : MethodName := ⟨RX3, "allMissed", "(LCircuitReels$Circuit;)I"⟩
abbrev cX3_lastEnd : ByteArray := prog_5_method_7_code
def yX3_lastEnd : MethodName := ⟨RX3, "lastEnd", "(LCircuitReels$Circuit;)I"⟩
def RX4 : String := "CircuitReels$Reels"
def TX4 : u_T := fun k => match k with
  | 0 => ("CircuitReels$Reels", "house", "[I", true)
  | 1 => ("CircuitReels$Reels", "free", "[I", true)
  | 2 => ("CircuitReels$Reels", "tornFrom", "[I", true)
  | 3 => ("CircuitReels$Reels", "shownAt", "[I", true)
  | 4 => ("CircuitReels$Reels", "reels", "I", false)
  | 5 => ("CircuitReels$Reels", "end", "I", false)
  | 6 => ("CircuitReels$Reels", "waited", "I", false)
  | 7 => ("CircuitReels$Reels", "missed", "I", false)
  | _ => ("CircuitReels$Reels", "carried", "I", false)
def tyX4 : Nat → FieldType := fun k => match k with
  | 0 => .array .int
  | 1 => .array .int
  | 2 => .array .int
  | 3 => .array .int
  | 4 => .int
  | 5 => .int
  | 6 => .int
  | 7 => .int
  | _ => .int
theorem nmX4 : ∀ a, a < 9 → ∀ b, b < 9 → a ≠ b → (TX4 a).2.1 ≠ (TX4 b).2.1 := by decide +kernel
theorem tyX4_ok : ∀ k, k < 9 → parseFieldDescriptor (TX4 k).2.2.1 = some (tyX4 k) := by decide +kernel
abbrev cX4_init : ByteArray := prog_6_method_1_code
def yX4_init : MethodName := ⟨RX4, "<init>", "()V"⟩
abbrev cX4_begin : ByteArray := prog_6_method_2_code
def yX4_begin : MethodName := ⟨RX4, "begin", "(LCircuitReels$Circuit;I)V"⟩
abbrev cX4_takeOver : ByteArray := prog_6_method_3_code
def yX4_takeOver : MethodName := ⟨RX4, "takeOver", "(LCircuitReels$Reels;)V"⟩
abbrev cX4_play : ByteArray := prog_6_method_4_code
def yX4_play : MethodName := ⟨RX4, "play", "(LCircuitReels$Circuit;II)V"⟩
abbrev cX4_mend : ByteArray := prog_6_method_5_code
def yX4_mend : MethodName := ⟨RX4, "mend", "(LCircuitReels$Circuit;II)I"⟩
def RX5 : String := "CircuitReels"
def TX5 : u_T := fun k => match k with
  | 0 => ("CircuitReels", "circuit", "LCircuitReels$Circuit;", true)
  | 1 => ("CircuitReels", "programme", "LCircuitReels$Programme;", true)
  | 2 => ("CircuitReels", "history", "LCircuitReels$History;", true)
  | 3 => ("CircuitReels", "pad", "LCircuitReels$Pad;", true)
  | 4 => ("CircuitReels", "slots", "[LCircuitReels$Circuit;", true)
  | 5 => ("CircuitReels", "saved", "[Z", true)
  | 6 => ("CircuitReels", "slowCircuit", "LCircuitReels$Circuit;", true)
  | 7 => ("CircuitReels", "reelsAhead", "LCircuitReels$Reels;", true)
  | _ => ("CircuitReels", "reelsTried", "LCircuitReels$Reels;", true)
def tyX5 : Nat → FieldType := fun k => match k with
  | 0 => .object "CircuitReels$Circuit"
  | 1 => .object "CircuitReels$Programme"
  | 2 => .object "CircuitReels$History"
  | 3 => .object "CircuitReels$Pad"
  | 4 => .array (.object "CircuitReels$Circuit")
  | 5 => .array .boolean
  | 6 => .object "CircuitReels$Circuit"
  | 7 => .object "CircuitReels$Reels"
  | _ => .object "CircuitReels$Reels"
theorem nmX5 : ∀ a, a < 9 → ∀ b, b < 9 → a ≠ b → (TX5 a).2.1 ≠ (TX5 b).2.1 := by decide +kernel
theorem tyX5_ok : ∀ k, k < 9 → parseFieldDescriptor (TX5 k).2.2.1 = some (tyX5 k) := by decide +kernel
abbrev cX5_init : ByteArray := prog_1_method_1_code
def yX5_init : MethodName := ⟨RX5, "<init>", "()V"⟩
abbrev cX5_set : ByteArray := prog_1_method_2_code
def yX5_set : MethodName := ⟨RX5, "set", "(II)I"⟩
abbrev cX5_film : ByteArray := prog_1_method_3_code
def yX5_film : MethodName := ⟨RX5, "film", "(III)I"⟩
abbrev cX5_way : ByteArray := prog_1_method_4_code
def yX5_way : MethodName := ⟨RX5, "way", "(III)I"⟩
abbrev cX5_show : ByteArray := prog_1_method_5_code
def yX5_show : MethodName := ⟨RX5, "show", "(IIII)I"⟩
abbrev cX5_drop : ByteArray := prog_1_method_6_code
def yX5_drop : MethodName := ⟨RX5, "drop", "(I)I"⟩
abbrev cX5_tear : ByteArray := prog_1_method_7_code
def yX5_tear : MethodName := ⟨RX5, "tear", "(III)I"⟩
abbrev cX5_glue : ByteArray := prog_1_method_8_code
def yX5_glue : MethodName := ⟨RX5, "glue", "(II)I"⟩
abbrev cX5_recorded : ByteArray := prog_1_method_9_code
def yX5_recorded : MethodName := ⟨RX5, "recorded", "(I)I"⟩
abbrev cX5_ofFilm : ByteArray := prog_1_method_10_code
def yX5_ofFilm : MethodName := ⟨RX5, "ofFilm", "(II)I"⟩
abbrev cX5_ofShow : ByteArray := prog_1_method_11_code
def yX5_ofShow : MethodName := ⟨RX5, "ofShow", "(II)I"⟩
abbrev cX5_shown : ByteArray := prog_1_method_12_code
def yX5_shown : MethodName := ⟨RX5, "shown", "(II)I"⟩
abbrev cX5_where : ByteArray := prog_1_method_13_code
def yX5_where : MethodName := ⟨RX5, "where", "(III)I"⟩
abbrev cX5_count : ByteArray := prog_1_method_14_code
def yX5_count : MethodName := ⟨RX5, "count", "(I)I"⟩
abbrev cX5_ofHouse : ByteArray := prog_1_method_15_code
def yX5_ofHouse : MethodName := ⟨RX5, "ofHouse", "(II)I"⟩
abbrev cX5_advert : ByteArray := prog_1_method_16_code
def yX5_advert : MethodName := ⟨RX5, "advert", "(I)I"⟩
abbrev cX5_firstAdvert : ByteArray := prog_1_method_17_code
def yX5_firstAdvert : MethodName := ⟨RX5, "firstAdvert", "(I)I"⟩
abbrev cX5_placeOfReel : ByteArray := prog_1_method_18_code
def yX5_placeOfReel : MethodName := ⟨RX5, "placeOfReel", "(III)I"⟩
abbrev cX5_showsWith : ByteArray := prog_1_method_19_code
def yX5_showsWith : MethodName := ⟨RX5, "showsWith", "([II)I"⟩
abbrev cX5_sumWith : ByteArray := prog_1_method_20_code
def yX5_sumWith : MethodName := ⟨RX5, "sumWith", "([I[II)I"⟩
abbrev cX5_sum : ByteArray := prog_1_method_21_code
def yX5_sum : MethodName := ⟨RX5, "sum", "([II)I"⟩
abbrev cX5_firstFree : ByteArray := prog_1_method_22_code
def yX5_firstFree : MethodName := ⟨RX5, "firstFree", "(III)I"⟩
abbrev cX5_slower : ByteArray := prog_1_method_23_code
def yX5_slower : MethodName := ⟨RX5, "slower", "(I)I"⟩
abbrev cX5_playShowsUntil : ByteArray := prog_1_method_24_code
def yX5_playShowsUntil : MethodName := ⟨RX5, "playShowsUntil", "(III)I"⟩
abbrev cX5_noneIsWorse : ByteArray := prog_1_method_25_code
def yX5_noneIsWorse : MethodName := ⟨RX5, "noneIsWorse", "(II)Z"⟩
abbrev cX5_put : ByteArray := prog_1_method_26_code
def yX5_put : MethodName := ⟨RX5, "put", "(J)I"⟩
abbrev cX5_wipe : ByteArray := prog_1_method_27_code
def yX5_wipe : MethodName := ⟨RX5, "wipe", "()I"⟩
abbrev cX5_fault : ByteArray := prog_1_method_28_code
def yX5_fault : MethodName := ⟨RX5, "fault", "()I"⟩
abbrev cX5_carryOut : ByteArray := prog_1_method_29_code
def yX5_carryOut : MethodName := ⟨RX5, "carryOut", "()I"⟩
abbrev cX5_carryOutOrders : ByteArray := prog_1_method_30_code
def yX5_carryOutOrders : MethodName := ⟨RX5, "carryOutOrders", "()I"⟩
abbrev cX5_carryOutOrder : ByteArray := prog_1_method_31_code
def yX5_carryOutOrder : MethodName := ⟨RX5, "carryOutOrder", "()I"⟩
abbrev cX5_undo : ByteArray := prog_1_method_32_code
def yX5_undo : MethodName := ⟨RX5, "undo", "()I"⟩
abbrev cX5_save : ByteArray := prog_1_method_33_code
def yX5_save : MethodName := ⟨RX5, "save", "(I)I"⟩
abbrev cX5_restore : ByteArray := prog_1_method_34_code
def yX5_restore : MethodName := ⟨RX5, "restore", "(I)I"⟩
abbrev cX5_isError : ByteArray := prog_1_method_35_code
def yX5_isError : MethodName := ⟨RX5, "isError", "(I)Z"⟩
abbrev cX5_isWithin : ByteArray := prog_1_method_36_code
def yX5_isWithin : MethodName := ⟨RX5, "isWithin", "(III)Z"⟩
abbrev cX5_isHouse : ByteArray := prog_1_method_37_code
def yX5_isHouse : MethodName := ⟨RX5, "isHouse", "(I)Z"⟩
def RX6 : String := "CircuitReelsModel"
def TX6 : u_T := fun k => match k with
  | 0 => ("CircuitReelsModel", "thrown", "I", false)
  | 1 => ("CircuitReelsModel", "s", "[I", true)
  | 2 => ("CircuitReelsModel", "undos", "[I", true)
  | 3 => ("CircuitReelsModel", "undoMany", "I", false)
  | 4 => ("CircuitReelsModel", "slots", "[I", true)
  | 5 => ("CircuitReelsModel", "hasSlot", "[Z", true)
  | 6 => ("CircuitReelsModel", "pad", "[I", true)
  | 7 => ("CircuitReelsModel", "length", "I", false)
  | 8 => ("CircuitReelsModel", "order", "[I", true)
  | 9 => ("CircuitReelsModel", "ends", "[I", true)
  | 10 => ("CircuitReelsModel", "waits", "[I", true)
  | 11 => ("CircuitReelsModel", "missed", "[I", true)
  | 12 => ("CircuitReelsModel", "shownAt", "[I", true)
  | 13 => ("CircuitReelsModel", "freeThen", "[I", true)
  | 14 => ("CircuitReelsModel", "carried", "[I", true)
  | 15 => ("CircuitReelsModel", "slow", "I", false)
  | 16 => ("CircuitReelsModel", "houseOf", "[I", true)
  | 17 => ("CircuitReelsModel", "freeAt", "[I", true)
  | 18 => ("CircuitReelsModel", "isMended", "[Z", true)
  | 19 => ("CircuitReelsModel", "hadWaits", "[I", true)
  | 20 => ("CircuitReelsModel", "hadMissed", "[I", true)
  | 21 => ("CircuitReelsModel", "at", "I", false)
  | 22 => ("CircuitReelsModel", "isWell", "Z", false)
  | 23 => ("CircuitReelsModel", "told", "[I", true)
  | _ => ("CircuitReelsModel", "toldMany", "I", false)
def tyX6 : Nat → FieldType := fun k => match k with
  | 0 => .int
  | 1 => .array .int
  | 2 => .array .int
  | 3 => .int
  | 4 => .array .int
  | 5 => .array .boolean
  | 6 => .array .int
  | 7 => .int
  | 8 => .array .int
  | 9 => .array .int
  | 10 => .array .int
  | 11 => .array .int
  | 12 => .array .int
  | 13 => .array .int
  | 14 => .array .int
  | 15 => .int
  | 16 => .array .int
  | 17 => .array .int
  | 18 => .array .boolean
  | 19 => .array .int
  | 20 => .array .int
  | 21 => .int
  | 22 => .boolean
  | 23 => .array .int
  | _ => .int
theorem nmX6 : ∀ a, a < 25 → ∀ b, b < 25 → a ≠ b → (TX6 a).2.1 ≠ (TX6 b).2.1 := by decide +kernel
theorem tyX6_ok : ∀ k, k < 25 → parseFieldDescriptor (TX6 k).2.2.1 = some (tyX6 k) := by decide +kernel
abbrev cX6_init : ByteArray := prog_8_method_1_code
def yX6_init : MethodName := ⟨RX6, "<init>", "()V"⟩
abbrev cX6_in : ByteArray := prog_8_method_3_code
def yX6_in : MethodName := ⟨RX6, "in", "(III)Z"⟩
abbrev cX6_film0 : ByteArray := prog_8_method_4_code
def yX6_film0 : MethodName := ⟨RX6, "film0", "(II)I"⟩
abbrev cX6_show0 : ByteArray := prog_8_method_5_code
def yX6_show0 : MethodName := ⟨RX6, "show0", "(II)I"⟩
abbrev cX6_isFilm : ByteArray := prog_8_method_6_code
def yX6_isFilm : MethodName := ⟨RX6, "isFilm", "(I)Z"⟩
abbrev cX6_isShow : ByteArray := prog_8_method_7_code
def yX6_isShow : MethodName := ⟨RX6, "isShow", "(I)Z"⟩
abbrev cX6_isHouse : ByteArray := prog_8_method_8_code
def yX6_isHouse : MethodName := ⟨RX6, "isHouse", "(I)Z"⟩
abbrev cX6_isReel : ByteArray := prog_8_method_9_code
def yX6_isReel : MethodName := ⟨RX6, "isReel", "(II)Z"⟩
abbrev cX6_records : ByteArray := prog_8_method_10_code
def yX6_records : MethodName := ⟨RX6, "records", "()V"⟩
abbrev cX6_wayBetween : ByteArray := prog_8_method_11_code
def yX6_wayBetween : MethodName := ⟨RX6, "wayBetween", "(II)I"⟩
abbrev cX6_placeOf : ByteArray := prog_8_method_12_code
def yX6_placeOf : MethodName := ⟨RX6, "placeOf", "(I)I"⟩
abbrev cX6_goes : ByteArray := prog_8_method_13_code
def yX6_goes : MethodName := ⟨RX6, "goes", "(III)I"⟩
abbrev cX6_goesThrough : ByteArray := prog_8_method_14_code
def yX6_goesThrough : MethodName := ⟨RX6, "goesThrough", "(I)V"⟩
abbrev cX6_runs : ByteArray := prog_8_method_15_code
def yX6_runs : MethodName := ⟨RX6, "runs", "(I)V"⟩
abbrev cX6_ones : ByteArray := prog_8_method_16_code
def yX6_ones : MethodName := ⟨RX6, "ones", "(I)I"⟩
abbrev cX6_takings : ByteArray := prog_8_method_17_code
def yX6_takings : MethodName := ⟨RX6, "takings", "(I)I"⟩
abbrev cX6_givenBack : ByteArray := prog_8_method_18_code
def yX6_givenBack : MethodName := ⟨RX6, "givenBack", "(I)I"⟩
abbrev cX6_kept : ByteArray := prog_8_method_19_code
def yX6_kept : MethodName := ⟨RX6, "kept", "(I)I"⟩
abbrev cX6_rental : ByteArray := prog_8_method_20_code
def yX6_rental : MethodName := ⟨RX6, "rental", "(I)I"⟩
abbrev cX6_isSetting : ByteArray := prog_8_method_21_code
def yX6_isSetting : MethodName := ⟨RX6, "isSetting", "(II)Z"⟩
abbrev cX6_set : ByteArray := prog_8_method_22_code
def yX6_set : MethodName := ⟨RX6, "set", "(II)I"⟩
abbrev cX6_refusesFilm : ByteArray := prog_8_method_23_code
def yX6_refusesFilm : MethodName := ⟨RX6, "refusesFilm", "(III)I"⟩
abbrev cX6_laysFilm : ByteArray := prog_8_method_24_code
def yX6_laysFilm : MethodName := ⟨RX6, "laysFilm", "(III)I"⟩
abbrev cX6_film : ByteArray := prog_8_method_25_code
def yX6_film : MethodName := ⟨RX6, "film", "(III)I"⟩
abbrev cX6_refusesWay : ByteArray := prog_8_method_26_code
def yX6_refusesWay : MethodName := ⟨RX6, "refusesWay", "(III)I"⟩
abbrev cX6_laysWay : ByteArray := prog_8_method_27_code
def yX6_laysWay : MethodName := ⟨RX6, "laysWay", "(III)I"⟩
abbrev cX6_way : ByteArray := prog_8_method_28_code
def yX6_way : MethodName := ⟨RX6, "way", "(III)I"⟩
abbrev cX6_refusesShow : ByteArray := prog_8_method_29_code
def yX6_refusesShow : MethodName := ⟨RX6, "refusesShow", "(IIII)I"⟩
abbrev cX6_laysShow : ByteArray := prog_8_method_30_code
def yX6_laysShow : MethodName := ⟨RX6, "laysShow", "(IIII)I"⟩
abbrev cX6_show : ByteArray := prog_8_method_31_code
def yX6_show : MethodName := ⟨RX6, "show", "(IIII)I"⟩
abbrev cX6_dropsShow : ByteArray := prog_8_method_32_code
def yX6_dropsShow : MethodName := ⟨RX6, "dropsShow", "(I)I"⟩
abbrev cX6_drop : ByteArray := prog_8_method_33_code
def yX6_drop : MethodName := ⟨RX6, "drop", "(I)I"⟩
abbrev cX6_refusesTear : ByteArray := prog_8_method_34_code
def yX6_refusesTear : MethodName := ⟨RX6, "refusesTear", "(III)I"⟩
abbrev cX6_tornFrom : ByteArray := prog_8_method_35_code
def yX6_tornFrom : MethodName := ⟨RX6, "tornFrom", "(II)I"⟩
abbrev cX6_tear : ByteArray := prog_8_method_36_code
def yX6_tear : MethodName := ⟨RX6, "tear", "(III)I"⟩
abbrev cX6_glue : ByteArray := prog_8_method_37_code
def yX6_glue : MethodName := ⟨RX6, "glue", "(II)I"⟩
abbrev cX6_sumOver : ByteArray := prog_8_method_38_code
def yX6_sumOver : MethodName := ⟨RX6, "sumOver", "(III)I"⟩
abbrev cX6_ofFilm : ByteArray := prog_8_method_39_code
def yX6_ofFilm : MethodName := ⟨RX6, "ofFilm", "(II)I"⟩
abbrev cX6_firstAdvert : ByteArray := prog_8_method_40_code
def yX6_firstAdvert : MethodName := ⟨RX6, "firstAdvert", "(I)I"⟩
abbrev cX6_ofShow : ByteArray := prog_8_method_41_code
def yX6_ofShow : MethodName := ⟨RX6, "ofShow", "(II)I"⟩
abbrev cX6_shown : ByteArray := prog_8_method_42_code
def yX6_shown : MethodName := ⟨RX6, "shown", "(II)I"⟩
abbrev cX6_placeIn : ByteArray := prog_8_method_43_code
def yX6_placeIn : MethodName := ⟨RX6, "placeIn", "(III)I"⟩
abbrev cX6_where : ByteArray := prog_8_method_44_code
def yX6_where : MethodName := ⟨RX6, "where", "(III)I"⟩
abbrev cX6_allCarried : ByteArray := prog_8_method_45_code
def yX6_allCarried : MethodName := ⟨RX6, "allCarried", "()I"⟩
abbrev cX6_lastEnd : ByteArray := prog_8_method_46_code
def yX6_lastEnd : MethodName := ⟨RX6, "lastEnd", "()I"⟩
abbrev cX6_count : ByteArray := prog_8_method_47_code
def yX6_count : MethodName := ⟨RX6, "count", "(I)I"⟩
abbrev cX6_ofHouse : ByteArray := prog_8_method_48_code
def yX6_ofHouse : MethodName := ⟨RX6, "ofHouse", "(II)I"⟩
abbrev cX6_advert : ByteArray := prog_8_method_49_code
def yX6_advert : MethodName := ⟨RX6, "advert", "(I)I"⟩
abbrev cX6_isFree : ByteArray := prog_8_method_50_code
def yX6_isFree : MethodName := ⟨RX6, "isFree", "()Z"⟩
abbrev cX6_firstFree : ByteArray := prog_8_method_51_code
def yX6_firstFree : MethodName := ⟨RX6, "firstFree", "(III)I"⟩
abbrev cX6_slower : ByteArray := prog_8_method_52_code
def yX6_slower : MethodName := ⟨RX6, "slower", "(I)I"⟩
abbrev cX6_put : ByteArray := prog_8_method_53_code
def yX6_put : MethodName := ⟨RX6, "put", "(J)I"⟩
abbrev cX6_wipe : ByteArray := prog_8_method_54_code
def yX6_wipe : MethodName := ⟨RX6, "wipe", "()I"⟩
abbrev cX6_sign : ByteArray := prog_8_method_55_code
def yX6_sign : MethodName := ⟨RX6, "sign", "()I"⟩
abbrev cX6_wants : ByteArray := prog_8_method_56_code
def yX6_wants : MethodName := ⟨RX6, "wants", "(I)V"⟩
abbrev cX6_digit : ByteArray := prog_8_method_57_code
def yX6_digit : MethodName := ⟨RX6, "digit", "()I"⟩
abbrev cX6_number : ByteArray := prog_8_method_58_code
def yX6_number : MethodName := ⟨RX6, "number", "()I"⟩
abbrev cX6_readsOrder : ByteArray := prog_8_method_59_code
def yX6_readsOrder : MethodName := ⟨RX6, "readsOrder", "()V"⟩
abbrev cX6_reads : ByteArray := prog_8_method_60_code
def yX6_reads : MethodName := ⟨RX6, "reads", "()I"⟩
abbrev cX6_fault : ByteArray := prog_8_method_61_code
def yX6_fault : MethodName := ⟨RX6, "fault", "()I"⟩
abbrev cX6_refuses : ByteArray := prog_8_method_62_code
def yX6_refuses : MethodName := ⟨RX6, "refuses", "(I)I"⟩
abbrev cX6_does : ByteArray := prog_8_method_63_code
def yX6_does : MethodName := ⟨RX6, "does", "(I)V"⟩
abbrev cX6_carryOut : ByteArray := prog_8_method_64_code
def yX6_carryOut : MethodName := ⟨RX6, "carryOut", "()I"⟩
abbrev cX6_undo : ByteArray := prog_8_method_65_code
def yX6_undo : MethodName := ⟨RX6, "undo", "()I"⟩
abbrev cX6_save : ByteArray := prog_8_method_66_code
def yX6_save : MethodName := ⟨RX6, "save", "(I)I"⟩
abbrev cX6_restore : ByteArray := prog_8_method_67_code
def yX6_restore : MethodName := ⟨RX6, "restore", "(I)I"⟩
def RJ6 : String := "java/lang/Integer"
abbrev cJ6_bitCount_0f7a4 : ByteArray := prog_9_method_49_code
def yJ6_bitCount_0f7a4 : MethodName := ⟨RJ6, "bitCount", "(I)I"⟩
def RJ9 : String := "java/lang/Math"
abbrev cJ9_max_7cf53 : ByteArray := prog_10_method_65_code
def yJ9_max_7cf53 : MethodName := ⟨RJ9, "max", "(II)I"⟩
def RJ0 : String := "java/lang/String"
abbrev cJ0_length_8abf5 : ByteArray := prog_11_method_54_code
def yJ0_length_8abf5 : MethodName := ⟨RJ0, "length", "()I"⟩
abbrev cJ0_isEmpty_aae02 : ByteArray := prog_11_method_55_code
def yJ0_isEmpty_aae02 : MethodName := ⟨RJ0, "isEmpty", "()Z"⟩
abbrev cJ0_charAt_5068e : ByteArray := prog_11_method_56_code
def yJ0_charAt_5068e : MethodName := ⟨RJ0, "charAt", "(I)C"⟩
abbrev cJ0_coder_7d493 : ByteArray := prog_11_method_152_code
def yJ0_coder_7d493 : MethodName := ⟨RJ0, "coder", "()B"⟩
abbrev cJ0_isLatin1_aae02 : ByteArray := prog_11_method_154_code
def yJ0_isLatin1_aae02 : MethodName := ⟨RJ0, "isLatin1", "()Z"⟩
abbrev cJ0_checkIndex_df160 : ByteArray := prog_11_method_155_code
def yJ0_checkIndex_df160 : MethodName := ⟨RJ0, "checkIndex", "(II)V"⟩
def RJ1 : String := "java/lang/StringLatin1"
abbrev cJ1_charAt_3b067 : ByteArray := prog_12_method_2_code
def yJ1_charAt_3b067 : MethodName := ⟨RJ1, "charAt", "([BI)C"⟩
def RJ2 : String := "java/lang/StringUTF16"
abbrev cJ2_getChar_3b067 : ByteArray := prog_13_method_5_code
def yJ2_getChar_3b067 : MethodName := ⟨RJ2, "getChar", "([BI)C"⟩
abbrev cJ2_length_9d52b : ByteArray := prog_13_method_6_code
def yJ2_length_9d52b : MethodName := ⟨RJ2, "length", "([B)I"⟩
abbrev cJ2_charAt_3b067 : ByteArray := prog_13_method_83_code
def yJ2_charAt_3b067 : MethodName := ⟨RJ2, "charAt", "([BI)C"⟩
abbrev cJ2_checkIndex_2214a : ByteArray := prog_13_method_91_code
def yJ2_checkIndex_2214a : MethodName := ⟨RJ2, "checkIndex", "(I[B)V"⟩
def RJ10 : String := "java/lang/System"
def RJ7 : String := "java/util/Arrays"
abbrev cJ7_fill_53178 : ByteArray := prog_15_method_103_code
def yJ7_fill_53178 : MethodName := ⟨RJ7, "fill", "([II)V"⟩
def RJ3 : String := "jdk/internal/util/Preconditions"
abbrev cJ3_checkIndex_8e157 : ByteArray := prog_16_method_11_code
def yJ3_checkIndex_8e157 : MethodName := ⟨RJ3, "checkIndex", "(IILjava/util/function/BiFunction;)I"⟩
def RL : String := "CircuitReelsLaw"
abbrev cL_law : ByteArray := code
def yL_law : MethodName := ⟨RL, "law", "([I)Z"⟩
abbrev vwCl : List vw_C := [(RX0, TX0, 12), (RX1, TX1, 3), (RX2, TX2, 6), (RX3, TX3, 11), (RX4, TX4, 9), (RX5, TX5, 9), (RX6, TX6, 25)]
