section
-- ===== PART A: goes FIRST, ahead of the names: the tables' words, and 'selects' of the private methods out of them =====
/-- a private method of a class that the tables say can be made, by its rows of tables_1 -/
def lw_okq (q : MethodName × Nat) : Prop := (q.1.cls ≠ "java/lang/invoke/MethodHandle" ∧ q.1.cls ≠ "java/lang/invoke/VarHandle") ∧ Cond.instantiable q.1.cls q.2 ∈ tables_1 ∧ Cond.privateMethod q.1 ∈ tables_1 ∧ Cond.instanceMethod q.1 ∈ tables_1
theorem lw_p0 : lw_okq (⟨"HoleFills", "found", "(I)I"⟩, 7) := ⟨⟨by decide +kernel, by decide +kernel⟩, List.mem_of_getElem? (i := 16) (by decide +kernel), List.mem_of_getElem? (i := 183) (by decide +kernel), List.mem_of_getElem? (i := 184) (by decide +kernel)⟩
theorem lw_p1 : lw_okq (⟨"HoleFills$Town", "isLetGo", "(I)Z"⟩, 16) := ⟨⟨by decide +kernel, by decide +kernel⟩, List.mem_of_getElem? (i := 24) (by decide +kernel), List.mem_of_getElem? (i := 311) (by decide +kernel), List.mem_of_getElem? (i := 312) (by decide +kernel)⟩
theorem lw_p2 : lw_okq (⟨"HoleFills$Town", "comesAheadOf", "(II)Z"⟩, 16) := ⟨⟨by decide +kernel, by decide +kernel⟩, List.mem_of_getElem? (i := 24) (by decide +kernel), List.mem_of_getElem? (i := 315) (by decide +kernel), List.mem_of_getElem? (i := 316) (by decide +kernel)⟩
theorem lw_p3 : lw_okq (⟨"HoleFills$Town", "sendMen", "()V"⟩, 16) := ⟨⟨by decide +kernel, by decide +kernel⟩, List.mem_of_getElem? (i := 24) (by decide +kernel), List.mem_of_getElem? (i := 332) (by decide +kernel), List.mem_of_getElem? (i := 333) (by decide +kernel)⟩
theorem lw_p4 : lw_okq (⟨"HoleFills$Town", "wear", "(I)V"⟩, 16) := ⟨⟨by decide +kernel, by decide +kernel⟩, List.mem_of_getElem? (i := 24) (by decide +kernel), List.mem_of_getElem? (i := 338) (by decide +kernel), List.mem_of_getElem? (i := 339) (by decide +kernel)⟩
theorem lw_p5 : lw_okq (⟨"HoleFills", "asItIs", "()LHoleFills$Town;"⟩, 7) := ⟨⟨by decide +kernel, by decide +kernel⟩, List.mem_of_getElem? (i := 16) (by decide +kernel), List.mem_of_getElem? (i := 358) (by decide +kernel), List.mem_of_getElem? (i := 359) (by decide +kernel)⟩
theorem lw_p6 : lw_okq (⟨"HoleFills", "weeksUntil", "(IZ)I"⟩, 7) := ⟨⟨by decide +kernel, by decide +kernel⟩, List.mem_of_getElem? (i := 16) (by decide +kernel), List.mem_of_getElem? (i := 381) (by decide +kernel), List.mem_of_getElem? (i := 382) (by decide +kernel)⟩
theorem lw_p7 : lw_okq (⟨"HoleFills$Tape", "endOfRun", "(III)I"⟩, 6) := ⟨⟨by decide +kernel, by decide +kernel⟩, List.mem_of_getElem? (i := 102) (by decide +kernel), List.mem_of_getElem? (i := 458) (by decide +kernel), List.mem_of_getElem? (i := 459) (by decide +kernel)⟩
theorem lw_p8 : lw_okq (⟨"HoleFills$Tape", "valueOfToken", "()I"⟩, 6) := ⟨⟨by decide +kernel, by decide +kernel⟩, List.mem_of_getElem? (i := 102) (by decide +kernel), List.mem_of_getElem? (i := 462) (by decide +kernel), List.mem_of_getElem? (i := 463) (by decide +kernel)⟩
theorem lw_p9 : lw_okq (⟨"HoleFills", "sheetAt", "(I)LHoleFills$Sheet;"⟩, 7) := ⟨⟨by decide +kernel, by decide +kernel⟩, List.mem_of_getElem? (i := 16) (by decide +kernel), List.mem_of_getElem? (i := 565) (by decide +kernel), List.mem_of_getElem? (i := 566) (by decide +kernel)⟩
theorem lw_p10 : lw_okq (⟨"HoleFillsModel", "becomes", "(II)I"⟩, 16) := ⟨⟨by decide +kernel, by decide +kernel⟩, List.mem_of_getElem? (i := 642) (by decide +kernel), List.mem_of_getElem? (i := 710) (by decide +kernel), List.mem_of_getElem? (i := 711) (by decide +kernel)⟩
theorem lw_p11 : lw_okq (⟨"HoleFillsModel", "finds", "(I)I"⟩, 16) := ⟨⟨by decide +kernel, by decide +kernel⟩, List.mem_of_getElem? (i := 642) (by decide +kernel), List.mem_of_getElem? (i := 715) (by decide +kernel), List.mem_of_getElem? (i := 716) (by decide +kernel)⟩
theorem lw_p12 : lw_okq (⟨"HoleFillsModel", "thoseAs", "(II)I"⟩, 16) := ⟨⟨by decide +kernel, by decide +kernel⟩, List.mem_of_getElem? (i := 642) (by decide +kernel), List.mem_of_getElem? (i := 732) (by decide +kernel), List.mem_of_getElem? (i := 733) (by decide +kernel)⟩
theorem lw_p13 : lw_okq (⟨"HoleFillsModel", "its", "(II)I"⟩, 16) := ⟨⟨by decide +kernel, by decide +kernel⟩, List.mem_of_getElem? (i := 642) (by decide +kernel), List.mem_of_getElem? (i := 736) (by decide +kernel), List.mem_of_getElem? (i := 737) (by decide +kernel)⟩
theorem lw_p14 : lw_okq (⟨"HoleFillsModel", "adds", "(II)I"⟩, 16) := ⟨⟨by decide +kernel, by decide +kernel⟩, List.mem_of_getElem? (i := 642) (by decide +kernel), List.mem_of_getElem? (i := 751) (by decide +kernel), List.mem_of_getElem? (i := 752) (by decide +kernel)⟩
theorem lw_p15 : lw_okq (⟨"HoleFillsModel", "isHole", "(I)Z"⟩, 16) := ⟨⟨by decide +kernel, by decide +kernel⟩, List.mem_of_getElem? (i := 642) (by decide +kernel), List.mem_of_getElem? (i := 759) (by decide +kernel), List.mem_of_getElem? (i := 760) (by decide +kernel)⟩
def lw_privs_1 : List (MethodName × Nat) := [(⟨"HoleFills", "found", "(I)I"⟩, 7), (⟨"HoleFills$Town", "isLetGo", "(I)Z"⟩, 16), (⟨"HoleFills$Town", "comesAheadOf", "(II)Z"⟩, 16), (⟨"HoleFills$Town", "sendMen", "()V"⟩, 16), (⟨"HoleFills$Town", "wear", "(I)V"⟩, 16), (⟨"HoleFills", "asItIs", "()LHoleFills$Town;"⟩, 7), (⟨"HoleFills", "weeksUntil", "(IZ)I"⟩, 7), (⟨"HoleFills$Tape", "endOfRun", "(III)I"⟩, 6), (⟨"HoleFills$Tape", "valueOfToken", "()I"⟩, 6), (⟨"HoleFills", "sheetAt", "(I)LHoleFills$Sheet;"⟩, 7), (⟨"HoleFillsModel", "becomes", "(II)I"⟩, 16), (⟨"HoleFillsModel", "finds", "(I)I"⟩, 16), (⟨"HoleFillsModel", "thoseAs", "(II)I"⟩, 16), (⟨"HoleFillsModel", "its", "(II)I"⟩, 16), (⟨"HoleFillsModel", "adds", "(II)I"⟩, 16), (⟨"HoleFillsModel", "isHole", "(I)Z"⟩, 16)]
theorem lw_r1 : ∀ q ∈ lw_privs_1, lw_okq q := List.forall_mem_cons.mpr ⟨lw_p0, List.forall_mem_cons.mpr ⟨lw_p1, List.forall_mem_cons.mpr ⟨lw_p2, List.forall_mem_cons.mpr ⟨lw_p3, List.forall_mem_cons.mpr ⟨lw_p4, List.forall_mem_cons.mpr ⟨lw_p5, List.forall_mem_cons.mpr ⟨lw_p6, List.forall_mem_cons.mpr ⟨lw_p7, List.forall_mem_cons.mpr ⟨lw_p8, List.forall_mem_cons.mpr ⟨lw_p9, List.forall_mem_cons.mpr ⟨lw_p10, List.forall_mem_cons.mpr ⟨lw_p11, List.forall_mem_cons.mpr ⟨lw_p12, List.forall_mem_cons.mpr ⟨lw_p13, List.forall_mem_cons.mpr ⟨lw_p14, List.forall_mem_cons.mpr ⟨lw_p15, fun _ h => absurd h List.not_mem_nil⟩⟩⟩⟩⟩⟩⟩⟩⟩⟩⟩⟩⟩⟩⟩⟩
theorem lw_p16 : lw_okq (⟨"HoleFillsModel", "growsOf", "(I)I"⟩, 16) := ⟨⟨by decide +kernel, by decide +kernel⟩, List.mem_of_getElem? (i := 642) (by decide +kernel), List.mem_of_getElem? (i := 764) (by decide +kernel), List.mem_of_getElem? (i := 765) (by decide +kernel)⟩
theorem lw_p17 : lw_okq (⟨"HoleFillsModel", "isFrost", "()Z"⟩, 16) := ⟨⟨by decide +kernel, by decide +kernel⟩, List.mem_of_getElem? (i := 642) (by decide +kernel), List.mem_of_getElem? (i := 768) (by decide +kernel), List.mem_of_getElem? (i := 769) (by decide +kernel)⟩
theorem lw_p18 : lw_okq (⟨"HoleFillsModel", "weekOfYear", "()I"⟩, 16) := ⟨⟨by decide +kernel, by decide +kernel⟩, List.mem_of_getElem? (i := 642) (by decide +kernel), List.mem_of_getElem? (i := 772) (by decide +kernel), List.mem_of_getElem? (i := 773) (by decide +kernel)⟩
theorem lw_p19 : lw_okq (⟨"HoleFillsModel", "costsOf", "(I)I"⟩, 16) := ⟨⟨by decide +kernel, by decide +kernel⟩, List.mem_of_getElem? (i := 642) (by decide +kernel), List.mem_of_getElem? (i := 776) (by decide +kernel), List.mem_of_getElem? (i := 777) (by decide +kernel)⟩
theorem lw_p20 : lw_okq (⟨"HoleFillsModel", "holdsOf", "(IZ)I"⟩, 16) := ⟨⟨by decide +kernel, by decide +kernel⟩, List.mem_of_getElem? (i := 642) (by decide +kernel), List.mem_of_getElem? (i := 780) (by decide +kernel), List.mem_of_getElem? (i := 781) (by decide +kernel)⟩
theorem lw_p21 : lw_okq (⟨"HoleFillsModel", "mayFill", "(II)Z"⟩, 16) := ⟨⟨by decide +kernel, by decide +kernel⟩, List.mem_of_getElem? (i := 642) (by decide +kernel), List.mem_of_getElem? (i := 809) (by decide +kernel), List.mem_of_getElem? (i := 810) (by decide +kernel)⟩
theorem lw_p22 : lw_okq (⟨"HoleFillsModel", "priceOf", "(II)I"⟩, 16) := ⟨⟨by decide +kernel, by decide +kernel⟩, List.mem_of_getElem? (i := 642) (by decide +kernel), List.mem_of_getElem? (i := 813) (by decide +kernel), List.mem_of_getElem? (i := 814) (by decide +kernel)⟩
theorem lw_p23 : lw_okq (⟨"HoleFillsModel", "fills", "(II)I"⟩, 16) := ⟨⟨by decide +kernel, by decide +kernel⟩, List.mem_of_getElem? (i := 642) (by decide +kernel), List.mem_of_getElem? (i := 817) (by decide +kernel), List.mem_of_getElem? (i := 818) (by decide +kernel)⟩
theorem lw_p24 : lw_okq (⟨"HoleFillsModel", "nextOne", "()I"⟩, 16) := ⟨⟨by decide +kernel, by decide +kernel⟩, List.mem_of_getElem? (i := 642) (by decide +kernel), List.mem_of_getElem? (i := 830) (by decide +kernel), List.mem_of_getElem? (i := 831) (by decide +kernel)⟩
theorem lw_p25 : lw_okq (⟨"HoleFillsModel", "isAhead", "(II)Z"⟩, 16) := ⟨⟨by decide +kernel, by decide +kernel⟩, List.mem_of_getElem? (i := 642) (by decide +kernel), List.mem_of_getElem? (i := 834) (by decide +kernel), List.mem_of_getElem? (i := 835) (by decide +kernel)⟩
theorem lw_p26 : lw_okq (⟨"HoleFillsModel", "weeksGo", "(I)V"⟩, 16) := ⟨⟨by decide +kernel, by decide +kernel⟩, List.mem_of_getElem? (i := 642) (by decide +kernel), List.mem_of_getElem? (i := 844) (by decide +kernel), List.mem_of_getElem? (i := 845) (by decide +kernel)⟩
theorem lw_p27 : lw_okq (⟨"HoleFillsModel", "week", "()V"⟩, 16) := ⟨⟨by decide +kernel, by decide +kernel⟩, List.mem_of_getElem? (i := 642) (by decide +kernel), List.mem_of_getElem? (i := 848) (by decide +kernel), List.mem_of_getElem? (i := 849) (by decide +kernel)⟩
theorem lw_p28 : lw_okq (⟨"HoleFillsModel", "ages", "(I)V"⟩, 16) := ⟨⟨by decide +kernel, by decide +kernel⟩, List.mem_of_getElem? (i := 642) (by decide +kernel), List.mem_of_getElem? (i := 852) (by decide +kernel), List.mem_of_getElem? (i := 853) (by decide +kernel)⟩
theorem lw_p29 : lw_okq (⟨"HoleFillsModel", "worseNow", "()I"⟩, 16) := ⟨⟨by decide +kernel, by decide +kernel⟩, List.mem_of_getElem? (i := 642) (by decide +kernel), List.mem_of_getElem? (i := 860) (by decide +kernel), List.mem_of_getElem? (i := 861) (by decide +kernel)⟩
theorem lw_p30 : lw_okq (⟨"HoleFillsModel", "sizesOf", "(I)I"⟩, 16) := ⟨⟨by decide +kernel, by decide +kernel⟩, List.mem_of_getElem? (i := 642) (by decide +kernel), List.mem_of_getElem? (i := 864) (by decide +kernel), List.mem_of_getElem? (i := 865) (by decide +kernel)⟩
theorem lw_p31 : lw_okq (⟨"HoleFillsModel", "laysAside", "()V"⟩, 16) := ⟨⟨by decide +kernel, by decide +kernel⟩, List.mem_of_getElem? (i := 642) (by decide +kernel), List.mem_of_getElem? (i := 875) (by decide +kernel), List.mem_of_getElem? (i := 876) (by decide +kernel)⟩
def lw_privs_2 : List (MethodName × Nat) := [(⟨"HoleFillsModel", "growsOf", "(I)I"⟩, 16), (⟨"HoleFillsModel", "isFrost", "()Z"⟩, 16), (⟨"HoleFillsModel", "weekOfYear", "()I"⟩, 16), (⟨"HoleFillsModel", "costsOf", "(I)I"⟩, 16), (⟨"HoleFillsModel", "holdsOf", "(IZ)I"⟩, 16), (⟨"HoleFillsModel", "mayFill", "(II)Z"⟩, 16), (⟨"HoleFillsModel", "priceOf", "(II)I"⟩, 16), (⟨"HoleFillsModel", "fills", "(II)I"⟩, 16), (⟨"HoleFillsModel", "nextOne", "()I"⟩, 16), (⟨"HoleFillsModel", "isAhead", "(II)Z"⟩, 16), (⟨"HoleFillsModel", "weeksGo", "(I)V"⟩, 16), (⟨"HoleFillsModel", "week", "()V"⟩, 16), (⟨"HoleFillsModel", "ages", "(I)V"⟩, 16), (⟨"HoleFillsModel", "worseNow", "()I"⟩, 16), (⟨"HoleFillsModel", "sizesOf", "(I)I"⟩, 16), (⟨"HoleFillsModel", "laysAside", "()V"⟩, 16)]
theorem lw_r2 : ∀ q ∈ lw_privs_2, lw_okq q := List.forall_mem_cons.mpr ⟨lw_p16, List.forall_mem_cons.mpr ⟨lw_p17, List.forall_mem_cons.mpr ⟨lw_p18, List.forall_mem_cons.mpr ⟨lw_p19, List.forall_mem_cons.mpr ⟨lw_p20, List.forall_mem_cons.mpr ⟨lw_p21, List.forall_mem_cons.mpr ⟨lw_p22, List.forall_mem_cons.mpr ⟨lw_p23, List.forall_mem_cons.mpr ⟨lw_p24, List.forall_mem_cons.mpr ⟨lw_p25, List.forall_mem_cons.mpr ⟨lw_p26, List.forall_mem_cons.mpr ⟨lw_p27, List.forall_mem_cons.mpr ⟨lw_p28, List.forall_mem_cons.mpr ⟨lw_p29, List.forall_mem_cons.mpr ⟨lw_p30, List.forall_mem_cons.mpr ⟨lw_p31, fun _ h => absurd h List.not_mem_nil⟩⟩⟩⟩⟩⟩⟩⟩⟩⟩⟩⟩⟩⟩⟩⟩
theorem lw_p32 : lw_okq (⟨"HoleFillsModel", "takesBack", "(I)I"⟩, 16) := ⟨⟨by decide +kernel, by decide +kernel⟩, List.mem_of_getElem? (i := 642) (by decide +kernel), List.mem_of_getElem? (i := 879) (by decide +kernel), List.mem_of_getElem? (i := 880) (by decide +kernel)⟩
theorem lw_p33 : lw_okq (⟨"HoleFillsModel", "worseIn", "(I)I"⟩, 16) := ⟨⟨by decide +kernel, by decide +kernel⟩, List.mem_of_getElem? (i := 642) (by decide +kernel), List.mem_of_getElem? (i := 887) (by decide +kernel), List.mem_of_getElem? (i := 888) (by decide +kernel)⟩
theorem lw_p34 : lw_okq (⟨"HoleFillsModel", "firstSo", "(IZ)I"⟩, 16) := ⟨⟨by decide +kernel, by decide +kernel⟩, List.mem_of_getElem? (i := 642) (by decide +kernel), List.mem_of_getElem? (i := 899) (by decide +kernel), List.mem_of_getElem? (i := 900) (by decide +kernel)⟩
theorem lw_p35 : lw_okq (⟨"HoleFillsModel", "leastBy", "(IIII)I"⟩, 16) := ⟨⟨by decide +kernel, by decide +kernel⟩, List.mem_of_getElem? (i := 642) (by decide +kernel), List.mem_of_getElem? (i := 919) (by decide +kernel), List.mem_of_getElem? (i := 920) (by decide +kernel)⟩
theorem lw_p36 : lw_okq (⟨"HoleFillsModel", "saves", "()V"⟩, 16) := ⟨⟨by decide +kernel, by decide +kernel⟩, List.mem_of_getElem? (i := 642) (by decide +kernel), List.mem_of_getElem? (i := 952) (by decide +kernel), List.mem_of_getElem? (i := 953) (by decide +kernel)⟩
theorem lw_p37 : lw_okq (⟨"HoleFillsModel", "token", "()V"⟩, 16) := ⟨⟨by decide +kernel, by decide +kernel⟩, List.mem_of_getElem? (i := 642) (by decide +kernel), List.mem_of_getElem? (i := 956) (by decide +kernel), List.mem_of_getElem? (i := 957) (by decide +kernel)⟩
theorem lw_p38 : lw_okq (⟨"HoleFillsModel", "byteAt", "(I)I"⟩, 16) := ⟨⟨by decide +kernel, by decide +kernel⟩, List.mem_of_getElem? (i := 642) (by decide +kernel), List.mem_of_getElem? (i := 960) (by decide +kernel), List.mem_of_getElem? (i := 961) (by decide +kernel)⟩
theorem lw_p39 : lw_okq (⟨"HoleFillsModel", "item", "()V"⟩, 16) := ⟨⟨by decide +kernel, by decide +kernel⟩, List.mem_of_getElem? (i := 642) (by decide +kernel), List.mem_of_getElem? (i := 974) (by decide +kernel), List.mem_of_getElem? (i := 975) (by decide +kernel)⟩
theorem lw_p40 : lw_okq (⟨"HoleFillsModel", "kindHere", "()I"⟩, 16) := ⟨⟨by decide +kernel, by decide +kernel⟩, List.mem_of_getElem? (i := 642) (by decide +kernel), List.mem_of_getElem? (i := 978) (by decide +kernel), List.mem_of_getElem? (i := 979) (by decide +kernel)⟩
theorem lw_p41 : lw_okq (⟨"HoleFillsModel", "word", "()J"⟩, 16) := ⟨⟨by decide +kernel, by decide +kernel⟩, List.mem_of_getElem? (i := 642) (by decide +kernel), List.mem_of_getElem? (i := 982) (by decide +kernel), List.mem_of_getElem? (i := 983) (by decide +kernel)⟩
theorem lw_p42 : lw_okq (⟨"HoleFillsModel", "holeItem", "(I)V"⟩, 16) := ⟨⟨by decide +kernel, by decide +kernel⟩, List.mem_of_getElem? (i := 642) (by decide +kernel), List.mem_of_getElem? (i := 995) (by decide +kernel), List.mem_of_getElem? (i := 996) (by decide +kernel)⟩
theorem lw_p43 : lw_okq (⟨"HoleFillsModel", "must", "(Z)V"⟩, 16) := ⟨⟨by decide +kernel, by decide +kernel⟩, List.mem_of_getElem? (i := 642) (by decide +kernel), List.mem_of_getElem? (i := 999) (by decide +kernel), List.mem_of_getElem? (i := 1000) (by decide +kernel)⟩
theorem lw_p44 : lw_okq (⟨"HoleFillsModel", "partItem", "(JII)V"⟩, 16) := ⟨⟨by decide +kernel, by decide +kernel⟩, List.mem_of_getElem? (i := 642) (by decide +kernel), List.mem_of_getElem? (i := 1004) (by decide +kernel), List.mem_of_getElem? (i := 1005) (by decide +kernel)⟩
theorem lw_p45 : lw_okq (⟨"HoleFillsModel", "number", "(II)V"⟩, 16) := ⟨⟨by decide +kernel, by decide +kernel⟩, List.mem_of_getElem? (i := 642) (by decide +kernel), List.mem_of_getElem? (i := 1008) (by decide +kernel), List.mem_of_getElem? (i := 1009) (by decide +kernel)⟩
theorem lw_p46 : lw_okq (⟨"HoleFillsModel", "wordItem", "(JII)V"⟩, 16) := ⟨⟨by decide +kernel, by decide +kernel⟩, List.mem_of_getElem? (i := 642) (by decide +kernel), List.mem_of_getElem? (i := 1014) (by decide +kernel), List.mem_of_getElem? (i := 1015) (by decide +kernel)⟩
theorem lw_p47 : lw_okq (⟨"HoleFillsModel", "streetItem", "()V"⟩, 16) := ⟨⟨by decide +kernel, by decide +kernel⟩, List.mem_of_getElem? (i := 642) (by decide +kernel), List.mem_of_getElem? (i := 1021) (by decide +kernel), List.mem_of_getElem? (i := 1022) (by decide +kernel)⟩
def lw_privs_3 : List (MethodName × Nat) := [(⟨"HoleFillsModel", "takesBack", "(I)I"⟩, 16), (⟨"HoleFillsModel", "worseIn", "(I)I"⟩, 16), (⟨"HoleFillsModel", "firstSo", "(IZ)I"⟩, 16), (⟨"HoleFillsModel", "leastBy", "(IIII)I"⟩, 16), (⟨"HoleFillsModel", "saves", "()V"⟩, 16), (⟨"HoleFillsModel", "token", "()V"⟩, 16), (⟨"HoleFillsModel", "byteAt", "(I)I"⟩, 16), (⟨"HoleFillsModel", "item", "()V"⟩, 16), (⟨"HoleFillsModel", "kindHere", "()I"⟩, 16), (⟨"HoleFillsModel", "word", "()J"⟩, 16), (⟨"HoleFillsModel", "holeItem", "(I)V"⟩, 16), (⟨"HoleFillsModel", "must", "(Z)V"⟩, 16), (⟨"HoleFillsModel", "partItem", "(JII)V"⟩, 16), (⟨"HoleFillsModel", "number", "(II)V"⟩, 16), (⟨"HoleFillsModel", "wordItem", "(JII)V"⟩, 16), (⟨"HoleFillsModel", "streetItem", "()V"⟩, 16)]
theorem lw_r3 : ∀ q ∈ lw_privs_3, lw_okq q := List.forall_mem_cons.mpr ⟨lw_p32, List.forall_mem_cons.mpr ⟨lw_p33, List.forall_mem_cons.mpr ⟨lw_p34, List.forall_mem_cons.mpr ⟨lw_p35, List.forall_mem_cons.mpr ⟨lw_p36, List.forall_mem_cons.mpr ⟨lw_p37, List.forall_mem_cons.mpr ⟨lw_p38, List.forall_mem_cons.mpr ⟨lw_p39, List.forall_mem_cons.mpr ⟨lw_p40, List.forall_mem_cons.mpr ⟨lw_p41, List.forall_mem_cons.mpr ⟨lw_p42, List.forall_mem_cons.mpr ⟨lw_p43, List.forall_mem_cons.mpr ⟨lw_p44, List.forall_mem_cons.mpr ⟨lw_p45, List.forall_mem_cons.mpr ⟨lw_p46, List.forall_mem_cons.mpr ⟨lw_p47, fun _ h => absurd h List.not_mem_nil⟩⟩⟩⟩⟩⟩⟩⟩⟩⟩⟩⟩⟩⟩⟩⟩
theorem lw_p48 : lw_okq (⟨"HoleFillsModel", "putsBack", "()V"⟩, 16) := ⟨⟨by decide +kernel, by decide +kernel⟩, List.mem_of_getElem? (i := 642) (by decide +kernel), List.mem_of_getElem? (i := 1028) (by decide +kernel), List.mem_of_getElem? (i := 1029) (by decide +kernel)⟩
theorem lw_p49 : lw_okq (⟨"HoleFillsModel", "wrongSheet", "(I)I"⟩, 16) := ⟨⟨by decide +kernel, by decide +kernel⟩, List.mem_of_getElem? (i := 642) (by decide +kernel), List.mem_of_getElem? (i := 1044) (by decide +kernel), List.mem_of_getElem? (i := 1045) (by decide +kernel)⟩
theorem lw_p50 : lw_okq (⟨"HoleFillsModel", "wrongBook", "(II)I"⟩, 16) := ⟨⟨by decide +kernel, by decide +kernel⟩, List.mem_of_getElem? (i := 642) (by decide +kernel), List.mem_of_getElem? (i := 1064) (by decide +kernel), List.mem_of_getElem? (i := 1065) (by decide +kernel)⟩
theorem lw_p51 : lw_okq (⟨"HoleFillsModel", "isBook", "(II)Z"⟩, 16) := ⟨⟨by decide +kernel, by decide +kernel⟩, List.mem_of_getElem? (i := 642) (by decide +kernel), List.mem_of_getElem? (i := 1072) (by decide +kernel), List.mem_of_getElem? (i := 1073) (by decide +kernel)⟩
def lw_privs_4 : List (MethodName × Nat) := [(⟨"HoleFillsModel", "putsBack", "()V"⟩, 16), (⟨"HoleFillsModel", "wrongSheet", "(I)I"⟩, 16), (⟨"HoleFillsModel", "wrongBook", "(II)I"⟩, 16), (⟨"HoleFillsModel", "isBook", "(II)Z"⟩, 16)]
theorem lw_r4 : ∀ q ∈ lw_privs_4, lw_okq q := List.forall_mem_cons.mpr ⟨lw_p48, List.forall_mem_cons.mpr ⟨lw_p49, List.forall_mem_cons.mpr ⟨lw_p50, List.forall_mem_cons.mpr ⟨lw_p51, fun _ h => absurd h List.not_mem_nil⟩⟩⟩⟩
def lw_privs : List (MethodName × Nat) := lw_privs_1 ++ (lw_privs_2 ++ (lw_privs_3 ++ (lw_privs_4)))
def lw_tbl : List Cond := k2_sels lw_privs ++ tables_1
theorem lw_privs_ok : ∀ q ∈ lw_privs, lw_okq q := by
  show ∀ q ∈ lw_privs_1 ++ (lw_privs_2 ++ (lw_privs_3 ++ (lw_privs_4))), lw_okq q
  exact List.forall_mem_append.mpr ⟨lw_r1, List.forall_mem_append.mpr ⟨lw_r2, List.forall_mem_append.mpr ⟨lw_r3, lw_r4⟩⟩⟩
end
section
/-! ===== BEGIN words of one list among another's, by their places ===== -/
theorem goodIn_r {big : List Cond} (ws : List Cond) (ps : List Nat) (hp : ws = ps.filterMap (fun i => big[i]?)) (h : ws.all goodWord = true) : GoodIn big ws := by
  intro w hw
  have h1 := List.all_eq_true.mp h w hw
  rw [hp] at hw
  obtain ⟨i, -, hi⟩ := List.mem_filterMap.mp hw
  have hm : w ∈ big := by first | exact List.mem_of_getElem? hi | exact List.getElem?_mem hi
  exact ⟨hm, good_of_word h1⟩
theorem goodIn_app {big a b : List Cond} (ha : GoodIn big a) (hb : GoodIn big b) : GoodIn big (a ++ b) := fun w h => (List.mem_append.mp h).elim (ha w) (hb w)
theorem goodIn_ca {big a b : List Cond} {c : Cond} (ha : GoodIn big (c :: a)) (hb : GoodIn big b) : GoodIn big (c :: (a ++ b)) := fun w h => (List.mem_cons.mp h).elim (fun e => ha w (List.mem_cons.mpr (Or.inl e))) (fun h => (List.mem_append.mp h).elim (fun h => ha w (List.mem_cons.mpr (Or.inr h))) (hb w))
theorem goodIn_sub {big ws : List Cond} (hm : ∀ w ∈ ws, w ∈ big) (h : ws.all goodWord = true) : GoodIn big ws := fun w hw => ⟨hm w hw, good_of_word (List.all_eq_true.mp h w hw)⟩
/-! ===== END ===== -/
def RX0 : String := "HoleFills$Kinds"
def TX0 : u_T := fun k => match k with
  | _ => ("", "", "", false)
def tyX0 : Nat → FieldType := fun k => match k with
  | _ => .int
abbrev wsX00 : List Cond := u_ws RX0 TX0 0
theorem nmX0 : ∀ a, a < 0 → ∀ b, b < 0 → a ≠ b → (TX0 a).2.1 ≠ (TX0 b).2.1 := by decide +kernel
theorem tyX0_ok : ∀ k, k < 0 → parseFieldDescriptor (TX0 k).2.2.1 = some (tyX0 k) := by decide +kernel
abbrev cX0_isFrost : ByteArray := prog_2_method_2_code
def yX0_isFrost : MethodName := ⟨RX0, "isFrost", "(I)Z"⟩
abbrev cX0_growth : ByteArray := prog_2_method_3_code
def yX0_growth : MethodName := ⟨RX0, "growth", "(IIII)I"⟩
abbrev cX0_holds : ByteArray := prog_2_method_4_code
def yX0_holds : MethodName := ⟨RX0, "holds", "(II)I"⟩
abbrev cX0_coldPrice : ByteArray := prog_2_method_5_code
def yX0_coldPrice : MethodName := ⟨RX0, "coldPrice", "(II)I"⟩
abbrev cX0_isUnder : ByteArray := prog_2_method_6_code
def yX0_isUnder : MethodName := ⟨RX0, "isUnder", "(II)Z"⟩
abbrev cX0_nameOf : ByteArray := prog_2_method_7_code
def yX0_nameOf : MethodName := ⟨RX0, "nameOf", "(I)Ljava/lang/String;"⟩
def RX1 : String := "HoleFills$Sheet"
def TX1 : u_T := fun k => match k with
  | 0 => ("HoleFills$Sheet", "bits", "I", false)
  | 1 => ("HoleFills$Sheet", "length", "I", false)
  | _ => ("HoleFills$Sheet", "numbers", "[J", true)
def tyX1 : Nat → FieldType := fun k => match k with
  | 0 => .int
  | 1 => .int
  | _ => .array .long
abbrev wsX10 : List Cond := u_ws RX1 TX1 3
theorem nmX1 : ∀ a, a < 3 → ∀ b, b < 3 → a ≠ b → (TX1 a).2.1 ≠ (TX1 b).2.1 := by decide +kernel
theorem tyX1_ok : ∀ k, k < 3 → parseFieldDescriptor (TX1 k).2.2.1 = some (tyX1 k) := by decide +kernel
abbrev cX1_init : ByteArray := prog_3_method_1_code
def yX1_init : MethodName := ⟨RX1, "<init>", "()V"⟩
abbrev cX1_isMissing : ByteArray := prog_3_method_2_code
def yX1_isMissing : MethodName := ⟨RX1, "isMissing", "()Z"⟩
abbrev cX1_begin : ByteArray := prog_3_method_3_code
def yX1_begin : MethodName := ⟨RX1, "begin", "(II)V"⟩
abbrev cX1_put : ByteArray := prog_3_method_4_code
def yX1_put : MethodName := ⟨RX1, "put", "(IJ)V"⟩
abbrev cX1_hasSpan : ByteArray := prog_3_method_5_code
def yX1_hasSpan : MethodName := ⟨RX1, "hasSpan", "(II)Z"⟩
def RX2 : String := "HoleFills$Tape"
def TX2 : u_T := fun k => match k with
  | 0 => ("HoleFills$Tape", "bytes", "[I", true)
  | 1 => ("HoleFills$Tape", "length", "I", false)
  | 2 => ("HoleFills$Tape", "token", "I", false)
  | 3 => ("HoleFills$Tape", "start", "I", false)
  | 4 => ("HoleFills$Tape", "end", "I", false)
  | _ => ("HoleFills$Tape", "value", "I", false)
def tyX2 : Nat → FieldType := fun k => match k with
  | 0 => .array .int
  | 1 => .int
  | 2 => .int
  | 3 => .int
  | 4 => .int
  | _ => .int
abbrev wsX20 : List Cond := u_ws RX2 TX2 6
theorem nmX2 : ∀ a, a < 6 → ∀ b, b < 6 → a ≠ b → (TX2 a).2.1 ≠ (TX2 b).2.1 := by decide +kernel
theorem tyX2_ok : ∀ k, k < 6 → parseFieldDescriptor (TX2 k).2.2.1 = some (tyX2 k) := by decide +kernel
abbrev cX2_init : ByteArray := prog_4_method_1_code
def yX2_init : MethodName := ⟨RX2, "<init>", "()V"⟩
abbrev cX2_add : ByteArray := prog_4_method_2_code
def yX2_add : MethodName := ⟨RX2, "add", "(I)V"⟩
abbrev cX2_clear : ByteArray := prog_4_method_3_code
def yX2_clear : MethodName := ⟨RX2, "clear", "()I"⟩
abbrev cX2_begin : ByteArray := prog_4_method_4_code
def yX2_begin : MethodName := ⟨RX2, "begin", "()V"⟩
abbrev cX2_advance : ByteArray := prog_4_method_5_code
def yX2_advance : MethodName := ⟨RX2, "advance", "()V"⟩
abbrev cX2_endOfRun : ByteArray := prog_4_method_6_code
def yX2_endOfRun : MethodName := ⟨RX2, "endOfRun", "(III)I"⟩
abbrev cX2_valueOfToken : ByteArray := prog_4_method_7_code
def yX2_valueOfToken : MethodName := ⟨RX2, "valueOfToken", "()I"⟩
abbrev cX2_isAt : ByteArray := prog_4_method_8_code
def yX2_isAt : MethodName := ⟨RX2, "isAt", "(Ljava/lang/String;)Z"⟩
abbrev cX2_pass : ByteArray := prog_4_method_9_code
def yX2_pass : MethodName := ⟨RX2, "pass", "(Ljava/lang/String;)Z"⟩
abbrev cX2_passNumber : ByteArray := prog_4_method_10_code
def yX2_passNumber : MethodName := ⟨RX2, "passNumber", "(I)I"⟩
def RX3 : String := "HoleFills$Town"
def TX3 : u_T := fun k => match k with
  | 0 => ("HoleFills$Town", "week", "I", false)
  | 1 => ("HoleFills$Town", "budget", "I", false)
  | 2 => ("HoleFills$Town", "yearly", "I", false)
  | 3 => ("HoleFills$Town", "men", "I", false)
  | 4 => ("HoleFills$Town", "hot", "I", false)
  | 5 => ("HoleFills$Town", "spent", "I", false)
  | 6 => ("HoleFills$Town", "lacked", "I", false)
  | 7 => ("HoleFills$Town", "traffic", "[I", true)
  | 8 => ("HoleFills$Town", "letGo", "[I", true)
  | 9 => ("HoleFills$Town", "holes", "I", false)
  | 10 => ("HoleFills$Town", "kinds", "[I", true)
  | 11 => ("HoleFills$Town", "streets", "[I", true)
  | 12 => ("HoleFills$Town", "sizes", "[I", true)
  | 13 => ("HoleFills$Town", "fills", "[I", true)
  | 14 => ("HoleFills$Town", "ages", "[I", true)
  | _ => ("HoleFills$Town", "rungs", "[I", true)
def tyX3 : Nat → FieldType := fun k => match k with
  | 0 => .int
  | 1 => .int
  | 2 => .int
  | 3 => .int
  | 4 => .int
  | 5 => .int
  | 6 => .int
  | 7 => .array .int
  | 8 => .array .int
  | 9 => .int
  | 10 => .array .int
  | 11 => .array .int
  | 12 => .array .int
  | 13 => .array .int
  | 14 => .array .int
  | _ => .array .int
abbrev wsX30 : List Cond := u_ws RX3 TX3 16
theorem nmX3 : ∀ a, a < 16 → ∀ b, b < 16 → a ≠ b → (TX3 a).2.1 ≠ (TX3 b).2.1 := by decide +kernel
theorem tyX3_ok : ∀ k, k < 16 → parseFieldDescriptor (TX3 k).2.2.1 = some (tyX3 k) := by decide +kernel
abbrev cX3_init : ByteArray := prog_5_method_1_code
def yX3_init : MethodName := ⟨RX3, "<init>", "()V"⟩
abbrev cX3_become : ByteArray := prog_5_method_2_code
def yX3_become : MethodName := ⟨RX3, "become", "(LHoleFills$Town;)V"⟩
abbrev cX3_changeFigure : ByteArray := prog_5_method_3_code
def yX3_changeFigure : MethodName := ⟨RX3, "changeFigure", "(II)I"⟩
abbrev cX3_letGoAll : ByteArray := prog_5_method_4_code
def yX3_letGoAll : MethodName := ⟨RX3, "letGoAll", "(I)V"⟩
abbrev cX3_has : ByteArray := prog_5_method_5_code
def yX3_has : MethodName := ⟨RX3, "has", "(I)Z"⟩
abbrev cX3_isFull : ByteArray := prog_5_method_6_code
def yX3_isFull : MethodName := ⟨RX3, "isFull", "()Z"⟩
abbrev cX3_addHole : ByteArray := prog_5_method_7_code
def yX3_addHole : MethodName := ⟨RX3, "addHole", "(II)I"⟩
abbrev cX3_rowOfHoles : ByteArray := prog_5_method_8_code
def yX3_rowOfHoles : MethodName := ⟨RX3, "rowOfHoles", "(I)[I"⟩
abbrev cX3_weekOfYear : ByteArray := prog_5_method_9_code
def yX3_weekOfYear : MethodName := ⟨RX3, "weekOfYear", "()I"⟩
abbrev cX3_growth : ByteArray := prog_5_method_10_code
def yX3_growth : MethodName := ⟨RX3, "growth", "(I)I"⟩
abbrev cX3_price : ByteArray := prog_5_method_11_code
def yX3_price : MethodName := ⟨RX3, "price", "(II)I"⟩
abbrev cX3_isLetGo : ByteArray := prog_5_method_12_code
def yX3_isLetGo : MethodName := ⟨RX3, "isLetGo", "(I)Z"⟩
abbrev cX3_comesAheadOf : ByteArray := prog_5_method_13_code
def yX3_comesAheadOf : MethodName := ⟨RX3, "comesAheadOf", "(II)Z"⟩
abbrev cX3_firstToFill : ByteArray := prog_5_method_14_code
def yX3_firstToFill : MethodName := ⟨RX3, "firstToFill", "()I"⟩
abbrev cX3_fillNow : ByteArray := prog_5_method_15_code
def yX3_fillNow : MethodName := ⟨RX3, "fillNow", "(II)V"⟩
abbrev cX3_sendMen : ByteArray := prog_5_method_16_code
def yX3_sendMen : MethodName := ⟨RX3, "sendMen", "()V"⟩
abbrev cX3_wear : ByteArray := prog_5_method_17_code
def yX3_wear : MethodName := ⟨RX3, "wear", "(I)V"⟩
abbrev cX3_goWeek : ByteArray := prog_5_method_18_code
def yX3_goWeek : MethodName := ⟨RX3, "goWeek", "()V"⟩
abbrev cX3_goWeeks : ByteArray := prog_5_method_19_code
def yX3_goWeeks : MethodName := ⟨RX3, "goWeeks", "(I)LHoleFills$Town;"⟩
abbrev cX3_holesIn : ByteArray := prog_5_method_20_code
def yX3_holesIn : MethodName := ⟨RX3, "holesIn", "(I)I"⟩
abbrev cX3_openHoles : ByteArray := prog_5_method_21_code
def yX3_openHoles : MethodName := ⟨RX3, "openHoles", "()I"⟩
abbrev cX3_holesRungFor : ByteArray := prog_5_method_22_code
def yX3_holesRungFor : MethodName := ⟨RX3, "holesRungFor", "()I"⟩
abbrev cX3_openSize : ByteArray := prog_5_method_23_code
def yX3_openSize : MethodName := ⟨RX3, "openSize", "()I"⟩
abbrev cX3_openSizeOf : ByteArray := prog_5_method_24_code
def yX3_openSizeOf : MethodName := ⟨RX3, "openSizeOf", "(I)I"⟩
def RX4 : String := "HoleFills$TownText"
def TX4 : u_T := fun k => match k with
  | _ => ("", "", "", false)
def tyX4 : Nat → FieldType := fun k => match k with
  | _ => .int
abbrev wsX40 : List Cond := u_ws RX4 TX4 0
theorem nmX4 : ∀ a, a < 0 → ∀ b, b < 0 → a ≠ b → (TX4 a).2.1 ≠ (TX4 b).2.1 := by decide +kernel
theorem tyX4_ok : ∀ k, k < 0 → parseFieldDescriptor (TX4 k).2.2.1 = some (tyX4 k) := by decide +kernel
abbrev cX4_readAll : ByteArray := prog_6_method_2_code
def yX4_readAll : MethodName := ⟨RX4, "readAll", "(LHoleFills$Tape;LHoleFills$Town;)I"⟩
abbrev cX4_readItem : ByteArray := prog_6_method_3_code
def yX4_readItem : MethodName := ⟨RX4, "readItem", "(LHoleFills$Tape;LHoleFills$Town;)Z"⟩
abbrev cX4_readHole : ByteArray := prog_6_method_4_code
def yX4_readHole : MethodName := ⟨RX4, "readHole", "(LHoleFills$Tape;LHoleFills$Town;I)Z"⟩
abbrev cX4_readStreet : ByteArray := prog_6_method_5_code
def yX4_readStreet : MethodName := ⟨RX4, "readStreet", "(LHoleFills$Tape;LHoleFills$Town;)Z"⟩
def RX5 : String := "HoleFills"
def TX5 : u_T := fun k => match k with
  | 0 => ("HoleFills", "here", "LHoleFills$Town;", true)
  | 1 => ("HoleFills", "trial", "LHoleFills$Town;", true)
  | 2 => ("HoleFills", "kept", "LHoleFills$Town;", true)
  | 3 => ("HoleFills", "isKept", "Z", false)
  | 4 => ("HoleFills", "tape", "LHoleFills$Tape;", true)
  | 5 => ("HoleFills", "sheets", "[LHoleFills$Sheet;", true)
  | _ => ("HoleFills", "findings", "[I", true)
def tyX5 : Nat → FieldType := fun k => match k with
  | 0 => .object "HoleFills$Town"
  | 1 => .object "HoleFills$Town"
  | 2 => .object "HoleFills$Town"
  | 3 => .boolean
  | 4 => .object "HoleFills$Tape"
  | 5 => .array (.object "HoleFills$Sheet")
  | _ => .array .int
abbrev wsX50 : List Cond := u_ws RX5 TX5 7
theorem nmX5 : ∀ a, a < 7 → ∀ b, b < 7 → a ≠ b → (TX5 a).2.1 ≠ (TX5 b).2.1 := by decide +kernel
theorem tyX5_ok : ∀ k, k < 7 → parseFieldDescriptor (TX5 k).2.2.1 = some (tyX5 k) := by decide +kernel
abbrev cX5_init : ByteArray := prog_1_method_1_code
def yX5_init : MethodName := ⟨RX5, "<init>", "()V"⟩
abbrev cX5_town : ByteArray := prog_1_method_2_code
def yX5_town : MethodName := ⟨RX5, "town", "(II)I"⟩
abbrev cX5_street : ByteArray := prog_1_method_3_code
def yX5_street : MethodName := ⟨RX5, "street", "(III)I"⟩
abbrev cX5_streetOf : ByteArray := prog_1_method_4_code
def yX5_streetOf : MethodName := ⟨RX5, "streetOf", "(II)I"⟩
abbrev cX5_hole : ByteArray := prog_1_method_5_code
def yX5_hole : MethodName := ⟨RX5, "hole", "(II)I"⟩
abbrev cX5_of : ByteArray := prog_1_method_6_code
def yX5_of : MethodName := ⟨RX5, "of", "(II)I"⟩
abbrev cX5_set : ByteArray := prog_1_method_7_code
def yX5_set : MethodName := ⟨RX5, "set", "(III)I"⟩
abbrev cX5_turn : ByteArray := prog_1_method_8_code
def yX5_turn : MethodName := ⟨RX5, "turn", "(II)I"⟩
abbrev cX5_as : ByteArray := prog_1_method_9_code
def yX5_as : MethodName := ⟨RX5, "as", "(II)I"⟩
abbrev cX5_fill : ByteArray := prog_1_method_10_code
def yX5_fill : MethodName := ⟨RX5, "fill", "(II)I"⟩
abbrev cX5_next : ByteArray := prog_1_method_11_code
def yX5_next : MethodName := ⟨RX5, "next", "()I"⟩
abbrev cX5_weeks : ByteArray := prog_1_method_12_code
def yX5_weeks : MethodName := ⟨RX5, "weeks", "(I)I"⟩
abbrev cX5_now : ByteArray := prog_1_method_13_code
def yX5_now : MethodName := ⟨RX5, "now", "(I)I"⟩
abbrev cX5_on : ByteArray := prog_1_method_14_code
def yX5_on : MethodName := ⟨RX5, "on", "(III)I"⟩
abbrev cX5_worse : ByteArray := prog_1_method_15_code
def yX5_worse : MethodName := ⟨RX5, "worse", "(I)I"⟩
abbrev cX5_cost : ByteArray := prog_1_method_16_code
def yX5_cost : MethodName := ⟨RX5, "cost", "(I)I"⟩
abbrev cX5_filled : ByteArray := prog_1_method_17_code
def yX5_filled : MethodName := ⟨RX5, "filled", "(I)I"⟩
abbrev cX5_breaks : ByteArray := prog_1_method_18_code
def yX5_breaks : MethodName := ⟨RX5, "breaks", "(I)I"⟩
abbrev cX5_how : ByteArray := prog_1_method_19_code
def yX5_how : MethodName := ⟨RX5, "how", "(I)I"⟩
abbrev cX5_ring : ByteArray := prog_1_method_20_code
def yX5_ring : MethodName := ⟨RX5, "ring", "(I)I"⟩
abbrev cX5_men : ByteArray := prog_1_method_21_code
def yX5_men : MethodName := ⟨RX5, "men", "(II)I"⟩
abbrev cX5_budget : ByteArray := prog_1_method_22_code
def yX5_budget : MethodName := ⟨RX5, "budget", "(II)I"⟩
abbrev cX5_kind : ByteArray := prog_1_method_23_code
def yX5_kind : MethodName := ⟨RX5, "kind", "(II)I"⟩
abbrev cX5_let : ByteArray := prog_1_method_24_code
def yX5_let : MethodName := ⟨RX5, "let", "(I)I"⟩
abbrev cX5_worst : ByteArray := prog_1_method_25_code
def yX5_worst : MethodName := ⟨RX5, "worst", "(I)I"⟩
abbrev cX5_feed : ByteArray := prog_1_method_26_code
def yX5_feed : MethodName := ⟨RX5, "feed", "(II)I"⟩
abbrev cX5_wipe : ByteArray := prog_1_method_27_code
def yX5_wipe : MethodName := ⟨RX5, "wipe", "()I"⟩
abbrev cX5_text : ByteArray := prog_1_method_28_code
def yX5_text : MethodName := ⟨RX5, "text", "()I"⟩
abbrev cX5_sheet : ByteArray := prog_1_method_29_code
def yX5_sheet : MethodName := ⟨RX5, "sheet", "(III)I"⟩
abbrev cX5_write : ByteArray := prog_1_method_30_code
def yX5_write : MethodName := ⟨RX5, "write", "(IIJ)J"⟩
abbrev cX5_copy : ByteArray := prog_1_method_31_code
def yX5_copy : MethodName := ⟨RX5, "copy", "(IIIII)I"⟩
abbrev cX5_lays : ByteArray := prog_1_method_32_code
def yX5_lays : MethodName := ⟨RX5, "lays", "(I)I"⟩
abbrev cX5_book : ByteArray := prog_1_method_33_code
def yX5_book : MethodName := ⟨RX5, "book", "(II)I"⟩
abbrev cX5_read : ByteArray := prog_1_method_34_code
def yX5_read : MethodName := ⟨RX5, "read", "(II)I"⟩
abbrev cX5_image : ByteArray := prog_1_method_35_code
def yX5_image : MethodName := ⟨RX5, "image", "()I"⟩
abbrev cX5_undo : ByteArray := prog_1_method_36_code
def yX5_undo : MethodName := ⟨RX5, "undo", "()I"⟩
abbrev cX5_tear : ByteArray := prog_1_method_37_code
def yX5_tear : MethodName := ⟨RX5, "tear", "()I"⟩
abbrev cX5_count : ByteArray := prog_1_method_38_code
def yX5_count : MethodName := ⟨RX5, "count", "(I)I"⟩
abbrev cX5_status : ByteArray := prog_1_method_39_code
def yX5_status : MethodName := ⟨RX5, "status", "(I)I"⟩
abbrev cX5_within : ByteArray := prog_1_method_40_code
def yX5_within : MethodName := ⟨RX5, "within", "(III)Z"⟩
abbrev cX5_isStreet : ByteArray := prog_1_method_41_code
def yX5_isStreet : MethodName := ⟨RX5, "isStreet", "(I)Z"⟩
abbrev cX5_isKind : ByteArray := prog_1_method_42_code
def yX5_isKind : MethodName := ⟨RX5, "isKind", "(I)Z"⟩
abbrev cX5_found : ByteArray := prog_1_method_43_code
def yX5_found : MethodName := ⟨RX5, "found", "(I)I"⟩
abbrev cX5_put : ByteArray := prog_1_method_44_code
def yX5_put : MethodName := ⟨RX5, "put", "([III)I"⟩
abbrev cX5_sheetAt : ByteArray := prog_1_method_45_code
def yX5_sheetAt : MethodName := ⟨RX5, "sheetAt", "(I)LHoleFills$Sheet;"⟩
abbrev cX5_asItIs : ByteArray := prog_1_method_46_code
def yX5_asItIs : MethodName := ⟨RX5, "asItIs", "()LHoleFills$Town;"⟩
abbrev cX5_weeksUntil : ByteArray := prog_1_method_47_code
def yX5_weeksUntil : MethodName := ⟨RX5, "weeksUntil", "(IZ)I"⟩
abbrev cX5_growsAs : ByteArray := prog_1_method_48_code
def yX5_growsAs : MethodName := ⟨RX5, "growsAs", "(LHoleFills$Town;ILHoleFills$Sheet;)Z"⟩
def RX6 : String := "HoleFillsModel"
def TX6 : u_T := fun k => match k with
  | 0 => ("HoleFillsModel", "s", "[I", true)
  | 1 => ("HoleFillsModel", "keptS", "[I", true)
  | 2 => ("HoleFillsModel", "other", "[I", true)
  | 3 => ("HoleFillsModel", "aside", "[I", true)
  | 4 => ("HoleFillsModel", "statuses", "[I", true)
  | 5 => ("HoleFillsModel", "isKept", "Z", false)
  | 6 => ("HoleFillsModel", "tape", "[I", true)
  | 7 => ("HoleFillsModel", "taped", "I", false)
  | 8 => ("HoleFillsModel", "from", "I", false)
  | 9 => ("HoleFillsModel", "to", "I", false)
  | 10 => ("HoleFillsModel", "value", "I", false)
  | 11 => ("HoleFillsModel", "isWrong", "Z", false)
  | 12 => ("HoleFillsModel", "bitsOf", "[I", true)
  | 13 => ("HoleFillsModel", "sizeOf", "[I", true)
  | 14 => ("HoleFillsModel", "numbers", "[J", true)
  | _ => ("HoleFillsModel", "moved", "[J", true)
def tyX6 : Nat → FieldType := fun k => match k with
  | 0 => .array .int
  | 1 => .array .int
  | 2 => .array .int
  | 3 => .array .int
  | 4 => .array .int
  | 5 => .boolean
  | 6 => .array .int
  | 7 => .int
  | 8 => .int
  | 9 => .int
  | 10 => .int
  | 11 => .boolean
  | 12 => .array .int
  | 13 => .array .int
  | 14 => .array .long
  | _ => .array .long
abbrev wsX60 : List Cond := u_ws RX6 TX6 16
theorem nmX6 : ∀ a, a < 16 → ∀ b, b < 16 → a ≠ b → (TX6 a).2.1 ≠ (TX6 b).2.1 := by decide +kernel
theorem tyX6_ok : ∀ k, k < 16 → parseFieldDescriptor (TX6 k).2.2.1 = some (tyX6 k) := by decide +kernel
abbrev cX6_init : ByteArray := prog_8_method_1_code
def yX6_init : MethodName := ⟨RX6, "<init>", "()V"⟩
abbrev cX6_in : ByteArray := prog_8_method_2_code
def yX6_in : MethodName := ⟨RX6, "in", "(JJJ)Z"⟩
abbrev cX6_finds : ByteArray := prog_8_method_3_code
def yX6_finds : MethodName := ⟨RX6, "finds", "(I)I"⟩
abbrev cX6_saves : ByteArray := prog_8_method_4_code
def yX6_saves : MethodName := ⟨RX6, "saves", "()V"⟩
abbrev cX6_putsBack : ByteArray := prog_8_method_5_code
def yX6_putsBack : MethodName := ⟨RX6, "putsBack", "()V"⟩
abbrev cX6_laysAside : ByteArray := prog_8_method_6_code
def yX6_laysAside : MethodName := ⟨RX6, "laysAside", "()V"⟩
abbrev cX6_takesBack : ByteArray := prog_8_method_7_code
def yX6_takesBack : MethodName := ⟨RX6, "takesBack", "(I)I"⟩
abbrev cX6_becomes : ByteArray := prog_8_method_8_code
def yX6_becomes : MethodName := ⟨RX6, "becomes", "(II)I"⟩
abbrev cX6_isStreet : ByteArray := prog_8_method_9_code
def yX6_isStreet : MethodName := ⟨RX6, "isStreet", "(I)Z"⟩
abbrev cX6_isHole : ByteArray := prog_8_method_10_code
def yX6_isHole : MethodName := ⟨RX6, "isHole", "(I)Z"⟩
abbrev cX6_isKind : ByteArray := prog_8_method_11_code
def yX6_isKind : MethodName := ⟨RX6, "isKind", "(I)Z"⟩
abbrev cX6_roadOf : ByteArray := prog_8_method_12_code
def yX6_roadOf : MethodName := ⟨RX6, "roadOf", "(II)I"⟩
abbrev cX6_spotOf : ByteArray := prog_8_method_13_code
def yX6_spotOf : MethodName := ⟨RX6, "spotOf", "(II)I"⟩
abbrev cX6_its : ByteArray := prog_8_method_14_code
def yX6_its : MethodName := ⟨RX6, "its", "(II)I"⟩
abbrev cX6_heldTo : ByteArray := prog_8_method_15_code
def yX6_heldTo : MethodName := ⟨RX6, "heldTo", "(II)I"⟩
abbrev cX6_ones : ByteArray := prog_8_method_16_code
def yX6_ones : MethodName := ⟨RX6, "ones", "(I)I"⟩
abbrev cX6_town : ByteArray := prog_8_method_17_code
def yX6_town : MethodName := ⟨RX6, "town", "(II)I"⟩
abbrev cX6_street : ByteArray := prog_8_method_18_code
def yX6_street : MethodName := ⟨RX6, "street", "(III)I"⟩
abbrev cX6_thoseAs : ByteArray := prog_8_method_19_code
def yX6_thoseAs : MethodName := ⟨RX6, "thoseAs", "(II)I"⟩
abbrev cX6_streetOf : ByteArray := prog_8_method_20_code
def yX6_streetOf : MethodName := ⟨RX6, "streetOf", "(II)I"⟩
abbrev cX6_adds : ByteArray := prog_8_method_21_code
def yX6_adds : MethodName := ⟨RX6, "adds", "(II)I"⟩
abbrev cX6_hole : ByteArray := prog_8_method_22_code
def yX6_hole : MethodName := ⟨RX6, "hole", "(II)I"⟩
abbrev cX6_weekOfYear : ByteArray := prog_8_method_23_code
def yX6_weekOfYear : MethodName := ⟨RX6, "weekOfYear", "()I"⟩
abbrev cX6_isFrost : ByteArray := prog_8_method_24_code
def yX6_isFrost : MethodName := ⟨RX6, "isFrost", "()Z"⟩
abbrev cX6_growsOf : ByteArray := prog_8_method_25_code
def yX6_growsOf : MethodName := ⟨RX6, "growsOf", "(I)I"⟩
abbrev cX6_holdsOf : ByteArray := prog_8_method_26_code
def yX6_holdsOf : MethodName := ⟨RX6, "holdsOf", "(IZ)I"⟩
abbrev cX6_costsOf : ByteArray := prog_8_method_27_code
def yX6_costsOf : MethodName := ⟨RX6, "costsOf", "(I)I"⟩
abbrev cX6_priceOf : ByteArray := prog_8_method_28_code
def yX6_priceOf : MethodName := ⟨RX6, "priceOf", "(II)I"⟩
abbrev cX6_of : ByteArray := prog_8_method_29_code
def yX6_of : MethodName := ⟨RX6, "of", "(II)I"⟩
abbrev cX6_isPart : ByteArray := prog_8_method_30_code
def yX6_isPart : MethodName := ⟨RX6, "isPart", "(II)Z"⟩
abbrev cX6_set : ByteArray := prog_8_method_31_code
def yX6_set : MethodName := ⟨RX6, "set", "(III)I"⟩
abbrev cX6_turn : ByteArray := prog_8_method_32_code
def yX6_turn : MethodName := ⟨RX6, "turn", "(II)I"⟩
abbrev cX6_isUnder : ByteArray := prog_8_method_33_code
def yX6_isUnder : MethodName := ⟨RX6, "isUnder", "(II)Z"⟩
abbrev cX6_as : ByteArray := prog_8_method_34_code
def yX6_as : MethodName := ⟨RX6, "as", "(II)I"⟩
abbrev cX6_mayFill : ByteArray := prog_8_method_35_code
def yX6_mayFill : MethodName := ⟨RX6, "mayFill", "(II)Z"⟩
abbrev cX6_fills : ByteArray := prog_8_method_36_code
def yX6_fills : MethodName := ⟨RX6, "fills", "(II)I"⟩
abbrev cX6_fill : ByteArray := prog_8_method_37_code
def yX6_fill : MethodName := ⟨RX6, "fill", "(II)I"⟩
abbrev cX6_isAhead : ByteArray := prog_8_method_38_code
def yX6_isAhead : MethodName := ⟨RX6, "isAhead", "(II)Z"⟩
abbrev cX6_nextOne : ByteArray := prog_8_method_39_code
def yX6_nextOne : MethodName := ⟨RX6, "nextOne", "()I"⟩
abbrev cX6_next : ByteArray := prog_8_method_40_code
def yX6_next : MethodName := ⟨RX6, "next", "()I"⟩
abbrev cX6_ages : ByteArray := prog_8_method_41_code
def yX6_ages : MethodName := ⟨RX6, "ages", "(I)V"⟩
abbrev cX6_week : ByteArray := prog_8_method_42_code
def yX6_week : MethodName := ⟨RX6, "week", "()V"⟩
abbrev cX6_weeksGo : ByteArray := prog_8_method_43_code
def yX6_weeksGo : MethodName := ⟨RX6, "weeksGo", "(I)V"⟩
abbrev cX6_weeks : ByteArray := prog_8_method_44_code
def yX6_weeks : MethodName := ⟨RX6, "weeks", "(I)I"⟩
abbrev cX6_sizesOf : ByteArray := prog_8_method_45_code
def yX6_sizesOf : MethodName := ⟨RX6, "sizesOf", "(I)I"⟩
abbrev cX6_worseNow : ByteArray := prog_8_method_46_code
def yX6_worseNow : MethodName := ⟨RX6, "worseNow", "()I"⟩
abbrev cX6_now : ByteArray := prog_8_method_47_code
def yX6_now : MethodName := ⟨RX6, "now", "(I)I"⟩
abbrev cX6_isFar : ByteArray := prog_8_method_48_code
def yX6_isFar : MethodName := ⟨RX6, "isFar", "(III)Z"⟩
abbrev cX6_on : ByteArray := prog_8_method_49_code
def yX6_on : MethodName := ⟨RX6, "on", "(III)I"⟩
abbrev cX6_worseIn : ByteArray := prog_8_method_50_code
def yX6_worseIn : MethodName := ⟨RX6, "worseIn", "(I)I"⟩
abbrev cX6_worse : ByteArray := prog_8_method_51_code
def yX6_worse : MethodName := ⟨RX6, "worse", "(I)I"⟩
abbrev cX6_cost : ByteArray := prog_8_method_52_code
def yX6_cost : MethodName := ⟨RX6, "cost", "(I)I"⟩
abbrev cX6_firstSo : ByteArray := prog_8_method_53_code
def yX6_firstSo : MethodName := ⟨RX6, "firstSo", "(IZ)I"⟩
abbrev cX6_filled : ByteArray := prog_8_method_54_code
def yX6_filled : MethodName := ⟨RX6, "filled", "(I)I"⟩
abbrev cX6_breaks : ByteArray := prog_8_method_55_code
def yX6_breaks : MethodName := ⟨RX6, "breaks", "(I)I"⟩
abbrev cX6_how : ByteArray := prog_8_method_56_code
def yX6_how : MethodName := ⟨RX6, "how", "(I)I"⟩
abbrev cX6_ring : ByteArray := prog_8_method_57_code
def yX6_ring : MethodName := ⟨RX6, "ring", "(I)I"⟩
abbrev cX6_leastBy : ByteArray := prog_8_method_58_code
def yX6_leastBy : MethodName := ⟨RX6, "leastBy", "(IIII)I"⟩
abbrev cX6_men : ByteArray := prog_8_method_59_code
def yX6_men : MethodName := ⟨RX6, "men", "(II)I"⟩
abbrev cX6_budget : ByteArray := prog_8_method_60_code
def yX6_budget : MethodName := ⟨RX6, "budget", "(II)I"⟩
abbrev cX6_kind : ByteArray := prog_8_method_61_code
def yX6_kind : MethodName := ⟨RX6, "kind", "(II)I"⟩
abbrev cX6_let : ByteArray := prog_8_method_62_code
def yX6_let : MethodName := ⟨RX6, "let", "(I)I"⟩
abbrev cX6_worst : ByteArray := prog_8_method_63_code
def yX6_worst : MethodName := ⟨RX6, "worst", "(I)I"⟩
abbrev cX6_feed : ByteArray := prog_8_method_64_code
def yX6_feed : MethodName := ⟨RX6, "feed", "(II)I"⟩
abbrev cX6_wipe : ByteArray := prog_8_method_65_code
def yX6_wipe : MethodName := ⟨RX6, "wipe", "()I"⟩
abbrev cX6_byteAt : ByteArray := prog_8_method_66_code
def yX6_byteAt : MethodName := ⟨RX6, "byteAt", "(I)I"⟩
abbrev cX6_isLetter : ByteArray := prog_8_method_67_code
def yX6_isLetter : MethodName := ⟨RX6, "isLetter", "(I)Z"⟩
abbrev cX6_isDigit : ByteArray := prog_8_method_68_code
def yX6_isDigit : MethodName := ⟨RX6, "isDigit", "(I)Z"⟩
abbrev cX6_token : ByteArray := prog_8_method_69_code
def yX6_token : MethodName := ⟨RX6, "token", "()V"⟩
abbrev cX6_must : ByteArray := prog_8_method_70_code
def yX6_must : MethodName := ⟨RX6, "must", "(Z)V"⟩
abbrev cX6_word : ByteArray := prog_8_method_71_code
def yX6_word : MethodName := ⟨RX6, "word", "()J"⟩
abbrev cX6_number : ByteArray := prog_8_method_72_code
def yX6_number : MethodName := ⟨RX6, "number", "(II)V"⟩
abbrev cX6_kindHere : ByteArray := prog_8_method_73_code
def yX6_kindHere : MethodName := ⟨RX6, "kindHere", "()I"⟩
abbrev cX6_partItem : ByteArray := prog_8_method_74_code
def yX6_partItem : MethodName := ⟨RX6, "partItem", "(JII)V"⟩
abbrev cX6_wordItem : ByteArray := prog_8_method_75_code
def yX6_wordItem : MethodName := ⟨RX6, "wordItem", "(JII)V"⟩
abbrev cX6_holeItem : ByteArray := prog_8_method_76_code
def yX6_holeItem : MethodName := ⟨RX6, "holeItem", "(I)V"⟩
abbrev cX6_streetItem : ByteArray := prog_8_method_77_code
def yX6_streetItem : MethodName := ⟨RX6, "streetItem", "()V"⟩
abbrev cX6_item : ByteArray := prog_8_method_78_code
def yX6_item : MethodName := ⟨RX6, "item", "()V"⟩
abbrev cX6_text : ByteArray := prog_8_method_79_code
def yX6_text : MethodName := ⟨RX6, "text", "()I"⟩
abbrev cX6_isOne : ByteArray := prog_8_method_80_code
def yX6_isOne : MethodName := ⟨RX6, "isOne", "(I)Z"⟩
abbrev cX6_sheet : ByteArray := prog_8_method_81_code
def yX6_sheet : MethodName := ⟨RX6, "sheet", "(III)I"⟩
abbrev cX6_narrowed : ByteArray := prog_8_method_82_code
def yX6_narrowed : MethodName := ⟨RX6, "narrowed", "(IJ)J"⟩
abbrev cX6_wrongSheet : ByteArray := prog_8_method_83_code
def yX6_wrongSheet : MethodName := ⟨RX6, "wrongSheet", "(I)I"⟩
abbrev cX6_write : ByteArray := prog_8_method_84_code
def yX6_write : MethodName := ⟨RX6, "write", "(IIJ)J"⟩
abbrev cX6_copy : ByteArray := prog_8_method_85_code
def yX6_copy : MethodName := ⟨RX6, "copy", "(IIIII)I"⟩
abbrev cX6_lays : ByteArray := prog_8_method_86_code
def yX6_lays : MethodName := ⟨RX6, "lays", "(I)I"⟩
abbrev cX6_wrongBook : ByteArray := prog_8_method_87_code
def yX6_wrongBook : MethodName := ⟨RX6, "wrongBook", "(II)I"⟩
abbrev cX6_book : ByteArray := prog_8_method_88_code
def yX6_book : MethodName := ⟨RX6, "book", "(II)I"⟩
abbrev cX6_isBook : ByteArray := prog_8_method_89_code
def yX6_isBook : MethodName := ⟨RX6, "isBook", "(II)Z"⟩
abbrev cX6_read : ByteArray := prog_8_method_90_code
def yX6_read : MethodName := ⟨RX6, "read", "(II)I"⟩
abbrev cX6_image : ByteArray := prog_8_method_91_code
def yX6_image : MethodName := ⟨RX6, "image", "()I"⟩
abbrev cX6_undo : ByteArray := prog_8_method_92_code
def yX6_undo : MethodName := ⟨RX6, "undo", "()I"⟩
abbrev cX6_tear : ByteArray := prog_8_method_93_code
def yX6_tear : MethodName := ⟨RX6, "tear", "()I"⟩
abbrev cX6_count : ByteArray := prog_8_method_94_code
def yX6_count : MethodName := ⟨RX6, "count", "(I)I"⟩
abbrev cX6_status : ByteArray := prog_8_method_95_code
def yX6_status : MethodName := ⟨RX6, "status", "(I)I"⟩
def RJ6 : String := "java/lang/Integer"
def TJ6 : u_T := fun k => match k with
  | _ => ("", "", "", false)
def tyJ6 : Nat → FieldType := fun k => match k with
  | _ => .int
abbrev wsJ60 : List Cond := u_ws RJ6 TJ6 0
theorem nmJ6 : ∀ a, a < 0 → ∀ b, b < 0 → a ≠ b → (TJ6 a).2.1 ≠ (TJ6 b).2.1 := by decide +kernel
theorem tyJ6_ok : ∀ k, k < 0 → parseFieldDescriptor (TJ6 k).2.2.1 = some (tyJ6 k) := by decide +kernel
abbrev cJ6_bitCount_0f7a4 : ByteArray := prog_9_method_49_code
def yJ6_bitCount_0f7a4 : MethodName := ⟨RJ6, "bitCount", "(I)I"⟩
def RJ9 : String := "java/lang/Math"
def TJ9 : u_T := fun k => match k with
  | _ => ("", "", "", false)
def tyJ9 : Nat → FieldType := fun k => match k with
  | _ => .int
abbrev wsJ90 : List Cond := u_ws RJ9 TJ9 0
theorem nmJ9 : ∀ a, a < 0 → ∀ b, b < 0 → a ≠ b → (TJ9 a).2.1 ≠ (TJ9 b).2.1 := by decide +kernel
theorem tyJ9_ok : ∀ k, k < 0 → parseFieldDescriptor (TJ9 k).2.2.1 = some (tyJ9 k) := by decide +kernel
abbrev cJ9_max_7cf53 : ByteArray := prog_10_method_65_code
def yJ9_max_7cf53 : MethodName := ⟨RJ9, "max", "(II)I"⟩
abbrev cJ9_min_7cf53 : ByteArray := prog_10_method_69_code
def yJ9_min_7cf53 : MethodName := ⟨RJ9, "min", "(II)I"⟩
def RJ0 : String := "java/lang/String"
def TJ0 : u_T := fun k => match k with
  | _ => ("", "", "", false)
def tyJ0 : Nat → FieldType := fun k => match k with
  | _ => .int
abbrev wsJ00 : List Cond := u_ws RJ0 TJ0 0
theorem nmJ0 : ∀ a, a < 0 → ∀ b, b < 0 → a ≠ b → (TJ0 a).2.1 ≠ (TJ0 b).2.1 := by decide +kernel
theorem tyJ0_ok : ∀ k, k < 0 → parseFieldDescriptor (TJ0 k).2.2.1 = some (tyJ0 k) := by decide +kernel
abbrev cJ0_length_8abf5 : ByteArray := prog_11_method_54_code
def yJ0_length_8abf5 : MethodName := ⟨RJ0, "length", "()I"⟩
abbrev cJ0_charAt_5068e : ByteArray := prog_11_method_56_code
def yJ0_charAt_5068e : MethodName := ⟨RJ0, "charAt", "(I)C"⟩
abbrev cJ0_coder_7d493 : ByteArray := prog_11_method_152_code
def yJ0_coder_7d493 : MethodName := ⟨RJ0, "coder", "()B"⟩
abbrev cJ0_isLatin1_aae02 : ByteArray := prog_11_method_154_code
def yJ0_isLatin1_aae02 : MethodName := ⟨RJ0, "isLatin1", "()Z"⟩
abbrev cJ0_checkIndex_df160 : ByteArray := prog_11_method_155_code
def yJ0_checkIndex_df160 : MethodName := ⟨RJ0, "checkIndex", "(II)V"⟩
def RJ1 : String := "java/lang/StringLatin1"
def TJ1 : u_T := fun k => match k with
  | _ => ("", "", "", false)
def tyJ1 : Nat → FieldType := fun k => match k with
  | _ => .int
abbrev wsJ10 : List Cond := u_ws RJ1 TJ1 0
theorem nmJ1 : ∀ a, a < 0 → ∀ b, b < 0 → a ≠ b → (TJ1 a).2.1 ≠ (TJ1 b).2.1 := by decide +kernel
theorem tyJ1_ok : ∀ k, k < 0 → parseFieldDescriptor (TJ1 k).2.2.1 = some (tyJ1 k) := by decide +kernel
abbrev cJ1_charAt_3b067 : ByteArray := prog_12_method_2_code
def yJ1_charAt_3b067 : MethodName := ⟨RJ1, "charAt", "([BI)C"⟩
def RJ2 : String := "java/lang/StringUTF16"
def TJ2 : u_T := fun k => match k with
  | _ => ("", "", "", false)
def tyJ2 : Nat → FieldType := fun k => match k with
  | _ => .int
abbrev wsJ20 : List Cond := u_ws RJ2 TJ2 0
theorem nmJ2 : ∀ a, a < 0 → ∀ b, b < 0 → a ≠ b → (TJ2 a).2.1 ≠ (TJ2 b).2.1 := by decide +kernel
theorem tyJ2_ok : ∀ k, k < 0 → parseFieldDescriptor (TJ2 k).2.2.1 = some (tyJ2 k) := by decide +kernel
abbrev cJ2_getChar_3b067 : ByteArray := prog_13_method_5_code
def yJ2_getChar_3b067 : MethodName := ⟨RJ2, "getChar", "([BI)C"⟩
abbrev cJ2_length_9d52b : ByteArray := prog_13_method_6_code
def yJ2_length_9d52b : MethodName := ⟨RJ2, "length", "([B)I"⟩
abbrev cJ2_charAt_3b067 : ByteArray := prog_13_method_83_code
def yJ2_charAt_3b067 : MethodName := ⟨RJ2, "charAt", "([BI)C"⟩
abbrev cJ2_checkIndex_2214a : ByteArray := prog_13_method_91_code
def yJ2_checkIndex_2214a : MethodName := ⟨RJ2, "checkIndex", "(I[B)V"⟩
def RJ10 : String := "java/lang/System"
def TJ10 : u_T := fun k => match k with
  | _ => ("", "", "", false)
def tyJ10 : Nat → FieldType := fun k => match k with
  | _ => .int
abbrev wsJ100 : List Cond := u_ws RJ10 TJ10 0
theorem nmJ10 : ∀ a, a < 0 → ∀ b, b < 0 → a ≠ b → (TJ10 a).2.1 ≠ (TJ10 b).2.1 := by decide +kernel
theorem tyJ10_ok : ∀ k, k < 0 → parseFieldDescriptor (TJ10 k).2.2.1 = some (tyJ10 k) := by decide +kernel
def RJ3 : String := "jdk/internal/util/Preconditions"
def TJ3 : u_T := fun k => match k with
  | _ => ("", "", "", false)
def tyJ3 : Nat → FieldType := fun k => match k with
  | _ => .int
abbrev wsJ30 : List Cond := u_ws RJ3 TJ3 0
theorem nmJ3 : ∀ a, a < 0 → ∀ b, b < 0 → a ≠ b → (TJ3 a).2.1 ≠ (TJ3 b).2.1 := by decide +kernel
theorem tyJ3_ok : ∀ k, k < 0 → parseFieldDescriptor (TJ3 k).2.2.1 = some (tyJ3 k) := by decide +kernel
abbrev cJ3_checkIndex_8e157 : ByteArray := prog_15_method_11_code
def yJ3_checkIndex_8e157 : MethodName := ⟨RJ3, "checkIndex", "(IILjava/util/function/BiFunction;)I"⟩
def RL : String := "HoleFillsLaw"
abbrev cL_law : ByteArray := code
def yL_law : MethodName := ⟨RL, "law", "([I)Z"⟩
abbrev vwCl : List vw_C := [(RX1, TX1, 3), (RX2, TX2, 6), (RX3, TX3, 16), (RX5, TX5, 7), (RX6, TX6, 16)]
end
section
theorem dX0_isFrost_0 : decode cX0_isFrost 0 = .ok (.iload_n 0, 1) := by decide +kernel
theorem dX0_isFrost_1 : decode cX0_isFrost 1 = .ok (.bipush 10, 2) := by decide +kernel
theorem dX0_isFrost_3 : decode cX0_isFrost 3 = .ok (.if_icmp .lt 9, 3) := by decide +kernel
theorem dX0_isFrost_6 : decode cX0_isFrost 6 = .ok (.iload_n 0, 1) := by decide +kernel
theorem dX0_isFrost_7 : decode cX0_isFrost 7 = .ok (.bipush 46, 2) := by decide +kernel
theorem dX0_isFrost_9 : decode cX0_isFrost 9 = .ok (.if_icmp .lt 7, 3) := by decide +kernel
theorem dX0_isFrost_12 : decode cX0_isFrost 12 = .ok (.iconst 1, 1) := by decide +kernel
theorem dX0_isFrost_13 : decode cX0_isFrost 13 = .ok (.goto 4, 3) := by decide +kernel
theorem dX0_isFrost_16 : decode cX0_isFrost 16 = .ok (.iconst 0, 1) := by decide +kernel
theorem dX0_isFrost_17 : decode cX0_isFrost 17 = .ok (.ireturn, 1) := by decide +kernel
theorem dX0_growth_0 : decode cX0_growth 0 = .ok (.iload_n 2, 1) := by decide +kernel
theorem dX0_growth_1 : decode cX0_growth 1 = .ok (.invokestatic 9, 3) := by decide +kernel
theorem dX0_growth_4 : decode cX0_growth 4 = .ok (.istore 4, 2) := by decide +kernel
theorem dX0_growth_6 : decode cX0_growth 6 = .ok (.iconst 1, 1) := by decide +kernel
theorem dX0_growth_7 : decode cX0_growth 7 = .ok (.iload_n 3, 1) := by decide +kernel
theorem dX0_growth_8 : decode cX0_growth 8 = .ok (.bipush 10, 2) := by decide +kernel
theorem dX0_growth_10 : decode cX0_growth 10 = .ok (.idiv, 1) := by decide +kernel
theorem dX0_growth_11 : decode cX0_growth 11 = .ok (.iadd, 1) := by decide +kernel
theorem dX0_growth_12 : decode cX0_growth 12 = .ok (.iload 4, 2) := by decide +kernel
theorem dX0_growth_14 : decode cX0_growth 14 = .ok (.ifCond .eq 7, 3) := by decide +kernel
theorem dX0_growth_17 : decode cX0_growth 17 = .ok (.iconst 2, 1) := by decide +kernel
theorem dX0_growth_18 : decode cX0_growth 18 = .ok (.goto 4, 3) := by decide +kernel
theorem dX0_growth_21 : decode cX0_growth 21 = .ok (.iconst 0, 1) := by decide +kernel
theorem dX0_growth_22 : decode cX0_growth 22 = .ok (.iadd, 1) := by decide +kernel
theorem dX0_growth_23 : decode cX0_growth 23 = .ok (.istore 5, 2) := by decide +kernel
theorem dX0_growth_25 : decode cX0_growth 25 = .ok (.iload 5, 2) := by decide +kernel
theorem dX0_growth_27 : decode cX0_growth 27 = .ok (.iload_n 1, 1) := by decide +kernel
theorem dX0_growth_28 : decode cX0_growth 28 = .ok (.bipush 20, 2) := by decide +kernel
theorem dX0_growth_30 : decode cX0_growth 30 = .ok (.idiv, 1) := by decide +kernel
theorem dX0_growth_31 : decode cX0_growth 31 = .ok (.iadd, 1) := by decide +kernel
theorem dX0_growth_32 : decode cX0_growth 32 = .ok (.istore 6, 2) := by decide +kernel
theorem dX0_growth_34 : decode cX0_growth 34 = .ok (.iload_n 0, 1) := by decide +kernel
theorem dX0_growth_35 : decode cX0_growth 35 = .ok (.tableswitch 74 1 5 #[33, 36, 38, 54, 63], 33) := by decide +kernel
theorem dX0_growth_68 : decode cX0_growth 68 = .ok (.iload 6, 2) := by decide +kernel
theorem dX0_growth_70 : decode cX0_growth 70 = .ok (.ireturn, 1) := by decide +kernel
theorem dX0_growth_71 : decode cX0_growth 71 = .ok (.iconst 1, 1) := by decide +kernel
theorem dX0_growth_72 : decode cX0_growth 72 = .ok (.ireturn, 1) := by decide +kernel
theorem dX0_growth_73 : decode cX0_growth 73 = .ok (.iload 5, 2) := by decide +kernel
theorem dX0_growth_75 : decode cX0_growth 75 = .ok (.iload_n 2, 1) := by decide +kernel
theorem dX0_growth_76 : decode cX0_growth 76 = .ok (.bipush 9, 2) := by decide +kernel
theorem dX0_growth_78 : decode cX0_growth 78 = .ok (.irem, 1) := by decide +kernel
theorem dX0_growth_79 : decode cX0_growth 79 = .ok (.ifCond .ne 7, 3) := by decide +kernel
theorem dX0_growth_82 : decode cX0_growth 82 = .ok (.iconst 3, 1) := by decide +kernel
theorem dX0_growth_83 : decode cX0_growth 83 = .ok (.goto 4, 3) := by decide +kernel
theorem dX0_growth_86 : decode cX0_growth 86 = .ok (.iconst 0, 1) := by decide +kernel
theorem dX0_growth_87 : decode cX0_growth 87 = .ok (.iadd, 1) := by decide +kernel
theorem dX0_growth_88 : decode cX0_growth 88 = .ok (.ireturn, 1) := by decide +kernel
theorem dX0_growth_89 : decode cX0_growth 89 = .ok (.iconst 0, 1) := by decide +kernel
theorem dX0_growth_90 : decode cX0_growth 90 = .ok (.iload 6, 2) := by decide +kernel
theorem dX0_growth_92 : decode cX0_growth 92 = .ok (.iconst 1, 1) := by decide +kernel
theorem dX0_growth_93 : decode cX0_growth 93 = .ok (.isub, 1) := by decide +kernel
theorem dX0_growth_94 : decode cX0_growth 94 = .ok (.invokestatic 15, 3) := by decide +kernel
theorem dX0_growth_97 : decode cX0_growth 97 = .ok (.ireturn, 1) := by decide +kernel
theorem dX0_growth_98 : decode cX0_growth 98 = .ok (.iload 4, 2) := by decide +kernel
theorem dX0_growth_100 : decode cX0_growth 100 = .ok (.ifCond .eq 7, 3) := by decide +kernel
theorem dX0_growth_103 : decode cX0_growth 103 = .ok (.iconst 2, 1) := by decide +kernel
theorem dX0_growth_104 : decode cX0_growth 104 = .ok (.goto 4, 3) := by decide +kernel
theorem dX0_growth_107 : decode cX0_growth 107 = .ok (.iconst 1, 1) := by decide +kernel
theorem dX0_growth_108 : decode cX0_growth 108 = .ok (.ireturn, 1) := by decide +kernel
theorem dX0_growth_109 : decode cX0_growth 109 = .ok (.iload 5, 2) := by decide +kernel
theorem dX0_growth_111 : decode cX0_growth 111 = .ok (.ireturn, 1) := by decide +kernel
theorem dX0_holds_0 : decode cX0_holds 0 = .ok (.iload_n 1, 1) := by decide +kernel
theorem dX0_holds_1 : decode cX0_holds 1 = .ok (.iconst 2, 1) := by decide +kernel
theorem dX0_holds_2 : decode cX0_holds 2 = .ok (.if_icmp .ne 8, 3) := by decide +kernel
theorem dX0_holds_5 : decode cX0_holds 5 = .ok (.bipush 40, 2) := by decide +kernel
theorem dX0_holds_7 : decode cX0_holds 7 = .ok (.goto 4, 3) := by decide +kernel
theorem dX0_holds_10 : decode cX0_holds 10 = .ok (.iconst 3, 1) := by decide +kernel
theorem dX0_holds_11 : decode cX0_holds 11 = .ok (.istore_n 2, 1) := by decide +kernel
theorem dX0_holds_12 : decode cX0_holds 12 = .ok (.iload_n 0, 1) := by decide +kernel
theorem dX0_holds_13 : decode cX0_holds 13 = .ok (.tableswitch 53 1 5 #[35, 39, 43, 35, 47], 35) := by decide +kernel
theorem dX0_holds_48 : decode cX0_holds 48 = .ok (.iload_n 2, 1) := by decide +kernel
theorem dX0_holds_49 : decode cX0_holds 49 = .ok (.iconst 1, 1) := by decide +kernel
theorem dX0_holds_50 : decode cX0_holds 50 = .ok (.isub, 1) := by decide +kernel
theorem dX0_holds_51 : decode cX0_holds 51 = .ok (.ireturn, 1) := by decide +kernel
theorem dX0_holds_52 : decode cX0_holds 52 = .ok (.iload_n 2, 1) := by decide +kernel
theorem dX0_holds_53 : decode cX0_holds 53 = .ok (.iconst 5, 1) := by decide +kernel
theorem dX0_holds_54 : decode cX0_holds 54 = .ok (.iadd, 1) := by decide +kernel
theorem dX0_holds_55 : decode cX0_holds 55 = .ok (.ireturn, 1) := by decide +kernel
theorem dX0_holds_56 : decode cX0_holds 56 = .ok (.iload_n 2, 1) := by decide +kernel
theorem dX0_holds_57 : decode cX0_holds 57 = .ok (.iconst 2, 1) := by decide +kernel
theorem dX0_holds_58 : decode cX0_holds 58 = .ok (.idiv, 1) := by decide +kernel
theorem dX0_holds_59 : decode cX0_holds 59 = .ok (.ireturn, 1) := by decide +kernel
theorem dX0_holds_60 : decode cX0_holds 60 = .ok (.iload_n 2, 1) := by decide +kernel
theorem dX0_holds_61 : decode cX0_holds 61 = .ok (.iconst 5, 1) := by decide +kernel
theorem dX0_holds_62 : decode cX0_holds 62 = .ok (.iadd, 1) := by decide +kernel
theorem dX0_holds_63 : decode cX0_holds 63 = .ok (.iconst 2, 1) := by decide +kernel
theorem dX0_holds_64 : decode cX0_holds 64 = .ok (.imul, 1) := by decide +kernel
theorem dX0_holds_65 : decode cX0_holds 65 = .ok (.ireturn, 1) := by decide +kernel
theorem dX0_holds_66 : decode cX0_holds 66 = .ok (.iload_n 2, 1) := by decide +kernel
theorem dX0_holds_67 : decode cX0_holds 67 = .ok (.ireturn, 1) := by decide +kernel
theorem dX0_coldPrice_0 : decode cX0_coldPrice 0 = .ok (.iconst 5, 1) := by decide +kernel
theorem dX0_coldPrice_1 : decode cX0_coldPrice 1 = .ok (.iload_n 1, 1) := by decide +kernel
theorem dX0_coldPrice_2 : decode cX0_coldPrice 2 = .ok (.bipush 10, 2) := by decide +kernel
theorem dX0_coldPrice_4 : decode cX0_coldPrice 4 = .ok (.idiv, 1) := by decide +kernel
theorem dX0_coldPrice_5 : decode cX0_coldPrice 5 = .ok (.iadd, 1) := by decide +kernel
theorem dX0_coldPrice_6 : decode cX0_coldPrice 6 = .ok (.istore_n 2, 1) := by decide +kernel
theorem dX0_coldPrice_7 : decode cX0_coldPrice 7 = .ok (.iload_n 0, 1) := by decide +kernel
theorem dX0_coldPrice_8 : decode cX0_coldPrice 8 = .ok (.tableswitch 48 1 5 #[36, 40, 48, 42, 46], 36) := by decide +kernel
theorem dX0_coldPrice_44 : decode cX0_coldPrice 44 = .ok (.iload_n 2, 1) := by decide +kernel
theorem dX0_coldPrice_45 : decode cX0_coldPrice 45 = .ok (.iconst 3, 1) := by decide +kernel
theorem dX0_coldPrice_46 : decode cX0_coldPrice 46 = .ok (.iadd, 1) := by decide +kernel
theorem dX0_coldPrice_47 : decode cX0_coldPrice 47 = .ok (.ireturn, 1) := by decide +kernel
theorem dX0_coldPrice_48 : decode cX0_coldPrice 48 = .ok (.iconst 2, 1) := by decide +kernel
theorem dX0_coldPrice_49 : decode cX0_coldPrice 49 = .ok (.ireturn, 1) := by decide +kernel
theorem dX0_coldPrice_50 : decode cX0_coldPrice 50 = .ok (.iload_n 2, 1) := by decide +kernel
theorem dX0_coldPrice_51 : decode cX0_coldPrice 51 = .ok (.iconst 1, 1) := by decide +kernel
theorem dX0_coldPrice_52 : decode cX0_coldPrice 52 = .ok (.iadd, 1) := by decide +kernel
theorem dX0_coldPrice_53 : decode cX0_coldPrice 53 = .ok (.ireturn, 1) := by decide +kernel
theorem dX0_coldPrice_54 : decode cX0_coldPrice 54 = .ok (.iconst 3, 1) := by decide +kernel
theorem dX0_coldPrice_55 : decode cX0_coldPrice 55 = .ok (.ireturn, 1) := by decide +kernel
theorem dX0_coldPrice_56 : decode cX0_coldPrice 56 = .ok (.iload_n 2, 1) := by decide +kernel
theorem dX0_coldPrice_57 : decode cX0_coldPrice 57 = .ok (.ireturn, 1) := by decide +kernel
theorem dX0_isUnder_0 : decode cX0_isUnder 0 = .ok (.iload_n 1, 1) := by decide +kernel
theorem dX0_isUnder_1 : decode cX0_isUnder 1 = .ok (.tableswitch 61 0 2 #[27, 29, 45], 27) := by decide +kernel
theorem dX0_isUnder_28 : decode cX0_isUnder 28 = .ok (.iconst 1, 1) := by decide +kernel
theorem dX0_isUnder_29 : decode cX0_isUnder 29 = .ok (.ireturn, 1) := by decide +kernel
theorem dX0_isUnder_30 : decode cX0_isUnder 30 = .ok (.iload_n 0, 1) := by decide +kernel
theorem dX0_isUnder_31 : decode cX0_isUnder 31 = .ok (.iconst 1, 1) := by decide +kernel
theorem dX0_isUnder_32 : decode cX0_isUnder 32 = .ok (.if_icmp .eq 8, 3) := by decide +kernel
theorem dX0_isUnder_35 : decode cX0_isUnder 35 = .ok (.iload_n 0, 1) := by decide +kernel
theorem dX0_isUnder_36 : decode cX0_isUnder 36 = .ok (.iconst 4, 1) := by decide +kernel
theorem dX0_isUnder_37 : decode cX0_isUnder 37 = .ok (.if_icmp .ne 7, 3) := by decide +kernel
theorem dX0_isUnder_40 : decode cX0_isUnder 40 = .ok (.iconst 1, 1) := by decide +kernel
theorem dX0_isUnder_41 : decode cX0_isUnder 41 = .ok (.goto 4, 3) := by decide +kernel
theorem dX0_isUnder_44 : decode cX0_isUnder 44 = .ok (.iconst 0, 1) := by decide +kernel
theorem dX0_isUnder_45 : decode cX0_isUnder 45 = .ok (.ireturn, 1) := by decide +kernel
theorem dX0_isUnder_46 : decode cX0_isUnder 46 = .ok (.iload_n 0, 1) := by decide +kernel
theorem dX0_isUnder_47 : decode cX0_isUnder 47 = .ok (.iconst 2, 1) := by decide +kernel
theorem dX0_isUnder_48 : decode cX0_isUnder 48 = .ok (.if_icmp .eq 8, 3) := by decide +kernel
theorem dX0_isUnder_51 : decode cX0_isUnder 51 = .ok (.iload_n 0, 1) := by decide +kernel
theorem dX0_isUnder_52 : decode cX0_isUnder 52 = .ok (.iconst 5, 1) := by decide +kernel
theorem dX0_isUnder_53 : decode cX0_isUnder 53 = .ok (.if_icmp .ne 7, 3) := by decide +kernel
theorem dX0_isUnder_56 : decode cX0_isUnder 56 = .ok (.iconst 1, 1) := by decide +kernel
theorem dX0_isUnder_57 : decode cX0_isUnder 57 = .ok (.goto 4, 3) := by decide +kernel
theorem dX0_isUnder_60 : decode cX0_isUnder 60 = .ok (.iconst 0, 1) := by decide +kernel
theorem dX0_isUnder_61 : decode cX0_isUnder 61 = .ok (.ireturn, 1) := by decide +kernel
theorem dX0_isUnder_62 : decode cX0_isUnder 62 = .ok (.iload_n 0, 1) := by decide +kernel
theorem dX0_isUnder_63 : decode cX0_isUnder 63 = .ok (.iload_n 1, 1) := by decide +kernel
theorem dX0_isUnder_64 : decode cX0_isUnder 64 = .ok (.if_icmp .ne 7, 3) := by decide +kernel
theorem dX0_isUnder_67 : decode cX0_isUnder 67 = .ok (.iconst 1, 1) := by decide +kernel
theorem dX0_isUnder_68 : decode cX0_isUnder 68 = .ok (.goto 4, 3) := by decide +kernel
theorem dX0_isUnder_71 : decode cX0_isUnder 71 = .ok (.iconst 0, 1) := by decide +kernel
theorem dX0_isUnder_72 : decode cX0_isUnder 72 = .ok (.ireturn, 1) := by decide +kernel
theorem dX0_nameOf_0 : decode cX0_nameOf 0 = .ok (.iload_n 0, 1) := by decide +kernel
theorem dX0_nameOf_1 : decode cX0_nameOf 1 = .ok (.tableswitch 50 0 4 #[35, 38, 41, 44, 47], 35) := by decide +kernel
theorem dX0_nameOf_36 : decode cX0_nameOf 36 = .ok (.ldc 21, 2) := by decide +kernel
theorem dX0_nameOf_38 : decode cX0_nameOf 38 = .ok (.areturn, 1) := by decide +kernel
theorem dX0_nameOf_39 : decode cX0_nameOf 39 = .ok (.ldc 23, 2) := by decide +kernel
theorem dX0_nameOf_41 : decode cX0_nameOf 41 = .ok (.areturn, 1) := by decide +kernel
theorem dX0_nameOf_42 : decode cX0_nameOf 42 = .ok (.ldc 25, 2) := by decide +kernel
theorem dX0_nameOf_44 : decode cX0_nameOf 44 = .ok (.areturn, 1) := by decide +kernel
theorem dX0_nameOf_45 : decode cX0_nameOf 45 = .ok (.ldc 27, 2) := by decide +kernel
theorem dX0_nameOf_47 : decode cX0_nameOf 47 = .ok (.areturn, 1) := by decide +kernel
theorem dX0_nameOf_48 : decode cX0_nameOf 48 = .ok (.ldc 29, 2) := by decide +kernel
theorem dX0_nameOf_50 : decode cX0_nameOf 50 = .ok (.areturn, 1) := by decide +kernel
theorem dX0_nameOf_51 : decode cX0_nameOf 51 = .ok (.ldc 31, 2) := by decide +kernel
theorem dX0_nameOf_53 : decode cX0_nameOf 53 = .ok (.areturn, 1) := by decide +kernel
theorem dX1_init_0 : decode cX1_init 0 = .ok (.aload_n 0, 1) := by decide +kernel
theorem dX1_init_1 : decode cX1_init 1 = .ok (.invokespecial 3, 3) := by decide +kernel
theorem dX1_init_4 : decode cX1_init 4 = .ok (.aload_n 0, 1) := by decide +kernel
theorem dX1_init_5 : decode cX1_init 5 = .ok (.iconst 0, 1) := by decide +kernel
theorem dX1_init_6 : decode cX1_init 6 = .ok (.putfield 9, 3) := by decide +kernel
theorem dX1_init_9 : decode cX1_init 9 = .ok (.aload_n 0, 1) := by decide +kernel
theorem dX1_init_10 : decode cX1_init 10 = .ok (.iconst 0, 1) := by decide +kernel
theorem dX1_init_11 : decode cX1_init 11 = .ok (.putfield 15, 3) := by decide +kernel
theorem dX1_init_14 : decode cX1_init 14 = .ok (.aload_n 0, 1) := by decide +kernel
theorem dX1_init_15 : decode cX1_init 15 = .ok (.bipush 40, 2) := by decide +kernel
theorem dX1_init_17 : decode cX1_init 17 = .ok (.newarray .long, 2) := by decide +kernel
theorem dX1_init_19 : decode cX1_init 19 = .ok (.putfield 18, 3) := by decide +kernel
theorem dX1_init_22 : decode cX1_init 22 = .ok (.return_, 1) := by decide +kernel
theorem dX1_isMissing_0 : decode cX1_isMissing 0 = .ok (.aload_n 0, 1) := by decide +kernel
theorem dX1_isMissing_1 : decode cX1_isMissing 1 = .ok (.getfield 9, 3) := by decide +kernel
theorem dX1_isMissing_4 : decode cX1_isMissing 4 = .ok (.ifCond .ne 7, 3) := by decide +kernel
theorem dX1_isMissing_7 : decode cX1_isMissing 7 = .ok (.iconst 1, 1) := by decide +kernel
theorem dX1_isMissing_8 : decode cX1_isMissing 8 = .ok (.goto 4, 3) := by decide +kernel
theorem dX1_isMissing_11 : decode cX1_isMissing 11 = .ok (.iconst 0, 1) := by decide +kernel
theorem dX1_isMissing_12 : decode cX1_isMissing 12 = .ok (.ireturn, 1) := by decide +kernel
theorem dX1_begin_0 : decode cX1_begin 0 = .ok (.aload_n 0, 1) := by decide +kernel
theorem dX1_begin_1 : decode cX1_begin 1 = .ok (.iload_n 1, 1) := by decide +kernel
theorem dX1_begin_2 : decode cX1_begin 2 = .ok (.putfield 9, 3) := by decide +kernel
theorem dX1_begin_5 : decode cX1_begin 5 = .ok (.aload_n 0, 1) := by decide +kernel
theorem dX1_begin_6 : decode cX1_begin 6 = .ok (.iload_n 2, 1) := by decide +kernel
theorem dX1_begin_7 : decode cX1_begin 7 = .ok (.putfield 15, 3) := by decide +kernel
theorem dX1_begin_10 : decode cX1_begin 10 = .ok (.iconst 0, 1) := by decide +kernel
theorem dX1_begin_11 : decode cX1_begin 11 = .ok (.istore_n 3, 1) := by decide +kernel
theorem dX1_begin_12 : decode cX1_begin 12 = .ok (.iload_n 3, 1) := by decide +kernel
theorem dX1_begin_13 : decode cX1_begin 13 = .ok (.bipush 40, 2) := by decide +kernel
theorem dX1_begin_15 : decode cX1_begin 15 = .ok (.if_icmp .ge 16, 3) := by decide +kernel
theorem dX1_begin_18 : decode cX1_begin 18 = .ok (.aload_n 0, 1) := by decide +kernel
theorem dX1_begin_19 : decode cX1_begin 19 = .ok (.getfield 18, 3) := by decide +kernel
theorem dX1_begin_22 : decode cX1_begin 22 = .ok (.iload_n 3, 1) := by decide +kernel
theorem dX1_begin_23 : decode cX1_begin 23 = .ok (.lconst 0, 1) := by decide +kernel
theorem dX1_begin_24 : decode cX1_begin 24 = .ok (.lastore, 1) := by decide +kernel
theorem dX1_begin_25 : decode cX1_begin 25 = .ok (.iinc 3 1, 3) := by decide +kernel
theorem dX1_begin_28 : decode cX1_begin 28 = .ok (.goto (-16), 3) := by decide +kernel
theorem dX1_begin_31 : decode cX1_begin 31 = .ok (.return_, 1) := by decide +kernel
theorem dX1_put_0 : decode cX1_put 0 = .ok (.iload_n 1, 1) := by decide +kernel
theorem dX1_put_1 : decode cX1_put 1 = .ok (.ifCond .lt 11, 3) := by decide +kernel
theorem dX1_put_4 : decode cX1_put 4 = .ok (.iload_n 1, 1) := by decide +kernel
theorem dX1_put_5 : decode cX1_put 5 = .ok (.aload_n 0, 1) := by decide +kernel
theorem dX1_put_6 : decode cX1_put 6 = .ok (.getfield 15, 3) := by decide +kernel
theorem dX1_put_9 : decode cX1_put 9 = .ok (.if_icmp .lt 4, 3) := by decide +kernel
theorem dX1_put_12 : decode cX1_put 12 = .ok (.return_, 1) := by decide +kernel
theorem dX1_put_13 : decode cX1_put 13 = .ok (.aload_n 0, 1) := by decide +kernel
theorem dX1_put_14 : decode cX1_put 14 = .ok (.getfield 9, 3) := by decide +kernel
theorem dX1_put_17 : decode cX1_put 17 = .ok (.bipush 8, 2) := by decide +kernel
theorem dX1_put_19 : decode cX1_put 19 = .ok (.if_icmp .ne 16, 3) := by decide +kernel
theorem dX1_put_22 : decode cX1_put 22 = .ok (.aload_n 0, 1) := by decide +kernel
theorem dX1_put_23 : decode cX1_put 23 = .ok (.getfield 18, 3) := by decide +kernel
theorem dX1_put_26 : decode cX1_put 26 = .ok (.iload_n 1, 1) := by decide +kernel
theorem dX1_put_27 : decode cX1_put 27 = .ok (.lload_n 2, 1) := by decide +kernel
theorem dX1_put_28 : decode cX1_put 28 = .ok (.l2i, 1) := by decide +kernel
theorem dX1_put_29 : decode cX1_put 29 = .ok (.i2b, 1) := by decide +kernel
theorem dX1_put_30 : decode cX1_put 30 = .ok (.i2l, 1) := by decide +kernel
theorem dX1_put_31 : decode cX1_put 31 = .ok (.lastore, 1) := by decide +kernel
theorem dX1_put_32 : decode cX1_put 32 = .ok (.goto 32, 3) := by decide +kernel
theorem dX1_put_35 : decode cX1_put 35 = .ok (.aload_n 0, 1) := by decide +kernel
theorem dX1_put_36 : decode cX1_put 36 = .ok (.getfield 9, 3) := by decide +kernel
theorem dX1_put_39 : decode cX1_put 39 = .ok (.bipush 16, 2) := by decide +kernel
theorem dX1_put_41 : decode cX1_put 41 = .ok (.if_icmp .ne 16, 3) := by decide +kernel
theorem dX1_put_44 : decode cX1_put 44 = .ok (.aload_n 0, 1) := by decide +kernel
theorem dX1_put_45 : decode cX1_put 45 = .ok (.getfield 18, 3) := by decide +kernel
theorem dX1_put_48 : decode cX1_put 48 = .ok (.iload_n 1, 1) := by decide +kernel
theorem dX1_put_49 : decode cX1_put 49 = .ok (.lload_n 2, 1) := by decide +kernel
theorem dX1_put_50 : decode cX1_put 50 = .ok (.l2i, 1) := by decide +kernel
theorem dX1_put_51 : decode cX1_put 51 = .ok (.i2s, 1) := by decide +kernel
theorem dX1_put_52 : decode cX1_put 52 = .ok (.i2l, 1) := by decide +kernel
theorem dX1_put_53 : decode cX1_put 53 = .ok (.lastore, 1) := by decide +kernel
theorem dX1_put_54 : decode cX1_put 54 = .ok (.goto 10, 3) := by decide +kernel
theorem dX1_put_57 : decode cX1_put 57 = .ok (.aload_n 0, 1) := by decide +kernel
theorem dX1_put_58 : decode cX1_put 58 = .ok (.getfield 18, 3) := by decide +kernel
theorem dX1_put_61 : decode cX1_put 61 = .ok (.iload_n 1, 1) := by decide +kernel
theorem dX1_put_62 : decode cX1_put 62 = .ok (.lload_n 2, 1) := by decide +kernel
theorem dX1_put_63 : decode cX1_put 63 = .ok (.lastore, 1) := by decide +kernel
theorem dX1_put_64 : decode cX1_put 64 = .ok (.return_, 1) := by decide +kernel
theorem dX1_hasSpan_0 : decode cX1_hasSpan 0 = .ok (.iload_n 1, 1) := by decide +kernel
theorem dX1_hasSpan_1 : decode cX1_hasSpan 1 = .ok (.ifCond .lt 29, 3) := by decide +kernel
theorem dX1_hasSpan_4 : decode cX1_hasSpan 4 = .ok (.iload_n 2, 1) := by decide +kernel
theorem dX1_hasSpan_5 : decode cX1_hasSpan 5 = .ok (.ifCond .lt 25, 3) := by decide +kernel
theorem dX1_hasSpan_8 : decode cX1_hasSpan 8 = .ok (.iload_n 2, 1) := by decide +kernel
theorem dX1_hasSpan_9 : decode cX1_hasSpan 9 = .ok (.aload_n 0, 1) := by decide +kernel
theorem dX1_hasSpan_10 : decode cX1_hasSpan 10 = .ok (.getfield 15, 3) := by decide +kernel
theorem dX1_hasSpan_13 : decode cX1_hasSpan 13 = .ok (.if_icmp .gt 17, 3) := by decide +kernel
theorem dX1_hasSpan_16 : decode cX1_hasSpan 16 = .ok (.iload_n 1, 1) := by decide +kernel
theorem dX1_hasSpan_17 : decode cX1_hasSpan 17 = .ok (.aload_n 0, 1) := by decide +kernel
theorem dX1_hasSpan_18 : decode cX1_hasSpan 18 = .ok (.getfield 15, 3) := by decide +kernel
theorem dX1_hasSpan_21 : decode cX1_hasSpan 21 = .ok (.iload_n 2, 1) := by decide +kernel
theorem dX1_hasSpan_22 : decode cX1_hasSpan 22 = .ok (.isub, 1) := by decide +kernel
theorem dX1_hasSpan_23 : decode cX1_hasSpan 23 = .ok (.if_icmp .gt 7, 3) := by decide +kernel
theorem dX1_hasSpan_26 : decode cX1_hasSpan 26 = .ok (.iconst 1, 1) := by decide +kernel
theorem dX1_hasSpan_27 : decode cX1_hasSpan 27 = .ok (.goto 4, 3) := by decide +kernel
theorem dX1_hasSpan_30 : decode cX1_hasSpan 30 = .ok (.iconst 0, 1) := by decide +kernel
theorem dX1_hasSpan_31 : decode cX1_hasSpan 31 = .ok (.ireturn, 1) := by decide +kernel
theorem dX2_init_0 : decode cX2_init 0 = .ok (.aload_n 0, 1) := by decide +kernel
theorem dX2_init_1 : decode cX2_init 1 = .ok (.invokespecial 3, 3) := by decide +kernel
theorem dX2_init_4 : decode cX2_init 4 = .ok (.aload_n 0, 1) := by decide +kernel
theorem dX2_init_5 : decode cX2_init 5 = .ok (.bipush 120, 2) := by decide +kernel
theorem dX2_init_7 : decode cX2_init 7 = .ok (.newarray .int, 2) := by decide +kernel
theorem dX2_init_9 : decode cX2_init 9 = .ok (.putfield 9, 3) := by decide +kernel
theorem dX2_init_12 : decode cX2_init 12 = .ok (.aload_n 0, 1) := by decide +kernel
theorem dX2_init_13 : decode cX2_init 13 = .ok (.iconst 0, 1) := by decide +kernel
theorem dX2_init_14 : decode cX2_init 14 = .ok (.putfield 15, 3) := by decide +kernel
theorem dX2_init_17 : decode cX2_init 17 = .ok (.aload_n 0, 1) := by decide +kernel
theorem dX2_init_18 : decode cX2_init 18 = .ok (.iconst 0, 1) := by decide +kernel
theorem dX2_init_19 : decode cX2_init 19 = .ok (.putfield 19, 3) := by decide +kernel
theorem dX2_init_22 : decode cX2_init 22 = .ok (.aload_n 0, 1) := by decide +kernel
theorem dX2_init_23 : decode cX2_init 23 = .ok (.iconst 0, 1) := by decide +kernel
theorem dX2_init_24 : decode cX2_init 24 = .ok (.putfield 22, 3) := by decide +kernel
theorem dX2_init_27 : decode cX2_init 27 = .ok (.aload_n 0, 1) := by decide +kernel
theorem dX2_init_28 : decode cX2_init 28 = .ok (.iconst 0, 1) := by decide +kernel
theorem dX2_init_29 : decode cX2_init 29 = .ok (.putfield 25, 3) := by decide +kernel
theorem dX2_init_32 : decode cX2_init 32 = .ok (.aload_n 0, 1) := by decide +kernel
theorem dX2_init_33 : decode cX2_init 33 = .ok (.iconst 0, 1) := by decide +kernel
theorem dX2_init_34 : decode cX2_init 34 = .ok (.putfield 28, 3) := by decide +kernel
theorem dX2_init_37 : decode cX2_init 37 = .ok (.return_, 1) := by decide +kernel
theorem dX2_add_0 : decode cX2_add 0 = .ok (.aload_n 0, 1) := by decide +kernel
theorem dX2_add_1 : decode cX2_add 1 = .ok (.getfield 15, 3) := by decide +kernel
theorem dX2_add_4 : decode cX2_add 4 = .ok (.bipush 120, 2) := by decide +kernel
theorem dX2_add_6 : decode cX2_add 6 = .ok (.if_icmp .ge 23, 3) := by decide +kernel
theorem dX2_add_9 : decode cX2_add 9 = .ok (.aload_n 0, 1) := by decide +kernel
theorem dX2_add_10 : decode cX2_add 10 = .ok (.getfield 9, 3) := by decide +kernel
theorem dX2_add_13 : decode cX2_add 13 = .ok (.aload_n 0, 1) := by decide +kernel
theorem dX2_add_14 : decode cX2_add 14 = .ok (.getfield 15, 3) := by decide +kernel
theorem dX2_add_17 : decode cX2_add 17 = .ok (.iload_n 1, 1) := by decide +kernel
theorem dX2_add_18 : decode cX2_add 18 = .ok (.iastore, 1) := by decide +kernel
theorem dX2_add_19 : decode cX2_add 19 = .ok (.aload_n 0, 1) := by decide +kernel
theorem dX2_add_20 : decode cX2_add 20 = .ok (.dup, 1) := by decide +kernel
theorem dX2_add_21 : decode cX2_add 21 = .ok (.getfield 15, 3) := by decide +kernel
theorem dX2_add_24 : decode cX2_add 24 = .ok (.iconst 1, 1) := by decide +kernel
theorem dX2_add_25 : decode cX2_add 25 = .ok (.iadd, 1) := by decide +kernel
theorem dX2_add_26 : decode cX2_add 26 = .ok (.putfield 15, 3) := by decide +kernel
theorem dX2_add_29 : decode cX2_add 29 = .ok (.return_, 1) := by decide +kernel
theorem dX2_clear_0 : decode cX2_clear 0 = .ok (.aload_n 0, 1) := by decide +kernel
theorem dX2_clear_1 : decode cX2_clear 1 = .ok (.getfield 15, 3) := by decide +kernel
theorem dX2_clear_4 : decode cX2_clear 4 = .ok (.istore_n 1, 1) := by decide +kernel
theorem dX2_clear_5 : decode cX2_clear 5 = .ok (.aload_n 0, 1) := by decide +kernel
theorem dX2_clear_6 : decode cX2_clear 6 = .ok (.iconst 0, 1) := by decide +kernel
theorem dX2_clear_7 : decode cX2_clear 7 = .ok (.putfield 15, 3) := by decide +kernel
theorem dX2_clear_10 : decode cX2_clear 10 = .ok (.iload_n 1, 1) := by decide +kernel
theorem dX2_clear_11 : decode cX2_clear 11 = .ok (.ireturn, 1) := by decide +kernel
theorem dX2_begin_0 : decode cX2_begin 0 = .ok (.aload_n 0, 1) := by decide +kernel
theorem dX2_begin_1 : decode cX2_begin 1 = .ok (.iconst 0, 1) := by decide +kernel
theorem dX2_begin_2 : decode cX2_begin 2 = .ok (.putfield 25, 3) := by decide +kernel
theorem dX2_begin_5 : decode cX2_begin 5 = .ok (.aload_n 0, 1) := by decide +kernel
theorem dX2_begin_6 : decode cX2_begin 6 = .ok (.invokevirtual 31, 3) := by decide +kernel
theorem dX2_begin_9 : decode cX2_begin 9 = .ok (.return_, 1) := by decide +kernel
theorem dX2_advance_0 : decode cX2_advance 0 = .ok (.aload_n 0, 1) := by decide +kernel
theorem dX2_advance_1 : decode cX2_advance 1 = .ok (.aload_n 0, 1) := by decide +kernel
theorem dX2_advance_2 : decode cX2_advance 2 = .ok (.aload_n 0, 1) := by decide +kernel
theorem dX2_advance_3 : decode cX2_advance 3 = .ok (.getfield 25, 3) := by decide +kernel
theorem dX2_advance_6 : decode cX2_advance 6 = .ok (.bipush 32, 2) := by decide +kernel
theorem dX2_advance_8 : decode cX2_advance 8 = .ok (.bipush 32, 2) := by decide +kernel
theorem dX2_advance_10 : decode cX2_advance 10 = .ok (.invokevirtual 34, 3) := by decide +kernel
theorem dX2_advance_13 : decode cX2_advance 13 = .ok (.putfield 22, 3) := by decide +kernel
theorem dX2_advance_16 : decode cX2_advance 16 = .ok (.aload_n 0, 1) := by decide +kernel
theorem dX2_advance_17 : decode cX2_advance 17 = .ok (.aload_n 0, 1) := by decide +kernel
theorem dX2_advance_18 : decode cX2_advance 18 = .ok (.getfield 22, 3) := by decide +kernel
theorem dX2_advance_21 : decode cX2_advance 21 = .ok (.putfield 25, 3) := by decide +kernel
theorem dX2_advance_24 : decode cX2_advance 24 = .ok (.aload_n 0, 1) := by decide +kernel
theorem dX2_advance_25 : decode cX2_advance 25 = .ok (.iconst 0, 1) := by decide +kernel
theorem dX2_advance_26 : decode cX2_advance 26 = .ok (.putfield 19, 3) := by decide +kernel
theorem dX2_advance_29 : decode cX2_advance 29 = .ok (.aload_n 0, 1) := by decide +kernel
theorem dX2_advance_30 : decode cX2_advance 30 = .ok (.getfield 22, 3) := by decide +kernel
theorem dX2_advance_33 : decode cX2_advance 33 = .ok (.aload_n 0, 1) := by decide +kernel
theorem dX2_advance_34 : decode cX2_advance 34 = .ok (.getfield 15, 3) := by decide +kernel
theorem dX2_advance_37 : decode cX2_advance 37 = .ok (.if_icmp .lt 4, 3) := by decide +kernel
theorem dX2_advance_40 : decode cX2_advance 40 = .ok (.return_, 1) := by decide +kernel
theorem dX2_advance_41 : decode cX2_advance 41 = .ok (.aload_n 0, 1) := by decide +kernel
theorem dX2_advance_42 : decode cX2_advance 42 = .ok (.getfield 9, 3) := by decide +kernel
theorem dX2_advance_45 : decode cX2_advance 45 = .ok (.aload_n 0, 1) := by decide +kernel
theorem dX2_advance_46 : decode cX2_advance 46 = .ok (.getfield 22, 3) := by decide +kernel
theorem dX2_advance_49 : decode cX2_advance 49 = .ok (.iaload, 1) := by decide +kernel
theorem dX2_advance_50 : decode cX2_advance 50 = .ok (.istore_n 1, 1) := by decide +kernel
theorem dX2_advance_51 : decode cX2_advance 51 = .ok (.iload_n 1, 1) := by decide +kernel
theorem dX2_advance_52 : decode cX2_advance 52 = .ok (.bipush 97, 2) := by decide +kernel
theorem dX2_advance_54 : decode cX2_advance 54 = .ok (.if_icmp .lt 33, 3) := by decide +kernel
theorem dX2_advance_57 : decode cX2_advance 57 = .ok (.iload_n 1, 1) := by decide +kernel
theorem dX2_advance_58 : decode cX2_advance 58 = .ok (.bipush 122, 2) := by decide +kernel
theorem dX2_advance_60 : decode cX2_advance 60 = .ok (.if_icmp .gt 27, 3) := by decide +kernel
theorem dX2_advance_63 : decode cX2_advance 63 = .ok (.aload_n 0, 1) := by decide +kernel
theorem dX2_advance_64 : decode cX2_advance 64 = .ok (.iconst 1, 1) := by decide +kernel
theorem dX2_advance_65 : decode cX2_advance 65 = .ok (.putfield 19, 3) := by decide +kernel
theorem dX2_advance_68 : decode cX2_advance 68 = .ok (.aload_n 0, 1) := by decide +kernel
theorem dX2_advance_69 : decode cX2_advance 69 = .ok (.aload_n 0, 1) := by decide +kernel
theorem dX2_advance_70 : decode cX2_advance 70 = .ok (.aload_n 0, 1) := by decide +kernel
theorem dX2_advance_71 : decode cX2_advance 71 = .ok (.getfield 22, 3) := by decide +kernel
theorem dX2_advance_74 : decode cX2_advance 74 = .ok (.bipush 97, 2) := by decide +kernel
theorem dX2_advance_76 : decode cX2_advance 76 = .ok (.bipush 122, 2) := by decide +kernel
theorem dX2_advance_78 : decode cX2_advance 78 = .ok (.invokevirtual 34, 3) := by decide +kernel
theorem dX2_advance_81 : decode cX2_advance 81 = .ok (.putfield 25, 3) := by decide +kernel
theorem dX2_advance_84 : decode cX2_advance 84 = .ok (.goto 72, 3) := by decide +kernel
theorem dX2_advance_87 : decode cX2_advance 87 = .ok (.iload_n 1, 1) := by decide +kernel
theorem dX2_advance_88 : decode cX2_advance 88 = .ok (.bipush 48, 2) := by decide +kernel
theorem dX2_advance_90 : decode cX2_advance 90 = .ok (.if_icmp .lt 41, 3) := by decide +kernel
theorem dX2_advance_93 : decode cX2_advance 93 = .ok (.iload_n 1, 1) := by decide +kernel
theorem dX2_advance_94 : decode cX2_advance 94 = .ok (.bipush 57, 2) := by decide +kernel
theorem dX2_advance_96 : decode cX2_advance 96 = .ok (.if_icmp .gt 35, 3) := by decide +kernel
theorem dX2_advance_99 : decode cX2_advance 99 = .ok (.aload_n 0, 1) := by decide +kernel
theorem dX2_advance_100 : decode cX2_advance 100 = .ok (.iconst 2, 1) := by decide +kernel
theorem dX2_advance_101 : decode cX2_advance 101 = .ok (.putfield 19, 3) := by decide +kernel
theorem dX2_advance_104 : decode cX2_advance 104 = .ok (.aload_n 0, 1) := by decide +kernel
theorem dX2_advance_105 : decode cX2_advance 105 = .ok (.aload_n 0, 1) := by decide +kernel
theorem dX2_advance_106 : decode cX2_advance 106 = .ok (.aload_n 0, 1) := by decide +kernel
theorem dX2_advance_107 : decode cX2_advance 107 = .ok (.getfield 22, 3) := by decide +kernel
theorem dX2_advance_110 : decode cX2_advance 110 = .ok (.bipush 48, 2) := by decide +kernel
theorem dX2_advance_112 : decode cX2_advance 112 = .ok (.bipush 57, 2) := by decide +kernel
theorem dX2_advance_114 : decode cX2_advance 114 = .ok (.invokevirtual 34, 3) := by decide +kernel
theorem dX2_advance_117 : decode cX2_advance 117 = .ok (.putfield 25, 3) := by decide +kernel
theorem dX2_advance_120 : decode cX2_advance 120 = .ok (.aload_n 0, 1) := by decide +kernel
theorem dX2_advance_121 : decode cX2_advance 121 = .ok (.aload_n 0, 1) := by decide +kernel
theorem dX2_advance_122 : decode cX2_advance 122 = .ok (.invokevirtual 38, 3) := by decide +kernel
theorem dX2_advance_125 : decode cX2_advance 125 = .ok (.putfield 28, 3) := by decide +kernel
theorem dX2_advance_128 : decode cX2_advance 128 = .ok (.goto 28, 3) := by decide +kernel
theorem dX2_advance_131 : decode cX2_advance 131 = .ok (.aload_n 0, 1) := by decide +kernel
theorem dX2_advance_132 : decode cX2_advance 132 = .ok (.iload_n 1, 1) := by decide +kernel
theorem dX2_advance_133 : decode cX2_advance 133 = .ok (.bipush 59, 2) := by decide +kernel
theorem dX2_advance_135 : decode cX2_advance 135 = .ok (.if_icmp .ne 7, 3) := by decide +kernel
theorem dX2_advance_138 : decode cX2_advance 138 = .ok (.iconst 3, 1) := by decide +kernel
theorem dX2_advance_139 : decode cX2_advance 139 = .ok (.goto 4, 3) := by decide +kernel
theorem dX2_advance_142 : decode cX2_advance 142 = .ok (.iconst 4, 1) := by decide +kernel
theorem dX2_advance_143 : decode cX2_advance 143 = .ok (.putfield 19, 3) := by decide +kernel
theorem dX2_advance_146 : decode cX2_advance 146 = .ok (.aload_n 0, 1) := by decide +kernel
theorem dX2_advance_147 : decode cX2_advance 147 = .ok (.aload_n 0, 1) := by decide +kernel
theorem dX2_advance_148 : decode cX2_advance 148 = .ok (.getfield 22, 3) := by decide +kernel
theorem dX2_advance_151 : decode cX2_advance 151 = .ok (.iconst 1, 1) := by decide +kernel
theorem dX2_advance_152 : decode cX2_advance 152 = .ok (.iadd, 1) := by decide +kernel
theorem dX2_advance_153 : decode cX2_advance 153 = .ok (.putfield 25, 3) := by decide +kernel
theorem dX2_advance_156 : decode cX2_advance 156 = .ok (.return_, 1) := by decide +kernel
theorem dX2_endOfRun_0 : decode cX2_endOfRun 0 = .ok (.iload_n 1, 1) := by decide +kernel
theorem dX2_endOfRun_1 : decode cX2_endOfRun 1 = .ok (.istore 4, 2) := by decide +kernel
theorem dX2_endOfRun_3 : decode cX2_endOfRun 3 = .ok (.iload 4, 2) := by decide +kernel
theorem dX2_endOfRun_5 : decode cX2_endOfRun 5 = .ok (.aload_n 0, 1) := by decide +kernel
theorem dX2_endOfRun_6 : decode cX2_endOfRun 6 = .ok (.getfield 15, 3) := by decide +kernel
theorem dX2_endOfRun_9 : decode cX2_endOfRun 9 = .ok (.if_icmp .ge 31, 3) := by decide +kernel
theorem dX2_endOfRun_12 : decode cX2_endOfRun 12 = .ok (.aload_n 0, 1) := by decide +kernel
theorem dX2_endOfRun_13 : decode cX2_endOfRun 13 = .ok (.getfield 9, 3) := by decide +kernel
theorem dX2_endOfRun_16 : decode cX2_endOfRun 16 = .ok (.iload 4, 2) := by decide +kernel
theorem dX2_endOfRun_18 : decode cX2_endOfRun 18 = .ok (.iaload, 1) := by decide +kernel
theorem dX2_endOfRun_19 : decode cX2_endOfRun 19 = .ok (.iload_n 2, 1) := by decide +kernel
theorem dX2_endOfRun_20 : decode cX2_endOfRun 20 = .ok (.if_icmp .lt 20, 3) := by decide +kernel
theorem dX2_endOfRun_23 : decode cX2_endOfRun 23 = .ok (.aload_n 0, 1) := by decide +kernel
theorem dX2_endOfRun_24 : decode cX2_endOfRun 24 = .ok (.getfield 9, 3) := by decide +kernel
theorem dX2_endOfRun_27 : decode cX2_endOfRun 27 = .ok (.iload 4, 2) := by decide +kernel
theorem dX2_endOfRun_29 : decode cX2_endOfRun 29 = .ok (.iaload, 1) := by decide +kernel
theorem dX2_endOfRun_30 : decode cX2_endOfRun 30 = .ok (.iload_n 3, 1) := by decide +kernel
theorem dX2_endOfRun_31 : decode cX2_endOfRun 31 = .ok (.if_icmp .gt 9, 3) := by decide +kernel
theorem dX2_endOfRun_34 : decode cX2_endOfRun 34 = .ok (.iinc 4 1, 3) := by decide +kernel
theorem dX2_endOfRun_37 : decode cX2_endOfRun 37 = .ok (.goto (-34), 3) := by decide +kernel
theorem dX2_endOfRun_40 : decode cX2_endOfRun 40 = .ok (.iload 4, 2) := by decide +kernel
theorem dX2_endOfRun_42 : decode cX2_endOfRun 42 = .ok (.ireturn, 1) := by decide +kernel
theorem dX2_valueOfToken_0 : decode cX2_valueOfToken 0 = .ok (.iconst 0, 1) := by decide +kernel
theorem dX2_valueOfToken_1 : decode cX2_valueOfToken 1 = .ok (.istore_n 1, 1) := by decide +kernel
theorem dX2_valueOfToken_2 : decode cX2_valueOfToken 2 = .ok (.aload_n 0, 1) := by decide +kernel
theorem dX2_valueOfToken_3 : decode cX2_valueOfToken 3 = .ok (.getfield 22, 3) := by decide +kernel
theorem dX2_valueOfToken_6 : decode cX2_valueOfToken 6 = .ok (.istore_n 2, 1) := by decide +kernel
theorem dX2_valueOfToken_7 : decode cX2_valueOfToken 7 = .ok (.iload_n 2, 1) := by decide +kernel
theorem dX2_valueOfToken_8 : decode cX2_valueOfToken 8 = .ok (.aload_n 0, 1) := by decide +kernel
theorem dX2_valueOfToken_9 : decode cX2_valueOfToken 9 = .ok (.getfield 25, 3) := by decide +kernel
theorem dX2_valueOfToken_12 : decode cX2_valueOfToken 12 = .ok (.if_icmp .ge 30, 3) := by decide +kernel
theorem dX2_valueOfToken_15 : decode cX2_valueOfToken 15 = .ok (.iload_n 1, 1) := by decide +kernel
theorem dX2_valueOfToken_16 : decode cX2_valueOfToken 16 = .ok (.bipush 10, 2) := by decide +kernel
theorem dX2_valueOfToken_18 : decode cX2_valueOfToken 18 = .ok (.imul, 1) := by decide +kernel
theorem dX2_valueOfToken_19 : decode cX2_valueOfToken 19 = .ok (.aload_n 0, 1) := by decide +kernel
theorem dX2_valueOfToken_20 : decode cX2_valueOfToken 20 = .ok (.getfield 9, 3) := by decide +kernel
theorem dX2_valueOfToken_23 : decode cX2_valueOfToken 23 = .ok (.iload_n 2, 1) := by decide +kernel
theorem dX2_valueOfToken_24 : decode cX2_valueOfToken 24 = .ok (.iaload, 1) := by decide +kernel
theorem dX2_valueOfToken_25 : decode cX2_valueOfToken 25 = .ok (.iadd, 1) := by decide +kernel
theorem dX2_valueOfToken_26 : decode cX2_valueOfToken 26 = .ok (.bipush 48, 2) := by decide +kernel
theorem dX2_valueOfToken_28 : decode cX2_valueOfToken 28 = .ok (.isub, 1) := by decide +kernel
theorem dX2_valueOfToken_29 : decode cX2_valueOfToken 29 = .ok (.sipush 10000, 3) := by decide +kernel
theorem dX2_valueOfToken_32 : decode cX2_valueOfToken 32 = .ok (.invokestatic 42, 3) := by decide +kernel
theorem dX2_valueOfToken_35 : decode cX2_valueOfToken 35 = .ok (.istore_n 1, 1) := by decide +kernel
theorem dX2_valueOfToken_36 : decode cX2_valueOfToken 36 = .ok (.iinc 2 1, 3) := by decide +kernel
theorem dX2_valueOfToken_39 : decode cX2_valueOfToken 39 = .ok (.goto (-32), 3) := by decide +kernel
theorem dX2_valueOfToken_42 : decode cX2_valueOfToken 42 = .ok (.iload_n 1, 1) := by decide +kernel
theorem dX2_valueOfToken_43 : decode cX2_valueOfToken 43 = .ok (.ireturn, 1) := by decide +kernel
theorem dX2_isAt_0 : decode cX2_isAt 0 = .ok (.aload_n 0, 1) := by decide +kernel
theorem dX2_isAt_1 : decode cX2_isAt 1 = .ok (.getfield 19, 3) := by decide +kernel
theorem dX2_isAt_4 : decode cX2_isAt 4 = .ok (.iconst 1, 1) := by decide +kernel
theorem dX2_isAt_5 : decode cX2_isAt 5 = .ok (.if_icmp .ne 19, 3) := by decide +kernel
theorem dX2_isAt_8 : decode cX2_isAt 8 = .ok (.aload_n 0, 1) := by decide +kernel
theorem dX2_isAt_9 : decode cX2_isAt 9 = .ok (.getfield 25, 3) := by decide +kernel
theorem dX2_isAt_12 : decode cX2_isAt 12 = .ok (.aload_n 0, 1) := by decide +kernel
theorem dX2_isAt_13 : decode cX2_isAt 13 = .ok (.getfield 22, 3) := by decide +kernel
theorem dX2_isAt_16 : decode cX2_isAt 16 = .ok (.isub, 1) := by decide +kernel
theorem dX2_isAt_17 : decode cX2_isAt 17 = .ok (.aload_n 1, 1) := by decide +kernel
theorem dX2_isAt_18 : decode cX2_isAt 18 = .ok (.invokevirtual 48, 3) := by decide +kernel
theorem dX2_isAt_21 : decode cX2_isAt 21 = .ok (.if_icmp .eq 5, 3) := by decide +kernel
theorem dX2_isAt_24 : decode cX2_isAt 24 = .ok (.iconst 0, 1) := by decide +kernel
theorem dX2_isAt_25 : decode cX2_isAt 25 = .ok (.ireturn, 1) := by decide +kernel
theorem dX2_isAt_26 : decode cX2_isAt 26 = .ok (.iconst 0, 1) := by decide +kernel
theorem dX2_isAt_27 : decode cX2_isAt 27 = .ok (.istore_n 2, 1) := by decide +kernel
theorem dX2_isAt_28 : decode cX2_isAt 28 = .ok (.iload_n 2, 1) := by decide +kernel
theorem dX2_isAt_29 : decode cX2_isAt 29 = .ok (.aload_n 1, 1) := by decide +kernel
theorem dX2_isAt_30 : decode cX2_isAt 30 = .ok (.invokevirtual 48, 3) := by decide +kernel
theorem dX2_isAt_33 : decode cX2_isAt 33 = .ok (.if_icmp .ge 30, 3) := by decide +kernel
theorem dX2_isAt_36 : decode cX2_isAt 36 = .ok (.aload_n 0, 1) := by decide +kernel
theorem dX2_isAt_37 : decode cX2_isAt 37 = .ok (.getfield 9, 3) := by decide +kernel
theorem dX2_isAt_40 : decode cX2_isAt 40 = .ok (.aload_n 0, 1) := by decide +kernel
theorem dX2_isAt_41 : decode cX2_isAt 41 = .ok (.getfield 22, 3) := by decide +kernel
theorem dX2_isAt_44 : decode cX2_isAt 44 = .ok (.iload_n 2, 1) := by decide +kernel
theorem dX2_isAt_45 : decode cX2_isAt 45 = .ok (.iadd, 1) := by decide +kernel
theorem dX2_isAt_46 : decode cX2_isAt 46 = .ok (.iaload, 1) := by decide +kernel
theorem dX2_isAt_47 : decode cX2_isAt 47 = .ok (.aload_n 1, 1) := by decide +kernel
theorem dX2_isAt_48 : decode cX2_isAt 48 = .ok (.iload_n 2, 1) := by decide +kernel
theorem dX2_isAt_49 : decode cX2_isAt 49 = .ok (.invokevirtual 52, 3) := by decide +kernel
theorem dX2_isAt_52 : decode cX2_isAt 52 = .ok (.if_icmp .eq 5, 3) := by decide +kernel
theorem dX2_isAt_55 : decode cX2_isAt 55 = .ok (.iconst 0, 1) := by decide +kernel
theorem dX2_isAt_56 : decode cX2_isAt 56 = .ok (.ireturn, 1) := by decide +kernel
theorem dX2_isAt_57 : decode cX2_isAt 57 = .ok (.iinc 2 1, 3) := by decide +kernel
theorem dX2_isAt_60 : decode cX2_isAt 60 = .ok (.goto (-32), 3) := by decide +kernel
theorem dX2_isAt_63 : decode cX2_isAt 63 = .ok (.iconst 1, 1) := by decide +kernel
theorem dX2_isAt_64 : decode cX2_isAt 64 = .ok (.ireturn, 1) := by decide +kernel
theorem dX2_pass_0 : decode cX2_pass 0 = .ok (.aload_n 0, 1) := by decide +kernel
theorem dX2_pass_1 : decode cX2_pass 1 = .ok (.aload_n 1, 1) := by decide +kernel
theorem dX2_pass_2 : decode cX2_pass 2 = .ok (.invokevirtual 56, 3) := by decide +kernel
theorem dX2_pass_5 : decode cX2_pass 5 = .ok (.istore_n 2, 1) := by decide +kernel
theorem dX2_pass_6 : decode cX2_pass 6 = .ok (.iload_n 2, 1) := by decide +kernel
theorem dX2_pass_7 : decode cX2_pass 7 = .ok (.ifCond .eq 7, 3) := by decide +kernel
theorem dX2_pass_10 : decode cX2_pass 10 = .ok (.aload_n 0, 1) := by decide +kernel
theorem dX2_pass_11 : decode cX2_pass 11 = .ok (.invokevirtual 31, 3) := by decide +kernel
theorem dX2_pass_14 : decode cX2_pass 14 = .ok (.iload_n 2, 1) := by decide +kernel
theorem dX2_pass_15 : decode cX2_pass 15 = .ok (.ireturn, 1) := by decide +kernel
theorem dX2_passNumber_0 : decode cX2_passNumber 0 = .ok (.aload_n 0, 1) := by decide +kernel
theorem dX2_passNumber_1 : decode cX2_passNumber 1 = .ok (.getfield 19, 3) := by decide +kernel
theorem dX2_passNumber_4 : decode cX2_passNumber 4 = .ok (.iconst 2, 1) := by decide +kernel
theorem dX2_passNumber_5 : decode cX2_passNumber 5 = .ok (.if_icmp .ne 11, 3) := by decide +kernel
theorem dX2_passNumber_8 : decode cX2_passNumber 8 = .ok (.aload_n 0, 1) := by decide +kernel
theorem dX2_passNumber_9 : decode cX2_passNumber 9 = .ok (.getfield 28, 3) := by decide +kernel
theorem dX2_passNumber_12 : decode cX2_passNumber 12 = .ok (.iload_n 1, 1) := by decide +kernel
theorem dX2_passNumber_13 : decode cX2_passNumber 13 = .ok (.if_icmp .le 5, 3) := by decide +kernel
theorem dX2_passNumber_16 : decode cX2_passNumber 16 = .ok (.iconst (-1), 1) := by decide +kernel
theorem dX2_passNumber_17 : decode cX2_passNumber 17 = .ok (.ireturn, 1) := by decide +kernel
theorem dX2_passNumber_18 : decode cX2_passNumber 18 = .ok (.aload_n 0, 1) := by decide +kernel
theorem dX2_passNumber_19 : decode cX2_passNumber 19 = .ok (.getfield 28, 3) := by decide +kernel
theorem dX2_passNumber_22 : decode cX2_passNumber 22 = .ok (.istore_n 2, 1) := by decide +kernel
theorem dX2_passNumber_23 : decode cX2_passNumber 23 = .ok (.aload_n 0, 1) := by decide +kernel
theorem dX2_passNumber_24 : decode cX2_passNumber 24 = .ok (.invokevirtual 31, 3) := by decide +kernel
theorem dX2_passNumber_27 : decode cX2_passNumber 27 = .ok (.iload_n 2, 1) := by decide +kernel
theorem dX2_passNumber_28 : decode cX2_passNumber 28 = .ok (.ireturn, 1) := by decide +kernel
theorem dX3_init_0 : decode cX3_init 0 = .ok (.aload_n 0, 1) := by decide +kernel
theorem dX3_init_1 : decode cX3_init 1 = .ok (.invokespecial 3, 3) := by decide +kernel
theorem dX3_init_4 : decode cX3_init 4 = .ok (.aload_n 0, 1) := by decide +kernel
theorem dX3_init_5 : decode cX3_init 5 = .ok (.iconst 0, 1) := by decide +kernel
theorem dX3_init_6 : decode cX3_init 6 = .ok (.putfield 9, 3) := by decide +kernel
theorem dX3_init_9 : decode cX3_init 9 = .ok (.aload_n 0, 1) := by decide +kernel
theorem dX3_init_10 : decode cX3_init 10 = .ok (.sipush 500, 3) := by decide +kernel
theorem dX3_init_13 : decode cX3_init 13 = .ok (.putfield 15, 3) := by decide +kernel
theorem dX3_init_16 : decode cX3_init 16 = .ok (.aload_n 0, 1) := by decide +kernel
theorem dX3_init_17 : decode cX3_init 17 = .ok (.sipush 500, 3) := by decide +kernel
theorem dX3_init_20 : decode cX3_init 20 = .ok (.putfield 18, 3) := by decide +kernel
theorem dX3_init_23 : decode cX3_init 23 = .ok (.aload_n 0, 1) := by decide +kernel
theorem dX3_init_24 : decode cX3_init 24 = .ok (.iconst 1, 1) := by decide +kernel
theorem dX3_init_25 : decode cX3_init 25 = .ok (.putfield 21, 3) := by decide +kernel
theorem dX3_init_28 : decode cX3_init 28 = .ok (.aload_n 0, 1) := by decide +kernel
theorem dX3_init_29 : decode cX3_init 29 = .ok (.iconst 0, 1) := by decide +kernel
theorem dX3_init_30 : decode cX3_init 30 = .ok (.putfield 24, 3) := by decide +kernel
theorem dX3_init_33 : decode cX3_init 33 = .ok (.aload_n 0, 1) := by decide +kernel
theorem dX3_init_34 : decode cX3_init 34 = .ok (.iconst 0, 1) := by decide +kernel
theorem dX3_init_35 : decode cX3_init 35 = .ok (.putfield 27, 3) := by decide +kernel
theorem dX3_init_38 : decode cX3_init 38 = .ok (.aload_n 0, 1) := by decide +kernel
theorem dX3_init_39 : decode cX3_init 39 = .ok (.sipush 1000, 3) := by decide +kernel
theorem dX3_init_42 : decode cX3_init 42 = .ok (.putfield 30, 3) := by decide +kernel
theorem dX3_init_45 : decode cX3_init 45 = .ok (.aload_n 0, 1) := by decide +kernel
theorem dX3_init_46 : decode cX3_init 46 = .ok (.bipush 6, 2) := by decide +kernel
theorem dX3_init_48 : decode cX3_init 48 = .ok (.newarray .int, 2) := by decide +kernel
theorem dX3_init_50 : decode cX3_init 50 = .ok (.dup, 1) := by decide +kernel
theorem dX3_init_51 : decode cX3_init 51 = .ok (.iconst 0, 1) := by decide +kernel
theorem dX3_init_52 : decode cX3_init 52 = .ok (.bipush 20, 2) := by decide +kernel
theorem dX3_init_54 : decode cX3_init 54 = .ok (.iastore, 1) := by decide +kernel
theorem dX3_init_55 : decode cX3_init 55 = .ok (.dup, 1) := by decide +kernel
theorem dX3_init_56 : decode cX3_init 56 = .ok (.iconst 1, 1) := by decide +kernel
theorem dX3_init_57 : decode cX3_init 57 = .ok (.bipush 20, 2) := by decide +kernel
theorem dX3_init_59 : decode cX3_init 59 = .ok (.iastore, 1) := by decide +kernel
theorem dX3_init_60 : decode cX3_init 60 = .ok (.dup, 1) := by decide +kernel
theorem dX3_init_61 : decode cX3_init 61 = .ok (.iconst 2, 1) := by decide +kernel
theorem dX3_init_62 : decode cX3_init 62 = .ok (.bipush 20, 2) := by decide +kernel
theorem dX3_init_64 : decode cX3_init 64 = .ok (.iastore, 1) := by decide +kernel
theorem dX3_init_65 : decode cX3_init 65 = .ok (.dup, 1) := by decide +kernel
theorem dX3_init_66 : decode cX3_init 66 = .ok (.iconst 3, 1) := by decide +kernel
theorem dX3_init_67 : decode cX3_init 67 = .ok (.bipush 20, 2) := by decide +kernel
theorem dX3_init_69 : decode cX3_init 69 = .ok (.iastore, 1) := by decide +kernel
theorem dX3_init_70 : decode cX3_init 70 = .ok (.dup, 1) := by decide +kernel
theorem dX3_init_71 : decode cX3_init 71 = .ok (.iconst 4, 1) := by decide +kernel
theorem dX3_init_72 : decode cX3_init 72 = .ok (.bipush 20, 2) := by decide +kernel
theorem dX3_init_74 : decode cX3_init 74 = .ok (.iastore, 1) := by decide +kernel
theorem dX3_init_75 : decode cX3_init 75 = .ok (.dup, 1) := by decide +kernel
theorem dX3_init_76 : decode cX3_init 76 = .ok (.iconst 5, 1) := by decide +kernel
theorem dX3_init_77 : decode cX3_init 77 = .ok (.bipush 20, 2) := by decide +kernel
theorem dX3_init_79 : decode cX3_init 79 = .ok (.iastore, 1) := by decide +kernel
theorem dX3_init_80 : decode cX3_init 80 = .ok (.putfield 33, 3) := by decide +kernel
theorem dX3_init_83 : decode cX3_init 83 = .ok (.aload_n 0, 1) := by decide +kernel
theorem dX3_init_84 : decode cX3_init 84 = .ok (.bipush 6, 2) := by decide +kernel
theorem dX3_init_86 : decode cX3_init 86 = .ok (.newarray .int, 2) := by decide +kernel
theorem dX3_init_88 : decode cX3_init 88 = .ok (.putfield 37, 3) := by decide +kernel
theorem dX3_init_91 : decode cX3_init 91 = .ok (.aload_n 0, 1) := by decide +kernel
theorem dX3_init_92 : decode cX3_init 92 = .ok (.iconst 0, 1) := by decide +kernel
theorem dX3_init_93 : decode cX3_init 93 = .ok (.putfield 40, 3) := by decide +kernel
theorem dX3_init_96 : decode cX3_init 96 = .ok (.aload_n 0, 1) := by decide +kernel
theorem dX3_init_97 : decode cX3_init 97 = .ok (.bipush 8, 2) := by decide +kernel
theorem dX3_init_99 : decode cX3_init 99 = .ok (.newarray .int, 2) := by decide +kernel
theorem dX3_init_101 : decode cX3_init 101 = .ok (.putfield 43, 3) := by decide +kernel
theorem dX3_init_104 : decode cX3_init 104 = .ok (.aload_n 0, 1) := by decide +kernel
theorem dX3_init_105 : decode cX3_init 105 = .ok (.bipush 8, 2) := by decide +kernel
theorem dX3_init_107 : decode cX3_init 107 = .ok (.newarray .int, 2) := by decide +kernel
theorem dX3_init_109 : decode cX3_init 109 = .ok (.putfield 46, 3) := by decide +kernel
theorem dX3_init_112 : decode cX3_init 112 = .ok (.aload_n 0, 1) := by decide +kernel
theorem dX3_init_113 : decode cX3_init 113 = .ok (.bipush 8, 2) := by decide +kernel
theorem dX3_init_115 : decode cX3_init 115 = .ok (.newarray .int, 2) := by decide +kernel
theorem dX3_init_117 : decode cX3_init 117 = .ok (.putfield 49, 3) := by decide +kernel
theorem dX3_init_120 : decode cX3_init 120 = .ok (.aload_n 0, 1) := by decide +kernel
theorem dX3_init_121 : decode cX3_init 121 = .ok (.bipush 8, 2) := by decide +kernel
theorem dX3_init_123 : decode cX3_init 123 = .ok (.newarray .int, 2) := by decide +kernel
theorem dX3_init_125 : decode cX3_init 125 = .ok (.putfield 52, 3) := by decide +kernel
theorem dX3_init_128 : decode cX3_init 128 = .ok (.aload_n 0, 1) := by decide +kernel
theorem dX3_init_129 : decode cX3_init 129 = .ok (.bipush 8, 2) := by decide +kernel
theorem dX3_init_131 : decode cX3_init 131 = .ok (.newarray .int, 2) := by decide +kernel
theorem dX3_init_133 : decode cX3_init 133 = .ok (.putfield 55, 3) := by decide +kernel
theorem dX3_init_136 : decode cX3_init 136 = .ok (.aload_n 0, 1) := by decide +kernel
theorem dX3_init_137 : decode cX3_init 137 = .ok (.bipush 8, 2) := by decide +kernel
theorem dX3_init_139 : decode cX3_init 139 = .ok (.newarray .int, 2) := by decide +kernel
theorem dX3_init_141 : decode cX3_init 141 = .ok (.putfield 58, 3) := by decide +kernel
theorem dX3_init_144 : decode cX3_init 144 = .ok (.return_, 1) := by decide +kernel
theorem dX3_become_0 : decode cX3_become 0 = .ok (.aload_n 0, 1) := by decide +kernel
theorem dX3_become_1 : decode cX3_become 1 = .ok (.aload_n 1, 1) := by decide +kernel
theorem dX3_become_2 : decode cX3_become 2 = .ok (.getfield 9, 3) := by decide +kernel
theorem dX3_become_5 : decode cX3_become 5 = .ok (.putfield 9, 3) := by decide +kernel
theorem dX3_become_8 : decode cX3_become 8 = .ok (.aload_n 0, 1) := by decide +kernel
theorem dX3_become_9 : decode cX3_become 9 = .ok (.aload_n 1, 1) := by decide +kernel
theorem dX3_become_10 : decode cX3_become 10 = .ok (.getfield 15, 3) := by decide +kernel
theorem dX3_become_13 : decode cX3_become 13 = .ok (.putfield 15, 3) := by decide +kernel
theorem dX3_become_16 : decode cX3_become 16 = .ok (.aload_n 0, 1) := by decide +kernel
theorem dX3_become_17 : decode cX3_become 17 = .ok (.aload_n 1, 1) := by decide +kernel
theorem dX3_become_18 : decode cX3_become 18 = .ok (.getfield 18, 3) := by decide +kernel
theorem dX3_become_21 : decode cX3_become 21 = .ok (.putfield 18, 3) := by decide +kernel
theorem dX3_become_24 : decode cX3_become 24 = .ok (.aload_n 0, 1) := by decide +kernel
theorem dX3_become_25 : decode cX3_become 25 = .ok (.aload_n 1, 1) := by decide +kernel
theorem dX3_become_26 : decode cX3_become 26 = .ok (.getfield 21, 3) := by decide +kernel
theorem dX3_become_29 : decode cX3_become 29 = .ok (.putfield 21, 3) := by decide +kernel
theorem dX3_become_32 : decode cX3_become 32 = .ok (.aload_n 0, 1) := by decide +kernel
theorem dX3_become_33 : decode cX3_become 33 = .ok (.aload_n 1, 1) := by decide +kernel
theorem dX3_become_34 : decode cX3_become 34 = .ok (.getfield 24, 3) := by decide +kernel
theorem dX3_become_37 : decode cX3_become 37 = .ok (.putfield 24, 3) := by decide +kernel
theorem dX3_become_40 : decode cX3_become 40 = .ok (.aload_n 0, 1) := by decide +kernel
theorem dX3_become_41 : decode cX3_become 41 = .ok (.aload_n 1, 1) := by decide +kernel
theorem dX3_become_42 : decode cX3_become 42 = .ok (.getfield 27, 3) := by decide +kernel
theorem dX3_become_45 : decode cX3_become 45 = .ok (.putfield 27, 3) := by decide +kernel
theorem dX3_become_48 : decode cX3_become 48 = .ok (.aload_n 0, 1) := by decide +kernel
theorem dX3_become_49 : decode cX3_become 49 = .ok (.sipush 1000, 3) := by decide +kernel
theorem dX3_become_52 : decode cX3_become 52 = .ok (.putfield 30, 3) := by decide +kernel
theorem dX3_become_55 : decode cX3_become 55 = .ok (.aload_n 0, 1) := by decide +kernel
theorem dX3_become_56 : decode cX3_become 56 = .ok (.aload_n 1, 1) := by decide +kernel
theorem dX3_become_57 : decode cX3_become 57 = .ok (.getfield 40, 3) := by decide +kernel
theorem dX3_become_60 : decode cX3_become 60 = .ok (.putfield 40, 3) := by decide +kernel
theorem dX3_become_63 : decode cX3_become 63 = .ok (.aload_n 1, 1) := by decide +kernel
theorem dX3_become_64 : decode cX3_become 64 = .ok (.getfield 33, 3) := by decide +kernel
theorem dX3_become_67 : decode cX3_become 67 = .ok (.iconst 0, 1) := by decide +kernel
theorem dX3_become_68 : decode cX3_become 68 = .ok (.aload_n 0, 1) := by decide +kernel
theorem dX3_become_69 : decode cX3_become 69 = .ok (.getfield 33, 3) := by decide +kernel
theorem dX3_become_72 : decode cX3_become 72 = .ok (.iconst 0, 1) := by decide +kernel
theorem dX3_become_73 : decode cX3_become 73 = .ok (.bipush 6, 2) := by decide +kernel
theorem dX3_become_75 : decode cX3_become 75 = .ok (.invokestatic 61, 3) := by decide +kernel
theorem dX3_become_78 : decode cX3_become 78 = .ok (.aload_n 1, 1) := by decide +kernel
theorem dX3_become_79 : decode cX3_become 79 = .ok (.getfield 37, 3) := by decide +kernel
theorem dX3_become_82 : decode cX3_become 82 = .ok (.iconst 0, 1) := by decide +kernel
theorem dX3_become_83 : decode cX3_become 83 = .ok (.aload_n 0, 1) := by decide +kernel
theorem dX3_become_84 : decode cX3_become 84 = .ok (.getfield 37, 3) := by decide +kernel
theorem dX3_become_87 : decode cX3_become 87 = .ok (.iconst 0, 1) := by decide +kernel
theorem dX3_become_88 : decode cX3_become 88 = .ok (.bipush 6, 2) := by decide +kernel
theorem dX3_become_90 : decode cX3_become 90 = .ok (.invokestatic 61, 3) := by decide +kernel
theorem dX3_become_93 : decode cX3_become 93 = .ok (.aload_n 1, 1) := by decide +kernel
theorem dX3_become_94 : decode cX3_become 94 = .ok (.getfield 43, 3) := by decide +kernel
theorem dX3_become_97 : decode cX3_become 97 = .ok (.iconst 0, 1) := by decide +kernel
theorem dX3_become_98 : decode cX3_become 98 = .ok (.aload_n 0, 1) := by decide +kernel
theorem dX3_become_99 : decode cX3_become 99 = .ok (.getfield 43, 3) := by decide +kernel
theorem dX3_become_102 : decode cX3_become 102 = .ok (.iconst 0, 1) := by decide +kernel
theorem dX3_become_103 : decode cX3_become 103 = .ok (.bipush 8, 2) := by decide +kernel
theorem dX3_become_105 : decode cX3_become 105 = .ok (.invokestatic 61, 3) := by decide +kernel
theorem dX3_become_108 : decode cX3_become 108 = .ok (.aload_n 1, 1) := by decide +kernel
theorem dX3_become_109 : decode cX3_become 109 = .ok (.getfield 46, 3) := by decide +kernel
theorem dX3_become_112 : decode cX3_become 112 = .ok (.iconst 0, 1) := by decide +kernel
theorem dX3_become_113 : decode cX3_become 113 = .ok (.aload_n 0, 1) := by decide +kernel
theorem dX3_become_114 : decode cX3_become 114 = .ok (.getfield 46, 3) := by decide +kernel
theorem dX3_become_117 : decode cX3_become 117 = .ok (.iconst 0, 1) := by decide +kernel
theorem dX3_become_118 : decode cX3_become 118 = .ok (.bipush 8, 2) := by decide +kernel
theorem dX3_become_120 : decode cX3_become 120 = .ok (.invokestatic 61, 3) := by decide +kernel
theorem dX3_become_123 : decode cX3_become 123 = .ok (.aload_n 1, 1) := by decide +kernel
theorem dX3_become_124 : decode cX3_become 124 = .ok (.getfield 49, 3) := by decide +kernel
theorem dX3_become_127 : decode cX3_become 127 = .ok (.iconst 0, 1) := by decide +kernel
theorem dX3_become_128 : decode cX3_become 128 = .ok (.aload_n 0, 1) := by decide +kernel
theorem dX3_become_129 : decode cX3_become 129 = .ok (.getfield 49, 3) := by decide +kernel
theorem dX3_become_132 : decode cX3_become 132 = .ok (.iconst 0, 1) := by decide +kernel
theorem dX3_become_133 : decode cX3_become 133 = .ok (.bipush 8, 2) := by decide +kernel
theorem dX3_become_135 : decode cX3_become 135 = .ok (.invokestatic 61, 3) := by decide +kernel
theorem dX3_become_138 : decode cX3_become 138 = .ok (.aload_n 1, 1) := by decide +kernel
theorem dX3_become_139 : decode cX3_become 139 = .ok (.getfield 52, 3) := by decide +kernel
theorem dX3_become_142 : decode cX3_become 142 = .ok (.iconst 0, 1) := by decide +kernel
theorem dX3_become_143 : decode cX3_become 143 = .ok (.aload_n 0, 1) := by decide +kernel
theorem dX3_become_144 : decode cX3_become 144 = .ok (.getfield 52, 3) := by decide +kernel
theorem dX3_become_147 : decode cX3_become 147 = .ok (.iconst 0, 1) := by decide +kernel
theorem dX3_become_148 : decode cX3_become 148 = .ok (.bipush 8, 2) := by decide +kernel
theorem dX3_become_150 : decode cX3_become 150 = .ok (.invokestatic 61, 3) := by decide +kernel
theorem dX3_become_153 : decode cX3_become 153 = .ok (.aload_n 1, 1) := by decide +kernel
theorem dX3_become_154 : decode cX3_become 154 = .ok (.getfield 55, 3) := by decide +kernel
theorem dX3_become_157 : decode cX3_become 157 = .ok (.iconst 0, 1) := by decide +kernel
theorem dX3_become_158 : decode cX3_become 158 = .ok (.aload_n 0, 1) := by decide +kernel
theorem dX3_become_159 : decode cX3_become 159 = .ok (.getfield 55, 3) := by decide +kernel
theorem dX3_become_162 : decode cX3_become 162 = .ok (.iconst 0, 1) := by decide +kernel
theorem dX3_become_163 : decode cX3_become 163 = .ok (.bipush 8, 2) := by decide +kernel
theorem dX3_become_165 : decode cX3_become 165 = .ok (.invokestatic 61, 3) := by decide +kernel
theorem dX3_become_168 : decode cX3_become 168 = .ok (.aload_n 1, 1) := by decide +kernel
theorem dX3_become_169 : decode cX3_become 169 = .ok (.getfield 58, 3) := by decide +kernel
theorem dX3_become_172 : decode cX3_become 172 = .ok (.iconst 0, 1) := by decide +kernel
theorem dX3_become_173 : decode cX3_become 173 = .ok (.aload_n 0, 1) := by decide +kernel
theorem dX3_become_174 : decode cX3_become 174 = .ok (.getfield 58, 3) := by decide +kernel
theorem dX3_become_177 : decode cX3_become 177 = .ok (.iconst 0, 1) := by decide +kernel
theorem dX3_become_178 : decode cX3_become 178 = .ok (.bipush 8, 2) := by decide +kernel
theorem dX3_become_180 : decode cX3_become 180 = .ok (.invokestatic 61, 3) := by decide +kernel
theorem dX3_become_183 : decode cX3_become 183 = .ok (.return_, 1) := by decide +kernel
theorem dX3_changeFigure_0 : decode cX3_changeFigure 0 = .ok (.iload_n 1, 1) := by decide +kernel
theorem dX3_changeFigure_1 : decode cX3_changeFigure 1 = .ok (.tableswitch 63 0 2 #[27, 39, 51], 27) := by decide +kernel
theorem dX3_changeFigure_28 : decode cX3_changeFigure 28 = .ok (.aload_n 0, 1) := by decide +kernel
theorem dX3_changeFigure_29 : decode cX3_changeFigure 29 = .ok (.getfield 15, 3) := by decide +kernel
theorem dX3_changeFigure_32 : decode cX3_changeFigure 32 = .ok (.istore_n 3, 1) := by decide +kernel
theorem dX3_changeFigure_33 : decode cX3_changeFigure 33 = .ok (.aload_n 0, 1) := by decide +kernel
theorem dX3_changeFigure_34 : decode cX3_changeFigure 34 = .ok (.iload_n 2, 1) := by decide +kernel
theorem dX3_changeFigure_35 : decode cX3_changeFigure 35 = .ok (.putfield 15, 3) := by decide +kernel
theorem dX3_changeFigure_38 : decode cX3_changeFigure 38 = .ok (.iload_n 3, 1) := by decide +kernel
theorem dX3_changeFigure_39 : decode cX3_changeFigure 39 = .ok (.ireturn, 1) := by decide +kernel
theorem dX3_changeFigure_40 : decode cX3_changeFigure 40 = .ok (.aload_n 0, 1) := by decide +kernel
theorem dX3_changeFigure_41 : decode cX3_changeFigure 41 = .ok (.getfield 18, 3) := by decide +kernel
theorem dX3_changeFigure_44 : decode cX3_changeFigure 44 = .ok (.istore_n 3, 1) := by decide +kernel
theorem dX3_changeFigure_45 : decode cX3_changeFigure 45 = .ok (.aload_n 0, 1) := by decide +kernel
theorem dX3_changeFigure_46 : decode cX3_changeFigure 46 = .ok (.iload_n 2, 1) := by decide +kernel
theorem dX3_changeFigure_47 : decode cX3_changeFigure 47 = .ok (.putfield 18, 3) := by decide +kernel
theorem dX3_changeFigure_50 : decode cX3_changeFigure 50 = .ok (.iload_n 3, 1) := by decide +kernel
theorem dX3_changeFigure_51 : decode cX3_changeFigure 51 = .ok (.ireturn, 1) := by decide +kernel
theorem dX3_changeFigure_52 : decode cX3_changeFigure 52 = .ok (.aload_n 0, 1) := by decide +kernel
theorem dX3_changeFigure_53 : decode cX3_changeFigure 53 = .ok (.getfield 21, 3) := by decide +kernel
theorem dX3_changeFigure_56 : decode cX3_changeFigure 56 = .ok (.istore_n 3, 1) := by decide +kernel
theorem dX3_changeFigure_57 : decode cX3_changeFigure 57 = .ok (.aload_n 0, 1) := by decide +kernel
theorem dX3_changeFigure_58 : decode cX3_changeFigure 58 = .ok (.iload_n 2, 1) := by decide +kernel
theorem dX3_changeFigure_59 : decode cX3_changeFigure 59 = .ok (.putfield 21, 3) := by decide +kernel
theorem dX3_changeFigure_62 : decode cX3_changeFigure 62 = .ok (.iload_n 3, 1) := by decide +kernel
theorem dX3_changeFigure_63 : decode cX3_changeFigure 63 = .ok (.ireturn, 1) := by decide +kernel
theorem dX3_changeFigure_64 : decode cX3_changeFigure 64 = .ok (.aload_n 0, 1) := by decide +kernel
theorem dX3_changeFigure_65 : decode cX3_changeFigure 65 = .ok (.getfield 24, 3) := by decide +kernel
theorem dX3_changeFigure_68 : decode cX3_changeFigure 68 = .ok (.istore_n 3, 1) := by decide +kernel
theorem dX3_changeFigure_69 : decode cX3_changeFigure 69 = .ok (.aload_n 0, 1) := by decide +kernel
theorem dX3_changeFigure_70 : decode cX3_changeFigure 70 = .ok (.iload_n 2, 1) := by decide +kernel
theorem dX3_changeFigure_71 : decode cX3_changeFigure 71 = .ok (.putfield 24, 3) := by decide +kernel
theorem dX3_changeFigure_74 : decode cX3_changeFigure 74 = .ok (.iload_n 3, 1) := by decide +kernel
theorem dX3_changeFigure_75 : decode cX3_changeFigure 75 = .ok (.ireturn, 1) := by decide +kernel
theorem dX3_letGoAll_0 : decode cX3_letGoAll 0 = .ok (.iconst 0, 1) := by decide +kernel
theorem dX3_letGoAll_1 : decode cX3_letGoAll 1 = .ok (.istore_n 2, 1) := by decide +kernel
theorem dX3_letGoAll_2 : decode cX3_letGoAll 2 = .ok (.iload_n 2, 1) := by decide +kernel
theorem dX3_letGoAll_3 : decode cX3_letGoAll 3 = .ok (.bipush 6, 2) := by decide +kernel
theorem dX3_letGoAll_5 : decode cX3_letGoAll 5 = .ok (.if_icmp .ge 20, 3) := by decide +kernel
theorem dX3_letGoAll_8 : decode cX3_letGoAll 8 = .ok (.aload_n 0, 1) := by decide +kernel
theorem dX3_letGoAll_9 : decode cX3_letGoAll 9 = .ok (.getfield 37, 3) := by decide +kernel
theorem dX3_letGoAll_12 : decode cX3_letGoAll 12 = .ok (.iload_n 2, 1) := by decide +kernel
theorem dX3_letGoAll_13 : decode cX3_letGoAll 13 = .ok (.iload_n 1, 1) := by decide +kernel
theorem dX3_letGoAll_14 : decode cX3_letGoAll 14 = .ok (.iload_n 2, 1) := by decide +kernel
theorem dX3_letGoAll_15 : decode cX3_letGoAll 15 = .ok (.ishr, 1) := by decide +kernel
theorem dX3_letGoAll_16 : decode cX3_letGoAll 16 = .ok (.iconst 1, 1) := by decide +kernel
theorem dX3_letGoAll_17 : decode cX3_letGoAll 17 = .ok (.iand, 1) := by decide +kernel
theorem dX3_letGoAll_18 : decode cX3_letGoAll 18 = .ok (.iastore, 1) := by decide +kernel
theorem dX3_letGoAll_19 : decode cX3_letGoAll 19 = .ok (.iinc 2 1, 3) := by decide +kernel
theorem dX3_letGoAll_22 : decode cX3_letGoAll 22 = .ok (.goto (-20), 3) := by decide +kernel
theorem dX3_letGoAll_25 : decode cX3_letGoAll 25 = .ok (.return_, 1) := by decide +kernel
theorem dX3_has_0 : decode cX3_has 0 = .ok (.iload_n 1, 1) := by decide +kernel
theorem dX3_has_1 : decode cX3_has 1 = .ok (.ifCond .lt 15, 3) := by decide +kernel
theorem dX3_has_4 : decode cX3_has 4 = .ok (.iload_n 1, 1) := by decide +kernel
theorem dX3_has_5 : decode cX3_has 5 = .ok (.aload_n 0, 1) := by decide +kernel
theorem dX3_has_6 : decode cX3_has 6 = .ok (.getfield 40, 3) := by decide +kernel
theorem dX3_has_9 : decode cX3_has 9 = .ok (.if_icmp .ge 7, 3) := by decide +kernel
theorem dX3_has_12 : decode cX3_has 12 = .ok (.iconst 1, 1) := by decide +kernel
theorem dX3_has_13 : decode cX3_has 13 = .ok (.goto 4, 3) := by decide +kernel
theorem dX3_has_16 : decode cX3_has 16 = .ok (.iconst 0, 1) := by decide +kernel
theorem dX3_has_17 : decode cX3_has 17 = .ok (.ireturn, 1) := by decide +kernel
theorem dX3_isFull_0 : decode cX3_isFull 0 = .ok (.aload_n 0, 1) := by decide +kernel
theorem dX3_isFull_1 : decode cX3_isFull 1 = .ok (.getfield 40, 3) := by decide +kernel
theorem dX3_isFull_4 : decode cX3_isFull 4 = .ok (.bipush 8, 2) := by decide +kernel
theorem dX3_isFull_6 : decode cX3_isFull 6 = .ok (.if_icmp .lt 7, 3) := by decide +kernel
theorem dX3_isFull_9 : decode cX3_isFull 9 = .ok (.iconst 1, 1) := by decide +kernel
theorem dX3_isFull_10 : decode cX3_isFull 10 = .ok (.goto 4, 3) := by decide +kernel
theorem dX3_isFull_13 : decode cX3_isFull 13 = .ok (.iconst 0, 1) := by decide +kernel
theorem dX3_isFull_14 : decode cX3_isFull 14 = .ok (.ireturn, 1) := by decide +kernel
theorem dX3_addHole_0 : decode cX3_addHole 0 = .ok (.aload_n 0, 1) := by decide +kernel
theorem dX3_addHole_1 : decode cX3_addHole 1 = .ok (.getfield 40, 3) := by decide +kernel
theorem dX3_addHole_4 : decode cX3_addHole 4 = .ok (.istore_n 3, 1) := by decide +kernel
theorem dX3_addHole_5 : decode cX3_addHole 5 = .ok (.aload_n 0, 1) := by decide +kernel
theorem dX3_addHole_6 : decode cX3_addHole 6 = .ok (.getfield 43, 3) := by decide +kernel
theorem dX3_addHole_9 : decode cX3_addHole 9 = .ok (.iload_n 3, 1) := by decide +kernel
theorem dX3_addHole_10 : decode cX3_addHole 10 = .ok (.iload_n 1, 1) := by decide +kernel
theorem dX3_addHole_11 : decode cX3_addHole 11 = .ok (.iastore, 1) := by decide +kernel
theorem dX3_addHole_12 : decode cX3_addHole 12 = .ok (.aload_n 0, 1) := by decide +kernel
theorem dX3_addHole_13 : decode cX3_addHole 13 = .ok (.getfield 46, 3) := by decide +kernel
theorem dX3_addHole_16 : decode cX3_addHole 16 = .ok (.iload_n 3, 1) := by decide +kernel
theorem dX3_addHole_17 : decode cX3_addHole 17 = .ok (.iload_n 2, 1) := by decide +kernel
theorem dX3_addHole_18 : decode cX3_addHole 18 = .ok (.iastore, 1) := by decide +kernel
theorem dX3_addHole_19 : decode cX3_addHole 19 = .ok (.aload_n 0, 1) := by decide +kernel
theorem dX3_addHole_20 : decode cX3_addHole 20 = .ok (.getfield 49, 3) := by decide +kernel
theorem dX3_addHole_23 : decode cX3_addHole 23 = .ok (.iload_n 3, 1) := by decide +kernel
theorem dX3_addHole_24 : decode cX3_addHole 24 = .ok (.iconst 5, 1) := by decide +kernel
theorem dX3_addHole_25 : decode cX3_addHole 25 = .ok (.iastore, 1) := by decide +kernel
theorem dX3_addHole_26 : decode cX3_addHole 26 = .ok (.aload_n 0, 1) := by decide +kernel
theorem dX3_addHole_27 : decode cX3_addHole 27 = .ok (.getfield 52, 3) := by decide +kernel
theorem dX3_addHole_30 : decode cX3_addHole 30 = .ok (.iload_n 3, 1) := by decide +kernel
theorem dX3_addHole_31 : decode cX3_addHole 31 = .ok (.iconst 0, 1) := by decide +kernel
theorem dX3_addHole_32 : decode cX3_addHole 32 = .ok (.iastore, 1) := by decide +kernel
theorem dX3_addHole_33 : decode cX3_addHole 33 = .ok (.aload_n 0, 1) := by decide +kernel
theorem dX3_addHole_34 : decode cX3_addHole 34 = .ok (.getfield 55, 3) := by decide +kernel
theorem dX3_addHole_37 : decode cX3_addHole 37 = .ok (.iload_n 3, 1) := by decide +kernel
theorem dX3_addHole_38 : decode cX3_addHole 38 = .ok (.iconst 0, 1) := by decide +kernel
theorem dX3_addHole_39 : decode cX3_addHole 39 = .ok (.iastore, 1) := by decide +kernel
theorem dX3_addHole_40 : decode cX3_addHole 40 = .ok (.aload_n 0, 1) := by decide +kernel
theorem dX3_addHole_41 : decode cX3_addHole 41 = .ok (.getfield 58, 3) := by decide +kernel
theorem dX3_addHole_44 : decode cX3_addHole 44 = .ok (.iload_n 3, 1) := by decide +kernel
theorem dX3_addHole_45 : decode cX3_addHole 45 = .ok (.iconst 0, 1) := by decide +kernel
theorem dX3_addHole_46 : decode cX3_addHole 46 = .ok (.iastore, 1) := by decide +kernel
theorem dX3_addHole_47 : decode cX3_addHole 47 = .ok (.aload_n 0, 1) := by decide +kernel
theorem dX3_addHole_48 : decode cX3_addHole 48 = .ok (.dup, 1) := by decide +kernel
theorem dX3_addHole_49 : decode cX3_addHole 49 = .ok (.getfield 40, 3) := by decide +kernel
theorem dX3_addHole_52 : decode cX3_addHole 52 = .ok (.iconst 1, 1) := by decide +kernel
theorem dX3_addHole_53 : decode cX3_addHole 53 = .ok (.iadd, 1) := by decide +kernel
theorem dX3_addHole_54 : decode cX3_addHole 54 = .ok (.putfield 40, 3) := by decide +kernel
theorem dX3_addHole_57 : decode cX3_addHole 57 = .ok (.iload_n 3, 1) := by decide +kernel
theorem dX3_addHole_58 : decode cX3_addHole 58 = .ok (.ireturn, 1) := by decide +kernel
theorem dX3_rowOfHoles_0 : decode cX3_rowOfHoles 0 = .ok (.iload_n 1, 1) := by decide +kernel
theorem dX3_rowOfHoles_1 : decode cX3_rowOfHoles 1 = .ok (.tableswitch 60 0 4 #[35, 40, 45, 50, 55], 35) := by decide +kernel
theorem dX3_rowOfHoles_36 : decode cX3_rowOfHoles 36 = .ok (.aload_n 0, 1) := by decide +kernel
theorem dX3_rowOfHoles_37 : decode cX3_rowOfHoles 37 = .ok (.getfield 43, 3) := by decide +kernel
theorem dX3_rowOfHoles_40 : decode cX3_rowOfHoles 40 = .ok (.areturn, 1) := by decide +kernel
theorem dX3_rowOfHoles_41 : decode cX3_rowOfHoles 41 = .ok (.aload_n 0, 1) := by decide +kernel
theorem dX3_rowOfHoles_42 : decode cX3_rowOfHoles 42 = .ok (.getfield 46, 3) := by decide +kernel
theorem dX3_rowOfHoles_45 : decode cX3_rowOfHoles 45 = .ok (.areturn, 1) := by decide +kernel
theorem dX3_rowOfHoles_46 : decode cX3_rowOfHoles 46 = .ok (.aload_n 0, 1) := by decide +kernel
theorem dX3_rowOfHoles_47 : decode cX3_rowOfHoles 47 = .ok (.getfield 49, 3) := by decide +kernel
theorem dX3_rowOfHoles_50 : decode cX3_rowOfHoles 50 = .ok (.areturn, 1) := by decide +kernel
theorem dX3_rowOfHoles_51 : decode cX3_rowOfHoles 51 = .ok (.aload_n 0, 1) := by decide +kernel
theorem dX3_rowOfHoles_52 : decode cX3_rowOfHoles 52 = .ok (.getfield 52, 3) := by decide +kernel
theorem dX3_rowOfHoles_55 : decode cX3_rowOfHoles 55 = .ok (.areturn, 1) := by decide +kernel
theorem dX3_rowOfHoles_56 : decode cX3_rowOfHoles 56 = .ok (.aload_n 0, 1) := by decide +kernel
theorem dX3_rowOfHoles_57 : decode cX3_rowOfHoles 57 = .ok (.getfield 55, 3) := by decide +kernel
theorem dX3_rowOfHoles_60 : decode cX3_rowOfHoles 60 = .ok (.areturn, 1) := by decide +kernel
theorem dX3_rowOfHoles_61 : decode cX3_rowOfHoles 61 = .ok (.aload_n 0, 1) := by decide +kernel
theorem dX3_rowOfHoles_62 : decode cX3_rowOfHoles 62 = .ok (.getfield 58, 3) := by decide +kernel
theorem dX3_rowOfHoles_65 : decode cX3_rowOfHoles 65 = .ok (.areturn, 1) := by decide +kernel
theorem dX3_weekOfYear_0 : decode cX3_weekOfYear 0 = .ok (.aload_n 0, 1) := by decide +kernel
theorem dX3_weekOfYear_1 : decode cX3_weekOfYear 1 = .ok (.getfield 9, 3) := by decide +kernel
theorem dX3_weekOfYear_4 : decode cX3_weekOfYear 4 = .ok (.bipush 52, 2) := by decide +kernel
theorem dX3_weekOfYear_6 : decode cX3_weekOfYear 6 = .ok (.irem, 1) := by decide +kernel
theorem dX3_weekOfYear_7 : decode cX3_weekOfYear 7 = .ok (.ireturn, 1) := by decide +kernel
theorem dX3_growth_0 : decode cX3_growth 0 = .ok (.aload_n 0, 1) := by decide +kernel
theorem dX3_growth_1 : decode cX3_growth 1 = .ok (.getfield 46, 3) := by decide +kernel
theorem dX3_growth_4 : decode cX3_growth 4 = .ok (.iload_n 1, 1) := by decide +kernel
theorem dX3_growth_5 : decode cX3_growth 5 = .ok (.iaload, 1) := by decide +kernel
theorem dX3_growth_6 : decode cX3_growth 6 = .ok (.istore_n 2, 1) := by decide +kernel
theorem dX3_growth_7 : decode cX3_growth 7 = .ok (.iload_n 2, 1) := by decide +kernel
theorem dX3_growth_8 : decode cX3_growth 8 = .ok (.invokestatic 67, 3) := by decide +kernel
theorem dX3_growth_11 : decode cX3_growth 11 = .ok (.ifCond .eq 12, 3) := by decide +kernel
theorem dX3_growth_14 : decode cX3_growth 14 = .ok (.aload_n 0, 1) := by decide +kernel
theorem dX3_growth_15 : decode cX3_growth 15 = .ok (.getfield 33, 3) := by decide +kernel
theorem dX3_growth_18 : decode cX3_growth 18 = .ok (.iload_n 2, 1) := by decide +kernel
theorem dX3_growth_19 : decode cX3_growth 19 = .ok (.iaload, 1) := by decide +kernel
theorem dX3_growth_20 : decode cX3_growth 20 = .ok (.goto 4, 3) := by decide +kernel
theorem dX3_growth_23 : decode cX3_growth 23 = .ok (.iconst 0, 1) := by decide +kernel
theorem dX3_growth_24 : decode cX3_growth 24 = .ok (.istore_n 3, 1) := by decide +kernel
theorem dX3_growth_25 : decode cX3_growth 25 = .ok (.aload_n 0, 1) := by decide +kernel
theorem dX3_growth_26 : decode cX3_growth 26 = .ok (.getfield 43, 3) := by decide +kernel
theorem dX3_growth_29 : decode cX3_growth 29 = .ok (.iload_n 1, 1) := by decide +kernel
theorem dX3_growth_30 : decode cX3_growth 30 = .ok (.iaload, 1) := by decide +kernel
theorem dX3_growth_31 : decode cX3_growth 31 = .ok (.aload_n 0, 1) := by decide +kernel
theorem dX3_growth_32 : decode cX3_growth 32 = .ok (.getfield 49, 3) := by decide +kernel
theorem dX3_growth_35 : decode cX3_growth 35 = .ok (.iload_n 1, 1) := by decide +kernel
theorem dX3_growth_36 : decode cX3_growth 36 = .ok (.iaload, 1) := by decide +kernel
theorem dX3_growth_37 : decode cX3_growth 37 = .ok (.aload_n 0, 1) := by decide +kernel
theorem dX3_growth_38 : decode cX3_growth 38 = .ok (.invokevirtual 71, 3) := by decide +kernel
theorem dX3_growth_41 : decode cX3_growth 41 = .ok (.iload_n 3, 1) := by decide +kernel
theorem dX3_growth_42 : decode cX3_growth 42 = .ok (.invokestatic 75, 3) := by decide +kernel
theorem dX3_growth_45 : decode cX3_growth 45 = .ok (.ireturn, 1) := by decide +kernel
theorem dX3_price_0 : decode cX3_price 0 = .ok (.aload_n 0, 1) := by decide +kernel
theorem dX3_price_1 : decode cX3_price 1 = .ok (.getfield 43, 3) := by decide +kernel
theorem dX3_price_4 : decode cX3_price 4 = .ok (.iload_n 1, 1) := by decide +kernel
theorem dX3_price_5 : decode cX3_price 5 = .ok (.iaload, 1) := by decide +kernel
theorem dX3_price_6 : decode cX3_price 6 = .ok (.aload_n 0, 1) := by decide +kernel
theorem dX3_price_7 : decode cX3_price 7 = .ok (.getfield 49, 3) := by decide +kernel
theorem dX3_price_10 : decode cX3_price 10 = .ok (.iload_n 1, 1) := by decide +kernel
theorem dX3_price_11 : decode cX3_price 11 = .ok (.iaload, 1) := by decide +kernel
theorem dX3_price_12 : decode cX3_price 12 = .ok (.invokestatic 81, 3) := by decide +kernel
theorem dX3_price_15 : decode cX3_price 15 = .ok (.istore_n 3, 1) := by decide +kernel
theorem dX3_price_16 : decode cX3_price 16 = .ok (.iload_n 2, 1) := by decide +kernel
theorem dX3_price_17 : decode cX3_price 17 = .ok (.ifCond .ne 7, 3) := by decide +kernel
theorem dX3_price_20 : decode cX3_price 20 = .ok (.iload_n 3, 1) := by decide +kernel
theorem dX3_price_21 : decode cX3_price 21 = .ok (.goto 7, 3) := by decide +kernel
theorem dX3_price_24 : decode cX3_price 24 = .ok (.bipush 11, 2) := by decide +kernel
theorem dX3_price_26 : decode cX3_price 26 = .ok (.iload_n 3, 1) := by decide +kernel
theorem dX3_price_27 : decode cX3_price 27 = .ok (.imul, 1) := by decide +kernel
theorem dX3_price_28 : decode cX3_price 28 = .ok (.ireturn, 1) := by decide +kernel
theorem dX3_isLetGo_0 : decode cX3_isLetGo 0 = .ok (.aload_n 0, 1) := by decide +kernel
theorem dX3_isLetGo_1 : decode cX3_isLetGo 1 = .ok (.getfield 46, 3) := by decide +kernel
theorem dX3_isLetGo_4 : decode cX3_isLetGo 4 = .ok (.iload_n 1, 1) := by decide +kernel
theorem dX3_isLetGo_5 : decode cX3_isLetGo 5 = .ok (.iaload, 1) := by decide +kernel
theorem dX3_isLetGo_6 : decode cX3_isLetGo 6 = .ok (.istore_n 2, 1) := by decide +kernel
theorem dX3_isLetGo_7 : decode cX3_isLetGo 7 = .ok (.iload_n 2, 1) := by decide +kernel
theorem dX3_isLetGo_8 : decode cX3_isLetGo 8 = .ok (.invokestatic 67, 3) := by decide +kernel
theorem dX3_isLetGo_11 : decode cX3_isLetGo 11 = .ok (.ifCond .eq 16, 3) := by decide +kernel
theorem dX3_isLetGo_14 : decode cX3_isLetGo 14 = .ok (.aload_n 0, 1) := by decide +kernel
theorem dX3_isLetGo_15 : decode cX3_isLetGo 15 = .ok (.getfield 37, 3) := by decide +kernel
theorem dX3_isLetGo_18 : decode cX3_isLetGo 18 = .ok (.iload_n 2, 1) := by decide +kernel
theorem dX3_isLetGo_19 : decode cX3_isLetGo 19 = .ok (.iaload, 1) := by decide +kernel
theorem dX3_isLetGo_20 : decode cX3_isLetGo 20 = .ok (.ifCond .eq 7, 3) := by decide +kernel
theorem dX3_isLetGo_23 : decode cX3_isLetGo 23 = .ok (.iconst 1, 1) := by decide +kernel
theorem dX3_isLetGo_24 : decode cX3_isLetGo 24 = .ok (.goto 4, 3) := by decide +kernel
theorem dX3_isLetGo_27 : decode cX3_isLetGo 27 = .ok (.iconst 0, 1) := by decide +kernel
theorem dX3_isLetGo_28 : decode cX3_isLetGo 28 = .ok (.ireturn, 1) := by decide +kernel
theorem dX3_comesAheadOf_0 : decode cX3_comesAheadOf 0 = .ok (.aload_n 0, 1) := by decide +kernel
theorem dX3_comesAheadOf_1 : decode cX3_comesAheadOf 1 = .ok (.getfield 43, 3) := by decide +kernel
theorem dX3_comesAheadOf_4 : decode cX3_comesAheadOf 4 = .ok (.iload_n 1, 1) := by decide +kernel
theorem dX3_comesAheadOf_5 : decode cX3_comesAheadOf 5 = .ok (.iaload, 1) := by decide +kernel
theorem dX3_comesAheadOf_6 : decode cX3_comesAheadOf 6 = .ok (.iconst 4, 1) := by decide +kernel
theorem dX3_comesAheadOf_7 : decode cX3_comesAheadOf 7 = .ok (.if_icmp .ne 7, 3) := by decide +kernel
theorem dX3_comesAheadOf_10 : decode cX3_comesAheadOf 10 = .ok (.iconst 1, 1) := by decide +kernel
theorem dX3_comesAheadOf_11 : decode cX3_comesAheadOf 11 = .ok (.goto 4, 3) := by decide +kernel
theorem dX3_comesAheadOf_14 : decode cX3_comesAheadOf 14 = .ok (.iconst 0, 1) := by decide +kernel
theorem dX3_comesAheadOf_15 : decode cX3_comesAheadOf 15 = .ok (.istore_n 3, 1) := by decide +kernel
theorem dX3_comesAheadOf_16 : decode cX3_comesAheadOf 16 = .ok (.iload_n 3, 1) := by decide +kernel
theorem dX3_comesAheadOf_17 : decode cX3_comesAheadOf 17 = .ok (.aload_n 0, 1) := by decide +kernel
theorem dX3_comesAheadOf_18 : decode cX3_comesAheadOf 18 = .ok (.getfield 43, 3) := by decide +kernel
theorem dX3_comesAheadOf_21 : decode cX3_comesAheadOf 21 = .ok (.iload_n 2, 1) := by decide +kernel
theorem dX3_comesAheadOf_22 : decode cX3_comesAheadOf 22 = .ok (.iaload, 1) := by decide +kernel
theorem dX3_comesAheadOf_23 : decode cX3_comesAheadOf 23 = .ok (.iconst 4, 1) := by decide +kernel
theorem dX3_comesAheadOf_24 : decode cX3_comesAheadOf 24 = .ok (.if_icmp .ne 7, 3) := by decide +kernel
theorem dX3_comesAheadOf_27 : decode cX3_comesAheadOf 27 = .ok (.iconst 1, 1) := by decide +kernel
theorem dX3_comesAheadOf_28 : decode cX3_comesAheadOf 28 = .ok (.goto 4, 3) := by decide +kernel
theorem dX3_comesAheadOf_31 : decode cX3_comesAheadOf 31 = .ok (.iconst 0, 1) := by decide +kernel
theorem dX3_comesAheadOf_32 : decode cX3_comesAheadOf 32 = .ok (.if_icmp .eq 5, 3) := by decide +kernel
theorem dX3_comesAheadOf_35 : decode cX3_comesAheadOf 35 = .ok (.iload_n 3, 1) := by decide +kernel
theorem dX3_comesAheadOf_36 : decode cX3_comesAheadOf 36 = .ok (.ireturn, 1) := by decide +kernel
theorem dX3_comesAheadOf_37 : decode cX3_comesAheadOf 37 = .ok (.aload_n 0, 1) := by decide +kernel
theorem dX3_comesAheadOf_38 : decode cX3_comesAheadOf 38 = .ok (.getfield 58, 3) := by decide +kernel
theorem dX3_comesAheadOf_41 : decode cX3_comesAheadOf 41 = .ok (.iload_n 1, 1) := by decide +kernel
theorem dX3_comesAheadOf_42 : decode cX3_comesAheadOf 42 = .ok (.iaload, 1) := by decide +kernel
theorem dX3_comesAheadOf_43 : decode cX3_comesAheadOf 43 = .ok (.aload_n 0, 1) := by decide +kernel
theorem dX3_comesAheadOf_44 : decode cX3_comesAheadOf 44 = .ok (.getfield 58, 3) := by decide +kernel
theorem dX3_comesAheadOf_47 : decode cX3_comesAheadOf 47 = .ok (.iload_n 2, 1) := by decide +kernel
theorem dX3_comesAheadOf_48 : decode cX3_comesAheadOf 48 = .ok (.iaload, 1) := by decide +kernel
theorem dX3_comesAheadOf_49 : decode cX3_comesAheadOf 49 = .ok (.if_icmp .eq 24, 3) := by decide +kernel
theorem dX3_comesAheadOf_52 : decode cX3_comesAheadOf 52 = .ok (.aload_n 0, 1) := by decide +kernel
theorem dX3_comesAheadOf_53 : decode cX3_comesAheadOf 53 = .ok (.getfield 58, 3) := by decide +kernel
theorem dX3_comesAheadOf_56 : decode cX3_comesAheadOf 56 = .ok (.iload_n 1, 1) := by decide +kernel
theorem dX3_comesAheadOf_57 : decode cX3_comesAheadOf 57 = .ok (.iaload, 1) := by decide +kernel
theorem dX3_comesAheadOf_58 : decode cX3_comesAheadOf 58 = .ok (.aload_n 0, 1) := by decide +kernel
theorem dX3_comesAheadOf_59 : decode cX3_comesAheadOf 59 = .ok (.getfield 58, 3) := by decide +kernel
theorem dX3_comesAheadOf_62 : decode cX3_comesAheadOf 62 = .ok (.iload_n 2, 1) := by decide +kernel
theorem dX3_comesAheadOf_63 : decode cX3_comesAheadOf 63 = .ok (.iaload, 1) := by decide +kernel
theorem dX3_comesAheadOf_64 : decode cX3_comesAheadOf 64 = .ok (.if_icmp .le 7, 3) := by decide +kernel
theorem dX3_comesAheadOf_67 : decode cX3_comesAheadOf 67 = .ok (.iconst 1, 1) := by decide +kernel
theorem dX3_comesAheadOf_68 : decode cX3_comesAheadOf 68 = .ok (.goto 4, 3) := by decide +kernel
theorem dX3_comesAheadOf_71 : decode cX3_comesAheadOf 71 = .ok (.iconst 0, 1) := by decide +kernel
theorem dX3_comesAheadOf_72 : decode cX3_comesAheadOf 72 = .ok (.ireturn, 1) := by decide +kernel
theorem dX3_comesAheadOf_73 : decode cX3_comesAheadOf 73 = .ok (.aload_n 0, 1) := by decide +kernel
theorem dX3_comesAheadOf_74 : decode cX3_comesAheadOf 74 = .ok (.getfield 49, 3) := by decide +kernel
theorem dX3_comesAheadOf_77 : decode cX3_comesAheadOf 77 = .ok (.iload_n 1, 1) := by decide +kernel
theorem dX3_comesAheadOf_78 : decode cX3_comesAheadOf 78 = .ok (.iaload, 1) := by decide +kernel
theorem dX3_comesAheadOf_79 : decode cX3_comesAheadOf 79 = .ok (.aload_n 0, 1) := by decide +kernel
theorem dX3_comesAheadOf_80 : decode cX3_comesAheadOf 80 = .ok (.getfield 49, 3) := by decide +kernel
theorem dX3_comesAheadOf_83 : decode cX3_comesAheadOf 83 = .ok (.iload_n 2, 1) := by decide +kernel
theorem dX3_comesAheadOf_84 : decode cX3_comesAheadOf 84 = .ok (.iaload, 1) := by decide +kernel
theorem dX3_comesAheadOf_85 : decode cX3_comesAheadOf 85 = .ok (.if_icmp .le 7, 3) := by decide +kernel
theorem dX3_comesAheadOf_88 : decode cX3_comesAheadOf 88 = .ok (.iconst 1, 1) := by decide +kernel
theorem dX3_comesAheadOf_89 : decode cX3_comesAheadOf 89 = .ok (.goto 4, 3) := by decide +kernel
theorem dX3_comesAheadOf_92 : decode cX3_comesAheadOf 92 = .ok (.iconst 0, 1) := by decide +kernel
theorem dX3_comesAheadOf_93 : decode cX3_comesAheadOf 93 = .ok (.ireturn, 1) := by decide +kernel
theorem dX3_firstToFill_0 : decode cX3_firstToFill 0 = .ok (.iconst (-1), 1) := by decide +kernel
theorem dX3_firstToFill_1 : decode cX3_firstToFill 1 = .ok (.istore_n 1, 1) := by decide +kernel
theorem dX3_firstToFill_2 : decode cX3_firstToFill 2 = .ok (.iconst 0, 1) := by decide +kernel
theorem dX3_firstToFill_3 : decode cX3_firstToFill 3 = .ok (.istore_n 2, 1) := by decide +kernel
theorem dX3_firstToFill_4 : decode cX3_firstToFill 4 = .ok (.iload_n 2, 1) := by decide +kernel
theorem dX3_firstToFill_5 : decode cX3_firstToFill 5 = .ok (.aload_n 0, 1) := by decide +kernel
theorem dX3_firstToFill_6 : decode cX3_firstToFill 6 = .ok (.getfield 40, 3) := by decide +kernel
theorem dX3_firstToFill_9 : decode cX3_firstToFill 9 = .ok (.if_icmp .ge 82, 3) := by decide +kernel
theorem dX3_firstToFill_12 : decode cX3_firstToFill 12 = .ok (.aload_n 0, 1) := by decide +kernel
theorem dX3_firstToFill_13 : decode cX3_firstToFill 13 = .ok (.getfield 52, 3) := by decide +kernel
theorem dX3_firstToFill_16 : decode cX3_firstToFill 16 = .ok (.iload_n 2, 1) := by decide +kernel
theorem dX3_firstToFill_17 : decode cX3_firstToFill 17 = .ok (.iaload, 1) := by decide +kernel
theorem dX3_firstToFill_18 : decode cX3_firstToFill 18 = .ok (.ifCond .ne 67, 3) := by decide +kernel
theorem dX3_firstToFill_21 : decode cX3_firstToFill 21 = .ok (.aload_n 0, 1) := by decide +kernel
theorem dX3_firstToFill_22 : decode cX3_firstToFill 22 = .ok (.iload_n 2, 1) := by decide +kernel
theorem dX3_firstToFill_23 : decode cX3_firstToFill 23 = .ok (.invokevirtual 85, 3) := by decide +kernel
theorem dX3_firstToFill_26 : decode cX3_firstToFill 26 = .ok (.ifCond .eq 6, 3) := by decide +kernel
theorem dX3_firstToFill_29 : decode cX3_firstToFill 29 = .ok (.goto 56, 3) := by decide +kernel
theorem dX3_firstToFill_32 : decode cX3_firstToFill 32 = .ok (.aload_n 0, 1) := by decide +kernel
theorem dX3_firstToFill_33 : decode cX3_firstToFill 33 = .ok (.iload_n 2, 1) := by decide +kernel
theorem dX3_firstToFill_34 : decode cX3_firstToFill 34 = .ok (.aload_n 0, 1) := by decide +kernel
theorem dX3_firstToFill_35 : decode cX3_firstToFill 35 = .ok (.getfield 24, 3) := by decide +kernel
theorem dX3_firstToFill_38 : decode cX3_firstToFill 38 = .ok (.invokevirtual 88, 3) := by decide +kernel
theorem dX3_firstToFill_41 : decode cX3_firstToFill 41 = .ok (.istore_n 3, 1) := by decide +kernel
theorem dX3_firstToFill_42 : decode cX3_firstToFill 42 = .ok (.iload_n 3, 1) := by decide +kernel
theorem dX3_firstToFill_43 : decode cX3_firstToFill 43 = .ok (.aload_n 0, 1) := by decide +kernel
theorem dX3_firstToFill_44 : decode cX3_firstToFill 44 = .ok (.getfield 15, 3) := by decide +kernel
theorem dX3_firstToFill_47 : decode cX3_firstToFill 47 = .ok (.if_icmp .le 23, 3) := by decide +kernel
theorem dX3_firstToFill_50 : decode cX3_firstToFill 50 = .ok (.aload_n 0, 1) := by decide +kernel
theorem dX3_firstToFill_51 : decode cX3_firstToFill 51 = .ok (.aload_n 0, 1) := by decide +kernel
theorem dX3_firstToFill_52 : decode cX3_firstToFill 52 = .ok (.getfield 30, 3) := by decide +kernel
theorem dX3_firstToFill_55 : decode cX3_firstToFill 55 = .ok (.iload_n 3, 1) := by decide +kernel
theorem dX3_firstToFill_56 : decode cX3_firstToFill 56 = .ok (.aload_n 0, 1) := by decide +kernel
theorem dX3_firstToFill_57 : decode cX3_firstToFill 57 = .ok (.getfield 15, 3) := by decide +kernel
theorem dX3_firstToFill_60 : decode cX3_firstToFill 60 = .ok (.isub, 1) := by decide +kernel
theorem dX3_firstToFill_61 : decode cX3_firstToFill 61 = .ok (.invokestatic 91, 3) := by decide +kernel
theorem dX3_firstToFill_64 : decode cX3_firstToFill 64 = .ok (.putfield 30, 3) := by decide +kernel
theorem dX3_firstToFill_67 : decode cX3_firstToFill 67 = .ok (.goto 18, 3) := by decide +kernel
theorem dX3_firstToFill_70 : decode cX3_firstToFill 70 = .ok (.iload_n 1, 1) := by decide +kernel
theorem dX3_firstToFill_71 : decode cX3_firstToFill 71 = .ok (.ifCond .lt 12, 3) := by decide +kernel
theorem dX3_firstToFill_74 : decode cX3_firstToFill 74 = .ok (.aload_n 0, 1) := by decide +kernel
theorem dX3_firstToFill_75 : decode cX3_firstToFill 75 = .ok (.iload_n 2, 1) := by decide +kernel
theorem dX3_firstToFill_76 : decode cX3_firstToFill 76 = .ok (.iload_n 1, 1) := by decide +kernel
theorem dX3_firstToFill_77 : decode cX3_firstToFill 77 = .ok (.invokevirtual 96, 3) := by decide +kernel
theorem dX3_firstToFill_80 : decode cX3_firstToFill 80 = .ok (.ifCond .eq 5, 3) := by decide +kernel
theorem dX3_firstToFill_83 : decode cX3_firstToFill 83 = .ok (.iload_n 2, 1) := by decide +kernel
theorem dX3_firstToFill_84 : decode cX3_firstToFill 84 = .ok (.istore_n 1, 1) := by decide +kernel
theorem dX3_firstToFill_85 : decode cX3_firstToFill 85 = .ok (.iinc 2 1, 3) := by decide +kernel
theorem dX3_firstToFill_88 : decode cX3_firstToFill 88 = .ok (.goto (-84), 3) := by decide +kernel
theorem dX3_firstToFill_91 : decode cX3_firstToFill 91 = .ok (.iload_n 1, 1) := by decide +kernel
theorem dX3_firstToFill_92 : decode cX3_firstToFill 92 = .ok (.ireturn, 1) := by decide +kernel
theorem dX3_fillNow_0 : decode cX3_fillNow 0 = .ok (.aload_n 0, 1) := by decide +kernel
theorem dX3_fillNow_1 : decode cX3_fillNow 1 = .ok (.iload_n 1, 1) := by decide +kernel
theorem dX3_fillNow_2 : decode cX3_fillNow 2 = .ok (.iload_n 2, 1) := by decide +kernel
theorem dX3_fillNow_3 : decode cX3_fillNow 3 = .ok (.invokevirtual 88, 3) := by decide +kernel
theorem dX3_fillNow_6 : decode cX3_fillNow 6 = .ok (.istore_n 3, 1) := by decide +kernel
theorem dX3_fillNow_7 : decode cX3_fillNow 7 = .ok (.aload_n 0, 1) := by decide +kernel
theorem dX3_fillNow_8 : decode cX3_fillNow 8 = .ok (.dup, 1) := by decide +kernel
theorem dX3_fillNow_9 : decode cX3_fillNow 9 = .ok (.getfield 15, 3) := by decide +kernel
theorem dX3_fillNow_12 : decode cX3_fillNow 12 = .ok (.iload_n 3, 1) := by decide +kernel
theorem dX3_fillNow_13 : decode cX3_fillNow 13 = .ok (.isub, 1) := by decide +kernel
theorem dX3_fillNow_14 : decode cX3_fillNow 14 = .ok (.putfield 15, 3) := by decide +kernel
theorem dX3_fillNow_17 : decode cX3_fillNow 17 = .ok (.aload_n 0, 1) := by decide +kernel
theorem dX3_fillNow_18 : decode cX3_fillNow 18 = .ok (.aload_n 0, 1) := by decide +kernel
theorem dX3_fillNow_19 : decode cX3_fillNow 19 = .ok (.getfield 27, 3) := by decide +kernel
theorem dX3_fillNow_22 : decode cX3_fillNow 22 = .ok (.iload_n 3, 1) := by decide +kernel
theorem dX3_fillNow_23 : decode cX3_fillNow 23 = .ok (.iadd, 1) := by decide +kernel
theorem dX3_fillNow_24 : decode cX3_fillNow 24 = .ok (.ldc 100, 2) := by decide +kernel
theorem dX3_fillNow_26 : decode cX3_fillNow 26 = .ok (.invokestatic 91, 3) := by decide +kernel
theorem dX3_fillNow_29 : decode cX3_fillNow 29 = .ok (.putfield 27, 3) := by decide +kernel
theorem dX3_fillNow_32 : decode cX3_fillNow 32 = .ok (.aload_n 0, 1) := by decide +kernel
theorem dX3_fillNow_33 : decode cX3_fillNow 33 = .ok (.getfield 52, 3) := by decide +kernel
theorem dX3_fillNow_36 : decode cX3_fillNow 36 = .ok (.iload_n 1, 1) := by decide +kernel
theorem dX3_fillNow_37 : decode cX3_fillNow 37 = .ok (.iload_n 2, 1) := by decide +kernel
theorem dX3_fillNow_38 : decode cX3_fillNow 38 = .ok (.ifCond .ne 7, 3) := by decide +kernel
theorem dX3_fillNow_41 : decode cX3_fillNow 41 = .ok (.iconst 1, 1) := by decide +kernel
theorem dX3_fillNow_42 : decode cX3_fillNow 42 = .ok (.goto 4, 3) := by decide +kernel
theorem dX3_fillNow_45 : decode cX3_fillNow 45 = .ok (.iconst 2, 1) := by decide +kernel
theorem dX3_fillNow_46 : decode cX3_fillNow 46 = .ok (.iastore, 1) := by decide +kernel
theorem dX3_fillNow_47 : decode cX3_fillNow 47 = .ok (.aload_n 0, 1) := by decide +kernel
theorem dX3_fillNow_48 : decode cX3_fillNow 48 = .ok (.getfield 55, 3) := by decide +kernel
theorem dX3_fillNow_51 : decode cX3_fillNow 51 = .ok (.iload_n 1, 1) := by decide +kernel
theorem dX3_fillNow_52 : decode cX3_fillNow 52 = .ok (.iconst 0, 1) := by decide +kernel
theorem dX3_fillNow_53 : decode cX3_fillNow 53 = .ok (.iastore, 1) := by decide +kernel
theorem dX3_fillNow_54 : decode cX3_fillNow 54 = .ok (.aload_n 0, 1) := by decide +kernel
theorem dX3_fillNow_55 : decode cX3_fillNow 55 = .ok (.getfield 58, 3) := by decide +kernel
theorem dX3_fillNow_58 : decode cX3_fillNow 58 = .ok (.iload_n 1, 1) := by decide +kernel
theorem dX3_fillNow_59 : decode cX3_fillNow 59 = .ok (.iconst 0, 1) := by decide +kernel
theorem dX3_fillNow_60 : decode cX3_fillNow 60 = .ok (.iastore, 1) := by decide +kernel
theorem dX3_fillNow_61 : decode cX3_fillNow 61 = .ok (.return_, 1) := by decide +kernel
theorem dX3_sendMen_0 : decode cX3_sendMen 0 = .ok (.iconst 0, 1) := by decide +kernel
theorem dX3_sendMen_1 : decode cX3_sendMen 1 = .ok (.istore_n 1, 1) := by decide +kernel
theorem dX3_sendMen_2 : decode cX3_sendMen 2 = .ok (.iload_n 1, 1) := by decide +kernel
theorem dX3_sendMen_3 : decode cX3_sendMen 3 = .ok (.aload_n 0, 1) := by decide +kernel
theorem dX3_sendMen_4 : decode cX3_sendMen 4 = .ok (.getfield 21, 3) := by decide +kernel
theorem dX3_sendMen_7 : decode cX3_sendMen 7 = .ok (.if_icmp .ge 30, 3) := by decide +kernel
theorem dX3_sendMen_10 : decode cX3_sendMen 10 = .ok (.aload_n 0, 1) := by decide +kernel
theorem dX3_sendMen_11 : decode cX3_sendMen 11 = .ok (.invokevirtual 101, 3) := by decide +kernel
theorem dX3_sendMen_14 : decode cX3_sendMen 14 = .ok (.istore_n 2, 1) := by decide +kernel
theorem dX3_sendMen_15 : decode cX3_sendMen 15 = .ok (.iload_n 2, 1) := by decide +kernel
theorem dX3_sendMen_16 : decode cX3_sendMen 16 = .ok (.ifCond .ge 6, 3) := by decide +kernel
theorem dX3_sendMen_19 : decode cX3_sendMen 19 = .ok (.goto 18, 3) := by decide +kernel
theorem dX3_sendMen_22 : decode cX3_sendMen 22 = .ok (.aload_n 0, 1) := by decide +kernel
theorem dX3_sendMen_23 : decode cX3_sendMen 23 = .ok (.iload_n 2, 1) := by decide +kernel
theorem dX3_sendMen_24 : decode cX3_sendMen 24 = .ok (.aload_n 0, 1) := by decide +kernel
theorem dX3_sendMen_25 : decode cX3_sendMen 25 = .ok (.getfield 24, 3) := by decide +kernel
theorem dX3_sendMen_28 : decode cX3_sendMen 28 = .ok (.invokevirtual 104, 3) := by decide +kernel
theorem dX3_sendMen_31 : decode cX3_sendMen 31 = .ok (.iinc 1 1, 3) := by decide +kernel
theorem dX3_sendMen_34 : decode cX3_sendMen 34 = .ok (.goto (-32), 3) := by decide +kernel
theorem dX3_sendMen_37 : decode cX3_sendMen 37 = .ok (.return_, 1) := by decide +kernel
theorem dX3_wear_0 : decode cX3_wear 0 = .ok (.aload_n 0, 1) := by decide +kernel
theorem dX3_wear_1 : decode cX3_wear 1 = .ok (.getfield 52, 3) := by decide +kernel
theorem dX3_wear_4 : decode cX3_wear 4 = .ok (.iload_n 1, 1) := by decide +kernel
theorem dX3_wear_5 : decode cX3_wear 5 = .ok (.iaload, 1) := by decide +kernel
theorem dX3_wear_6 : decode cX3_wear 6 = .ok (.ifCond .ne 27, 3) := by decide +kernel
theorem dX3_wear_9 : decode cX3_wear 9 = .ok (.aload_n 0, 1) := by decide +kernel
theorem dX3_wear_10 : decode cX3_wear 10 = .ok (.getfield 49, 3) := by decide +kernel
theorem dX3_wear_13 : decode cX3_wear 13 = .ok (.iload_n 1, 1) := by decide +kernel
theorem dX3_wear_14 : decode cX3_wear 14 = .ok (.aload_n 0, 1) := by decide +kernel
theorem dX3_wear_15 : decode cX3_wear 15 = .ok (.getfield 49, 3) := by decide +kernel
theorem dX3_wear_18 : decode cX3_wear 18 = .ok (.iload_n 1, 1) := by decide +kernel
theorem dX3_wear_19 : decode cX3_wear 19 = .ok (.iaload, 1) := by decide +kernel
theorem dX3_wear_20 : decode cX3_wear 20 = .ok (.aload_n 0, 1) := by decide +kernel
theorem dX3_wear_21 : decode cX3_wear 21 = .ok (.iload_n 1, 1) := by decide +kernel
theorem dX3_wear_22 : decode cX3_wear 22 = .ok (.invokevirtual 108, 3) := by decide +kernel
theorem dX3_wear_25 : decode cX3_wear 25 = .ok (.iadd, 1) := by decide +kernel
theorem dX3_wear_26 : decode cX3_wear 26 = .ok (.bipush 99, 2) := by decide +kernel
theorem dX3_wear_28 : decode cX3_wear 28 = .ok (.invokestatic 91, 3) := by decide +kernel
theorem dX3_wear_31 : decode cX3_wear 31 = .ok (.iastore, 1) := by decide +kernel
theorem dX3_wear_32 : decode cX3_wear 32 = .ok (.return_, 1) := by decide +kernel
theorem dX3_wear_33 : decode cX3_wear 33 = .ok (.aload_n 0, 1) := by decide +kernel
theorem dX3_wear_34 : decode cX3_wear 34 = .ok (.getfield 55, 3) := by decide +kernel
theorem dX3_wear_37 : decode cX3_wear 37 = .ok (.iload_n 1, 1) := by decide +kernel
theorem dX3_wear_38 : decode cX3_wear 38 = .ok (.aload_n 0, 1) := by decide +kernel
theorem dX3_wear_39 : decode cX3_wear 39 = .ok (.getfield 55, 3) := by decide +kernel
theorem dX3_wear_42 : decode cX3_wear 42 = .ok (.iload_n 1, 1) := by decide +kernel
theorem dX3_wear_43 : decode cX3_wear 43 = .ok (.iaload, 1) := by decide +kernel
theorem dX3_wear_44 : decode cX3_wear 44 = .ok (.iconst 1, 1) := by decide +kernel
theorem dX3_wear_45 : decode cX3_wear 45 = .ok (.iadd, 1) := by decide +kernel
theorem dX3_wear_46 : decode cX3_wear 46 = .ok (.sipush 999, 3) := by decide +kernel
theorem dX3_wear_49 : decode cX3_wear 49 = .ok (.invokestatic 91, 3) := by decide +kernel
theorem dX3_wear_52 : decode cX3_wear 52 = .ok (.iastore, 1) := by decide +kernel
theorem dX3_wear_53 : decode cX3_wear 53 = .ok (.aload_n 0, 1) := by decide +kernel
theorem dX3_wear_54 : decode cX3_wear 54 = .ok (.getfield 55, 3) := by decide +kernel
theorem dX3_wear_57 : decode cX3_wear 57 = .ok (.iload_n 1, 1) := by decide +kernel
theorem dX3_wear_58 : decode cX3_wear 58 = .ok (.iaload, 1) := by decide +kernel
theorem dX3_wear_59 : decode cX3_wear 59 = .ok (.aload_n 0, 1) := by decide +kernel
theorem dX3_wear_60 : decode cX3_wear 60 = .ok (.getfield 43, 3) := by decide +kernel
theorem dX3_wear_63 : decode cX3_wear 63 = .ok (.iload_n 1, 1) := by decide +kernel
theorem dX3_wear_64 : decode cX3_wear 64 = .ok (.iaload, 1) := by decide +kernel
theorem dX3_wear_65 : decode cX3_wear 65 = .ok (.aload_n 0, 1) := by decide +kernel
theorem dX3_wear_66 : decode cX3_wear 66 = .ok (.getfield 52, 3) := by decide +kernel
theorem dX3_wear_69 : decode cX3_wear 69 = .ok (.iload_n 1, 1) := by decide +kernel
theorem dX3_wear_70 : decode cX3_wear 70 = .ok (.iaload, 1) := by decide +kernel
theorem dX3_wear_71 : decode cX3_wear 71 = .ok (.invokestatic 111, 3) := by decide +kernel
theorem dX3_wear_74 : decode cX3_wear 74 = .ok (.if_icmp .le 10, 3) := by decide +kernel
theorem dX3_wear_77 : decode cX3_wear 77 = .ok (.aload_n 0, 1) := by decide +kernel
theorem dX3_wear_78 : decode cX3_wear 78 = .ok (.getfield 52, 3) := by decide +kernel
theorem dX3_wear_81 : decode cX3_wear 81 = .ok (.iload_n 1, 1) := by decide +kernel
theorem dX3_wear_82 : decode cX3_wear 82 = .ok (.iconst 0, 1) := by decide +kernel
theorem dX3_wear_83 : decode cX3_wear 83 = .ok (.iastore, 1) := by decide +kernel
theorem dX3_wear_84 : decode cX3_wear 84 = .ok (.return_, 1) := by decide +kernel
theorem dX3_goWeek_0 : decode cX3_goWeek 0 = .ok (.aload_n 0, 1) := by decide +kernel
theorem dX3_goWeek_1 : decode cX3_goWeek 1 = .ok (.invokevirtual 114, 3) := by decide +kernel
theorem dX3_goWeek_4 : decode cX3_goWeek 4 = .ok (.iconst 0, 1) := by decide +kernel
theorem dX3_goWeek_5 : decode cX3_goWeek 5 = .ok (.istore_n 1, 1) := by decide +kernel
theorem dX3_goWeek_6 : decode cX3_goWeek 6 = .ok (.iload_n 1, 1) := by decide +kernel
theorem dX3_goWeek_7 : decode cX3_goWeek 7 = .ok (.aload_n 0, 1) := by decide +kernel
theorem dX3_goWeek_8 : decode cX3_goWeek 8 = .ok (.getfield 40, 3) := by decide +kernel
theorem dX3_goWeek_11 : decode cX3_goWeek 11 = .ok (.if_icmp .ge 14, 3) := by decide +kernel
theorem dX3_goWeek_14 : decode cX3_goWeek 14 = .ok (.aload_n 0, 1) := by decide +kernel
theorem dX3_goWeek_15 : decode cX3_goWeek 15 = .ok (.iload_n 1, 1) := by decide +kernel
theorem dX3_goWeek_16 : decode cX3_goWeek 16 = .ok (.invokevirtual 117, 3) := by decide +kernel
theorem dX3_goWeek_19 : decode cX3_goWeek 19 = .ok (.iinc 1 1, 3) := by decide +kernel
theorem dX3_goWeek_22 : decode cX3_goWeek 22 = .ok (.goto (-16), 3) := by decide +kernel
theorem dX3_goWeek_25 : decode cX3_goWeek 25 = .ok (.aload_n 0, 1) := by decide +kernel
theorem dX3_goWeek_26 : decode cX3_goWeek 26 = .ok (.dup, 1) := by decide +kernel
theorem dX3_goWeek_27 : decode cX3_goWeek 27 = .ok (.getfield 9, 3) := by decide +kernel
theorem dX3_goWeek_30 : decode cX3_goWeek 30 = .ok (.iconst 1, 1) := by decide +kernel
theorem dX3_goWeek_31 : decode cX3_goWeek 31 = .ok (.iadd, 1) := by decide +kernel
theorem dX3_goWeek_32 : decode cX3_goWeek 32 = .ok (.putfield 9, 3) := by decide +kernel
theorem dX3_goWeek_35 : decode cX3_goWeek 35 = .ok (.aload_n 0, 1) := by decide +kernel
theorem dX3_goWeek_36 : decode cX3_goWeek 36 = .ok (.invokevirtual 71, 3) := by decide +kernel
theorem dX3_goWeek_39 : decode cX3_goWeek 39 = .ok (.bipush 12, 2) := by decide +kernel
theorem dX3_goWeek_41 : decode cX3_goWeek 41 = .ok (.if_icmp .ne 11, 3) := by decide +kernel
theorem dX3_goWeek_44 : decode cX3_goWeek 44 = .ok (.aload_n 0, 1) := by decide +kernel
theorem dX3_goWeek_45 : decode cX3_goWeek 45 = .ok (.aload_n 0, 1) := by decide +kernel
theorem dX3_goWeek_46 : decode cX3_goWeek 46 = .ok (.getfield 18, 3) := by decide +kernel
theorem dX3_goWeek_49 : decode cX3_goWeek 49 = .ok (.putfield 15, 3) := by decide +kernel
theorem dX3_goWeek_52 : decode cX3_goWeek 52 = .ok (.return_, 1) := by decide +kernel
theorem dX3_goWeeks_0 : decode cX3_goWeeks 0 = .ok (.iconst 0, 1) := by decide +kernel
theorem dX3_goWeeks_1 : decode cX3_goWeeks 1 = .ok (.istore_n 2, 1) := by decide +kernel
theorem dX3_goWeeks_2 : decode cX3_goWeeks 2 = .ok (.iload_n 2, 1) := by decide +kernel
theorem dX3_goWeeks_3 : decode cX3_goWeeks 3 = .ok (.iload_n 1, 1) := by decide +kernel
theorem dX3_goWeeks_4 : decode cX3_goWeeks 4 = .ok (.if_icmp .ge 13, 3) := by decide +kernel
theorem dX3_goWeeks_7 : decode cX3_goWeeks 7 = .ok (.aload_n 0, 1) := by decide +kernel
theorem dX3_goWeeks_8 : decode cX3_goWeeks 8 = .ok (.invokevirtual 121, 3) := by decide +kernel
theorem dX3_goWeeks_11 : decode cX3_goWeeks 11 = .ok (.iinc 2 1, 3) := by decide +kernel
theorem dX3_goWeeks_14 : decode cX3_goWeeks 14 = .ok (.goto (-12), 3) := by decide +kernel
theorem dX3_goWeeks_17 : decode cX3_goWeeks 17 = .ok (.aload_n 0, 1) := by decide +kernel
theorem dX3_goWeeks_18 : decode cX3_goWeeks 18 = .ok (.areturn, 1) := by decide +kernel
theorem dX3_holesIn_0 : decode cX3_holesIn 0 = .ok (.iconst 0, 1) := by decide +kernel
theorem dX3_holesIn_1 : decode cX3_holesIn 1 = .ok (.istore_n 2, 1) := by decide +kernel
theorem dX3_holesIn_2 : decode cX3_holesIn 2 = .ok (.iconst 0, 1) := by decide +kernel
theorem dX3_holesIn_3 : decode cX3_holesIn 3 = .ok (.istore_n 3, 1) := by decide +kernel
theorem dX3_holesIn_4 : decode cX3_holesIn 4 = .ok (.iload_n 3, 1) := by decide +kernel
theorem dX3_holesIn_5 : decode cX3_holesIn 5 = .ok (.aload_n 0, 1) := by decide +kernel
theorem dX3_holesIn_6 : decode cX3_holesIn 6 = .ok (.getfield 40, 3) := by decide +kernel
theorem dX3_holesIn_9 : decode cX3_holesIn 9 = .ok (.if_icmp .ge 25, 3) := by decide +kernel
theorem dX3_holesIn_12 : decode cX3_holesIn 12 = .ok (.aload_n 0, 1) := by decide +kernel
theorem dX3_holesIn_13 : decode cX3_holesIn 13 = .ok (.getfield 46, 3) := by decide +kernel
theorem dX3_holesIn_16 : decode cX3_holesIn 16 = .ok (.iload_n 3, 1) := by decide +kernel
theorem dX3_holesIn_17 : decode cX3_holesIn 17 = .ok (.iaload, 1) := by decide +kernel
theorem dX3_holesIn_18 : decode cX3_holesIn 18 = .ok (.iload_n 1, 1) := by decide +kernel
theorem dX3_holesIn_19 : decode cX3_holesIn 19 = .ok (.if_icmp .ne 9, 3) := by decide +kernel
theorem dX3_holesIn_22 : decode cX3_holesIn 22 = .ok (.iload_n 2, 1) := by decide +kernel
theorem dX3_holesIn_23 : decode cX3_holesIn 23 = .ok (.iconst 1, 1) := by decide +kernel
theorem dX3_holesIn_24 : decode cX3_holesIn 24 = .ok (.iload_n 3, 1) := by decide +kernel
theorem dX3_holesIn_25 : decode cX3_holesIn 25 = .ok (.ishl, 1) := by decide +kernel
theorem dX3_holesIn_26 : decode cX3_holesIn 26 = .ok (.ior, 1) := by decide +kernel
theorem dX3_holesIn_27 : decode cX3_holesIn 27 = .ok (.istore_n 2, 1) := by decide +kernel
theorem dX3_holesIn_28 : decode cX3_holesIn 28 = .ok (.iinc 3 1, 3) := by decide +kernel
theorem dX3_holesIn_31 : decode cX3_holesIn 31 = .ok (.goto (-27), 3) := by decide +kernel
theorem dX3_holesIn_34 : decode cX3_holesIn 34 = .ok (.iload_n 2, 1) := by decide +kernel
theorem dX3_holesIn_35 : decode cX3_holesIn 35 = .ok (.ireturn, 1) := by decide +kernel
theorem dX3_openHoles_0 : decode cX3_openHoles 0 = .ok (.iconst 0, 1) := by decide +kernel
theorem dX3_openHoles_1 : decode cX3_openHoles 1 = .ok (.istore_n 1, 1) := by decide +kernel
theorem dX3_openHoles_2 : decode cX3_openHoles 2 = .ok (.iconst 0, 1) := by decide +kernel
theorem dX3_openHoles_3 : decode cX3_openHoles 3 = .ok (.istore_n 2, 1) := by decide +kernel
theorem dX3_openHoles_4 : decode cX3_openHoles 4 = .ok (.iload_n 2, 1) := by decide +kernel
theorem dX3_openHoles_5 : decode cX3_openHoles 5 = .ok (.aload_n 0, 1) := by decide +kernel
theorem dX3_openHoles_6 : decode cX3_openHoles 6 = .ok (.getfield 40, 3) := by decide +kernel
theorem dX3_openHoles_9 : decode cX3_openHoles 9 = .ok (.if_icmp .ge 24, 3) := by decide +kernel
theorem dX3_openHoles_12 : decode cX3_openHoles 12 = .ok (.aload_n 0, 1) := by decide +kernel
theorem dX3_openHoles_13 : decode cX3_openHoles 13 = .ok (.getfield 52, 3) := by decide +kernel
theorem dX3_openHoles_16 : decode cX3_openHoles 16 = .ok (.iload_n 2, 1) := by decide +kernel
theorem dX3_openHoles_17 : decode cX3_openHoles 17 = .ok (.iaload, 1) := by decide +kernel
theorem dX3_openHoles_18 : decode cX3_openHoles 18 = .ok (.ifCond .ne 9, 3) := by decide +kernel
theorem dX3_openHoles_21 : decode cX3_openHoles 21 = .ok (.iload_n 1, 1) := by decide +kernel
theorem dX3_openHoles_22 : decode cX3_openHoles 22 = .ok (.iconst 1, 1) := by decide +kernel
theorem dX3_openHoles_23 : decode cX3_openHoles 23 = .ok (.iload_n 2, 1) := by decide +kernel
theorem dX3_openHoles_24 : decode cX3_openHoles 24 = .ok (.ishl, 1) := by decide +kernel
theorem dX3_openHoles_25 : decode cX3_openHoles 25 = .ok (.ior, 1) := by decide +kernel
theorem dX3_openHoles_26 : decode cX3_openHoles 26 = .ok (.istore_n 1, 1) := by decide +kernel
theorem dX3_openHoles_27 : decode cX3_openHoles 27 = .ok (.iinc 2 1, 3) := by decide +kernel
theorem dX3_openHoles_30 : decode cX3_openHoles 30 = .ok (.goto (-26), 3) := by decide +kernel
theorem dX3_openHoles_33 : decode cX3_openHoles 33 = .ok (.iload_n 1, 1) := by decide +kernel
theorem dX3_openHoles_34 : decode cX3_openHoles 34 = .ok (.ireturn, 1) := by decide +kernel
theorem dX3_holesRungFor_0 : decode cX3_holesRungFor 0 = .ok (.iconst 0, 1) := by decide +kernel
theorem dX3_holesRungFor_1 : decode cX3_holesRungFor 1 = .ok (.istore_n 1, 1) := by decide +kernel
theorem dX3_holesRungFor_2 : decode cX3_holesRungFor 2 = .ok (.iconst 0, 1) := by decide +kernel
theorem dX3_holesRungFor_3 : decode cX3_holesRungFor 3 = .ok (.istore_n 2, 1) := by decide +kernel
theorem dX3_holesRungFor_4 : decode cX3_holesRungFor 4 = .ok (.iload_n 2, 1) := by decide +kernel
theorem dX3_holesRungFor_5 : decode cX3_holesRungFor 5 = .ok (.aload_n 0, 1) := by decide +kernel
theorem dX3_holesRungFor_6 : decode cX3_holesRungFor 6 = .ok (.getfield 40, 3) := by decide +kernel
theorem dX3_holesRungFor_9 : decode cX3_holesRungFor 9 = .ok (.if_icmp .ge 18, 3) := by decide +kernel
theorem dX3_holesRungFor_12 : decode cX3_holesRungFor 12 = .ok (.iload_n 1, 1) := by decide +kernel
theorem dX3_holesRungFor_13 : decode cX3_holesRungFor 13 = .ok (.aload_n 0, 1) := by decide +kernel
theorem dX3_holesRungFor_14 : decode cX3_holesRungFor 14 = .ok (.getfield 58, 3) := by decide +kernel
theorem dX3_holesRungFor_17 : decode cX3_holesRungFor 17 = .ok (.iload_n 2, 1) := by decide +kernel
theorem dX3_holesRungFor_18 : decode cX3_holesRungFor 18 = .ok (.iaload, 1) := by decide +kernel
theorem dX3_holesRungFor_19 : decode cX3_holesRungFor 19 = .ok (.iadd, 1) := by decide +kernel
theorem dX3_holesRungFor_20 : decode cX3_holesRungFor 20 = .ok (.istore_n 1, 1) := by decide +kernel
theorem dX3_holesRungFor_21 : decode cX3_holesRungFor 21 = .ok (.iinc 2 1, 3) := by decide +kernel
theorem dX3_holesRungFor_24 : decode cX3_holesRungFor 24 = .ok (.goto (-20), 3) := by decide +kernel
theorem dX3_holesRungFor_27 : decode cX3_holesRungFor 27 = .ok (.iload_n 1, 1) := by decide +kernel
theorem dX3_holesRungFor_28 : decode cX3_holesRungFor 28 = .ok (.ireturn, 1) := by decide +kernel
theorem dX3_openSize_0 : decode cX3_openSize 0 = .ok (.iconst 0, 1) := by decide +kernel
theorem dX3_openSize_1 : decode cX3_openSize 1 = .ok (.istore_n 1, 1) := by decide +kernel
theorem dX3_openSize_2 : decode cX3_openSize 2 = .ok (.iconst 0, 1) := by decide +kernel
theorem dX3_openSize_3 : decode cX3_openSize 3 = .ok (.istore_n 2, 1) := by decide +kernel
theorem dX3_openSize_4 : decode cX3_openSize 4 = .ok (.iload_n 2, 1) := by decide +kernel
theorem dX3_openSize_5 : decode cX3_openSize 5 = .ok (.aload_n 0, 1) := by decide +kernel
theorem dX3_openSize_6 : decode cX3_openSize 6 = .ok (.getfield 40, 3) := by decide +kernel
theorem dX3_openSize_9 : decode cX3_openSize 9 = .ok (.if_icmp .ge 27, 3) := by decide +kernel
theorem dX3_openSize_12 : decode cX3_openSize 12 = .ok (.aload_n 0, 1) := by decide +kernel
theorem dX3_openSize_13 : decode cX3_openSize 13 = .ok (.getfield 52, 3) := by decide +kernel
theorem dX3_openSize_16 : decode cX3_openSize 16 = .ok (.iload_n 2, 1) := by decide +kernel
theorem dX3_openSize_17 : decode cX3_openSize 17 = .ok (.iaload, 1) := by decide +kernel
theorem dX3_openSize_18 : decode cX3_openSize 18 = .ok (.ifCond .ne 12, 3) := by decide +kernel
theorem dX3_openSize_21 : decode cX3_openSize 21 = .ok (.iload_n 1, 1) := by decide +kernel
theorem dX3_openSize_22 : decode cX3_openSize 22 = .ok (.aload_n 0, 1) := by decide +kernel
theorem dX3_openSize_23 : decode cX3_openSize 23 = .ok (.getfield 49, 3) := by decide +kernel
theorem dX3_openSize_26 : decode cX3_openSize 26 = .ok (.iload_n 2, 1) := by decide +kernel
theorem dX3_openSize_27 : decode cX3_openSize 27 = .ok (.iaload, 1) := by decide +kernel
theorem dX3_openSize_28 : decode cX3_openSize 28 = .ok (.iadd, 1) := by decide +kernel
theorem dX3_openSize_29 : decode cX3_openSize 29 = .ok (.istore_n 1, 1) := by decide +kernel
theorem dX3_openSize_30 : decode cX3_openSize 30 = .ok (.iinc 2 1, 3) := by decide +kernel
theorem dX3_openSize_33 : decode cX3_openSize 33 = .ok (.goto (-29), 3) := by decide +kernel
theorem dX3_openSize_36 : decode cX3_openSize 36 = .ok (.iload_n 1, 1) := by decide +kernel
theorem dX3_openSize_37 : decode cX3_openSize 37 = .ok (.ireturn, 1) := by decide +kernel
theorem dX3_openSizeOf_0 : decode cX3_openSizeOf 0 = .ok (.iconst 0, 1) := by decide +kernel
theorem dX3_openSizeOf_1 : decode cX3_openSizeOf 1 = .ok (.istore_n 2, 1) := by decide +kernel
theorem dX3_openSizeOf_2 : decode cX3_openSizeOf 2 = .ok (.iconst 0, 1) := by decide +kernel
theorem dX3_openSizeOf_3 : decode cX3_openSizeOf 3 = .ok (.istore_n 3, 1) := by decide +kernel
theorem dX3_openSizeOf_4 : decode cX3_openSizeOf 4 = .ok (.iload_n 3, 1) := by decide +kernel
theorem dX3_openSizeOf_5 : decode cX3_openSizeOf 5 = .ok (.aload_n 0, 1) := by decide +kernel
theorem dX3_openSizeOf_6 : decode cX3_openSizeOf 6 = .ok (.getfield 40, 3) := by decide +kernel
theorem dX3_openSizeOf_9 : decode cX3_openSizeOf 9 = .ok (.if_icmp .ge 37, 3) := by decide +kernel
theorem dX3_openSizeOf_12 : decode cX3_openSizeOf 12 = .ok (.aload_n 0, 1) := by decide +kernel
theorem dX3_openSizeOf_13 : decode cX3_openSizeOf 13 = .ok (.getfield 52, 3) := by decide +kernel
theorem dX3_openSizeOf_16 : decode cX3_openSizeOf 16 = .ok (.iload_n 3, 1) := by decide +kernel
theorem dX3_openSizeOf_17 : decode cX3_openSizeOf 17 = .ok (.iaload, 1) := by decide +kernel
theorem dX3_openSizeOf_18 : decode cX3_openSizeOf 18 = .ok (.ifCond .ne 22, 3) := by decide +kernel
theorem dX3_openSizeOf_21 : decode cX3_openSizeOf 21 = .ok (.aload_n 0, 1) := by decide +kernel
theorem dX3_openSizeOf_22 : decode cX3_openSizeOf 22 = .ok (.getfield 46, 3) := by decide +kernel
theorem dX3_openSizeOf_25 : decode cX3_openSizeOf 25 = .ok (.iload_n 3, 1) := by decide +kernel
theorem dX3_openSizeOf_26 : decode cX3_openSizeOf 26 = .ok (.iaload, 1) := by decide +kernel
theorem dX3_openSizeOf_27 : decode cX3_openSizeOf 27 = .ok (.iload_n 1, 1) := by decide +kernel
theorem dX3_openSizeOf_28 : decode cX3_openSizeOf 28 = .ok (.if_icmp .ne 12, 3) := by decide +kernel
theorem dX3_openSizeOf_31 : decode cX3_openSizeOf 31 = .ok (.iload_n 2, 1) := by decide +kernel
theorem dX3_openSizeOf_32 : decode cX3_openSizeOf 32 = .ok (.aload_n 0, 1) := by decide +kernel
theorem dX3_openSizeOf_33 : decode cX3_openSizeOf 33 = .ok (.getfield 49, 3) := by decide +kernel
theorem dX3_openSizeOf_36 : decode cX3_openSizeOf 36 = .ok (.iload_n 3, 1) := by decide +kernel
theorem dX3_openSizeOf_37 : decode cX3_openSizeOf 37 = .ok (.iaload, 1) := by decide +kernel
theorem dX3_openSizeOf_38 : decode cX3_openSizeOf 38 = .ok (.iadd, 1) := by decide +kernel
theorem dX3_openSizeOf_39 : decode cX3_openSizeOf 39 = .ok (.istore_n 2, 1) := by decide +kernel
theorem dX3_openSizeOf_40 : decode cX3_openSizeOf 40 = .ok (.iinc 3 1, 3) := by decide +kernel
theorem dX3_openSizeOf_43 : decode cX3_openSizeOf 43 = .ok (.goto (-39), 3) := by decide +kernel
theorem dX3_openSizeOf_46 : decode cX3_openSizeOf 46 = .ok (.iload_n 2, 1) := by decide +kernel
theorem dX3_openSizeOf_47 : decode cX3_openSizeOf 47 = .ok (.ireturn, 1) := by decide +kernel
theorem dX4_readAll_0 : decode cX4_readAll 0 = .ok (.aload_n 0, 1) := by decide +kernel
theorem dX4_readAll_1 : decode cX4_readAll 1 = .ok (.invokevirtual 9, 3) := by decide +kernel
theorem dX4_readAll_4 : decode cX4_readAll 4 = .ok (.iconst 1, 1) := by decide +kernel
theorem dX4_readAll_5 : decode cX4_readAll 5 = .ok (.istore_n 2, 1) := by decide +kernel
theorem dX4_readAll_6 : decode cX4_readAll 6 = .ok (.iload_n 2, 1) := by decide +kernel
theorem dX4_readAll_7 : decode cX4_readAll 7 = .ok (.bipush 120, 2) := by decide +kernel
theorem dX4_readAll_9 : decode cX4_readAll 9 = .ok (.if_icmp .gt 44, 3) := by decide +kernel
theorem dX4_readAll_12 : decode cX4_readAll 12 = .ok (.aload_n 0, 1) := by decide +kernel
theorem dX4_readAll_13 : decode cX4_readAll 13 = .ok (.aload_n 1, 1) := by decide +kernel
theorem dX4_readAll_14 : decode cX4_readAll 14 = .ok (.invokestatic 14, 3) := by decide +kernel
theorem dX4_readAll_17 : decode cX4_readAll 17 = .ok (.ifCond .ne 6, 3) := by decide +kernel
theorem dX4_readAll_20 : decode cX4_readAll 20 = .ok (.goto 33, 3) := by decide +kernel
theorem dX4_readAll_23 : decode cX4_readAll 23 = .ok (.aload_n 0, 1) := by decide +kernel
theorem dX4_readAll_24 : decode cX4_readAll 24 = .ok (.getfield 20, 3) := by decide +kernel
theorem dX4_readAll_27 : decode cX4_readAll 27 = .ok (.ifCond .ne 5, 3) := by decide +kernel
theorem dX4_readAll_30 : decode cX4_readAll 30 = .ok (.iload_n 2, 1) := by decide +kernel
theorem dX4_readAll_31 : decode cX4_readAll 31 = .ok (.ireturn, 1) := by decide +kernel
theorem dX4_readAll_32 : decode cX4_readAll 32 = .ok (.aload_n 0, 1) := by decide +kernel
theorem dX4_readAll_33 : decode cX4_readAll 33 = .ok (.getfield 20, 3) := by decide +kernel
theorem dX4_readAll_36 : decode cX4_readAll 36 = .ok (.iconst 3, 1) := by decide +kernel
theorem dX4_readAll_37 : decode cX4_readAll 37 = .ok (.if_icmp .eq 6, 3) := by decide +kernel
theorem dX4_readAll_40 : decode cX4_readAll 40 = .ok (.goto 13, 3) := by decide +kernel
theorem dX4_readAll_43 : decode cX4_readAll 43 = .ok (.aload_n 0, 1) := by decide +kernel
theorem dX4_readAll_44 : decode cX4_readAll 44 = .ok (.invokevirtual 24, 3) := by decide +kernel
theorem dX4_readAll_47 : decode cX4_readAll 47 = .ok (.iinc 2 1, 3) := by decide +kernel
theorem dX4_readAll_50 : decode cX4_readAll 50 = .ok (.goto (-44), 3) := by decide +kernel
theorem dX4_readAll_53 : decode cX4_readAll 53 = .ok (.iconst (-1), 1) := by decide +kernel
theorem dX4_readAll_54 : decode cX4_readAll 54 = .ok (.aload_n 0, 1) := by decide +kernel
theorem dX4_readAll_55 : decode cX4_readAll 55 = .ok (.getfield 27, 3) := by decide +kernel
theorem dX4_readAll_58 : decode cX4_readAll 58 = .ok (.isub, 1) := by decide +kernel
theorem dX4_readAll_59 : decode cX4_readAll 59 = .ok (.ireturn, 1) := by decide +kernel
theorem dX4_readItem_0 : decode cX4_readItem 0 = .ok (.iconst 0, 1) := by decide +kernel
theorem dX4_readItem_1 : decode cX4_readItem 1 = .ok (.istore_n 2, 1) := by decide +kernel
theorem dX4_readItem_2 : decode cX4_readItem 2 = .ok (.iload_n 2, 1) := by decide +kernel
theorem dX4_readItem_3 : decode cX4_readItem 3 = .ok (.bipush 6, 2) := by decide +kernel
theorem dX4_readItem_5 : decode cX4_readItem 5 = .ok (.if_icmp .ge 27, 3) := by decide +kernel
theorem dX4_readItem_8 : decode cX4_readItem 8 = .ok (.aload_n 0, 1) := by decide +kernel
theorem dX4_readItem_9 : decode cX4_readItem 9 = .ok (.iload_n 2, 1) := by decide +kernel
theorem dX4_readItem_10 : decode cX4_readItem 10 = .ok (.invokestatic 30, 3) := by decide +kernel
theorem dX4_readItem_13 : decode cX4_readItem 13 = .ok (.invokevirtual 36, 3) := by decide +kernel
theorem dX4_readItem_16 : decode cX4_readItem 16 = .ok (.ifCond .eq 10, 3) := by decide +kernel
theorem dX4_readItem_19 : decode cX4_readItem 19 = .ok (.aload_n 0, 1) := by decide +kernel
theorem dX4_readItem_20 : decode cX4_readItem 20 = .ok (.aload_n 1, 1) := by decide +kernel
theorem dX4_readItem_21 : decode cX4_readItem 21 = .ok (.iload_n 2, 1) := by decide +kernel
theorem dX4_readItem_22 : decode cX4_readItem 22 = .ok (.invokestatic 40, 3) := by decide +kernel
theorem dX4_readItem_25 : decode cX4_readItem 25 = .ok (.ireturn, 1) := by decide +kernel
theorem dX4_readItem_26 : decode cX4_readItem 26 = .ok (.iinc 2 1, 3) := by decide +kernel
theorem dX4_readItem_29 : decode cX4_readItem 29 = .ok (.goto (-27), 3) := by decide +kernel
theorem dX4_readItem_32 : decode cX4_readItem 32 = .ok (.aload_n 0, 1) := by decide +kernel
theorem dX4_readItem_33 : decode cX4_readItem 33 = .ok (.ldc 44, 2) := by decide +kernel
theorem dX4_readItem_35 : decode cX4_readItem 35 = .ok (.invokevirtual 46, 3) := by decide +kernel
theorem dX4_readItem_38 : decode cX4_readItem 38 = .ok (.ifCond .eq 9, 3) := by decide +kernel
theorem dX4_readItem_41 : decode cX4_readItem 41 = .ok (.aload_n 0, 1) := by decide +kernel
theorem dX4_readItem_42 : decode cX4_readItem 42 = .ok (.aload_n 1, 1) := by decide +kernel
theorem dX4_readItem_43 : decode cX4_readItem 43 = .ok (.invokestatic 49, 3) := by decide +kernel
theorem dX4_readItem_46 : decode cX4_readItem 46 = .ok (.ireturn, 1) := by decide +kernel
theorem dX4_readItem_47 : decode cX4_readItem 47 = .ok (.aload_n 0, 1) := by decide +kernel
theorem dX4_readItem_48 : decode cX4_readItem 48 = .ok (.ldc 52, 2) := by decide +kernel
theorem dX4_readItem_50 : decode cX4_readItem 50 = .ok (.invokevirtual 46, 3) := by decide +kernel
theorem dX4_readItem_53 : decode cX4_readItem 53 = .ok (.ifCond .eq 28, 3) := by decide +kernel
theorem dX4_readItem_56 : decode cX4_readItem 56 = .ok (.aload_n 1, 1) := by decide +kernel
theorem dX4_readItem_57 : decode cX4_readItem 57 = .ok (.aload_n 0, 1) := by decide +kernel
theorem dX4_readItem_58 : decode cX4_readItem 58 = .ok (.sipush 9999, 3) := by decide +kernel
theorem dX4_readItem_61 : decode cX4_readItem 61 = .ok (.invokevirtual 54, 3) := by decide +kernel
theorem dX4_readItem_64 : decode cX4_readItem 64 = .ok (.putfield 58, 3) := by decide +kernel
theorem dX4_readItem_67 : decode cX4_readItem 67 = .ok (.aload_n 1, 1) := by decide +kernel
theorem dX4_readItem_68 : decode cX4_readItem 68 = .ok (.getfield 58, 3) := by decide +kernel
theorem dX4_readItem_71 : decode cX4_readItem 71 = .ok (.iconst (-1), 1) := by decide +kernel
theorem dX4_readItem_72 : decode cX4_readItem 72 = .ok (.if_icmp .eq 7, 3) := by decide +kernel
theorem dX4_readItem_75 : decode cX4_readItem 75 = .ok (.iconst 1, 1) := by decide +kernel
theorem dX4_readItem_76 : decode cX4_readItem 76 = .ok (.goto 4, 3) := by decide +kernel
theorem dX4_readItem_79 : decode cX4_readItem 79 = .ok (.iconst 0, 1) := by decide +kernel
theorem dX4_readItem_80 : decode cX4_readItem 80 = .ok (.ireturn, 1) := by decide +kernel
theorem dX4_readItem_81 : decode cX4_readItem 81 = .ok (.aload_n 0, 1) := by decide +kernel
theorem dX4_readItem_82 : decode cX4_readItem 82 = .ok (.ldc 62, 2) := by decide +kernel
theorem dX4_readItem_84 : decode cX4_readItem 84 = .ok (.invokevirtual 46, 3) := by decide +kernel
theorem dX4_readItem_87 : decode cX4_readItem 87 = .ok (.ifCond .eq 27, 3) := by decide +kernel
theorem dX4_readItem_90 : decode cX4_readItem 90 = .ok (.aload_n 1, 1) := by decide +kernel
theorem dX4_readItem_91 : decode cX4_readItem 91 = .ok (.aload_n 0, 1) := by decide +kernel
theorem dX4_readItem_92 : decode cX4_readItem 92 = .ok (.bipush 6, 2) := by decide +kernel
theorem dX4_readItem_94 : decode cX4_readItem 94 = .ok (.invokevirtual 54, 3) := by decide +kernel
theorem dX4_readItem_97 : decode cX4_readItem 97 = .ok (.putfield 64, 3) := by decide +kernel
theorem dX4_readItem_100 : decode cX4_readItem 100 = .ok (.aload_n 1, 1) := by decide +kernel
theorem dX4_readItem_101 : decode cX4_readItem 101 = .ok (.getfield 64, 3) := by decide +kernel
theorem dX4_readItem_104 : decode cX4_readItem 104 = .ok (.iconst (-1), 1) := by decide +kernel
theorem dX4_readItem_105 : decode cX4_readItem 105 = .ok (.if_icmp .eq 7, 3) := by decide +kernel
theorem dX4_readItem_108 : decode cX4_readItem 108 = .ok (.iconst 1, 1) := by decide +kernel
theorem dX4_readItem_109 : decode cX4_readItem 109 = .ok (.goto 4, 3) := by decide +kernel
theorem dX4_readItem_112 : decode cX4_readItem 112 = .ok (.iconst 0, 1) := by decide +kernel
theorem dX4_readItem_113 : decode cX4_readItem 113 = .ok (.ireturn, 1) := by decide +kernel
theorem dX4_readItem_114 : decode cX4_readItem 114 = .ok (.iconst 0, 1) := by decide +kernel
theorem dX4_readItem_115 : decode cX4_readItem 115 = .ok (.ireturn, 1) := by decide +kernel
theorem dX4_readHole_0 : decode cX4_readHole 0 = .ok (.aload_n 1, 1) := by decide +kernel
theorem dX4_readHole_1 : decode cX4_readHole 1 = .ok (.invokevirtual 66, 3) := by decide +kernel
theorem dX4_readHole_4 : decode cX4_readHole 4 = .ok (.ifCond .eq 5, 3) := by decide +kernel
theorem dX4_readHole_7 : decode cX4_readHole 7 = .ok (.iconst 0, 1) := by decide +kernel
theorem dX4_readHole_8 : decode cX4_readHole 8 = .ok (.ireturn, 1) := by decide +kernel
theorem dX4_readHole_9 : decode cX4_readHole 9 = .ok (.aload_n 0, 1) := by decide +kernel
theorem dX4_readHole_10 : decode cX4_readHole 10 = .ok (.invokevirtual 24, 3) := by decide +kernel
theorem dX4_readHole_13 : decode cX4_readHole 13 = .ok (.aload_n 0, 1) := by decide +kernel
theorem dX4_readHole_14 : decode cX4_readHole 14 = .ok (.ldc 70, 2) := by decide +kernel
theorem dX4_readHole_16 : decode cX4_readHole 16 = .ok (.invokevirtual 46, 3) := by decide +kernel
theorem dX4_readHole_19 : decode cX4_readHole 19 = .ok (.ifCond .eq 11, 3) := by decide +kernel
theorem dX4_readHole_22 : decode cX4_readHole 22 = .ok (.aload_n 0, 1) := by decide +kernel
theorem dX4_readHole_23 : decode cX4_readHole 23 = .ok (.iconst 5, 1) := by decide +kernel
theorem dX4_readHole_24 : decode cX4_readHole 24 = .ok (.invokevirtual 54, 3) := by decide +kernel
theorem dX4_readHole_27 : decode cX4_readHole 27 = .ok (.goto 4, 3) := by decide +kernel
theorem dX4_readHole_30 : decode cX4_readHole 30 = .ok (.iconst 0, 1) := by decide +kernel
theorem dX4_readHole_31 : decode cX4_readHole 31 = .ok (.istore_n 3, 1) := by decide +kernel
theorem dX4_readHole_32 : decode cX4_readHole 32 = .ok (.iload_n 3, 1) := by decide +kernel
theorem dX4_readHole_33 : decode cX4_readHole 33 = .ok (.iconst (-1), 1) := by decide +kernel
theorem dX4_readHole_34 : decode cX4_readHole 34 = .ok (.if_icmp .ne 5, 3) := by decide +kernel
theorem dX4_readHole_37 : decode cX4_readHole 37 = .ok (.iconst 0, 1) := by decide +kernel
theorem dX4_readHole_38 : decode cX4_readHole 38 = .ok (.ireturn, 1) := by decide +kernel
theorem dX4_readHole_39 : decode cX4_readHole 39 = .ok (.aload_n 0, 1) := by decide +kernel
theorem dX4_readHole_40 : decode cX4_readHole 40 = .ok (.ldc 72, 2) := by decide +kernel
theorem dX4_readHole_42 : decode cX4_readHole 42 = .ok (.invokevirtual 46, 3) := by decide +kernel
theorem dX4_readHole_45 : decode cX4_readHole 45 = .ok (.ifCond .eq 12, 3) := by decide +kernel
theorem dX4_readHole_48 : decode cX4_readHole 48 = .ok (.aload_n 0, 1) := by decide +kernel
theorem dX4_readHole_49 : decode cX4_readHole 49 = .ok (.bipush 99, 2) := by decide +kernel
theorem dX4_readHole_51 : decode cX4_readHole 51 = .ok (.invokevirtual 54, 3) := by decide +kernel
theorem dX4_readHole_54 : decode cX4_readHole 54 = .ok (.goto 4, 3) := by decide +kernel
theorem dX4_readHole_57 : decode cX4_readHole 57 = .ok (.iconst 5, 1) := by decide +kernel
theorem dX4_readHole_58 : decode cX4_readHole 58 = .ok (.istore 4, 2) := by decide +kernel
theorem dX4_readHole_60 : decode cX4_readHole 60 = .ok (.iload 4, 2) := by decide +kernel
theorem dX4_readHole_62 : decode cX4_readHole 62 = .ok (.iconst (-1), 1) := by decide +kernel
theorem dX4_readHole_63 : decode cX4_readHole 63 = .ok (.if_icmp .ne 5, 3) := by decide +kernel
theorem dX4_readHole_66 : decode cX4_readHole 66 = .ok (.iconst 0, 1) := by decide +kernel
theorem dX4_readHole_67 : decode cX4_readHole 67 = .ok (.ireturn, 1) := by decide +kernel
theorem dX4_readHole_68 : decode cX4_readHole 68 = .ok (.aload_n 1, 1) := by decide +kernel
theorem dX4_readHole_69 : decode cX4_readHole 69 = .ok (.iload_n 2, 1) := by decide +kernel
theorem dX4_readHole_70 : decode cX4_readHole 70 = .ok (.iload_n 3, 1) := by decide +kernel
theorem dX4_readHole_71 : decode cX4_readHole 71 = .ok (.invokevirtual 74, 3) := by decide +kernel
theorem dX4_readHole_74 : decode cX4_readHole 74 = .ok (.istore 5, 2) := by decide +kernel
theorem dX4_readHole_76 : decode cX4_readHole 76 = .ok (.aload_n 1, 1) := by decide +kernel
theorem dX4_readHole_77 : decode cX4_readHole 77 = .ok (.getfield 78, 3) := by decide +kernel
theorem dX4_readHole_80 : decode cX4_readHole 80 = .ok (.iload 5, 2) := by decide +kernel
theorem dX4_readHole_82 : decode cX4_readHole 82 = .ok (.iload 4, 2) := by decide +kernel
theorem dX4_readHole_84 : decode cX4_readHole 84 = .ok (.iastore, 1) := by decide +kernel
theorem dX4_readHole_85 : decode cX4_readHole 85 = .ok (.aload_n 0, 1) := by decide +kernel
theorem dX4_readHole_86 : decode cX4_readHole 86 = .ok (.ldc 82, 2) := by decide +kernel
theorem dX4_readHole_88 : decode cX4_readHole 88 = .ok (.invokevirtual 46, 3) := by decide +kernel
theorem dX4_readHole_91 : decode cX4_readHole 91 = .ok (.ifCond .eq 14, 3) := by decide +kernel
theorem dX4_readHole_94 : decode cX4_readHole 94 = .ok (.aload_n 1, 1) := by decide +kernel
theorem dX4_readHole_95 : decode cX4_readHole 95 = .ok (.getfield 84, 3) := by decide +kernel
theorem dX4_readHole_98 : decode cX4_readHole 98 = .ok (.iload 5, 2) := by decide +kernel
theorem dX4_readHole_100 : decode cX4_readHole 100 = .ok (.iconst 1, 1) := by decide +kernel
theorem dX4_readHole_101 : decode cX4_readHole 101 = .ok (.iastore, 1) := by decide +kernel
theorem dX4_readHole_102 : decode cX4_readHole 102 = .ok (.goto 20, 3) := by decide +kernel
theorem dX4_readHole_105 : decode cX4_readHole 105 = .ok (.aload_n 0, 1) := by decide +kernel
theorem dX4_readHole_106 : decode cX4_readHole 106 = .ok (.ldc 87, 2) := by decide +kernel
theorem dX4_readHole_108 : decode cX4_readHole 108 = .ok (.invokevirtual 46, 3) := by decide +kernel
theorem dX4_readHole_111 : decode cX4_readHole 111 = .ok (.ifCond .eq 11, 3) := by decide +kernel
theorem dX4_readHole_114 : decode cX4_readHole 114 = .ok (.aload_n 1, 1) := by decide +kernel
theorem dX4_readHole_115 : decode cX4_readHole 115 = .ok (.getfield 84, 3) := by decide +kernel
theorem dX4_readHole_118 : decode cX4_readHole 118 = .ok (.iload 5, 2) := by decide +kernel
theorem dX4_readHole_120 : decode cX4_readHole 120 = .ok (.iconst 2, 1) := by decide +kernel
theorem dX4_readHole_121 : decode cX4_readHole 121 = .ok (.iastore, 1) := by decide +kernel
theorem dX4_readHole_122 : decode cX4_readHole 122 = .ok (.aload_n 1, 1) := by decide +kernel
theorem dX4_readHole_123 : decode cX4_readHole 123 = .ok (.getfield 89, 3) := by decide +kernel
theorem dX4_readHole_126 : decode cX4_readHole 126 = .ok (.iload 5, 2) := by decide +kernel
theorem dX4_readHole_128 : decode cX4_readHole 128 = .ok (.aload_n 0, 1) := by decide +kernel
theorem dX4_readHole_129 : decode cX4_readHole 129 = .ok (.ldc 92, 2) := by decide +kernel
theorem dX4_readHole_131 : decode cX4_readHole 131 = .ok (.invokevirtual 46, 3) := by decide +kernel
theorem dX4_readHole_134 : decode cX4_readHole 134 = .ok (.ifCond .eq 7, 3) := by decide +kernel
theorem dX4_readHole_137 : decode cX4_readHole 137 = .ok (.iconst 1, 1) := by decide +kernel
theorem dX4_readHole_138 : decode cX4_readHole 138 = .ok (.goto 4, 3) := by decide +kernel
theorem dX4_readHole_141 : decode cX4_readHole 141 = .ok (.iconst 0, 1) := by decide +kernel
theorem dX4_readHole_142 : decode cX4_readHole 142 = .ok (.iastore, 1) := by decide +kernel
theorem dX4_readHole_143 : decode cX4_readHole 143 = .ok (.iconst 1, 1) := by decide +kernel
theorem dX4_readHole_144 : decode cX4_readHole 144 = .ok (.ireturn, 1) := by decide +kernel
theorem dX4_readStreet_0 : decode cX4_readStreet 0 = .ok (.aload_n 0, 1) := by decide +kernel
theorem dX4_readStreet_1 : decode cX4_readStreet 1 = .ok (.iconst 5, 1) := by decide +kernel
theorem dX4_readStreet_2 : decode cX4_readStreet 2 = .ok (.invokevirtual 54, 3) := by decide +kernel
theorem dX4_readStreet_5 : decode cX4_readStreet 5 = .ok (.istore_n 2, 1) := by decide +kernel
theorem dX4_readStreet_6 : decode cX4_readStreet 6 = .ok (.iload_n 2, 1) := by decide +kernel
theorem dX4_readStreet_7 : decode cX4_readStreet 7 = .ok (.invokestatic 94, 3) := by decide +kernel
theorem dX4_readStreet_10 : decode cX4_readStreet 10 = .ok (.ifCond .ne 5, 3) := by decide +kernel
theorem dX4_readStreet_13 : decode cX4_readStreet 13 = .ok (.iconst 0, 1) := by decide +kernel
theorem dX4_readStreet_14 : decode cX4_readStreet 14 = .ok (.ireturn, 1) := by decide +kernel
theorem dX4_readStreet_15 : decode cX4_readStreet 15 = .ok (.aload_n 0, 1) := by decide +kernel
theorem dX4_readStreet_16 : decode cX4_readStreet 16 = .ok (.ldc 98, 2) := by decide +kernel
theorem dX4_readStreet_18 : decode cX4_readStreet 18 = .ok (.invokevirtual 46, 3) := by decide +kernel
theorem dX4_readStreet_21 : decode cX4_readStreet 21 = .ok (.ifCond .eq 12, 3) := by decide +kernel
theorem dX4_readStreet_24 : decode cX4_readStreet 24 = .ok (.aload_n 0, 1) := by decide +kernel
theorem dX4_readStreet_25 : decode cX4_readStreet 25 = .ok (.bipush 99, 2) := by decide +kernel
theorem dX4_readStreet_27 : decode cX4_readStreet 27 = .ok (.invokevirtual 54, 3) := by decide +kernel
theorem dX4_readStreet_30 : decode cX4_readStreet 30 = .ok (.goto 9, 3) := by decide +kernel
theorem dX4_readStreet_33 : decode cX4_readStreet 33 = .ok (.aload_n 1, 1) := by decide +kernel
theorem dX4_readStreet_34 : decode cX4_readStreet 34 = .ok (.getfield 100, 3) := by decide +kernel
theorem dX4_readStreet_37 : decode cX4_readStreet 37 = .ok (.iload_n 2, 1) := by decide +kernel
theorem dX4_readStreet_38 : decode cX4_readStreet 38 = .ok (.iaload, 1) := by decide +kernel
theorem dX4_readStreet_39 : decode cX4_readStreet 39 = .ok (.istore_n 3, 1) := by decide +kernel
theorem dX4_readStreet_40 : decode cX4_readStreet 40 = .ok (.iload_n 3, 1) := by decide +kernel
theorem dX4_readStreet_41 : decode cX4_readStreet 41 = .ok (.iconst (-1), 1) := by decide +kernel
theorem dX4_readStreet_42 : decode cX4_readStreet 42 = .ok (.if_icmp .ne 5, 3) := by decide +kernel
theorem dX4_readStreet_45 : decode cX4_readStreet 45 = .ok (.iconst 0, 1) := by decide +kernel
theorem dX4_readStreet_46 : decode cX4_readStreet 46 = .ok (.ireturn, 1) := by decide +kernel
theorem dX4_readStreet_47 : decode cX4_readStreet 47 = .ok (.aload_n 1, 1) := by decide +kernel
theorem dX4_readStreet_48 : decode cX4_readStreet 48 = .ok (.getfield 100, 3) := by decide +kernel
theorem dX4_readStreet_51 : decode cX4_readStreet 51 = .ok (.iload_n 2, 1) := by decide +kernel
theorem dX4_readStreet_52 : decode cX4_readStreet 52 = .ok (.iload_n 3, 1) := by decide +kernel
theorem dX4_readStreet_53 : decode cX4_readStreet 53 = .ok (.iastore, 1) := by decide +kernel
theorem dX4_readStreet_54 : decode cX4_readStreet 54 = .ok (.aload_n 1, 1) := by decide +kernel
theorem dX4_readStreet_55 : decode cX4_readStreet 55 = .ok (.getfield 102, 3) := by decide +kernel
theorem dX4_readStreet_58 : decode cX4_readStreet 58 = .ok (.iload_n 2, 1) := by decide +kernel
theorem dX4_readStreet_59 : decode cX4_readStreet 59 = .ok (.aload_n 0, 1) := by decide +kernel
theorem dX4_readStreet_60 : decode cX4_readStreet 60 = .ok (.ldc 105, 2) := by decide +kernel
theorem dX4_readStreet_62 : decode cX4_readStreet 62 = .ok (.invokevirtual 46, 3) := by decide +kernel
theorem dX4_readStreet_65 : decode cX4_readStreet 65 = .ok (.ifCond .eq 7, 3) := by decide +kernel
theorem dX4_readStreet_68 : decode cX4_readStreet 68 = .ok (.iconst 1, 1) := by decide +kernel
theorem dX4_readStreet_69 : decode cX4_readStreet 69 = .ok (.goto 4, 3) := by decide +kernel
theorem dX4_readStreet_72 : decode cX4_readStreet 72 = .ok (.iconst 0, 1) := by decide +kernel
theorem dX4_readStreet_73 : decode cX4_readStreet 73 = .ok (.iastore, 1) := by decide +kernel
theorem dX4_readStreet_74 : decode cX4_readStreet 74 = .ok (.iconst 1, 1) := by decide +kernel
theorem dX4_readStreet_75 : decode cX4_readStreet 75 = .ok (.ireturn, 1) := by decide +kernel
theorem dJ6_bitCount_0f7a4_0 : decode cJ6_bitCount_0f7a4 0 = .ok (.iload_n 0, 1) := by decide +kernel
theorem dJ6_bitCount_0f7a4_1 : decode cJ6_bitCount_0f7a4 1 = .ok (.iload_n 0, 1) := by decide +kernel
theorem dJ6_bitCount_0f7a4_2 : decode cJ6_bitCount_0f7a4 2 = .ok (.iconst 1, 1) := by decide +kernel
theorem dJ6_bitCount_0f7a4_3 : decode cJ6_bitCount_0f7a4 3 = .ok (.iushr, 1) := by decide +kernel
theorem dJ6_bitCount_0f7a4_4 : decode cJ6_bitCount_0f7a4 4 = .ok (.ldc_w 265, 3) := by decide +kernel
theorem dJ6_bitCount_0f7a4_7 : decode cJ6_bitCount_0f7a4 7 = .ok (.iand, 1) := by decide +kernel
theorem dJ6_bitCount_0f7a4_8 : decode cJ6_bitCount_0f7a4 8 = .ok (.isub, 1) := by decide +kernel
theorem dJ6_bitCount_0f7a4_9 : decode cJ6_bitCount_0f7a4 9 = .ok (.istore_n 0, 1) := by decide +kernel
theorem dJ6_bitCount_0f7a4_10 : decode cJ6_bitCount_0f7a4 10 = .ok (.iload_n 0, 1) := by decide +kernel
theorem dJ6_bitCount_0f7a4_11 : decode cJ6_bitCount_0f7a4 11 = .ok (.ldc_w 266, 3) := by decide +kernel
theorem dJ6_bitCount_0f7a4_14 : decode cJ6_bitCount_0f7a4 14 = .ok (.iand, 1) := by decide +kernel
theorem dJ6_bitCount_0f7a4_15 : decode cJ6_bitCount_0f7a4 15 = .ok (.iload_n 0, 1) := by decide +kernel
theorem dJ6_bitCount_0f7a4_16 : decode cJ6_bitCount_0f7a4 16 = .ok (.iconst 2, 1) := by decide +kernel
theorem dJ6_bitCount_0f7a4_17 : decode cJ6_bitCount_0f7a4 17 = .ok (.iushr, 1) := by decide +kernel
theorem dJ6_bitCount_0f7a4_18 : decode cJ6_bitCount_0f7a4 18 = .ok (.ldc_w 266, 3) := by decide +kernel
theorem dJ6_bitCount_0f7a4_21 : decode cJ6_bitCount_0f7a4 21 = .ok (.iand, 1) := by decide +kernel
theorem dJ6_bitCount_0f7a4_22 : decode cJ6_bitCount_0f7a4 22 = .ok (.iadd, 1) := by decide +kernel
theorem dJ6_bitCount_0f7a4_23 : decode cJ6_bitCount_0f7a4 23 = .ok (.istore_n 0, 1) := by decide +kernel
theorem dJ6_bitCount_0f7a4_24 : decode cJ6_bitCount_0f7a4 24 = .ok (.iload_n 0, 1) := by decide +kernel
theorem dJ6_bitCount_0f7a4_25 : decode cJ6_bitCount_0f7a4 25 = .ok (.iload_n 0, 1) := by decide +kernel
theorem dJ6_bitCount_0f7a4_26 : decode cJ6_bitCount_0f7a4 26 = .ok (.iconst 4, 1) := by decide +kernel
theorem dJ6_bitCount_0f7a4_27 : decode cJ6_bitCount_0f7a4 27 = .ok (.iushr, 1) := by decide +kernel
theorem dJ6_bitCount_0f7a4_28 : decode cJ6_bitCount_0f7a4 28 = .ok (.iadd, 1) := by decide +kernel
theorem dJ6_bitCount_0f7a4_29 : decode cJ6_bitCount_0f7a4 29 = .ok (.ldc_w 267, 3) := by decide +kernel
theorem dJ6_bitCount_0f7a4_32 : decode cJ6_bitCount_0f7a4 32 = .ok (.iand, 1) := by decide +kernel
theorem dJ6_bitCount_0f7a4_33 : decode cJ6_bitCount_0f7a4 33 = .ok (.istore_n 0, 1) := by decide +kernel
theorem dJ6_bitCount_0f7a4_34 : decode cJ6_bitCount_0f7a4 34 = .ok (.iload_n 0, 1) := by decide +kernel
theorem dJ6_bitCount_0f7a4_35 : decode cJ6_bitCount_0f7a4 35 = .ok (.iload_n 0, 1) := by decide +kernel
theorem dJ6_bitCount_0f7a4_36 : decode cJ6_bitCount_0f7a4 36 = .ok (.bipush 8, 2) := by decide +kernel
theorem dJ6_bitCount_0f7a4_38 : decode cJ6_bitCount_0f7a4 38 = .ok (.iushr, 1) := by decide +kernel
theorem dJ6_bitCount_0f7a4_39 : decode cJ6_bitCount_0f7a4 39 = .ok (.iadd, 1) := by decide +kernel
theorem dJ6_bitCount_0f7a4_40 : decode cJ6_bitCount_0f7a4 40 = .ok (.istore_n 0, 1) := by decide +kernel
theorem dJ6_bitCount_0f7a4_41 : decode cJ6_bitCount_0f7a4 41 = .ok (.iload_n 0, 1) := by decide +kernel
theorem dJ6_bitCount_0f7a4_42 : decode cJ6_bitCount_0f7a4 42 = .ok (.iload_n 0, 1) := by decide +kernel
theorem dJ6_bitCount_0f7a4_43 : decode cJ6_bitCount_0f7a4 43 = .ok (.bipush 16, 2) := by decide +kernel
theorem dJ6_bitCount_0f7a4_45 : decode cJ6_bitCount_0f7a4 45 = .ok (.iushr, 1) := by decide +kernel
theorem dJ6_bitCount_0f7a4_46 : decode cJ6_bitCount_0f7a4 46 = .ok (.iadd, 1) := by decide +kernel
theorem dJ6_bitCount_0f7a4_47 : decode cJ6_bitCount_0f7a4 47 = .ok (.istore_n 0, 1) := by decide +kernel
theorem dJ6_bitCount_0f7a4_48 : decode cJ6_bitCount_0f7a4 48 = .ok (.iload_n 0, 1) := by decide +kernel
theorem dJ6_bitCount_0f7a4_49 : decode cJ6_bitCount_0f7a4 49 = .ok (.bipush 63, 2) := by decide +kernel
theorem dJ6_bitCount_0f7a4_51 : decode cJ6_bitCount_0f7a4 51 = .ok (.iand, 1) := by decide +kernel
theorem dJ6_bitCount_0f7a4_52 : decode cJ6_bitCount_0f7a4 52 = .ok (.ireturn, 1) := by decide +kernel
theorem dJ9_max_7cf53_0 : decode cJ9_max_7cf53 0 = .ok (.iload_n 0, 1) := by decide +kernel
theorem dJ9_max_7cf53_1 : decode cJ9_max_7cf53 1 = .ok (.iload_n 1, 1) := by decide +kernel
theorem dJ9_max_7cf53_2 : decode cJ9_max_7cf53 2 = .ok (.if_icmp .lt 7, 3) := by decide +kernel
theorem dJ9_max_7cf53_5 : decode cJ9_max_7cf53 5 = .ok (.iload_n 0, 1) := by decide +kernel
theorem dJ9_max_7cf53_6 : decode cJ9_max_7cf53 6 = .ok (.goto 4, 3) := by decide +kernel
theorem dJ9_max_7cf53_9 : decode cJ9_max_7cf53 9 = .ok (.iload_n 1, 1) := by decide +kernel
theorem dJ9_max_7cf53_10 : decode cJ9_max_7cf53 10 = .ok (.ireturn, 1) := by decide +kernel
theorem dJ9_min_7cf53_0 : decode cJ9_min_7cf53 0 = .ok (.iload_n 0, 1) := by decide +kernel
theorem dJ9_min_7cf53_1 : decode cJ9_min_7cf53 1 = .ok (.iload_n 1, 1) := by decide +kernel
theorem dJ9_min_7cf53_2 : decode cJ9_min_7cf53 2 = .ok (.if_icmp .gt 7, 3) := by decide +kernel
theorem dJ9_min_7cf53_5 : decode cJ9_min_7cf53 5 = .ok (.iload_n 0, 1) := by decide +kernel
theorem dJ9_min_7cf53_6 : decode cJ9_min_7cf53 6 = .ok (.goto 4, 3) := by decide +kernel
theorem dJ9_min_7cf53_9 : decode cJ9_min_7cf53 9 = .ok (.iload_n 1, 1) := by decide +kernel
theorem dJ9_min_7cf53_10 : decode cJ9_min_7cf53 10 = .ok (.ireturn, 1) := by decide +kernel
theorem dJ0_length_8abf5_0 : decode cJ0_length_8abf5 0 = .ok (.aload_n 0, 1) := by decide +kernel
theorem dJ0_length_8abf5_1 : decode cJ0_length_8abf5 1 = .ok (.getfield 9, 3) := by decide +kernel
theorem dJ0_length_8abf5_4 : decode cJ0_length_8abf5 4 = .ok (.arraylength, 1) := by decide +kernel
theorem dJ0_length_8abf5_5 : decode cJ0_length_8abf5 5 = .ok (.aload_n 0, 1) := by decide +kernel
theorem dJ0_length_8abf5_6 : decode cJ0_length_8abf5 6 = .ok (.invokevirtual 335, 3) := by decide +kernel
theorem dJ0_length_8abf5_9 : decode cJ0_length_8abf5 9 = .ok (.ishr, 1) := by decide +kernel
theorem dJ0_length_8abf5_10 : decode cJ0_length_8abf5 10 = .ok (.ireturn, 1) := by decide +kernel
theorem dJ0_charAt_5068e_0 : decode cJ0_charAt_5068e 0 = .ok (.aload_n 0, 1) := by decide +kernel
theorem dJ0_charAt_5068e_1 : decode cJ0_charAt_5068e 1 = .ok (.invokevirtual 492, 3) := by decide +kernel
theorem dJ0_charAt_5068e_4 : decode cJ0_charAt_5068e 4 = .ok (.ifCond .eq 12, 3) := by decide +kernel
theorem dJ0_charAt_5068e_7 : decode cJ0_charAt_5068e 7 = .ok (.aload_n 0, 1) := by decide +kernel
theorem dJ0_charAt_5068e_8 : decode cJ0_charAt_5068e 8 = .ok (.getfield 9, 3) := by decide +kernel
theorem dJ0_charAt_5068e_11 : decode cJ0_charAt_5068e 11 = .ok (.iload_n 1, 1) := by decide +kernel
theorem dJ0_charAt_5068e_12 : decode cJ0_charAt_5068e 12 = .ok (.invokestatic 495, 3) := by decide +kernel
theorem dJ0_charAt_5068e_15 : decode cJ0_charAt_5068e 15 = .ok (.ireturn, 1) := by decide +kernel
theorem dJ0_charAt_5068e_16 : decode cJ0_charAt_5068e 16 = .ok (.aload_n 0, 1) := by decide +kernel
theorem dJ0_charAt_5068e_17 : decode cJ0_charAt_5068e 17 = .ok (.getfield 9, 3) := by decide +kernel
theorem dJ0_charAt_5068e_20 : decode cJ0_charAt_5068e 20 = .ok (.iload_n 1, 1) := by decide +kernel
theorem dJ0_charAt_5068e_21 : decode cJ0_charAt_5068e 21 = .ok (.invokestatic 498, 3) := by decide +kernel
theorem dJ0_charAt_5068e_24 : decode cJ0_charAt_5068e 24 = .ok (.ireturn, 1) := by decide +kernel
theorem dJ0_coder_7d493_0 : decode cJ0_coder_7d493 0 = .ok (.getstatic 38, 3) := by decide +kernel
theorem dJ0_coder_7d493_3 : decode cJ0_coder_7d493 3 = .ok (.ifCond .eq 10, 3) := by decide +kernel
theorem dJ0_coder_7d493_6 : decode cJ0_coder_7d493 6 = .ok (.aload_n 0, 1) := by decide +kernel
theorem dJ0_coder_7d493_7 : decode cJ0_coder_7d493 7 = .ok (.getfield 15, 3) := by decide +kernel
theorem dJ0_coder_7d493_10 : decode cJ0_coder_7d493 10 = .ok (.goto 4, 3) := by decide +kernel
theorem dJ0_coder_7d493_13 : decode cJ0_coder_7d493 13 = .ok (.iconst 1, 1) := by decide +kernel
theorem dJ0_coder_7d493_14 : decode cJ0_coder_7d493 14 = .ok (.ireturn, 1) := by decide +kernel
theorem dJ0_isLatin1_aae02_0 : decode cJ0_isLatin1_aae02 0 = .ok (.getstatic 38, 3) := by decide +kernel
theorem dJ0_isLatin1_aae02_3 : decode cJ0_isLatin1_aae02 3 = .ok (.ifCond .eq 14, 3) := by decide +kernel
theorem dJ0_isLatin1_aae02_6 : decode cJ0_isLatin1_aae02 6 = .ok (.aload_n 0, 1) := by decide +kernel
theorem dJ0_isLatin1_aae02_7 : decode cJ0_isLatin1_aae02 7 = .ok (.getfield 15, 3) := by decide +kernel
theorem dJ0_isLatin1_aae02_10 : decode cJ0_isLatin1_aae02 10 = .ok (.ifCond .ne 7, 3) := by decide +kernel
theorem dJ0_isLatin1_aae02_13 : decode cJ0_isLatin1_aae02 13 = .ok (.iconst 1, 1) := by decide +kernel
theorem dJ0_isLatin1_aae02_14 : decode cJ0_isLatin1_aae02 14 = .ok (.goto 4, 3) := by decide +kernel
theorem dJ0_isLatin1_aae02_17 : decode cJ0_isLatin1_aae02 17 = .ok (.iconst 0, 1) := by decide +kernel
theorem dJ0_isLatin1_aae02_18 : decode cJ0_isLatin1_aae02 18 = .ok (.ireturn, 1) := by decide +kernel
theorem dJ0_checkIndex_df160_0 : decode cJ0_checkIndex_df160 0 = .ok (.iload_n 0, 1) := by decide +kernel
theorem dJ0_checkIndex_df160_1 : decode cJ0_checkIndex_df160 1 = .ok (.iload_n 1, 1) := by decide +kernel
theorem dJ0_checkIndex_df160_2 : decode cJ0_checkIndex_df160 2 = .ok (.getstatic 1053, 3) := by decide +kernel
theorem dJ0_checkIndex_df160_5 : decode cJ0_checkIndex_df160 5 = .ok (.invokestatic 1059, 3) := by decide +kernel
theorem dJ0_checkIndex_df160_8 : decode cJ0_checkIndex_df160 8 = .ok (.pop, 1) := by decide +kernel
theorem dJ0_checkIndex_df160_9 : decode cJ0_checkIndex_df160 9 = .ok (.return_, 1) := by decide +kernel
theorem dJ1_charAt_3b067_0 : decode cJ1_charAt_3b067 0 = .ok (.iload_n 1, 1) := by decide +kernel
theorem dJ1_charAt_3b067_1 : decode cJ1_charAt_3b067 1 = .ok (.aload_n 0, 1) := by decide +kernel
theorem dJ1_charAt_3b067_2 : decode cJ1_charAt_3b067 2 = .ok (.arraylength, 1) := by decide +kernel
theorem dJ1_charAt_3b067_3 : decode cJ1_charAt_3b067 3 = .ok (.invokestatic 9, 3) := by decide +kernel
theorem dJ1_charAt_3b067_6 : decode cJ1_charAt_3b067 6 = .ok (.aload_n 0, 1) := by decide +kernel
theorem dJ1_charAt_3b067_7 : decode cJ1_charAt_3b067 7 = .ok (.iload_n 1, 1) := by decide +kernel
theorem dJ1_charAt_3b067_8 : decode cJ1_charAt_3b067 8 = .ok (.baload, 1) := by decide +kernel
theorem dJ1_charAt_3b067_9 : decode cJ1_charAt_3b067 9 = .ok (.sipush 255, 3) := by decide +kernel
theorem dJ1_charAt_3b067_12 : decode cJ1_charAt_3b067 12 = .ok (.iand, 1) := by decide +kernel
theorem dJ1_charAt_3b067_13 : decode cJ1_charAt_3b067 13 = .ok (.i2c, 1) := by decide +kernel
theorem dJ1_charAt_3b067_14 : decode cJ1_charAt_3b067 14 = .ok (.ireturn, 1) := by decide +kernel
theorem dJ2_getChar_3b067_0 : decode cJ2_getChar_3b067 0 = .ok (.getstatic 44, 3) := by decide +kernel
theorem dJ2_getChar_3b067_3 : decode cJ2_getChar_3b067 3 = .ok (.ifCond .ne 25, 3) := by decide +kernel
theorem dJ2_getChar_3b067_6 : decode cJ2_getChar_3b067 6 = .ok (.iload_n 1, 1) := by decide +kernel
theorem dJ2_getChar_3b067_7 : decode cJ2_getChar_3b067 7 = .ok (.ifCond .lt 11, 3) := by decide +kernel
theorem dJ2_getChar_3b067_10 : decode cJ2_getChar_3b067 10 = .ok (.iload_n 1, 1) := by decide +kernel
theorem dJ2_getChar_3b067_11 : decode cJ2_getChar_3b067 11 = .ok (.aload_n 0, 1) := by decide +kernel
theorem dJ2_getChar_3b067_12 : decode cJ2_getChar_3b067 12 = .ok (.invokestatic 48, 3) := by decide +kernel
theorem dJ2_getChar_3b067_15 : decode cJ2_getChar_3b067 15 = .ok (.if_icmp .lt 13, 3) := by decide +kernel
theorem dJ2_getChar_3b067_18 : decode cJ2_getChar_3b067 18 = .ok (.new 52, 3) := by decide +kernel
theorem dJ2_getChar_3b067_21 : decode cJ2_getChar_3b067 21 = .ok (.dup, 1) := by decide +kernel
theorem dJ2_getChar_3b067_22 : decode cJ2_getChar_3b067 22 = .ok (.ldc 54, 2) := by decide +kernel
theorem dJ2_getChar_3b067_24 : decode cJ2_getChar_3b067 24 = .ok (.invokespecial 56, 3) := by decide +kernel
theorem dJ2_getChar_3b067_27 : decode cJ2_getChar_3b067 27 = .ok (.athrow, 1) := by decide +kernel
theorem dJ2_getChar_3b067_28 : decode cJ2_getChar_3b067 28 = .ok (.iload_n 1, 1) := by decide +kernel
theorem dJ2_getChar_3b067_29 : decode cJ2_getChar_3b067 29 = .ok (.iconst 1, 1) := by decide +kernel
theorem dJ2_getChar_3b067_30 : decode cJ2_getChar_3b067 30 = .ok (.ishl, 1) := by decide +kernel
theorem dJ2_getChar_3b067_31 : decode cJ2_getChar_3b067 31 = .ok (.istore_n 1, 1) := by decide +kernel
theorem dJ2_getChar_3b067_32 : decode cJ2_getChar_3b067 32 = .ok (.aload_n 0, 1) := by decide +kernel
theorem dJ2_getChar_3b067_33 : decode cJ2_getChar_3b067 33 = .ok (.iload_n 1, 1) := by decide +kernel
theorem dJ2_getChar_3b067_34 : decode cJ2_getChar_3b067 34 = .ok (.iinc 1 1, 3) := by decide +kernel
theorem dJ2_getChar_3b067_37 : decode cJ2_getChar_3b067 37 = .ok (.baload, 1) := by decide +kernel
theorem dJ2_getChar_3b067_38 : decode cJ2_getChar_3b067 38 = .ok (.sipush 255, 3) := by decide +kernel
theorem dJ2_getChar_3b067_41 : decode cJ2_getChar_3b067 41 = .ok (.iand, 1) := by decide +kernel
theorem dJ2_getChar_3b067_42 : decode cJ2_getChar_3b067 42 = .ok (.getstatic 59, 3) := by decide +kernel
theorem dJ2_getChar_3b067_45 : decode cJ2_getChar_3b067 45 = .ok (.ishl, 1) := by decide +kernel
theorem dJ2_getChar_3b067_46 : decode cJ2_getChar_3b067 46 = .ok (.aload_n 0, 1) := by decide +kernel
theorem dJ2_getChar_3b067_47 : decode cJ2_getChar_3b067 47 = .ok (.iload_n 1, 1) := by decide +kernel
theorem dJ2_getChar_3b067_48 : decode cJ2_getChar_3b067 48 = .ok (.baload, 1) := by decide +kernel
theorem dJ2_getChar_3b067_49 : decode cJ2_getChar_3b067 49 = .ok (.sipush 255, 3) := by decide +kernel
theorem dJ2_getChar_3b067_52 : decode cJ2_getChar_3b067 52 = .ok (.iand, 1) := by decide +kernel
theorem dJ2_getChar_3b067_53 : decode cJ2_getChar_3b067 53 = .ok (.getstatic 63, 3) := by decide +kernel
theorem dJ2_getChar_3b067_56 : decode cJ2_getChar_3b067 56 = .ok (.ishl, 1) := by decide +kernel
theorem dJ2_getChar_3b067_57 : decode cJ2_getChar_3b067 57 = .ok (.ior, 1) := by decide +kernel
theorem dJ2_getChar_3b067_58 : decode cJ2_getChar_3b067 58 = .ok (.i2c, 1) := by decide +kernel
theorem dJ2_getChar_3b067_59 : decode cJ2_getChar_3b067 59 = .ok (.ireturn, 1) := by decide +kernel
theorem dJ2_length_9d52b_0 : decode cJ2_length_9d52b 0 = .ok (.aload_n 0, 1) := by decide +kernel
theorem dJ2_length_9d52b_1 : decode cJ2_length_9d52b 1 = .ok (.arraylength, 1) := by decide +kernel
theorem dJ2_length_9d52b_2 : decode cJ2_length_9d52b 2 = .ok (.iconst 1, 1) := by decide +kernel
theorem dJ2_length_9d52b_3 : decode cJ2_length_9d52b 3 = .ok (.ishr, 1) := by decide +kernel
theorem dJ2_length_9d52b_4 : decode cJ2_length_9d52b 4 = .ok (.ireturn, 1) := by decide +kernel
theorem dJ2_charAt_3b067_0 : decode cJ2_charAt_3b067 0 = .ok (.iload_n 1, 1) := by decide +kernel
theorem dJ2_charAt_3b067_1 : decode cJ2_charAt_3b067 1 = .ok (.aload_n 0, 1) := by decide +kernel
theorem dJ2_charAt_3b067_2 : decode cJ2_charAt_3b067 2 = .ok (.invokestatic 67, 3) := by decide +kernel
theorem dJ2_charAt_3b067_5 : decode cJ2_charAt_3b067 5 = .ok (.aload_n 0, 1) := by decide +kernel
theorem dJ2_charAt_3b067_6 : decode cJ2_charAt_3b067 6 = .ok (.iload_n 1, 1) := by decide +kernel
theorem dJ2_charAt_3b067_7 : decode cJ2_charAt_3b067 7 = .ok (.invokestatic 71, 3) := by decide +kernel
theorem dJ2_charAt_3b067_10 : decode cJ2_charAt_3b067 10 = .ok (.ireturn, 1) := by decide +kernel
theorem dJ2_checkIndex_2214a_0 : decode cJ2_checkIndex_2214a 0 = .ok (.iload_n 0, 1) := by decide +kernel
theorem dJ2_checkIndex_2214a_1 : decode cJ2_checkIndex_2214a 1 = .ok (.aload_n 1, 1) := by decide +kernel
theorem dJ2_checkIndex_2214a_2 : decode cJ2_checkIndex_2214a 2 = .ok (.invokestatic 48, 3) := by decide +kernel
theorem dJ2_checkIndex_2214a_5 : decode cJ2_checkIndex_2214a 5 = .ok (.invokestatic 414, 3) := by decide +kernel
theorem dJ2_checkIndex_2214a_8 : decode cJ2_checkIndex_2214a 8 = .ok (.return_, 1) := by decide +kernel
theorem dJ3_checkIndex_8e157_0 : decode cJ3_checkIndex_8e157 0 = .ok (.iload_n 0, 1) := by decide +kernel
theorem dJ3_checkIndex_8e157_1 : decode cJ3_checkIndex_8e157 1 = .ok (.ifCond .lt 8, 3) := by decide +kernel
theorem dJ3_checkIndex_8e157_4 : decode cJ3_checkIndex_8e157 4 = .ok (.iload_n 0, 1) := by decide +kernel
theorem dJ3_checkIndex_8e157_5 : decode cJ3_checkIndex_8e157 5 = .ok (.iload_n 1, 1) := by decide +kernel
theorem dJ3_checkIndex_8e157_6 : decode cJ3_checkIndex_8e157 6 = .ok (.if_icmp .lt 10, 3) := by decide +kernel
theorem dJ3_checkIndex_8e157_9 : decode cJ3_checkIndex_8e157 9 = .ok (.aload_n 2, 1) := by decide +kernel
theorem dJ3_checkIndex_8e157_10 : decode cJ3_checkIndex_8e157 10 = .ok (.iload_n 0, 1) := by decide +kernel
theorem dJ3_checkIndex_8e157_11 : decode cJ3_checkIndex_8e157 11 = .ok (.iload_n 1, 1) := by decide +kernel
theorem dJ3_checkIndex_8e157_12 : decode cJ3_checkIndex_8e157 12 = .ok (.invokestatic 95, 3) := by decide +kernel
theorem dJ3_checkIndex_8e157_15 : decode cJ3_checkIndex_8e157 15 = .ok (.athrow, 1) := by decide +kernel
theorem dJ3_checkIndex_8e157_16 : decode cJ3_checkIndex_8e157 16 = .ok (.iload_n 0, 1) := by decide +kernel
theorem dJ3_checkIndex_8e157_17 : decode cJ3_checkIndex_8e157 17 = .ok (.ireturn, 1) := by decide +kernel
end
section
theorem dX5_init_0 : decode cX5_init 0 = .ok (.aload_n 0, 1) := by decide +kernel
theorem dX5_init_1 : decode cX5_init 1 = .ok (.invokespecial 1, 3) := by decide +kernel
theorem dX5_init_4 : decode cX5_init 4 = .ok (.aload_n 0, 1) := by decide +kernel
theorem dX5_init_5 : decode cX5_init 5 = .ok (.new 7, 3) := by decide +kernel
theorem dX5_init_8 : decode cX5_init 8 = .ok (.dup, 1) := by decide +kernel
theorem dX5_init_9 : decode cX5_init 9 = .ok (.invokespecial 9, 3) := by decide +kernel
theorem dX5_init_12 : decode cX5_init 12 = .ok (.putfield 10, 3) := by decide +kernel
theorem dX5_init_15 : decode cX5_init 15 = .ok (.aload_n 0, 1) := by decide +kernel
theorem dX5_init_16 : decode cX5_init 16 = .ok (.new 7, 3) := by decide +kernel
theorem dX5_init_19 : decode cX5_init 19 = .ok (.dup, 1) := by decide +kernel
theorem dX5_init_20 : decode cX5_init 20 = .ok (.invokespecial 9, 3) := by decide +kernel
theorem dX5_init_23 : decode cX5_init 23 = .ok (.putfield 16, 3) := by decide +kernel
theorem dX5_init_26 : decode cX5_init 26 = .ok (.aload_n 0, 1) := by decide +kernel
theorem dX5_init_27 : decode cX5_init 27 = .ok (.new 7, 3) := by decide +kernel
theorem dX5_init_30 : decode cX5_init 30 = .ok (.dup, 1) := by decide +kernel
theorem dX5_init_31 : decode cX5_init 31 = .ok (.invokespecial 9, 3) := by decide +kernel
theorem dX5_init_34 : decode cX5_init 34 = .ok (.putfield 19, 3) := by decide +kernel
theorem dX5_init_37 : decode cX5_init 37 = .ok (.aload_n 0, 1) := by decide +kernel
theorem dX5_init_38 : decode cX5_init 38 = .ok (.iconst 0, 1) := by decide +kernel
theorem dX5_init_39 : decode cX5_init 39 = .ok (.putfield 22, 3) := by decide +kernel
theorem dX5_init_42 : decode cX5_init 42 = .ok (.aload_n 0, 1) := by decide +kernel
theorem dX5_init_43 : decode cX5_init 43 = .ok (.new 26, 3) := by decide +kernel
theorem dX5_init_46 : decode cX5_init 46 = .ok (.dup, 1) := by decide +kernel
theorem dX5_init_47 : decode cX5_init 47 = .ok (.invokespecial 28, 3) := by decide +kernel
theorem dX5_init_50 : decode cX5_init 50 = .ok (.putfield 29, 3) := by decide +kernel
theorem dX5_init_53 : decode cX5_init 53 = .ok (.aload_n 0, 1) := by decide +kernel
theorem dX5_init_54 : decode cX5_init 54 = .ok (.iconst 4, 1) := by decide +kernel
theorem dX5_init_55 : decode cX5_init 55 = .ok (.anewarray 33, 3) := by decide +kernel
theorem dX5_init_58 : decode cX5_init 58 = .ok (.putfield 35, 3) := by decide +kernel
theorem dX5_init_61 : decode cX5_init 61 = .ok (.aload_n 0, 1) := by decide +kernel
theorem dX5_init_62 : decode cX5_init 62 = .ok (.bipush 7, 2) := by decide +kernel
theorem dX5_init_64 : decode cX5_init 64 = .ok (.newarray .int, 2) := by decide +kernel
theorem dX5_init_66 : decode cX5_init 66 = .ok (.putfield 39, 3) := by decide +kernel
theorem dX5_init_69 : decode cX5_init 69 = .ok (.iconst 0, 1) := by decide +kernel
theorem dX5_init_70 : decode cX5_init 70 = .ok (.istore_n 1, 1) := by decide +kernel
theorem dX5_init_71 : decode cX5_init 71 = .ok (.iload_n 1, 1) := by decide +kernel
theorem dX5_init_72 : decode cX5_init 72 = .ok (.iconst 4, 1) := by decide +kernel
theorem dX5_init_73 : decode cX5_init 73 = .ok (.if_icmp .ge 22, 3) := by decide +kernel
theorem dX5_init_76 : decode cX5_init 76 = .ok (.aload_n 0, 1) := by decide +kernel
theorem dX5_init_77 : decode cX5_init 77 = .ok (.getfield 35, 3) := by decide +kernel
theorem dX5_init_80 : decode cX5_init 80 = .ok (.iload_n 1, 1) := by decide +kernel
theorem dX5_init_81 : decode cX5_init 81 = .ok (.new 33, 3) := by decide +kernel
theorem dX5_init_84 : decode cX5_init 84 = .ok (.dup, 1) := by decide +kernel
theorem dX5_init_85 : decode cX5_init 85 = .ok (.invokespecial 43, 3) := by decide +kernel
theorem dX5_init_88 : decode cX5_init 88 = .ok (.aastore, 1) := by decide +kernel
theorem dX5_init_89 : decode cX5_init 89 = .ok (.iinc 1 1, 3) := by decide +kernel
theorem dX5_init_92 : decode cX5_init 92 = .ok (.goto (-21), 3) := by decide +kernel
theorem dX5_init_95 : decode cX5_init 95 = .ok (.return_, 1) := by decide +kernel
theorem dX5_town_0 : decode cX5_town 0 = .ok (.iload_n 1, 1) := by decide +kernel
theorem dX5_town_1 : decode cX5_town 1 = .ok (.iconst 0, 1) := by decide +kernel
theorem dX5_town_2 : decode cX5_town 2 = .ok (.iconst 3, 1) := by decide +kernel
theorem dX5_town_3 : decode cX5_town 3 = .ok (.invokestatic 44, 3) := by decide +kernel
theorem dX5_town_6 : decode cX5_town 6 = .ok (.ifCond .eq 16, 3) := by decide +kernel
theorem dX5_town_9 : decode cX5_town 9 = .ok (.iload_n 2, 1) := by decide +kernel
theorem dX5_town_10 : decode cX5_town 10 = .ok (.iconst 0, 1) := by decide +kernel
theorem dX5_town_11 : decode cX5_town 11 = .ok (.getstatic 48, 3) := by decide +kernel
theorem dX5_town_14 : decode cX5_town 14 = .ok (.iload_n 1, 1) := by decide +kernel
theorem dX5_town_15 : decode cX5_town 15 = .ok (.iaload, 1) := by decide +kernel
theorem dX5_town_16 : decode cX5_town 16 = .ok (.invokestatic 44, 3) := by decide +kernel
theorem dX5_town_19 : decode cX5_town 19 = .ok (.ifCond .ne 10, 3) := by decide +kernel
theorem dX5_town_22 : decode cX5_town 22 = .ok (.aload_n 0, 1) := by decide +kernel
theorem dX5_town_23 : decode cX5_town 23 = .ok (.ldc 51, 2) := by decide +kernel
theorem dX5_town_25 : decode cX5_town 25 = .ok (.invokevirtual 52, 3) := by decide +kernel
theorem dX5_town_28 : decode cX5_town 28 = .ok (.ireturn, 1) := by decide +kernel
theorem dX5_town_29 : decode cX5_town 29 = .ok (.aload_n 0, 1) := by decide +kernel
theorem dX5_town_30 : decode cX5_town 30 = .ok (.getfield 10, 3) := by decide +kernel
theorem dX5_town_33 : decode cX5_town 33 = .ok (.iload_n 1, 1) := by decide +kernel
theorem dX5_town_34 : decode cX5_town 34 = .ok (.iload_n 2, 1) := by decide +kernel
theorem dX5_town_35 : decode cX5_town 35 = .ok (.invokevirtual 56, 3) := by decide +kernel
theorem dX5_town_38 : decode cX5_town 38 = .ok (.ireturn, 1) := by decide +kernel
theorem dX5_street_0 : decode cX5_street 0 = .ok (.iload_n 1, 1) := by decide +kernel
theorem dX5_street_1 : decode cX5_street 1 = .ok (.invokestatic 60, 3) := by decide +kernel
theorem dX5_street_4 : decode cX5_street 4 = .ok (.ifCond .eq 25, 3) := by decide +kernel
theorem dX5_street_7 : decode cX5_street 7 = .ok (.iload_n 2, 1) := by decide +kernel
theorem dX5_street_8 : decode cX5_street 8 = .ok (.iconst 0, 1) := by decide +kernel
theorem dX5_street_9 : decode cX5_street 9 = .ok (.iconst 1, 1) := by decide +kernel
theorem dX5_street_10 : decode cX5_street 10 = .ok (.invokestatic 44, 3) := by decide +kernel
theorem dX5_street_13 : decode cX5_street 13 = .ok (.ifCond .eq 16, 3) := by decide +kernel
theorem dX5_street_16 : decode cX5_street 16 = .ok (.iload_n 3, 1) := by decide +kernel
theorem dX5_street_17 : decode cX5_street 17 = .ok (.iconst 0, 1) := by decide +kernel
theorem dX5_street_18 : decode cX5_street 18 = .ok (.getstatic 64, 3) := by decide +kernel
theorem dX5_street_21 : decode cX5_street 21 = .ok (.iload_n 2, 1) := by decide +kernel
theorem dX5_street_22 : decode cX5_street 22 = .ok (.iaload, 1) := by decide +kernel
theorem dX5_street_23 : decode cX5_street 23 = .ok (.invokestatic 44, 3) := by decide +kernel
theorem dX5_street_26 : decode cX5_street 26 = .ok (.ifCond .ne 10, 3) := by decide +kernel
theorem dX5_street_29 : decode cX5_street 29 = .ok (.aload_n 0, 1) := by decide +kernel
theorem dX5_street_30 : decode cX5_street 30 = .ok (.ldc 51, 2) := by decide +kernel
theorem dX5_street_32 : decode cX5_street 32 = .ok (.invokevirtual 52, 3) := by decide +kernel
theorem dX5_street_35 : decode cX5_street 35 = .ok (.ireturn, 1) := by decide +kernel
theorem dX5_street_36 : decode cX5_street 36 = .ok (.iload_n 2, 1) := by decide +kernel
theorem dX5_street_37 : decode cX5_street 37 = .ok (.ifCond .ne 13, 3) := by decide +kernel
theorem dX5_street_40 : decode cX5_street 40 = .ok (.aload_n 0, 1) := by decide +kernel
theorem dX5_street_41 : decode cX5_street 41 = .ok (.getfield 10, 3) := by decide +kernel
theorem dX5_street_44 : decode cX5_street 44 = .ok (.getfield 67, 3) := by decide +kernel
theorem dX5_street_47 : decode cX5_street 47 = .ok (.goto 10, 3) := by decide +kernel
theorem dX5_street_50 : decode cX5_street 50 = .ok (.aload_n 0, 1) := by decide +kernel
theorem dX5_street_51 : decode cX5_street 51 = .ok (.getfield 10, 3) := by decide +kernel
theorem dX5_street_54 : decode cX5_street 54 = .ok (.getfield 70, 3) := by decide +kernel
theorem dX5_street_57 : decode cX5_street 57 = .ok (.iload_n 1, 1) := by decide +kernel
theorem dX5_street_58 : decode cX5_street 58 = .ok (.iload_n 3, 1) := by decide +kernel
theorem dX5_street_59 : decode cX5_street 59 = .ok (.invokestatic 73, 3) := by decide +kernel
theorem dX5_street_62 : decode cX5_street 62 = .ok (.ireturn, 1) := by decide +kernel
theorem dX5_streetOf_0 : decode cX5_streetOf 0 = .ok (.iload_n 1, 1) := by decide +kernel
theorem dX5_streetOf_1 : decode cX5_streetOf 1 = .ok (.invokestatic 60, 3) := by decide +kernel
theorem dX5_streetOf_4 : decode cX5_streetOf 4 = .ok (.ifCond .eq 12, 3) := by decide +kernel
theorem dX5_streetOf_7 : decode cX5_streetOf 7 = .ok (.iload_n 2, 1) := by decide +kernel
theorem dX5_streetOf_8 : decode cX5_streetOf 8 = .ok (.iconst 0, 1) := by decide +kernel
theorem dX5_streetOf_9 : decode cX5_streetOf 9 = .ok (.iconst 3, 1) := by decide +kernel
theorem dX5_streetOf_10 : decode cX5_streetOf 10 = .ok (.invokestatic 44, 3) := by decide +kernel
theorem dX5_streetOf_13 : decode cX5_streetOf 13 = .ok (.ifCond .ne 10, 3) := by decide +kernel
theorem dX5_streetOf_16 : decode cX5_streetOf 16 = .ok (.aload_n 0, 1) := by decide +kernel
theorem dX5_streetOf_17 : decode cX5_streetOf 17 = .ok (.ldc 51, 2) := by decide +kernel
theorem dX5_streetOf_19 : decode cX5_streetOf 19 = .ok (.invokevirtual 52, 3) := by decide +kernel
theorem dX5_streetOf_22 : decode cX5_streetOf 22 = .ok (.ireturn, 1) := by decide +kernel
theorem dX5_streetOf_23 : decode cX5_streetOf 23 = .ok (.iload_n 2, 1) := by decide +kernel
theorem dX5_streetOf_24 : decode cX5_streetOf 24 = .ok (.tableswitch 57 0 2 #[28, 38, 48], 28) := by decide +kernel
theorem dX5_streetOf_52 : decode cX5_streetOf 52 = .ok (.aload_n 0, 1) := by decide +kernel
theorem dX5_streetOf_53 : decode cX5_streetOf 53 = .ok (.getfield 10, 3) := by decide +kernel
theorem dX5_streetOf_56 : decode cX5_streetOf 56 = .ok (.getfield 67, 3) := by decide +kernel
theorem dX5_streetOf_59 : decode cX5_streetOf 59 = .ok (.iload_n 1, 1) := by decide +kernel
theorem dX5_streetOf_60 : decode cX5_streetOf 60 = .ok (.iaload, 1) := by decide +kernel
theorem dX5_streetOf_61 : decode cX5_streetOf 61 = .ok (.ireturn, 1) := by decide +kernel
theorem dX5_streetOf_62 : decode cX5_streetOf 62 = .ok (.aload_n 0, 1) := by decide +kernel
theorem dX5_streetOf_63 : decode cX5_streetOf 63 = .ok (.getfield 10, 3) := by decide +kernel
theorem dX5_streetOf_66 : decode cX5_streetOf 66 = .ok (.getfield 70, 3) := by decide +kernel
theorem dX5_streetOf_69 : decode cX5_streetOf 69 = .ok (.iload_n 1, 1) := by decide +kernel
theorem dX5_streetOf_70 : decode cX5_streetOf 70 = .ok (.iaload, 1) := by decide +kernel
theorem dX5_streetOf_71 : decode cX5_streetOf 71 = .ok (.ireturn, 1) := by decide +kernel
theorem dX5_streetOf_72 : decode cX5_streetOf 72 = .ok (.aload_n 0, 1) := by decide +kernel
theorem dX5_streetOf_73 : decode cX5_streetOf 73 = .ok (.getfield 10, 3) := by decide +kernel
theorem dX5_streetOf_76 : decode cX5_streetOf 76 = .ok (.iload_n 1, 1) := by decide +kernel
theorem dX5_streetOf_77 : decode cX5_streetOf 77 = .ok (.invokevirtual 77, 3) := by decide +kernel
theorem dX5_streetOf_80 : decode cX5_streetOf 80 = .ok (.ireturn, 1) := by decide +kernel
theorem dX5_streetOf_81 : decode cX5_streetOf 81 = .ok (.aload_n 0, 1) := by decide +kernel
theorem dX5_streetOf_82 : decode cX5_streetOf 82 = .ok (.getfield 10, 3) := by decide +kernel
theorem dX5_streetOf_85 : decode cX5_streetOf 85 = .ok (.iload_n 1, 1) := by decide +kernel
theorem dX5_streetOf_86 : decode cX5_streetOf 86 = .ok (.invokevirtual 77, 3) := by decide +kernel
theorem dX5_streetOf_89 : decode cX5_streetOf 89 = .ok (.aload_n 0, 1) := by decide +kernel
theorem dX5_streetOf_90 : decode cX5_streetOf 90 = .ok (.getfield 10, 3) := by decide +kernel
theorem dX5_streetOf_93 : decode cX5_streetOf 93 = .ok (.invokevirtual 80, 3) := by decide +kernel
theorem dX5_streetOf_96 : decode cX5_streetOf 96 = .ok (.iand, 1) := by decide +kernel
theorem dX5_streetOf_97 : decode cX5_streetOf 97 = .ok (.ireturn, 1) := by decide +kernel
theorem dX5_hole_0 : decode cX5_hole 0 = .ok (.iload_n 1, 1) := by decide +kernel
theorem dX5_hole_1 : decode cX5_hole 1 = .ok (.invokestatic 84, 3) := by decide +kernel
theorem dX5_hole_4 : decode cX5_hole 4 = .ok (.ifCond .eq 10, 3) := by decide +kernel
theorem dX5_hole_7 : decode cX5_hole 7 = .ok (.iload_n 2, 1) := by decide +kernel
theorem dX5_hole_8 : decode cX5_hole 8 = .ok (.invokestatic 60, 3) := by decide +kernel
theorem dX5_hole_11 : decode cX5_hole 11 = .ok (.ifCond .ne 10, 3) := by decide +kernel
theorem dX5_hole_14 : decode cX5_hole 14 = .ok (.aload_n 0, 1) := by decide +kernel
theorem dX5_hole_15 : decode cX5_hole 15 = .ok (.ldc 51, 2) := by decide +kernel
theorem dX5_hole_17 : decode cX5_hole 17 = .ok (.invokevirtual 52, 3) := by decide +kernel
theorem dX5_hole_20 : decode cX5_hole 20 = .ok (.ireturn, 1) := by decide +kernel
theorem dX5_hole_21 : decode cX5_hole 21 = .ok (.aload_n 0, 1) := by decide +kernel
theorem dX5_hole_22 : decode cX5_hole 22 = .ok (.getfield 10, 3) := by decide +kernel
theorem dX5_hole_25 : decode cX5_hole 25 = .ok (.invokevirtual 87, 3) := by decide +kernel
theorem dX5_hole_28 : decode cX5_hole 28 = .ok (.ifCond .eq 10, 3) := by decide +kernel
theorem dX5_hole_31 : decode cX5_hole 31 = .ok (.aload_n 0, 1) := by decide +kernel
theorem dX5_hole_32 : decode cX5_hole 32 = .ok (.ldc 91, 2) := by decide +kernel
theorem dX5_hole_34 : decode cX5_hole 34 = .ok (.invokevirtual 52, 3) := by decide +kernel
theorem dX5_hole_37 : decode cX5_hole 37 = .ok (.ireturn, 1) := by decide +kernel
theorem dX5_hole_38 : decode cX5_hole 38 = .ok (.aload_n 0, 1) := by decide +kernel
theorem dX5_hole_39 : decode cX5_hole 39 = .ok (.getfield 10, 3) := by decide +kernel
theorem dX5_hole_42 : decode cX5_hole 42 = .ok (.iload_n 1, 1) := by decide +kernel
theorem dX5_hole_43 : decode cX5_hole 43 = .ok (.iload_n 2, 1) := by decide +kernel
theorem dX5_hole_44 : decode cX5_hole 44 = .ok (.invokevirtual 92, 3) := by decide +kernel
theorem dX5_hole_47 : decode cX5_hole 47 = .ok (.ireturn, 1) := by decide +kernel
theorem dX5_of_0 : decode cX5_of 0 = .ok (.aload_n 0, 1) := by decide +kernel
theorem dX5_of_1 : decode cX5_of 1 = .ok (.getfield 10, 3) := by decide +kernel
theorem dX5_of_4 : decode cX5_of 4 = .ok (.iload_n 1, 1) := by decide +kernel
theorem dX5_of_5 : decode cX5_of 5 = .ok (.invokevirtual 95, 3) := by decide +kernel
theorem dX5_of_8 : decode cX5_of 8 = .ok (.ifCond .eq 13, 3) := by decide +kernel
theorem dX5_of_11 : decode cX5_of 11 = .ok (.iload_n 2, 1) := by decide +kernel
theorem dX5_of_12 : decode cX5_of 12 = .ok (.iconst 0, 1) := by decide +kernel
theorem dX5_of_13 : decode cX5_of 13 = .ok (.bipush 9, 2) := by decide +kernel
theorem dX5_of_15 : decode cX5_of 15 = .ok (.invokestatic 44, 3) := by decide +kernel
theorem dX5_of_18 : decode cX5_of 18 = .ok (.ifCond .ne 10, 3) := by decide +kernel
theorem dX5_of_21 : decode cX5_of 21 = .ok (.aload_n 0, 1) := by decide +kernel
theorem dX5_of_22 : decode cX5_of 22 = .ok (.ldc 51, 2) := by decide +kernel
theorem dX5_of_24 : decode cX5_of 24 = .ok (.invokevirtual 52, 3) := by decide +kernel
theorem dX5_of_27 : decode cX5_of 27 = .ok (.ireturn, 1) := by decide +kernel
theorem dX5_of_28 : decode cX5_of 28 = .ok (.iload_n 2, 1) := by decide +kernel
theorem dX5_of_29 : decode cX5_of 29 = .ok (.tableswitch 78 6 9 #[31, 40, 50, 64], 31) := by decide +kernel
theorem dX5_of_60 : decode cX5_of 60 = .ok (.aload_n 0, 1) := by decide +kernel
theorem dX5_of_61 : decode cX5_of 61 = .ok (.getfield 10, 3) := by decide +kernel
theorem dX5_of_64 : decode cX5_of 64 = .ok (.iload_n 1, 1) := by decide +kernel
theorem dX5_of_65 : decode cX5_of 65 = .ok (.invokevirtual 98, 3) := by decide +kernel
theorem dX5_of_68 : decode cX5_of 68 = .ok (.ireturn, 1) := by decide +kernel
theorem dX5_of_69 : decode cX5_of 69 = .ok (.aload_n 0, 1) := by decide +kernel
theorem dX5_of_70 : decode cX5_of 70 = .ok (.getfield 10, 3) := by decide +kernel
theorem dX5_of_73 : decode cX5_of 73 = .ok (.iload_n 1, 1) := by decide +kernel
theorem dX5_of_74 : decode cX5_of 74 = .ok (.iconst 0, 1) := by decide +kernel
theorem dX5_of_75 : decode cX5_of 75 = .ok (.invokevirtual 101, 3) := by decide +kernel
theorem dX5_of_78 : decode cX5_of 78 = .ok (.ireturn, 1) := by decide +kernel
theorem dX5_of_79 : decode cX5_of 79 = .ok (.aload_n 0, 1) := by decide +kernel
theorem dX5_of_80 : decode cX5_of 80 = .ok (.getfield 10, 3) := by decide +kernel
theorem dX5_of_83 : decode cX5_of 83 = .ok (.getfield 104, 3) := by decide +kernel
theorem dX5_of_86 : decode cX5_of 86 = .ok (.iload_n 1, 1) := by decide +kernel
theorem dX5_of_87 : decode cX5_of 87 = .ok (.iaload, 1) := by decide +kernel
theorem dX5_of_88 : decode cX5_of 88 = .ok (.iconst 1, 1) := by decide +kernel
theorem dX5_of_89 : decode cX5_of 89 = .ok (.invokestatic 107, 3) := by decide +kernel
theorem dX5_of_92 : decode cX5_of 92 = .ok (.ireturn, 1) := by decide +kernel
theorem dX5_of_93 : decode cX5_of 93 = .ok (.aload_n 0, 1) := by decide +kernel
theorem dX5_of_94 : decode cX5_of 94 = .ok (.getfield 10, 3) := by decide +kernel
theorem dX5_of_97 : decode cX5_of 97 = .ok (.getfield 104, 3) := by decide +kernel
theorem dX5_of_100 : decode cX5_of 100 = .ok (.iload_n 1, 1) := by decide +kernel
theorem dX5_of_101 : decode cX5_of 101 = .ok (.iaload, 1) := by decide +kernel
theorem dX5_of_102 : decode cX5_of 102 = .ok (.iconst 2, 1) := by decide +kernel
theorem dX5_of_103 : decode cX5_of 103 = .ok (.invokestatic 107, 3) := by decide +kernel
theorem dX5_of_106 : decode cX5_of 106 = .ok (.ireturn, 1) := by decide +kernel
theorem dX5_of_107 : decode cX5_of 107 = .ok (.aload_n 0, 1) := by decide +kernel
theorem dX5_of_108 : decode cX5_of 108 = .ok (.getfield 10, 3) := by decide +kernel
theorem dX5_of_111 : decode cX5_of 111 = .ok (.iload_n 2, 1) := by decide +kernel
theorem dX5_of_112 : decode cX5_of 112 = .ok (.invokevirtual 112, 3) := by decide +kernel
theorem dX5_of_115 : decode cX5_of 115 = .ok (.iload_n 1, 1) := by decide +kernel
theorem dX5_of_116 : decode cX5_of 116 = .ok (.iaload, 1) := by decide +kernel
theorem dX5_of_117 : decode cX5_of 117 = .ok (.ireturn, 1) := by decide +kernel
theorem dX5_set_0 : decode cX5_set 0 = .ok (.aload_n 0, 1) := by decide +kernel
theorem dX5_set_1 : decode cX5_set 1 = .ok (.getfield 10, 3) := by decide +kernel
theorem dX5_set_4 : decode cX5_set 4 = .ok (.iload_n 1, 1) := by decide +kernel
theorem dX5_set_5 : decode cX5_set 5 = .ok (.invokevirtual 95, 3) := by decide +kernel
theorem dX5_set_8 : decode cX5_set 8 = .ok (.ifCond .eq 25, 3) := by decide +kernel
theorem dX5_set_11 : decode cX5_set 11 = .ok (.iload_n 2, 1) := by decide +kernel
theorem dX5_set_12 : decode cX5_set 12 = .ok (.iconst 1, 1) := by decide +kernel
theorem dX5_set_13 : decode cX5_set 13 = .ok (.iconst 5, 1) := by decide +kernel
theorem dX5_set_14 : decode cX5_set 14 = .ok (.invokestatic 44, 3) := by decide +kernel
theorem dX5_set_17 : decode cX5_set 17 = .ok (.ifCond .eq 16, 3) := by decide +kernel
theorem dX5_set_20 : decode cX5_set 20 = .ok (.iload_n 3, 1) := by decide +kernel
theorem dX5_set_21 : decode cX5_set 21 = .ok (.iconst 0, 1) := by decide +kernel
theorem dX5_set_22 : decode cX5_set 22 = .ok (.getstatic 116, 3) := by decide +kernel
theorem dX5_set_25 : decode cX5_set 25 = .ok (.iload_n 2, 1) := by decide +kernel
theorem dX5_set_26 : decode cX5_set 26 = .ok (.iaload, 1) := by decide +kernel
theorem dX5_set_27 : decode cX5_set 27 = .ok (.invokestatic 44, 3) := by decide +kernel
theorem dX5_set_30 : decode cX5_set 30 = .ok (.ifCond .ne 10, 3) := by decide +kernel
theorem dX5_set_33 : decode cX5_set 33 = .ok (.aload_n 0, 1) := by decide +kernel
theorem dX5_set_34 : decode cX5_set 34 = .ok (.ldc 51, 2) := by decide +kernel
theorem dX5_set_36 : decode cX5_set 36 = .ok (.invokevirtual 52, 3) := by decide +kernel
theorem dX5_set_39 : decode cX5_set 39 = .ok (.ireturn, 1) := by decide +kernel
theorem dX5_set_40 : decode cX5_set 40 = .ok (.aload_n 0, 1) := by decide +kernel
theorem dX5_set_41 : decode cX5_set 41 = .ok (.getfield 10, 3) := by decide +kernel
theorem dX5_set_44 : decode cX5_set 44 = .ok (.iload_n 2, 1) := by decide +kernel
theorem dX5_set_45 : decode cX5_set 45 = .ok (.invokevirtual 112, 3) := by decide +kernel
theorem dX5_set_48 : decode cX5_set 48 = .ok (.iload_n 1, 1) := by decide +kernel
theorem dX5_set_49 : decode cX5_set 49 = .ok (.iload_n 3, 1) := by decide +kernel
theorem dX5_set_50 : decode cX5_set 50 = .ok (.invokestatic 73, 3) := by decide +kernel
theorem dX5_set_53 : decode cX5_set 53 = .ok (.ireturn, 1) := by decide +kernel
theorem dX5_turn_0 : decode cX5_turn 0 = .ok (.aload_n 0, 1) := by decide +kernel
theorem dX5_turn_1 : decode cX5_turn 1 = .ok (.getfield 10, 3) := by decide +kernel
theorem dX5_turn_4 : decode cX5_turn 4 = .ok (.iload_n 1, 1) := by decide +kernel
theorem dX5_turn_5 : decode cX5_turn 5 = .ok (.invokevirtual 95, 3) := by decide +kernel
theorem dX5_turn_8 : decode cX5_turn 8 = .ok (.ifCond .eq 10, 3) := by decide +kernel
theorem dX5_turn_11 : decode cX5_turn 11 = .ok (.iload_n 2, 1) := by decide +kernel
theorem dX5_turn_12 : decode cX5_turn 12 = .ok (.invokestatic 84, 3) := by decide +kernel
theorem dX5_turn_15 : decode cX5_turn 15 = .ok (.ifCond .ne 10, 3) := by decide +kernel
theorem dX5_turn_18 : decode cX5_turn 18 = .ok (.aload_n 0, 1) := by decide +kernel
theorem dX5_turn_19 : decode cX5_turn 19 = .ok (.ldc 51, 2) := by decide +kernel
theorem dX5_turn_21 : decode cX5_turn 21 = .ok (.invokevirtual 52, 3) := by decide +kernel
theorem dX5_turn_24 : decode cX5_turn 24 = .ok (.ireturn, 1) := by decide +kernel
theorem dX5_turn_25 : decode cX5_turn 25 = .ok (.aload_n 0, 1) := by decide +kernel
theorem dX5_turn_26 : decode cX5_turn 26 = .ok (.getfield 10, 3) := by decide +kernel
theorem dX5_turn_29 : decode cX5_turn 29 = .ok (.getfield 104, 3) := by decide +kernel
theorem dX5_turn_32 : decode cX5_turn 32 = .ok (.iload_n 1, 1) := by decide +kernel
theorem dX5_turn_33 : decode cX5_turn 33 = .ok (.iload_n 2, 1) := by decide +kernel
theorem dX5_turn_34 : decode cX5_turn 34 = .ok (.invokestatic 73, 3) := by decide +kernel
theorem dX5_turn_37 : decode cX5_turn 37 = .ok (.ireturn, 1) := by decide +kernel
theorem dX5_as_0 : decode cX5_as 0 = .ok (.aload_n 0, 1) := by decide +kernel
theorem dX5_as_1 : decode cX5_as 1 = .ok (.getfield 10, 3) := by decide +kernel
theorem dX5_as_4 : decode cX5_as 4 = .ok (.iload_n 1, 1) := by decide +kernel
theorem dX5_as_5 : decode cX5_as 5 = .ok (.invokevirtual 95, 3) := by decide +kernel
theorem dX5_as_8 : decode cX5_as 8 = .ok (.ifCond .eq 10, 3) := by decide +kernel
theorem dX5_as_11 : decode cX5_as 11 = .ok (.iload_n 2, 1) := by decide +kernel
theorem dX5_as_12 : decode cX5_as 12 = .ok (.invokestatic 84, 3) := by decide +kernel
theorem dX5_as_15 : decode cX5_as 15 = .ok (.ifCond .ne 10, 3) := by decide +kernel
theorem dX5_as_18 : decode cX5_as 18 = .ok (.aload_n 0, 1) := by decide +kernel
theorem dX5_as_19 : decode cX5_as 19 = .ok (.ldc 51, 2) := by decide +kernel
theorem dX5_as_21 : decode cX5_as 21 = .ok (.invokevirtual 52, 3) := by decide +kernel
theorem dX5_as_24 : decode cX5_as 24 = .ok (.ireturn, 1) := by decide +kernel
theorem dX5_as_25 : decode cX5_as 25 = .ok (.aload_n 0, 1) := by decide +kernel
theorem dX5_as_26 : decode cX5_as 26 = .ok (.getfield 10, 3) := by decide +kernel
theorem dX5_as_29 : decode cX5_as 29 = .ok (.getfield 104, 3) := by decide +kernel
theorem dX5_as_32 : decode cX5_as 32 = .ok (.iload_n 1, 1) := by decide +kernel
theorem dX5_as_33 : decode cX5_as 33 = .ok (.iaload, 1) := by decide +kernel
theorem dX5_as_34 : decode cX5_as 34 = .ok (.iload_n 2, 1) := by decide +kernel
theorem dX5_as_35 : decode cX5_as 35 = .ok (.invokestatic 119, 3) := by decide +kernel
theorem dX5_as_38 : decode cX5_as 38 = .ok (.ifCond .ne 10, 3) := by decide +kernel
theorem dX5_as_41 : decode cX5_as 41 = .ok (.aload_n 0, 1) := by decide +kernel
theorem dX5_as_42 : decode cX5_as 42 = .ok (.ldc 123, 2) := by decide +kernel
theorem dX5_as_44 : decode cX5_as 44 = .ok (.invokevirtual 52, 3) := by decide +kernel
theorem dX5_as_47 : decode cX5_as 47 = .ok (.ireturn, 1) := by decide +kernel
theorem dX5_as_48 : decode cX5_as 48 = .ok (.aload_n 0, 1) := by decide +kernel
theorem dX5_as_49 : decode cX5_as 49 = .ok (.getfield 10, 3) := by decide +kernel
theorem dX5_as_52 : decode cX5_as 52 = .ok (.getfield 124, 3) := by decide +kernel
theorem dX5_as_55 : decode cX5_as 55 = .ok (.iload_n 1, 1) := by decide +kernel
theorem dX5_as_56 : decode cX5_as 56 = .ok (.iaload, 1) := by decide +kernel
theorem dX5_as_57 : decode cX5_as 57 = .ok (.ireturn, 1) := by decide +kernel
theorem dX5_fill_0 : decode cX5_fill 0 = .ok (.aload_n 0, 1) := by decide +kernel
theorem dX5_fill_1 : decode cX5_fill 1 = .ok (.getfield 10, 3) := by decide +kernel
theorem dX5_fill_4 : decode cX5_fill 4 = .ok (.iload_n 1, 1) := by decide +kernel
theorem dX5_fill_5 : decode cX5_fill 5 = .ok (.invokevirtual 95, 3) := by decide +kernel
theorem dX5_fill_8 : decode cX5_fill 8 = .ok (.ifCond .eq 12, 3) := by decide +kernel
theorem dX5_fill_11 : decode cX5_fill 11 = .ok (.iload_n 2, 1) := by decide +kernel
theorem dX5_fill_12 : decode cX5_fill 12 = .ok (.iconst 0, 1) := by decide +kernel
theorem dX5_fill_13 : decode cX5_fill 13 = .ok (.iconst 1, 1) := by decide +kernel
theorem dX5_fill_14 : decode cX5_fill 14 = .ok (.invokestatic 44, 3) := by decide +kernel
theorem dX5_fill_17 : decode cX5_fill 17 = .ok (.ifCond .ne 10, 3) := by decide +kernel
theorem dX5_fill_20 : decode cX5_fill 20 = .ok (.aload_n 0, 1) := by decide +kernel
theorem dX5_fill_21 : decode cX5_fill 21 = .ok (.ldc 51, 2) := by decide +kernel
theorem dX5_fill_23 : decode cX5_fill 23 = .ok (.invokevirtual 52, 3) := by decide +kernel
theorem dX5_fill_26 : decode cX5_fill 26 = .ok (.ireturn, 1) := by decide +kernel
theorem dX5_fill_27 : decode cX5_fill 27 = .ok (.aload_n 0, 1) := by decide +kernel
theorem dX5_fill_28 : decode cX5_fill 28 = .ok (.getfield 10, 3) := by decide +kernel
theorem dX5_fill_31 : decode cX5_fill 31 = .ok (.iload_n 1, 1) := by decide +kernel
theorem dX5_fill_32 : decode cX5_fill 32 = .ok (.iload_n 2, 1) := by decide +kernel
theorem dX5_fill_33 : decode cX5_fill 33 = .ok (.invokevirtual 101, 3) := by decide +kernel
theorem dX5_fill_36 : decode cX5_fill 36 = .ok (.istore_n 3, 1) := by decide +kernel
theorem dX5_fill_37 : decode cX5_fill 37 = .ok (.aload_n 0, 1) := by decide +kernel
theorem dX5_fill_38 : decode cX5_fill 38 = .ok (.getfield 10, 3) := by decide +kernel
theorem dX5_fill_41 : decode cX5_fill 41 = .ok (.getfield 127, 3) := by decide +kernel
theorem dX5_fill_44 : decode cX5_fill 44 = .ok (.iload_n 1, 1) := by decide +kernel
theorem dX5_fill_45 : decode cX5_fill 45 = .ok (.iaload, 1) := by decide +kernel
theorem dX5_fill_46 : decode cX5_fill 46 = .ok (.ifCond .ne 14, 3) := by decide +kernel
theorem dX5_fill_49 : decode cX5_fill 49 = .ok (.iload_n 3, 1) := by decide +kernel
theorem dX5_fill_50 : decode cX5_fill 50 = .ok (.aload_n 0, 1) := by decide +kernel
theorem dX5_fill_51 : decode cX5_fill 51 = .ok (.getfield 10, 3) := by decide +kernel
theorem dX5_fill_54 : decode cX5_fill 54 = .ok (.getfield 130, 3) := by decide +kernel
theorem dX5_fill_57 : decode cX5_fill 57 = .ok (.if_icmp .le 10, 3) := by decide +kernel
theorem dX5_fill_60 : decode cX5_fill 60 = .ok (.aload_n 0, 1) := by decide +kernel
theorem dX5_fill_61 : decode cX5_fill 61 = .ok (.ldc 134, 2) := by decide +kernel
theorem dX5_fill_63 : decode cX5_fill 63 = .ok (.invokevirtual 52, 3) := by decide +kernel
theorem dX5_fill_66 : decode cX5_fill 66 = .ok (.ireturn, 1) := by decide +kernel
theorem dX5_fill_67 : decode cX5_fill 67 = .ok (.aload_n 0, 1) := by decide +kernel
theorem dX5_fill_68 : decode cX5_fill 68 = .ok (.getfield 10, 3) := by decide +kernel
theorem dX5_fill_71 : decode cX5_fill 71 = .ok (.iload_n 1, 1) := by decide +kernel
theorem dX5_fill_72 : decode cX5_fill 72 = .ok (.iload_n 2, 1) := by decide +kernel
theorem dX5_fill_73 : decode cX5_fill 73 = .ok (.invokevirtual 135, 3) := by decide +kernel
theorem dX5_fill_76 : decode cX5_fill 76 = .ok (.iload_n 3, 1) := by decide +kernel
theorem dX5_fill_77 : decode cX5_fill 77 = .ok (.ireturn, 1) := by decide +kernel
theorem dX5_next_0 : decode cX5_next 0 = .ok (.aload_n 0, 1) := by decide +kernel
theorem dX5_next_1 : decode cX5_next 1 = .ok (.getfield 10, 3) := by decide +kernel
theorem dX5_next_4 : decode cX5_next 4 = .ok (.invokevirtual 139, 3) := by decide +kernel
theorem dX5_next_7 : decode cX5_next 7 = .ok (.istore_n 1, 1) := by decide +kernel
theorem dX5_next_8 : decode cX5_next 8 = .ok (.iload_n 1, 1) := by decide +kernel
theorem dX5_next_9 : decode cX5_next 9 = .ok (.ifCond .ge 12, 3) := by decide +kernel
theorem dX5_next_12 : decode cX5_next 12 = .ok (.aload_n 0, 1) := by decide +kernel
theorem dX5_next_13 : decode cX5_next 13 = .ok (.ldc 142, 2) := by decide +kernel
theorem dX5_next_15 : decode cX5_next 15 = .ok (.invokevirtual 52, 3) := by decide +kernel
theorem dX5_next_18 : decode cX5_next 18 = .ok (.goto 4, 3) := by decide +kernel
theorem dX5_next_21 : decode cX5_next 21 = .ok (.iload_n 1, 1) := by decide +kernel
theorem dX5_next_22 : decode cX5_next 22 = .ok (.ireturn, 1) := by decide +kernel
theorem dX5_weeks_0 : decode cX5_weeks 0 = .ok (.iload_n 1, 1) := by decide +kernel
theorem dX5_weeks_1 : decode cX5_weeks 1 = .ok (.iconst 1, 1) := by decide +kernel
theorem dX5_weeks_2 : decode cX5_weeks 2 = .ok (.bipush 60, 2) := by decide +kernel
theorem dX5_weeks_4 : decode cX5_weeks 4 = .ok (.invokestatic 44, 3) := by decide +kernel
theorem dX5_weeks_7 : decode cX5_weeks 7 = .ok (.ifCond .ne 10, 3) := by decide +kernel
theorem dX5_weeks_10 : decode cX5_weeks 10 = .ok (.aload_n 0, 1) := by decide +kernel
theorem dX5_weeks_11 : decode cX5_weeks 11 = .ok (.ldc 51, 2) := by decide +kernel
theorem dX5_weeks_13 : decode cX5_weeks 13 = .ok (.invokevirtual 52, 3) := by decide +kernel
theorem dX5_weeks_16 : decode cX5_weeks 16 = .ok (.ireturn, 1) := by decide +kernel
theorem dX5_weeks_17 : decode cX5_weeks 17 = .ok (.aload_n 0, 1) := by decide +kernel
theorem dX5_weeks_18 : decode cX5_weeks 18 = .ok (.getfield 10, 3) := by decide +kernel
theorem dX5_weeks_21 : decode cX5_weeks 21 = .ok (.getfield 143, 3) := by decide +kernel
theorem dX5_weeks_24 : decode cX5_weeks 24 = .ok (.iload_n 1, 1) := by decide +kernel
theorem dX5_weeks_25 : decode cX5_weeks 25 = .ok (.iadd, 1) := by decide +kernel
theorem dX5_weeks_26 : decode cX5_weeks 26 = .ok (.sipush 9999, 3) := by decide +kernel
theorem dX5_weeks_29 : decode cX5_weeks 29 = .ok (.if_icmp .le 10, 3) := by decide +kernel
theorem dX5_weeks_32 : decode cX5_weeks 32 = .ok (.aload_n 0, 1) := by decide +kernel
theorem dX5_weeks_33 : decode cX5_weeks 33 = .ok (.ldc 134, 2) := by decide +kernel
theorem dX5_weeks_35 : decode cX5_weeks 35 = .ok (.invokevirtual 52, 3) := by decide +kernel
theorem dX5_weeks_38 : decode cX5_weeks 38 = .ok (.ireturn, 1) := by decide +kernel
theorem dX5_weeks_39 : decode cX5_weeks 39 = .ok (.aload_n 0, 1) := by decide +kernel
theorem dX5_weeks_40 : decode cX5_weeks 40 = .ok (.getfield 10, 3) := by decide +kernel
theorem dX5_weeks_43 : decode cX5_weeks 43 = .ok (.iload_n 1, 1) := by decide +kernel
theorem dX5_weeks_44 : decode cX5_weeks 44 = .ok (.invokevirtual 146, 3) := by decide +kernel
theorem dX5_weeks_47 : decode cX5_weeks 47 = .ok (.pop, 1) := by decide +kernel
theorem dX5_weeks_48 : decode cX5_weeks 48 = .ok (.aload_n 0, 1) := by decide +kernel
theorem dX5_weeks_49 : decode cX5_weeks 49 = .ok (.getfield 10, 3) := by decide +kernel
theorem dX5_weeks_52 : decode cX5_weeks 52 = .ok (.invokevirtual 80, 3) := by decide +kernel
theorem dX5_weeks_55 : decode cX5_weeks 55 = .ok (.ireturn, 1) := by decide +kernel
theorem dX5_now_0 : decode cX5_now 0 = .ok (.iload_n 1, 1) := by decide +kernel
theorem dX5_now_1 : decode cX5_now 1 = .ok (.tableswitch 122 0 7 #[47, 55, 63, 71, 79, 87, 95, 114], 47) := by decide +kernel
theorem dX5_now_48 : decode cX5_now 48 = .ok (.aload_n 0, 1) := by decide +kernel
theorem dX5_now_49 : decode cX5_now 49 = .ok (.getfield 10, 3) := by decide +kernel
theorem dX5_now_52 : decode cX5_now 52 = .ok (.getfield 143, 3) := by decide +kernel
theorem dX5_now_55 : decode cX5_now 55 = .ok (.ireturn, 1) := by decide +kernel
theorem dX5_now_56 : decode cX5_now 56 = .ok (.aload_n 0, 1) := by decide +kernel
theorem dX5_now_57 : decode cX5_now 57 = .ok (.getfield 10, 3) := by decide +kernel
theorem dX5_now_60 : decode cX5_now 60 = .ok (.getfield 130, 3) := by decide +kernel
theorem dX5_now_63 : decode cX5_now 63 = .ok (.ireturn, 1) := by decide +kernel
theorem dX5_now_64 : decode cX5_now 64 = .ok (.aload_n 0, 1) := by decide +kernel
theorem dX5_now_65 : decode cX5_now 65 = .ok (.getfield 10, 3) := by decide +kernel
theorem dX5_now_68 : decode cX5_now 68 = .ok (.getfield 150, 3) := by decide +kernel
theorem dX5_now_71 : decode cX5_now 71 = .ok (.ireturn, 1) := by decide +kernel
theorem dX5_now_72 : decode cX5_now 72 = .ok (.aload_n 0, 1) := by decide +kernel
theorem dX5_now_73 : decode cX5_now 73 = .ok (.getfield 10, 3) := by decide +kernel
theorem dX5_now_76 : decode cX5_now 76 = .ok (.getfield 153, 3) := by decide +kernel
theorem dX5_now_79 : decode cX5_now 79 = .ok (.ireturn, 1) := by decide +kernel
theorem dX5_now_80 : decode cX5_now 80 = .ok (.aload_n 0, 1) := by decide +kernel
theorem dX5_now_81 : decode cX5_now 81 = .ok (.getfield 10, 3) := by decide +kernel
theorem dX5_now_84 : decode cX5_now 84 = .ok (.getfield 156, 3) := by decide +kernel
theorem dX5_now_87 : decode cX5_now 87 = .ok (.ireturn, 1) := by decide +kernel
theorem dX5_now_88 : decode cX5_now 88 = .ok (.aload_n 0, 1) := by decide +kernel
theorem dX5_now_89 : decode cX5_now 89 = .ok (.getfield 10, 3) := by decide +kernel
theorem dX5_now_92 : decode cX5_now 92 = .ok (.getfield 159, 3) := by decide +kernel
theorem dX5_now_95 : decode cX5_now 95 = .ok (.ireturn, 1) := by decide +kernel
theorem dX5_now_96 : decode cX5_now 96 = .ok (.aload_n 0, 1) := by decide +kernel
theorem dX5_now_97 : decode cX5_now 97 = .ok (.getfield 10, 3) := by decide +kernel
theorem dX5_now_100 : decode cX5_now 100 = .ok (.invokevirtual 162, 3) := by decide +kernel
theorem dX5_now_103 : decode cX5_now 103 = .ok (.invokestatic 165, 3) := by decide +kernel
theorem dX5_now_106 : decode cX5_now 106 = .ok (.ifCond .eq 7, 3) := by decide +kernel
theorem dX5_now_109 : decode cX5_now 109 = .ok (.iconst 1, 1) := by decide +kernel
theorem dX5_now_110 : decode cX5_now 110 = .ok (.goto 4, 3) := by decide +kernel
theorem dX5_now_113 : decode cX5_now 113 = .ok (.iconst 0, 1) := by decide +kernel
theorem dX5_now_114 : decode cX5_now 114 = .ok (.ireturn, 1) := by decide +kernel
theorem dX5_now_115 : decode cX5_now 115 = .ok (.aload_n 0, 1) := by decide +kernel
theorem dX5_now_116 : decode cX5_now 116 = .ok (.getfield 10, 3) := by decide +kernel
theorem dX5_now_119 : decode cX5_now 119 = .ok (.invokevirtual 168, 3) := by decide +kernel
theorem dX5_now_122 : decode cX5_now 122 = .ok (.ireturn, 1) := by decide +kernel
theorem dX5_now_123 : decode cX5_now 123 = .ok (.aload_n 0, 1) := by decide +kernel
theorem dX5_now_124 : decode cX5_now 124 = .ok (.ldc 51, 2) := by decide +kernel
theorem dX5_now_126 : decode cX5_now 126 = .ok (.invokevirtual 52, 3) := by decide +kernel
theorem dX5_now_129 : decode cX5_now 129 = .ok (.ireturn, 1) := by decide +kernel
theorem dX5_on_0 : decode cX5_on 0 = .ok (.aload_n 0, 1) := by decide +kernel
theorem dX5_on_1 : decode cX5_on 1 = .ok (.getfield 10, 3) := by decide +kernel
theorem dX5_on_4 : decode cX5_on 4 = .ok (.iload_n 1, 1) := by decide +kernel
theorem dX5_on_5 : decode cX5_on 5 = .ok (.invokevirtual 95, 3) := by decide +kernel
theorem dX5_on_8 : decode cX5_on 8 = .ok (.ifCond .eq 22, 3) := by decide +kernel
theorem dX5_on_11 : decode cX5_on 11 = .ok (.iload_n 2, 1) := by decide +kernel
theorem dX5_on_12 : decode cX5_on 12 = .ok (.iconst 0, 1) := by decide +kernel
theorem dX5_on_13 : decode cX5_on 13 = .ok (.bipush 104, 2) := by decide +kernel
theorem dX5_on_15 : decode cX5_on 15 = .ok (.invokestatic 44, 3) := by decide +kernel
theorem dX5_on_18 : decode cX5_on 18 = .ok (.ifCond .eq 12, 3) := by decide +kernel
theorem dX5_on_21 : decode cX5_on 21 = .ok (.iload_n 3, 1) := by decide +kernel
theorem dX5_on_22 : decode cX5_on 22 = .ok (.iconst 0, 1) := by decide +kernel
theorem dX5_on_23 : decode cX5_on 23 = .ok (.iconst 1, 1) := by decide +kernel
theorem dX5_on_24 : decode cX5_on 24 = .ok (.invokestatic 44, 3) := by decide +kernel
theorem dX5_on_27 : decode cX5_on 27 = .ok (.ifCond .ne 10, 3) := by decide +kernel
theorem dX5_on_30 : decode cX5_on 30 = .ok (.aload_n 0, 1) := by decide +kernel
theorem dX5_on_31 : decode cX5_on 31 = .ok (.ldc 51, 2) := by decide +kernel
theorem dX5_on_33 : decode cX5_on 33 = .ok (.invokevirtual 52, 3) := by decide +kernel
theorem dX5_on_36 : decode cX5_on 36 = .ok (.ireturn, 1) := by decide +kernel
theorem dX5_on_37 : decode cX5_on 37 = .ok (.aload_n 0, 1) := by decide +kernel
theorem dX5_on_38 : decode cX5_on 38 = .ok (.invokevirtual 171, 3) := by decide +kernel
theorem dX5_on_41 : decode cX5_on 41 = .ok (.iload_n 2, 1) := by decide +kernel
theorem dX5_on_42 : decode cX5_on 42 = .ok (.invokevirtual 146, 3) := by decide +kernel
theorem dX5_on_45 : decode cX5_on 45 = .ok (.astore 4, 2) := by decide +kernel
theorem dX5_on_47 : decode cX5_on 47 = .ok (.iload_n 3, 1) := by decide +kernel
theorem dX5_on_48 : decode cX5_on 48 = .ok (.ifCond .ne 13, 3) := by decide +kernel
theorem dX5_on_51 : decode cX5_on 51 = .ok (.aload 4, 2) := by decide +kernel
theorem dX5_on_53 : decode cX5_on 53 = .ok (.getfield 124, 3) := by decide +kernel
theorem dX5_on_56 : decode cX5_on 56 = .ok (.iload_n 1, 1) := by decide +kernel
theorem dX5_on_57 : decode cX5_on 57 = .ok (.iaload, 1) := by decide +kernel
theorem dX5_on_58 : decode cX5_on 58 = .ok (.goto 10, 3) := by decide +kernel
theorem dX5_on_61 : decode cX5_on 61 = .ok (.aload 4, 2) := by decide +kernel
theorem dX5_on_63 : decode cX5_on 63 = .ok (.getfield 127, 3) := by decide +kernel
theorem dX5_on_66 : decode cX5_on 66 = .ok (.iload_n 1, 1) := by decide +kernel
theorem dX5_on_67 : decode cX5_on 67 = .ok (.iaload, 1) := by decide +kernel
theorem dX5_on_68 : decode cX5_on 68 = .ok (.ireturn, 1) := by decide +kernel
theorem dX5_worse_0 : decode cX5_worse 0 = .ok (.iload_n 1, 1) := by decide +kernel
theorem dX5_worse_1 : decode cX5_worse 1 = .ok (.iconst 0, 1) := by decide +kernel
theorem dX5_worse_2 : decode cX5_worse 2 = .ok (.bipush 104, 2) := by decide +kernel
theorem dX5_worse_4 : decode cX5_worse 4 = .ok (.invokestatic 44, 3) := by decide +kernel
theorem dX5_worse_7 : decode cX5_worse 7 = .ok (.ifCond .ne 10, 3) := by decide +kernel
theorem dX5_worse_10 : decode cX5_worse 10 = .ok (.aload_n 0, 1) := by decide +kernel
theorem dX5_worse_11 : decode cX5_worse 11 = .ok (.ldc 51, 2) := by decide +kernel
theorem dX5_worse_13 : decode cX5_worse 13 = .ok (.invokevirtual 52, 3) := by decide +kernel
theorem dX5_worse_16 : decode cX5_worse 16 = .ok (.ireturn, 1) := by decide +kernel
theorem dX5_worse_17 : decode cX5_worse 17 = .ok (.aload_n 0, 1) := by decide +kernel
theorem dX5_worse_18 : decode cX5_worse 18 = .ok (.invokevirtual 171, 3) := by decide +kernel
theorem dX5_worse_21 : decode cX5_worse 21 = .ok (.iload_n 1, 1) := by decide +kernel
theorem dX5_worse_22 : decode cX5_worse 22 = .ok (.invokevirtual 146, 3) := by decide +kernel
theorem dX5_worse_25 : decode cX5_worse 25 = .ok (.invokevirtual 168, 3) := by decide +kernel
theorem dX5_worse_28 : decode cX5_worse 28 = .ok (.ireturn, 1) := by decide +kernel
theorem dX5_cost_0 : decode cX5_cost 0 = .ok (.iload_n 1, 1) := by decide +kernel
theorem dX5_cost_1 : decode cX5_cost 1 = .ok (.iconst 0, 1) := by decide +kernel
theorem dX5_cost_2 : decode cX5_cost 2 = .ok (.bipush 104, 2) := by decide +kernel
theorem dX5_cost_4 : decode cX5_cost 4 = .ok (.invokestatic 44, 3) := by decide +kernel
theorem dX5_cost_7 : decode cX5_cost 7 = .ok (.ifCond .ne 10, 3) := by decide +kernel
theorem dX5_cost_10 : decode cX5_cost 10 = .ok (.aload_n 0, 1) := by decide +kernel
theorem dX5_cost_11 : decode cX5_cost 11 = .ok (.ldc 51, 2) := by decide +kernel
theorem dX5_cost_13 : decode cX5_cost 13 = .ok (.invokevirtual 52, 3) := by decide +kernel
theorem dX5_cost_16 : decode cX5_cost 16 = .ok (.ireturn, 1) := by decide +kernel
theorem dX5_cost_17 : decode cX5_cost 17 = .ok (.aload_n 0, 1) := by decide +kernel
theorem dX5_cost_18 : decode cX5_cost 18 = .ok (.invokevirtual 171, 3) := by decide +kernel
theorem dX5_cost_21 : decode cX5_cost 21 = .ok (.iload_n 1, 1) := by decide +kernel
theorem dX5_cost_22 : decode cX5_cost 22 = .ok (.invokevirtual 146, 3) := by decide +kernel
theorem dX5_cost_25 : decode cX5_cost 25 = .ok (.astore_n 2, 1) := by decide +kernel
theorem dX5_cost_26 : decode cX5_cost 26 = .ok (.aload_n 2, 1) := by decide +kernel
theorem dX5_cost_27 : decode cX5_cost 27 = .ok (.getfield 159, 3) := by decide +kernel
theorem dX5_cost_30 : decode cX5_cost 30 = .ok (.aload_n 0, 1) := by decide +kernel
theorem dX5_cost_31 : decode cX5_cost 31 = .ok (.getfield 10, 3) := by decide +kernel
theorem dX5_cost_34 : decode cX5_cost 34 = .ok (.getfield 159, 3) := by decide +kernel
theorem dX5_cost_37 : decode cX5_cost 37 = .ok (.isub, 1) := by decide +kernel
theorem dX5_cost_38 : decode cX5_cost 38 = .ok (.ireturn, 1) := by decide +kernel
theorem dX5_filled_0 : decode cX5_filled 0 = .ok (.aload_n 0, 1) := by decide +kernel
theorem dX5_filled_1 : decode cX5_filled 1 = .ok (.getfield 10, 3) := by decide +kernel
theorem dX5_filled_4 : decode cX5_filled 4 = .ok (.iload_n 1, 1) := by decide +kernel
theorem dX5_filled_5 : decode cX5_filled 5 = .ok (.invokevirtual 95, 3) := by decide +kernel
theorem dX5_filled_8 : decode cX5_filled 8 = .ok (.ifCond .ne 10, 3) := by decide +kernel
theorem dX5_filled_11 : decode cX5_filled 11 = .ok (.aload_n 0, 1) := by decide +kernel
theorem dX5_filled_12 : decode cX5_filled 12 = .ok (.ldc 51, 2) := by decide +kernel
theorem dX5_filled_14 : decode cX5_filled 14 = .ok (.invokevirtual 52, 3) := by decide +kernel
theorem dX5_filled_17 : decode cX5_filled 17 = .ok (.ireturn, 1) := by decide +kernel
theorem dX5_filled_18 : decode cX5_filled 18 = .ok (.aload_n 0, 1) := by decide +kernel
theorem dX5_filled_19 : decode cX5_filled 19 = .ok (.iload_n 1, 1) := by decide +kernel
theorem dX5_filled_20 : decode cX5_filled 20 = .ok (.iconst 1, 1) := by decide +kernel
theorem dX5_filled_21 : decode cX5_filled 21 = .ok (.invokevirtual 175, 3) := by decide +kernel
theorem dX5_filled_24 : decode cX5_filled 24 = .ok (.istore_n 2, 1) := by decide +kernel
theorem dX5_filled_25 : decode cX5_filled 25 = .ok (.iload_n 2, 1) := by decide +kernel
theorem dX5_filled_26 : decode cX5_filled 26 = .ok (.ifCond .ge 12, 3) := by decide +kernel
theorem dX5_filled_29 : decode cX5_filled 29 = .ok (.aload_n 0, 1) := by decide +kernel
theorem dX5_filled_30 : decode cX5_filled 30 = .ok (.ldc 142, 2) := by decide +kernel
theorem dX5_filled_32 : decode cX5_filled 32 = .ok (.invokevirtual 52, 3) := by decide +kernel
theorem dX5_filled_35 : decode cX5_filled 35 = .ok (.goto 4, 3) := by decide +kernel
theorem dX5_filled_38 : decode cX5_filled 38 = .ok (.iload_n 2, 1) := by decide +kernel
theorem dX5_filled_39 : decode cX5_filled 39 = .ok (.ireturn, 1) := by decide +kernel
theorem dX5_breaks_0 : decode cX5_breaks 0 = .ok (.aload_n 0, 1) := by decide +kernel
theorem dX5_breaks_1 : decode cX5_breaks 1 = .ok (.getfield 10, 3) := by decide +kernel
theorem dX5_breaks_4 : decode cX5_breaks 4 = .ok (.iload_n 1, 1) := by decide +kernel
theorem dX5_breaks_5 : decode cX5_breaks 5 = .ok (.invokevirtual 95, 3) := by decide +kernel
theorem dX5_breaks_8 : decode cX5_breaks 8 = .ok (.ifCond .ne 10, 3) := by decide +kernel
theorem dX5_breaks_11 : decode cX5_breaks 11 = .ok (.aload_n 0, 1) := by decide +kernel
theorem dX5_breaks_12 : decode cX5_breaks 12 = .ok (.ldc 51, 2) := by decide +kernel
theorem dX5_breaks_14 : decode cX5_breaks 14 = .ok (.invokevirtual 52, 3) := by decide +kernel
theorem dX5_breaks_17 : decode cX5_breaks 17 = .ok (.ireturn, 1) := by decide +kernel
theorem dX5_breaks_18 : decode cX5_breaks 18 = .ok (.aload_n 0, 1) := by decide +kernel
theorem dX5_breaks_19 : decode cX5_breaks 19 = .ok (.iload_n 1, 1) := by decide +kernel
theorem dX5_breaks_20 : decode cX5_breaks 20 = .ok (.iconst 0, 1) := by decide +kernel
theorem dX5_breaks_21 : decode cX5_breaks 21 = .ok (.invokevirtual 175, 3) := by decide +kernel
theorem dX5_breaks_24 : decode cX5_breaks 24 = .ok (.istore_n 2, 1) := by decide +kernel
theorem dX5_breaks_25 : decode cX5_breaks 25 = .ok (.iload_n 2, 1) := by decide +kernel
theorem dX5_breaks_26 : decode cX5_breaks 26 = .ok (.ifCond .ge 12, 3) := by decide +kernel
theorem dX5_breaks_29 : decode cX5_breaks 29 = .ok (.aload_n 0, 1) := by decide +kernel
theorem dX5_breaks_30 : decode cX5_breaks 30 = .ok (.ldc 142, 2) := by decide +kernel
theorem dX5_breaks_32 : decode cX5_breaks 32 = .ok (.invokevirtual 52, 3) := by decide +kernel
theorem dX5_breaks_35 : decode cX5_breaks 35 = .ok (.goto 4, 3) := by decide +kernel
theorem dX5_breaks_38 : decode cX5_breaks 38 = .ok (.iload_n 2, 1) := by decide +kernel
theorem dX5_breaks_39 : decode cX5_breaks 39 = .ok (.ireturn, 1) := by decide +kernel
theorem dX5_how_0 : decode cX5_how 0 = .ok (.iload_n 1, 1) := by decide +kernel
theorem dX5_how_1 : decode cX5_how 1 = .ok (.iconst 1, 1) := by decide +kernel
theorem dX5_how_2 : decode cX5_how 2 = .ok (.bipush 104, 2) := by decide +kernel
theorem dX5_how_4 : decode cX5_how 4 = .ok (.invokestatic 44, 3) := by decide +kernel
theorem dX5_how_7 : decode cX5_how 7 = .ok (.ifCond .ne 10, 3) := by decide +kernel
theorem dX5_how_10 : decode cX5_how 10 = .ok (.aload_n 0, 1) := by decide +kernel
theorem dX5_how_11 : decode cX5_how 11 = .ok (.ldc 51, 2) := by decide +kernel
theorem dX5_how_13 : decode cX5_how 13 = .ok (.invokevirtual 52, 3) := by decide +kernel
theorem dX5_how_16 : decode cX5_how 16 = .ok (.ireturn, 1) := by decide +kernel
theorem dX5_how_17 : decode cX5_how 17 = .ok (.aload_n 0, 1) := by decide +kernel
theorem dX5_how_18 : decode cX5_how 18 = .ok (.invokevirtual 171, 3) := by decide +kernel
theorem dX5_how_21 : decode cX5_how 21 = .ok (.astore_n 2, 1) := by decide +kernel
theorem dX5_how_22 : decode cX5_how 22 = .ok (.aload_n 2, 1) := by decide +kernel
theorem dX5_how_23 : decode cX5_how 23 = .ok (.iconst 0, 1) := by decide +kernel
theorem dX5_how_24 : decode cX5_how 24 = .ok (.putfield 156, 3) := by decide +kernel
theorem dX5_how_27 : decode cX5_how 27 = .ok (.aload_n 2, 1) := by decide +kernel
theorem dX5_how_28 : decode cX5_how 28 = .ok (.iload_n 1, 1) := by decide +kernel
theorem dX5_how_29 : decode cX5_how 29 = .ok (.invokevirtual 146, 3) := by decide +kernel
theorem dX5_how_32 : decode cX5_how 32 = .ok (.invokevirtual 168, 3) := by decide +kernel
theorem dX5_how_35 : decode cX5_how 35 = .ok (.istore_n 3, 1) := by decide +kernel
theorem dX5_how_36 : decode cX5_how 36 = .ok (.aload_n 0, 1) := by decide +kernel
theorem dX5_how_37 : decode cX5_how 37 = .ok (.invokevirtual 171, 3) := by decide +kernel
theorem dX5_how_40 : decode cX5_how 40 = .ok (.astore_n 2, 1) := by decide +kernel
theorem dX5_how_41 : decode cX5_how 41 = .ok (.aload_n 2, 1) := by decide +kernel
theorem dX5_how_42 : decode cX5_how 42 = .ok (.iconst 1, 1) := by decide +kernel
theorem dX5_how_43 : decode cX5_how 43 = .ok (.putfield 156, 3) := by decide +kernel
theorem dX5_how_46 : decode cX5_how 46 = .ok (.aload_n 2, 1) := by decide +kernel
theorem dX5_how_47 : decode cX5_how 47 = .ok (.iload_n 1, 1) := by decide +kernel
theorem dX5_how_48 : decode cX5_how 48 = .ok (.invokevirtual 146, 3) := by decide +kernel
theorem dX5_how_51 : decode cX5_how 51 = .ok (.invokevirtual 168, 3) := by decide +kernel
theorem dX5_how_54 : decode cX5_how 54 = .ok (.iload_n 3, 1) := by decide +kernel
theorem dX5_how_55 : decode cX5_how 55 = .ok (.if_icmp .ge 7, 3) := by decide +kernel
theorem dX5_how_58 : decode cX5_how 58 = .ok (.iconst 1, 1) := by decide +kernel
theorem dX5_how_59 : decode cX5_how 59 = .ok (.goto 4, 3) := by decide +kernel
theorem dX5_how_62 : decode cX5_how 62 = .ok (.iconst 0, 1) := by decide +kernel
theorem dX5_how_63 : decode cX5_how 63 = .ok (.ireturn, 1) := by decide +kernel
theorem dX5_ring_0 : decode cX5_ring 0 = .ok (.iload_n 1, 1) := by decide +kernel
theorem dX5_ring_1 : decode cX5_ring 1 = .ok (.iconst 1, 1) := by decide +kernel
theorem dX5_ring_2 : decode cX5_ring 2 = .ok (.bipush 52, 2) := by decide +kernel
theorem dX5_ring_4 : decode cX5_ring 4 = .ok (.invokestatic 44, 3) := by decide +kernel
theorem dX5_ring_7 : decode cX5_ring 7 = .ok (.ifCond .ne 10, 3) := by decide +kernel
theorem dX5_ring_10 : decode cX5_ring 10 = .ok (.aload_n 0, 1) := by decide +kernel
theorem dX5_ring_11 : decode cX5_ring 11 = .ok (.ldc 51, 2) := by decide +kernel
theorem dX5_ring_13 : decode cX5_ring 13 = .ok (.invokevirtual 52, 3) := by decide +kernel
theorem dX5_ring_16 : decode cX5_ring 16 = .ok (.ireturn, 1) := by decide +kernel
theorem dX5_ring_17 : decode cX5_ring 17 = .ok (.iconst (-1), 1) := by decide +kernel
theorem dX5_ring_18 : decode cX5_ring 18 = .ok (.istore_n 2, 1) := by decide +kernel
theorem dX5_ring_19 : decode cX5_ring 19 = .ok (.iconst 0, 1) := by decide +kernel
theorem dX5_ring_20 : decode cX5_ring 20 = .ok (.istore_n 3, 1) := by decide +kernel
theorem dX5_ring_21 : decode cX5_ring 21 = .ok (.iconst 0, 1) := by decide +kernel
theorem dX5_ring_22 : decode cX5_ring 22 = .ok (.istore 4, 2) := by decide +kernel
theorem dX5_ring_24 : decode cX5_ring 24 = .ok (.iload 4, 2) := by decide +kernel
theorem dX5_ring_26 : decode cX5_ring 26 = .ok (.aload_n 0, 1) := by decide +kernel
theorem dX5_ring_27 : decode cX5_ring 27 = .ok (.getfield 10, 3) := by decide +kernel
theorem dX5_ring_30 : decode cX5_ring 30 = .ok (.getfield 179, 3) := by decide +kernel
theorem dX5_ring_33 : decode cX5_ring 33 = .ok (.if_icmp .ge 67, 3) := by decide +kernel
theorem dX5_ring_36 : decode cX5_ring 36 = .ok (.aload_n 0, 1) := by decide +kernel
theorem dX5_ring_37 : decode cX5_ring 37 = .ok (.getfield 10, 3) := by decide +kernel
theorem dX5_ring_40 : decode cX5_ring 40 = .ok (.getfield 182, 3) := by decide +kernel
theorem dX5_ring_43 : decode cX5_ring 43 = .ok (.iload 4, 2) := by decide +kernel
theorem dX5_ring_45 : decode cX5_ring 45 = .ok (.iaload, 1) := by decide +kernel
theorem dX5_ring_46 : decode cX5_ring 46 = .ok (.ifCond .eq 6, 3) := by decide +kernel
theorem dX5_ring_49 : decode cX5_ring 49 = .ok (.goto 45, 3) := by decide +kernel
theorem dX5_ring_52 : decode cX5_ring 52 = .ok (.aload_n 0, 1) := by decide +kernel
theorem dX5_ring_53 : decode cX5_ring 53 = .ok (.invokevirtual 171, 3) := by decide +kernel
theorem dX5_ring_56 : decode cX5_ring 56 = .ok (.astore 5, 2) := by decide +kernel
theorem dX5_ring_58 : decode cX5_ring 58 = .ok (.aload 5, 2) := by decide +kernel
theorem dX5_ring_60 : decode cX5_ring 60 = .ok (.getfield 182, 3) := by decide +kernel
theorem dX5_ring_63 : decode cX5_ring 63 = .ok (.iload 4, 2) := by decide +kernel
theorem dX5_ring_65 : decode cX5_ring 65 = .ok (.iconst 1, 1) := by decide +kernel
theorem dX5_ring_66 : decode cX5_ring 66 = .ok (.iastore, 1) := by decide +kernel
theorem dX5_ring_67 : decode cX5_ring 67 = .ok (.aload 5, 2) := by decide +kernel
theorem dX5_ring_69 : decode cX5_ring 69 = .ok (.iload_n 1, 1) := by decide +kernel
theorem dX5_ring_70 : decode cX5_ring 70 = .ok (.invokevirtual 146, 3) := by decide +kernel
theorem dX5_ring_73 : decode cX5_ring 73 = .ok (.invokevirtual 168, 3) := by decide +kernel
theorem dX5_ring_76 : decode cX5_ring 76 = .ok (.istore 6, 2) := by decide +kernel
theorem dX5_ring_78 : decode cX5_ring 78 = .ok (.iload_n 2, 1) := by decide +kernel
theorem dX5_ring_79 : decode cX5_ring 79 = .ok (.ifCond .lt 9, 3) := by decide +kernel
theorem dX5_ring_82 : decode cX5_ring 82 = .ok (.iload 6, 2) := by decide +kernel
theorem dX5_ring_84 : decode cX5_ring 84 = .ok (.iload_n 3, 1) := by decide +kernel
theorem dX5_ring_85 : decode cX5_ring 85 = .ok (.if_icmp .ge 9, 3) := by decide +kernel
theorem dX5_ring_88 : decode cX5_ring 88 = .ok (.iload 4, 2) := by decide +kernel
theorem dX5_ring_90 : decode cX5_ring 90 = .ok (.istore_n 2, 1) := by decide +kernel
theorem dX5_ring_91 : decode cX5_ring 91 = .ok (.iload 6, 2) := by decide +kernel
theorem dX5_ring_93 : decode cX5_ring 93 = .ok (.istore_n 3, 1) := by decide +kernel
theorem dX5_ring_94 : decode cX5_ring 94 = .ok (.iinc 4 1, 3) := by decide +kernel
theorem dX5_ring_97 : decode cX5_ring 97 = .ok (.goto (-73), 3) := by decide +kernel
theorem dX5_ring_100 : decode cX5_ring 100 = .ok (.iload_n 2, 1) := by decide +kernel
theorem dX5_ring_101 : decode cX5_ring 101 = .ok (.ifCond .ge 12, 3) := by decide +kernel
theorem dX5_ring_104 : decode cX5_ring 104 = .ok (.aload_n 0, 1) := by decide +kernel
theorem dX5_ring_105 : decode cX5_ring 105 = .ok (.ldc 142, 2) := by decide +kernel
theorem dX5_ring_107 : decode cX5_ring 107 = .ok (.invokevirtual 52, 3) := by decide +kernel
theorem dX5_ring_110 : decode cX5_ring 110 = .ok (.goto 4, 3) := by decide +kernel
theorem dX5_ring_113 : decode cX5_ring 113 = .ok (.iload_n 2, 1) := by decide +kernel
theorem dX5_ring_114 : decode cX5_ring 114 = .ok (.ireturn, 1) := by decide +kernel
theorem dX5_men_0 : decode cX5_men 0 = .ok (.iload_n 1, 1) := by decide +kernel
theorem dX5_men_1 : decode cX5_men 1 = .ok (.iconst 1, 1) := by decide +kernel
theorem dX5_men_2 : decode cX5_men 2 = .ok (.bipush 52, 2) := by decide +kernel
theorem dX5_men_4 : decode cX5_men 4 = .ok (.invokestatic 44, 3) := by decide +kernel
theorem dX5_men_7 : decode cX5_men 7 = .ok (.ifCond .eq 14, 3) := by decide +kernel
theorem dX5_men_10 : decode cX5_men 10 = .ok (.iload_n 2, 1) := by decide +kernel
theorem dX5_men_11 : decode cX5_men 11 = .ok (.iconst 0, 1) := by decide +kernel
theorem dX5_men_12 : decode cX5_men 12 = .ok (.sipush 999, 3) := by decide +kernel
theorem dX5_men_15 : decode cX5_men 15 = .ok (.invokestatic 44, 3) := by decide +kernel
theorem dX5_men_18 : decode cX5_men 18 = .ok (.ifCond .ne 10, 3) := by decide +kernel
theorem dX5_men_21 : decode cX5_men 21 = .ok (.aload_n 0, 1) := by decide +kernel
theorem dX5_men_22 : decode cX5_men 22 = .ok (.ldc 51, 2) := by decide +kernel
theorem dX5_men_24 : decode cX5_men 24 = .ok (.invokevirtual 52, 3) := by decide +kernel
theorem dX5_men_27 : decode cX5_men 27 = .ok (.ireturn, 1) := by decide +kernel
theorem dX5_men_28 : decode cX5_men 28 = .ok (.iconst 0, 1) := by decide +kernel
theorem dX5_men_29 : decode cX5_men 29 = .ok (.istore_n 3, 1) := by decide +kernel
theorem dX5_men_30 : decode cX5_men 30 = .ok (.iload_n 3, 1) := by decide +kernel
theorem dX5_men_31 : decode cX5_men 31 = .ok (.bipush 6, 2) := by decide +kernel
theorem dX5_men_33 : decode cX5_men 33 = .ok (.if_icmp .gt 36, 3) := by decide +kernel
theorem dX5_men_36 : decode cX5_men 36 = .ok (.aload_n 0, 1) := by decide +kernel
theorem dX5_men_37 : decode cX5_men 37 = .ok (.invokevirtual 171, 3) := by decide +kernel
theorem dX5_men_40 : decode cX5_men 40 = .ok (.astore 4, 2) := by decide +kernel
theorem dX5_men_42 : decode cX5_men 42 = .ok (.aload 4, 2) := by decide +kernel
theorem dX5_men_44 : decode cX5_men 44 = .ok (.iload_n 3, 1) := by decide +kernel
theorem dX5_men_45 : decode cX5_men 45 = .ok (.putfield 153, 3) := by decide +kernel
theorem dX5_men_48 : decode cX5_men 48 = .ok (.aload 4, 2) := by decide +kernel
theorem dX5_men_50 : decode cX5_men 50 = .ok (.iload_n 1, 1) := by decide +kernel
theorem dX5_men_51 : decode cX5_men 51 = .ok (.invokevirtual 146, 3) := by decide +kernel
theorem dX5_men_54 : decode cX5_men 54 = .ok (.invokevirtual 168, 3) := by decide +kernel
theorem dX5_men_57 : decode cX5_men 57 = .ok (.iload_n 2, 1) := by decide +kernel
theorem dX5_men_58 : decode cX5_men 58 = .ok (.if_icmp .gt 5, 3) := by decide +kernel
theorem dX5_men_61 : decode cX5_men 61 = .ok (.iload_n 3, 1) := by decide +kernel
theorem dX5_men_62 : decode cX5_men 62 = .ok (.ireturn, 1) := by decide +kernel
theorem dX5_men_63 : decode cX5_men 63 = .ok (.iinc 3 1, 3) := by decide +kernel
theorem dX5_men_66 : decode cX5_men 66 = .ok (.goto (-36), 3) := by decide +kernel
theorem dX5_men_69 : decode cX5_men 69 = .ok (.aload_n 0, 1) := by decide +kernel
theorem dX5_men_70 : decode cX5_men 70 = .ok (.ldc 142, 2) := by decide +kernel
theorem dX5_men_72 : decode cX5_men 72 = .ok (.invokevirtual 52, 3) := by decide +kernel
theorem dX5_men_75 : decode cX5_men 75 = .ok (.ireturn, 1) := by decide +kernel
theorem dX5_budget_0 : decode cX5_budget 0 = .ok (.iload_n 1, 1) := by decide +kernel
theorem dX5_budget_1 : decode cX5_budget 1 = .ok (.iconst 1, 1) := by decide +kernel
theorem dX5_budget_2 : decode cX5_budget 2 = .ok (.bipush 20, 2) := by decide +kernel
theorem dX5_budget_4 : decode cX5_budget 4 = .ok (.invokestatic 44, 3) := by decide +kernel
theorem dX5_budget_7 : decode cX5_budget 7 = .ok (.ifCond .eq 14, 3) := by decide +kernel
theorem dX5_budget_10 : decode cX5_budget 10 = .ok (.iload_n 2, 1) := by decide +kernel
theorem dX5_budget_11 : decode cX5_budget 11 = .ok (.iconst 0, 1) := by decide +kernel
theorem dX5_budget_12 : decode cX5_budget 12 = .ok (.sipush 999, 3) := by decide +kernel
theorem dX5_budget_15 : decode cX5_budget 15 = .ok (.invokestatic 44, 3) := by decide +kernel
theorem dX5_budget_18 : decode cX5_budget 18 = .ok (.ifCond .ne 10, 3) := by decide +kernel
theorem dX5_budget_21 : decode cX5_budget 21 = .ok (.aload_n 0, 1) := by decide +kernel
theorem dX5_budget_22 : decode cX5_budget 22 = .ok (.ldc 51, 2) := by decide +kernel
theorem dX5_budget_24 : decode cX5_budget 24 = .ok (.invokevirtual 52, 3) := by decide +kernel
theorem dX5_budget_27 : decode cX5_budget 27 = .ok (.ireturn, 1) := by decide +kernel
theorem dX5_budget_28 : decode cX5_budget 28 = .ok (.iconst 1, 1) := by decide +kernel
theorem dX5_budget_29 : decode cX5_budget 29 = .ok (.istore_n 3, 1) := by decide +kernel
theorem dX5_budget_30 : decode cX5_budget 30 = .ok (.iconst 0, 1) := by decide +kernel
theorem dX5_budget_31 : decode cX5_budget 31 = .ok (.istore 4, 2) := by decide +kernel
theorem dX5_budget_33 : decode cX5_budget 33 = .ok (.iload 4, 2) := by decide +kernel
theorem dX5_budget_35 : decode cX5_budget 35 = .ok (.sipush 999, 3) := by decide +kernel
theorem dX5_budget_38 : decode cX5_budget 38 = .ok (.if_icmp .gt 51, 3) := by decide +kernel
theorem dX5_budget_41 : decode cX5_budget 41 = .ok (.aload_n 0, 1) := by decide +kernel
theorem dX5_budget_42 : decode cX5_budget 42 = .ok (.invokevirtual 171, 3) := by decide +kernel
theorem dX5_budget_45 : decode cX5_budget 45 = .ok (.astore 5, 2) := by decide +kernel
theorem dX5_budget_47 : decode cX5_budget 47 = .ok (.aload 5, 2) := by decide +kernel
theorem dX5_budget_49 : decode cX5_budget 49 = .ok (.iload 4, 2) := by decide +kernel
theorem dX5_budget_51 : decode cX5_budget 51 = .ok (.putfield 130, 3) := by decide +kernel
theorem dX5_budget_54 : decode cX5_budget 54 = .ok (.aload 5, 2) := by decide +kernel
theorem dX5_budget_56 : decode cX5_budget 56 = .ok (.iload_n 1, 1) := by decide +kernel
theorem dX5_budget_57 : decode cX5_budget 57 = .ok (.invokevirtual 146, 3) := by decide +kernel
theorem dX5_budget_60 : decode cX5_budget 60 = .ok (.invokevirtual 168, 3) := by decide +kernel
theorem dX5_budget_63 : decode cX5_budget 63 = .ok (.iload_n 2, 1) := by decide +kernel
theorem dX5_budget_64 : decode cX5_budget 64 = .ok (.if_icmp .gt 6, 3) := by decide +kernel
theorem dX5_budget_67 : decode cX5_budget 67 = .ok (.iload 4, 2) := by decide +kernel
theorem dX5_budget_69 : decode cX5_budget 69 = .ok (.ireturn, 1) := by decide +kernel
theorem dX5_budget_70 : decode cX5_budget 70 = .ok (.iconst 1, 1) := by decide +kernel
theorem dX5_budget_71 : decode cX5_budget 71 = .ok (.aload 5, 2) := by decide +kernel
theorem dX5_budget_73 : decode cX5_budget 73 = .ok (.getfield 185, 3) := by decide +kernel
theorem dX5_budget_76 : decode cX5_budget 76 = .ok (.invokestatic 188, 3) := by decide +kernel
theorem dX5_budget_79 : decode cX5_budget 79 = .ok (.istore_n 3, 1) := by decide +kernel
theorem dX5_budget_80 : decode cX5_budget 80 = .ok (.iload 4, 2) := by decide +kernel
theorem dX5_budget_82 : decode cX5_budget 82 = .ok (.iload_n 3, 1) := by decide +kernel
theorem dX5_budget_83 : decode cX5_budget 83 = .ok (.iadd, 1) := by decide +kernel
theorem dX5_budget_84 : decode cX5_budget 84 = .ok (.istore 4, 2) := by decide +kernel
theorem dX5_budget_86 : decode cX5_budget 86 = .ok (.goto (-53), 3) := by decide +kernel
theorem dX5_budget_89 : decode cX5_budget 89 = .ok (.aload_n 0, 1) := by decide +kernel
theorem dX5_budget_90 : decode cX5_budget 90 = .ok (.ldc 142, 2) := by decide +kernel
theorem dX5_budget_92 : decode cX5_budget 92 = .ok (.invokevirtual 52, 3) := by decide +kernel
theorem dX5_budget_95 : decode cX5_budget 95 = .ok (.ireturn, 1) := by decide +kernel
theorem dX5_kind_0 : decode cX5_kind 0 = .ok (.aload_n 0, 1) := by decide +kernel
theorem dX5_kind_1 : decode cX5_kind 1 = .ok (.getfield 10, 3) := by decide +kernel
theorem dX5_kind_4 : decode cX5_kind 4 = .ok (.iload_n 1, 1) := by decide +kernel
theorem dX5_kind_5 : decode cX5_kind 5 = .ok (.invokevirtual 95, 3) := by decide +kernel
theorem dX5_kind_8 : decode cX5_kind 8 = .ok (.ifCond .eq 13, 3) := by decide +kernel
theorem dX5_kind_11 : decode cX5_kind 11 = .ok (.iload_n 2, 1) := by decide +kernel
theorem dX5_kind_12 : decode cX5_kind 12 = .ok (.iconst 1, 1) := by decide +kernel
theorem dX5_kind_13 : decode cX5_kind 13 = .ok (.bipush 52, 2) := by decide +kernel
theorem dX5_kind_15 : decode cX5_kind 15 = .ok (.invokestatic 44, 3) := by decide +kernel
theorem dX5_kind_18 : decode cX5_kind 18 = .ok (.ifCond .ne 10, 3) := by decide +kernel
theorem dX5_kind_21 : decode cX5_kind 21 = .ok (.aload_n 0, 1) := by decide +kernel
theorem dX5_kind_22 : decode cX5_kind 22 = .ok (.ldc 51, 2) := by decide +kernel
theorem dX5_kind_24 : decode cX5_kind 24 = .ok (.invokevirtual 52, 3) := by decide +kernel
theorem dX5_kind_27 : decode cX5_kind 27 = .ok (.ireturn, 1) := by decide +kernel
theorem dX5_kind_28 : decode cX5_kind 28 = .ok (.iconst 0, 1) := by decide +kernel
theorem dX5_kind_29 : decode cX5_kind 29 = .ok (.istore_n 3, 1) := by decide +kernel
theorem dX5_kind_30 : decode cX5_kind 30 = .ok (.bipush 100, 2) := by decide +kernel
theorem dX5_kind_32 : decode cX5_kind 32 = .ok (.istore 4, 2) := by decide +kernel
theorem dX5_kind_34 : decode cX5_kind 34 = .ok (.iconst 0, 1) := by decide +kernel
theorem dX5_kind_35 : decode cX5_kind 35 = .ok (.istore 5, 2) := by decide +kernel
theorem dX5_kind_37 : decode cX5_kind 37 = .ok (.iload 5, 2) := by decide +kernel
theorem dX5_kind_39 : decode cX5_kind 39 = .ok (.bipush 6, 2) := by decide +kernel
theorem dX5_kind_41 : decode cX5_kind 41 = .ok (.if_icmp .ge 55, 3) := by decide +kernel
theorem dX5_kind_44 : decode cX5_kind 44 = .ok (.aload_n 0, 1) := by decide +kernel
theorem dX5_kind_45 : decode cX5_kind 45 = .ok (.invokevirtual 171, 3) := by decide +kernel
theorem dX5_kind_48 : decode cX5_kind 48 = .ok (.astore 6, 2) := by decide +kernel
theorem dX5_kind_50 : decode cX5_kind 50 = .ok (.aload 6, 2) := by decide +kernel
theorem dX5_kind_52 : decode cX5_kind 52 = .ok (.getfield 104, 3) := by decide +kernel
theorem dX5_kind_55 : decode cX5_kind 55 = .ok (.iload_n 1, 1) := by decide +kernel
theorem dX5_kind_56 : decode cX5_kind 56 = .ok (.iload 5, 2) := by decide +kernel
theorem dX5_kind_58 : decode cX5_kind 58 = .ok (.iastore, 1) := by decide +kernel
theorem dX5_kind_59 : decode cX5_kind 59 = .ok (.aload 6, 2) := by decide +kernel
theorem dX5_kind_61 : decode cX5_kind 61 = .ok (.iload_n 2, 1) := by decide +kernel
theorem dX5_kind_62 : decode cX5_kind 62 = .ok (.invokevirtual 146, 3) := by decide +kernel
theorem dX5_kind_65 : decode cX5_kind 65 = .ok (.pop, 1) := by decide +kernel
theorem dX5_kind_66 : decode cX5_kind 66 = .ok (.aload 6, 2) := by decide +kernel
theorem dX5_kind_68 : decode cX5_kind 68 = .ok (.getfield 124, 3) := by decide +kernel
theorem dX5_kind_71 : decode cX5_kind 71 = .ok (.iload_n 1, 1) := by decide +kernel
theorem dX5_kind_72 : decode cX5_kind 72 = .ok (.iaload, 1) := by decide +kernel
theorem dX5_kind_73 : decode cX5_kind 73 = .ok (.iload 4, 2) := by decide +kernel
theorem dX5_kind_75 : decode cX5_kind 75 = .ok (.if_icmp .ge 15, 3) := by decide +kernel
theorem dX5_kind_78 : decode cX5_kind 78 = .ok (.iload 5, 2) := by decide +kernel
theorem dX5_kind_80 : decode cX5_kind 80 = .ok (.istore_n 3, 1) := by decide +kernel
theorem dX5_kind_81 : decode cX5_kind 81 = .ok (.aload 6, 2) := by decide +kernel
theorem dX5_kind_83 : decode cX5_kind 83 = .ok (.getfield 124, 3) := by decide +kernel
theorem dX5_kind_86 : decode cX5_kind 86 = .ok (.iload_n 1, 1) := by decide +kernel
theorem dX5_kind_87 : decode cX5_kind 87 = .ok (.iaload, 1) := by decide +kernel
theorem dX5_kind_88 : decode cX5_kind 88 = .ok (.istore 4, 2) := by decide +kernel
theorem dX5_kind_90 : decode cX5_kind 90 = .ok (.iinc 5 1, 3) := by decide +kernel
theorem dX5_kind_93 : decode cX5_kind 93 = .ok (.goto (-56), 3) := by decide +kernel
theorem dX5_kind_96 : decode cX5_kind 96 = .ok (.iload_n 3, 1) := by decide +kernel
theorem dX5_kind_97 : decode cX5_kind 97 = .ok (.ireturn, 1) := by decide +kernel
theorem dX5_let_0 : decode cX5_let 0 = .ok (.iload_n 1, 1) := by decide +kernel
theorem dX5_let_1 : decode cX5_let 1 = .ok (.iconst 1, 1) := by decide +kernel
theorem dX5_let_2 : decode cX5_let 2 = .ok (.bipush 26, 2) := by decide +kernel
theorem dX5_let_4 : decode cX5_let 4 = .ok (.invokestatic 44, 3) := by decide +kernel
theorem dX5_let_7 : decode cX5_let 7 = .ok (.ifCond .ne 10, 3) := by decide +kernel
theorem dX5_let_10 : decode cX5_let 10 = .ok (.aload_n 0, 1) := by decide +kernel
theorem dX5_let_11 : decode cX5_let 11 = .ok (.ldc 51, 2) := by decide +kernel
theorem dX5_let_13 : decode cX5_let 13 = .ok (.invokevirtual 52, 3) := by decide +kernel
theorem dX5_let_16 : decode cX5_let 16 = .ok (.ireturn, 1) := by decide +kernel
theorem dX5_let_17 : decode cX5_let 17 = .ok (.iconst 0, 1) := by decide +kernel
theorem dX5_let_18 : decode cX5_let 18 = .ok (.istore_n 2, 1) := by decide +kernel
theorem dX5_let_19 : decode cX5_let 19 = .ok (.sipush 793, 3) := by decide +kernel
theorem dX5_let_22 : decode cX5_let 22 = .ok (.istore_n 3, 1) := by decide +kernel
theorem dX5_let_23 : decode cX5_let 23 = .ok (.iconst 0, 1) := by decide +kernel
theorem dX5_let_24 : decode cX5_let 24 = .ok (.istore 4, 2) := by decide +kernel
theorem dX5_let_26 : decode cX5_let 26 = .ok (.iload 4, 2) := by decide +kernel
theorem dX5_let_28 : decode cX5_let 28 = .ok (.bipush 64, 2) := by decide +kernel
theorem dX5_let_30 : decode cX5_let 30 = .ok (.if_icmp .ge 45, 3) := by decide +kernel
theorem dX5_let_33 : decode cX5_let 33 = .ok (.aload_n 0, 1) := by decide +kernel
theorem dX5_let_34 : decode cX5_let 34 = .ok (.invokevirtual 171, 3) := by decide +kernel
theorem dX5_let_37 : decode cX5_let 37 = .ok (.astore 5, 2) := by decide +kernel
theorem dX5_let_39 : decode cX5_let 39 = .ok (.aload 5, 2) := by decide +kernel
theorem dX5_let_41 : decode cX5_let 41 = .ok (.iload 4, 2) := by decide +kernel
theorem dX5_let_43 : decode cX5_let 43 = .ok (.invokevirtual 193, 3) := by decide +kernel
theorem dX5_let_46 : decode cX5_let 46 = .ok (.aload 5, 2) := by decide +kernel
theorem dX5_let_48 : decode cX5_let 48 = .ok (.iload_n 1, 1) := by decide +kernel
theorem dX5_let_49 : decode cX5_let 49 = .ok (.invokevirtual 146, 3) := by decide +kernel
theorem dX5_let_52 : decode cX5_let 52 = .ok (.invokevirtual 168, 3) := by decide +kernel
theorem dX5_let_55 : decode cX5_let 55 = .ok (.istore 6, 2) := by decide +kernel
theorem dX5_let_57 : decode cX5_let 57 = .ok (.iload 6, 2) := by decide +kernel
theorem dX5_let_59 : decode cX5_let 59 = .ok (.iload_n 3, 1) := by decide +kernel
theorem dX5_let_60 : decode cX5_let 60 = .ok (.if_icmp .ge 9, 3) := by decide +kernel
theorem dX5_let_63 : decode cX5_let 63 = .ok (.iload 4, 2) := by decide +kernel
theorem dX5_let_65 : decode cX5_let 65 = .ok (.istore_n 2, 1) := by decide +kernel
theorem dX5_let_66 : decode cX5_let 66 = .ok (.iload 6, 2) := by decide +kernel
theorem dX5_let_68 : decode cX5_let 68 = .ok (.istore_n 3, 1) := by decide +kernel
theorem dX5_let_69 : decode cX5_let 69 = .ok (.iinc 4 1, 3) := by decide +kernel
theorem dX5_let_72 : decode cX5_let 72 = .ok (.goto (-46), 3) := by decide +kernel
theorem dX5_let_75 : decode cX5_let 75 = .ok (.iload_n 2, 1) := by decide +kernel
theorem dX5_let_76 : decode cX5_let 76 = .ok (.ireturn, 1) := by decide +kernel
theorem dX5_worst_0 : decode cX5_worst 0 = .ok (.iload_n 1, 1) := by decide +kernel
theorem dX5_worst_1 : decode cX5_worst 1 = .ok (.iconst 0, 1) := by decide +kernel
theorem dX5_worst_2 : decode cX5_worst 2 = .ok (.bipush 104, 2) := by decide +kernel
theorem dX5_worst_4 : decode cX5_worst 4 = .ok (.invokestatic 44, 3) := by decide +kernel
theorem dX5_worst_7 : decode cX5_worst 7 = .ok (.ifCond .ne 10, 3) := by decide +kernel
theorem dX5_worst_10 : decode cX5_worst 10 = .ok (.aload_n 0, 1) := by decide +kernel
theorem dX5_worst_11 : decode cX5_worst 11 = .ok (.ldc 51, 2) := by decide +kernel
theorem dX5_worst_13 : decode cX5_worst 13 = .ok (.invokevirtual 52, 3) := by decide +kernel
theorem dX5_worst_16 : decode cX5_worst 16 = .ok (.ireturn, 1) := by decide +kernel
theorem dX5_worst_17 : decode cX5_worst 17 = .ok (.aload_n 0, 1) := by decide +kernel
theorem dX5_worst_18 : decode cX5_worst 18 = .ok (.invokevirtual 171, 3) := by decide +kernel
theorem dX5_worst_21 : decode cX5_worst 21 = .ok (.iload_n 1, 1) := by decide +kernel
theorem dX5_worst_22 : decode cX5_worst 22 = .ok (.invokevirtual 146, 3) := by decide +kernel
theorem dX5_worst_25 : decode cX5_worst 25 = .ok (.astore_n 2, 1) := by decide +kernel
theorem dX5_worst_26 : decode cX5_worst 26 = .ok (.iconst 0, 1) := by decide +kernel
theorem dX5_worst_27 : decode cX5_worst 27 = .ok (.istore_n 3, 1) := by decide +kernel
theorem dX5_worst_28 : decode cX5_worst 28 = .ok (.iconst 1, 1) := by decide +kernel
theorem dX5_worst_29 : decode cX5_worst 29 = .ok (.istore 4, 2) := by decide +kernel
theorem dX5_worst_31 : decode cX5_worst 31 = .ok (.iload 4, 2) := by decide +kernel
theorem dX5_worst_33 : decode cX5_worst 33 = .ok (.bipush 6, 2) := by decide +kernel
theorem dX5_worst_35 : decode cX5_worst 35 = .ok (.if_icmp .ge 26, 3) := by decide +kernel
theorem dX5_worst_38 : decode cX5_worst 38 = .ok (.aload_n 2, 1) := by decide +kernel
theorem dX5_worst_39 : decode cX5_worst 39 = .ok (.iload 4, 2) := by decide +kernel
theorem dX5_worst_41 : decode cX5_worst 41 = .ok (.invokevirtual 197, 3) := by decide +kernel
theorem dX5_worst_44 : decode cX5_worst 44 = .ok (.aload_n 2, 1) := by decide +kernel
theorem dX5_worst_45 : decode cX5_worst 45 = .ok (.iload_n 3, 1) := by decide +kernel
theorem dX5_worst_46 : decode cX5_worst 46 = .ok (.invokevirtual 197, 3) := by decide +kernel
theorem dX5_worst_49 : decode cX5_worst 49 = .ok (.if_icmp .le 6, 3) := by decide +kernel
theorem dX5_worst_52 : decode cX5_worst 52 = .ok (.iload 4, 2) := by decide +kernel
theorem dX5_worst_54 : decode cX5_worst 54 = .ok (.istore_n 3, 1) := by decide +kernel
theorem dX5_worst_55 : decode cX5_worst 55 = .ok (.iinc 4 1, 3) := by decide +kernel
theorem dX5_worst_58 : decode cX5_worst 58 = .ok (.goto (-27), 3) := by decide +kernel
theorem dX5_worst_61 : decode cX5_worst 61 = .ok (.iload_n 3, 1) := by decide +kernel
theorem dX5_worst_62 : decode cX5_worst 62 = .ok (.ireturn, 1) := by decide +kernel
theorem dX5_feed_0 : decode cX5_feed 0 = .ok (.iload_n 2, 1) := by decide +kernel
theorem dX5_feed_1 : decode cX5_feed 1 = .ok (.iconst 1, 1) := by decide +kernel
theorem dX5_feed_2 : decode cX5_feed 2 = .ok (.iconst 4, 1) := by decide +kernel
theorem dX5_feed_3 : decode cX5_feed 3 = .ok (.invokestatic 44, 3) := by decide +kernel
theorem dX5_feed_6 : decode cX5_feed 6 = .ok (.ifCond .ne 10, 3) := by decide +kernel
theorem dX5_feed_9 : decode cX5_feed 9 = .ok (.aload_n 0, 1) := by decide +kernel
theorem dX5_feed_10 : decode cX5_feed 10 = .ok (.ldc 51, 2) := by decide +kernel
theorem dX5_feed_12 : decode cX5_feed 12 = .ok (.invokevirtual 52, 3) := by decide +kernel
theorem dX5_feed_15 : decode cX5_feed 15 = .ok (.ireturn, 1) := by decide +kernel
theorem dX5_feed_16 : decode cX5_feed 16 = .ok (.aload_n 0, 1) := by decide +kernel
theorem dX5_feed_17 : decode cX5_feed 17 = .ok (.getfield 29, 3) := by decide +kernel
theorem dX5_feed_20 : decode cX5_feed 20 = .ok (.getfield 200, 3) := by decide +kernel
theorem dX5_feed_23 : decode cX5_feed 23 = .ok (.iload_n 2, 1) := by decide +kernel
theorem dX5_feed_24 : decode cX5_feed 24 = .ok (.iadd, 1) := by decide +kernel
theorem dX5_feed_25 : decode cX5_feed 25 = .ok (.bipush 120, 2) := by decide +kernel
theorem dX5_feed_27 : decode cX5_feed 27 = .ok (.if_icmp .le 10, 3) := by decide +kernel
theorem dX5_feed_30 : decode cX5_feed 30 = .ok (.aload_n 0, 1) := by decide +kernel
theorem dX5_feed_31 : decode cX5_feed 31 = .ok (.ldc 91, 2) := by decide +kernel
theorem dX5_feed_33 : decode cX5_feed 33 = .ok (.invokevirtual 52, 3) := by decide +kernel
theorem dX5_feed_36 : decode cX5_feed 36 = .ok (.ireturn, 1) := by decide +kernel
theorem dX5_feed_37 : decode cX5_feed 37 = .ok (.iload_n 2, 1) := by decide +kernel
theorem dX5_feed_38 : decode cX5_feed 38 = .ok (.iconst 1, 1) := by decide +kernel
theorem dX5_feed_39 : decode cX5_feed 39 = .ok (.isub, 1) := by decide +kernel
theorem dX5_feed_40 : decode cX5_feed 40 = .ok (.istore_n 3, 1) := by decide +kernel
theorem dX5_feed_41 : decode cX5_feed 41 = .ok (.iload_n 3, 1) := by decide +kernel
theorem dX5_feed_42 : decode cX5_feed 42 = .ok (.ifCond .lt 26, 3) := by decide +kernel
theorem dX5_feed_45 : decode cX5_feed 45 = .ok (.aload_n 0, 1) := by decide +kernel
theorem dX5_feed_46 : decode cX5_feed 46 = .ok (.getfield 29, 3) := by decide +kernel
theorem dX5_feed_49 : decode cX5_feed 49 = .ok (.iload_n 1, 1) := by decide +kernel
theorem dX5_feed_50 : decode cX5_feed 50 = .ok (.bipush 8, 2) := by decide +kernel
theorem dX5_feed_52 : decode cX5_feed 52 = .ok (.iload_n 3, 1) := by decide +kernel
theorem dX5_feed_53 : decode cX5_feed 53 = .ok (.imul, 1) := by decide +kernel
theorem dX5_feed_54 : decode cX5_feed 54 = .ok (.ishr, 1) := by decide +kernel
theorem dX5_feed_55 : decode cX5_feed 55 = .ok (.sipush 255, 3) := by decide +kernel
theorem dX5_feed_58 : decode cX5_feed 58 = .ok (.iand, 1) := by decide +kernel
theorem dX5_feed_59 : decode cX5_feed 59 = .ok (.invokevirtual 203, 3) := by decide +kernel
theorem dX5_feed_62 : decode cX5_feed 62 = .ok (.iinc 3 (-1), 3) := by decide +kernel
theorem dX5_feed_65 : decode cX5_feed 65 = .ok (.goto (-24), 3) := by decide +kernel
theorem dX5_feed_68 : decode cX5_feed 68 = .ok (.aload_n 0, 1) := by decide +kernel
theorem dX5_feed_69 : decode cX5_feed 69 = .ok (.getfield 29, 3) := by decide +kernel
theorem dX5_feed_72 : decode cX5_feed 72 = .ok (.getfield 200, 3) := by decide +kernel
theorem dX5_feed_75 : decode cX5_feed 75 = .ok (.ireturn, 1) := by decide +kernel
theorem dX5_wipe_0 : decode cX5_wipe 0 = .ok (.aload_n 0, 1) := by decide +kernel
theorem dX5_wipe_1 : decode cX5_wipe 1 = .ok (.getfield 29, 3) := by decide +kernel
theorem dX5_wipe_4 : decode cX5_wipe 4 = .ok (.invokevirtual 206, 3) := by decide +kernel
theorem dX5_wipe_7 : decode cX5_wipe 7 = .ok (.ireturn, 1) := by decide +kernel
theorem dX5_text_0 : decode cX5_text 0 = .ok (.aload_n 0, 1) := by decide +kernel
theorem dX5_text_1 : decode cX5_text 1 = .ok (.invokevirtual 171, 3) := by decide +kernel
theorem dX5_text_4 : decode cX5_text 4 = .ok (.astore_n 1, 1) := by decide +kernel
theorem dX5_text_5 : decode cX5_text 5 = .ok (.aload_n 0, 1) := by decide +kernel
theorem dX5_text_6 : decode cX5_text 6 = .ok (.getfield 29, 3) := by decide +kernel
theorem dX5_text_9 : decode cX5_text 9 = .ok (.aload_n 1, 1) := by decide +kernel
theorem dX5_text_10 : decode cX5_text 10 = .ok (.invokestatic 209, 3) := by decide +kernel
theorem dX5_text_13 : decode cX5_text 13 = .ok (.istore_n 2, 1) := by decide +kernel
theorem dX5_text_14 : decode cX5_text 14 = .ok (.aload_n 0, 1) := by decide +kernel
theorem dX5_text_15 : decode cX5_text 15 = .ok (.getfield 29, 3) := by decide +kernel
theorem dX5_text_18 : decode cX5_text 18 = .ok (.invokevirtual 206, 3) := by decide +kernel
theorem dX5_text_21 : decode cX5_text 21 = .ok (.pop, 1) := by decide +kernel
theorem dX5_text_22 : decode cX5_text 22 = .ok (.iload_n 2, 1) := by decide +kernel
theorem dX5_text_23 : decode cX5_text 23 = .ok (.ifCond .le 11, 3) := by decide +kernel
theorem dX5_text_26 : decode cX5_text 26 = .ok (.aload_n 0, 1) := by decide +kernel
theorem dX5_text_27 : decode cX5_text 27 = .ok (.getfield 10, 3) := by decide +kernel
theorem dX5_text_30 : decode cX5_text 30 = .ok (.aload_n 1, 1) := by decide +kernel
theorem dX5_text_31 : decode cX5_text 31 = .ok (.invokevirtual 215, 3) := by decide +kernel
theorem dX5_text_34 : decode cX5_text 34 = .ok (.iload_n 2, 1) := by decide +kernel
theorem dX5_text_35 : decode cX5_text 35 = .ok (.ireturn, 1) := by decide +kernel
theorem dX5_sheet_0 : decode cX5_sheet 0 = .ok (.aload_n 0, 1) := by decide +kernel
theorem dX5_sheet_1 : decode cX5_sheet 1 = .ok (.iload_n 1, 1) := by decide +kernel
theorem dX5_sheet_2 : decode cX5_sheet 2 = .ok (.invokevirtual 219, 3) := by decide +kernel
theorem dX5_sheet_5 : decode cX5_sheet 5 = .ok (.astore 4, 2) := by decide +kernel
theorem dX5_sheet_7 : decode cX5_sheet 7 = .ok (.aload 4, 2) := by decide +kernel
theorem dX5_sheet_9 : decode cX5_sheet 9 = .ok (.ifnull 25, 3) := by decide +kernel
theorem dX5_sheet_12 : decode cX5_sheet 12 = .ok (.iload_n 2, 1) := by decide +kernel
theorem dX5_sheet_13 : decode cX5_sheet 13 = .ok (.ifCond .eq 28, 3) := by decide +kernel
theorem dX5_sheet_16 : decode cX5_sheet 16 = .ok (.iload_n 2, 1) := by decide +kernel
theorem dX5_sheet_17 : decode cX5_sheet 17 = .ok (.bipush 8, 2) := by decide +kernel
theorem dX5_sheet_19 : decode cX5_sheet 19 = .ok (.if_icmp .eq 22, 3) := by decide +kernel
theorem dX5_sheet_22 : decode cX5_sheet 22 = .ok (.iload_n 2, 1) := by decide +kernel
theorem dX5_sheet_23 : decode cX5_sheet 23 = .ok (.bipush 16, 2) := by decide +kernel
theorem dX5_sheet_25 : decode cX5_sheet 25 = .ok (.if_icmp .eq 16, 3) := by decide +kernel
theorem dX5_sheet_28 : decode cX5_sheet 28 = .ok (.iload_n 2, 1) := by decide +kernel
theorem dX5_sheet_29 : decode cX5_sheet 29 = .ok (.bipush 64, 2) := by decide +kernel
theorem dX5_sheet_31 : decode cX5_sheet 31 = .ok (.if_icmp .eq 10, 3) := by decide +kernel
theorem dX5_sheet_34 : decode cX5_sheet 34 = .ok (.aload_n 0, 1) := by decide +kernel
theorem dX5_sheet_35 : decode cX5_sheet 35 = .ok (.ldc 51, 2) := by decide +kernel
theorem dX5_sheet_37 : decode cX5_sheet 37 = .ok (.invokevirtual 52, 3) := by decide +kernel
theorem dX5_sheet_40 : decode cX5_sheet 40 = .ok (.ireturn, 1) := by decide +kernel
theorem dX5_sheet_41 : decode cX5_sheet 41 = .ok (.iload_n 3, 1) := by decide +kernel
theorem dX5_sheet_42 : decode cX5_sheet 42 = .ok (.ifCond .ge 10, 3) := by decide +kernel
theorem dX5_sheet_45 : decode cX5_sheet 45 = .ok (.aload_n 0, 1) := by decide +kernel
theorem dX5_sheet_46 : decode cX5_sheet 46 = .ok (.ldc 223, 2) := by decide +kernel
theorem dX5_sheet_48 : decode cX5_sheet 48 = .ok (.invokevirtual 52, 3) := by decide +kernel
theorem dX5_sheet_51 : decode cX5_sheet 51 = .ok (.ireturn, 1) := by decide +kernel
theorem dX5_sheet_52 : decode cX5_sheet 52 = .ok (.iload_n 3, 1) := by decide +kernel
theorem dX5_sheet_53 : decode cX5_sheet 53 = .ok (.bipush 40, 2) := by decide +kernel
theorem dX5_sheet_55 : decode cX5_sheet 55 = .ok (.if_icmp .le 10, 3) := by decide +kernel
theorem dX5_sheet_58 : decode cX5_sheet 58 = .ok (.aload_n 0, 1) := by decide +kernel
theorem dX5_sheet_59 : decode cX5_sheet 59 = .ok (.ldc 51, 2) := by decide +kernel
theorem dX5_sheet_61 : decode cX5_sheet 61 = .ok (.invokevirtual 52, 3) := by decide +kernel
theorem dX5_sheet_64 : decode cX5_sheet 64 = .ok (.ireturn, 1) := by decide +kernel
theorem dX5_sheet_65 : decode cX5_sheet 65 = .ok (.aload 4, 2) := by decide +kernel
theorem dX5_sheet_67 : decode cX5_sheet 67 = .ok (.iload_n 2, 1) := by decide +kernel
theorem dX5_sheet_68 : decode cX5_sheet 68 = .ok (.iload_n 2, 1) := by decide +kernel
theorem dX5_sheet_69 : decode cX5_sheet 69 = .ok (.ifCond .ne 7, 3) := by decide +kernel
theorem dX5_sheet_72 : decode cX5_sheet 72 = .ok (.iconst 0, 1) := by decide +kernel
theorem dX5_sheet_73 : decode cX5_sheet 73 = .ok (.goto 4, 3) := by decide +kernel
theorem dX5_sheet_76 : decode cX5_sheet 76 = .ok (.iload_n 3, 1) := by decide +kernel
theorem dX5_sheet_77 : decode cX5_sheet 77 = .ok (.invokevirtual 224, 3) := by decide +kernel
theorem dX5_sheet_80 : decode cX5_sheet 80 = .ok (.aload 4, 2) := by decide +kernel
theorem dX5_sheet_82 : decode cX5_sheet 82 = .ok (.getfield 227, 3) := by decide +kernel
theorem dX5_sheet_85 : decode cX5_sheet 85 = .ok (.ireturn, 1) := by decide +kernel
theorem dX5_write_0 : decode cX5_write 0 = .ok (.aload_n 0, 1) := by decide +kernel
theorem dX5_write_1 : decode cX5_write 1 = .ok (.iload_n 1, 1) := by decide +kernel
theorem dX5_write_2 : decode cX5_write 2 = .ok (.invokevirtual 219, 3) := by decide +kernel
theorem dX5_write_5 : decode cX5_write 5 = .ok (.astore 5, 2) := by decide +kernel
theorem dX5_write_7 : decode cX5_write 7 = .ok (.aload 5, 2) := by decide +kernel
theorem dX5_write_9 : decode cX5_write 9 = .ok (.ifnonnull 11, 3) := by decide +kernel
theorem dX5_write_12 : decode cX5_write 12 = .ok (.aload_n 0, 1) := by decide +kernel
theorem dX5_write_13 : decode cX5_write 13 = .ok (.ldc 51, 2) := by decide +kernel
theorem dX5_write_15 : decode cX5_write 15 = .ok (.invokevirtual 52, 3) := by decide +kernel
theorem dX5_write_18 : decode cX5_write 18 = .ok (.i2l, 1) := by decide +kernel
theorem dX5_write_19 : decode cX5_write 19 = .ok (.lreturn, 1) := by decide +kernel
theorem dX5_write_20 : decode cX5_write 20 = .ok (.aload 5, 2) := by decide +kernel
theorem dX5_write_22 : decode cX5_write 22 = .ok (.invokevirtual 228, 3) := by decide +kernel
theorem dX5_write_25 : decode cX5_write 25 = .ok (.ifCond .eq 11, 3) := by decide +kernel
theorem dX5_write_28 : decode cX5_write 28 = .ok (.aload_n 0, 1) := by decide +kernel
theorem dX5_write_29 : decode cX5_write 29 = .ok (.ldc 231, 2) := by decide +kernel
theorem dX5_write_31 : decode cX5_write 31 = .ok (.invokevirtual 52, 3) := by decide +kernel
theorem dX5_write_34 : decode cX5_write 34 = .ok (.i2l, 1) := by decide +kernel
theorem dX5_write_35 : decode cX5_write 35 = .ok (.lreturn, 1) := by decide +kernel
theorem dX5_write_36 : decode cX5_write 36 = .ok (.iload_n 2, 1) := by decide +kernel
theorem dX5_write_37 : decode cX5_write 37 = .ok (.iconst 0, 1) := by decide +kernel
theorem dX5_write_38 : decode cX5_write 38 = .ok (.aload 5, 2) := by decide +kernel
theorem dX5_write_40 : decode cX5_write 40 = .ok (.getfield 227, 3) := by decide +kernel
theorem dX5_write_43 : decode cX5_write 43 = .ok (.iconst 1, 1) := by decide +kernel
theorem dX5_write_44 : decode cX5_write 44 = .ok (.isub, 1) := by decide +kernel
theorem dX5_write_45 : decode cX5_write 45 = .ok (.invokestatic 44, 3) := by decide +kernel
theorem dX5_write_48 : decode cX5_write 48 = .ok (.ifCond .ne 11, 3) := by decide +kernel
theorem dX5_write_51 : decode cX5_write 51 = .ok (.aload_n 0, 1) := by decide +kernel
theorem dX5_write_52 : decode cX5_write 52 = .ok (.ldc 51, 2) := by decide +kernel
theorem dX5_write_54 : decode cX5_write 54 = .ok (.invokevirtual 52, 3) := by decide +kernel
theorem dX5_write_57 : decode cX5_write 57 = .ok (.i2l, 1) := by decide +kernel
theorem dX5_write_58 : decode cX5_write 58 = .ok (.lreturn, 1) := by decide +kernel
theorem dX5_write_59 : decode cX5_write 59 = .ok (.aload 5, 2) := by decide +kernel
theorem dX5_write_61 : decode cX5_write 61 = .ok (.getfield 232, 3) := by decide +kernel
theorem dX5_write_64 : decode cX5_write 64 = .ok (.iload_n 2, 1) := by decide +kernel
theorem dX5_write_65 : decode cX5_write 65 = .ok (.laload, 1) := by decide +kernel
theorem dX5_write_66 : decode cX5_write 66 = .ok (.lstore 6, 2) := by decide +kernel
theorem dX5_write_68 : decode cX5_write 68 = .ok (.aload 5, 2) := by decide +kernel
theorem dX5_write_70 : decode cX5_write 70 = .ok (.iload_n 2, 1) := by decide +kernel
theorem dX5_write_71 : decode cX5_write 71 = .ok (.lload_n 3, 1) := by decide +kernel
theorem dX5_write_72 : decode cX5_write 72 = .ok (.invokevirtual 236, 3) := by decide +kernel
theorem dX5_write_75 : decode cX5_write 75 = .ok (.lload 6, 2) := by decide +kernel
theorem dX5_write_77 : decode cX5_write 77 = .ok (.lreturn, 1) := by decide +kernel
theorem dX5_copy_0 : decode cX5_copy 0 = .ok (.aload_n 0, 1) := by decide +kernel
theorem dX5_copy_1 : decode cX5_copy 1 = .ok (.iload_n 1, 1) := by decide +kernel
theorem dX5_copy_2 : decode cX5_copy 2 = .ok (.invokevirtual 219, 3) := by decide +kernel
theorem dX5_copy_5 : decode cX5_copy 5 = .ok (.astore 6, 2) := by decide +kernel
theorem dX5_copy_7 : decode cX5_copy 7 = .ok (.aload_n 0, 1) := by decide +kernel
theorem dX5_copy_8 : decode cX5_copy 8 = .ok (.iload_n 3, 1) := by decide +kernel
theorem dX5_copy_9 : decode cX5_copy 9 = .ok (.invokevirtual 219, 3) := by decide +kernel
theorem dX5_copy_12 : decode cX5_copy 12 = .ok (.astore 7, 2) := by decide +kernel
theorem dX5_copy_14 : decode cX5_copy 14 = .ok (.aload 6, 2) := by decide +kernel
theorem dX5_copy_16 : decode cX5_copy 16 = .ok (.ifnull 8, 3) := by decide +kernel
theorem dX5_copy_19 : decode cX5_copy 19 = .ok (.aload 7, 2) := by decide +kernel
theorem dX5_copy_21 : decode cX5_copy 21 = .ok (.ifnonnull 10, 3) := by decide +kernel
theorem dX5_copy_24 : decode cX5_copy 24 = .ok (.aload_n 0, 1) := by decide +kernel
theorem dX5_copy_25 : decode cX5_copy 25 = .ok (.ldc 51, 2) := by decide +kernel
theorem dX5_copy_27 : decode cX5_copy 27 = .ok (.invokevirtual 52, 3) := by decide +kernel
theorem dX5_copy_30 : decode cX5_copy 30 = .ok (.ireturn, 1) := by decide +kernel
theorem dX5_copy_31 : decode cX5_copy 31 = .ok (.aload 6, 2) := by decide +kernel
theorem dX5_copy_33 : decode cX5_copy 33 = .ok (.invokevirtual 228, 3) := by decide +kernel
theorem dX5_copy_36 : decode cX5_copy 36 = .ok (.ifCond .ne 11, 3) := by decide +kernel
theorem dX5_copy_39 : decode cX5_copy 39 = .ok (.aload 7, 2) := by decide +kernel
theorem dX5_copy_41 : decode cX5_copy 41 = .ok (.invokevirtual 228, 3) := by decide +kernel
theorem dX5_copy_44 : decode cX5_copy 44 = .ok (.ifCond .eq 10, 3) := by decide +kernel
theorem dX5_copy_47 : decode cX5_copy 47 = .ok (.aload_n 0, 1) := by decide +kernel
theorem dX5_copy_48 : decode cX5_copy 48 = .ok (.ldc 231, 2) := by decide +kernel
theorem dX5_copy_50 : decode cX5_copy 50 = .ok (.invokevirtual 52, 3) := by decide +kernel
theorem dX5_copy_53 : decode cX5_copy 53 = .ok (.ireturn, 1) := by decide +kernel
theorem dX5_copy_54 : decode cX5_copy 54 = .ok (.aload 6, 2) := by decide +kernel
theorem dX5_copy_56 : decode cX5_copy 56 = .ok (.getfield 239, 3) := by decide +kernel
theorem dX5_copy_59 : decode cX5_copy 59 = .ok (.aload 7, 2) := by decide +kernel
theorem dX5_copy_61 : decode cX5_copy 61 = .ok (.getfield 239, 3) := by decide +kernel
theorem dX5_copy_64 : decode cX5_copy 64 = .ok (.if_icmp .eq 10, 3) := by decide +kernel
theorem dX5_copy_67 : decode cX5_copy 67 = .ok (.aload_n 0, 1) := by decide +kernel
theorem dX5_copy_68 : decode cX5_copy 68 = .ok (.ldc 123, 2) := by decide +kernel
theorem dX5_copy_70 : decode cX5_copy 70 = .ok (.invokevirtual 52, 3) := by decide +kernel
theorem dX5_copy_73 : decode cX5_copy 73 = .ok (.ireturn, 1) := by decide +kernel
theorem dX5_copy_74 : decode cX5_copy 74 = .ok (.aload 6, 2) := by decide +kernel
theorem dX5_copy_76 : decode cX5_copy 76 = .ok (.iload_n 2, 1) := by decide +kernel
theorem dX5_copy_77 : decode cX5_copy 77 = .ok (.iload 5, 2) := by decide +kernel
theorem dX5_copy_79 : decode cX5_copy 79 = .ok (.invokevirtual 242, 3) := by decide +kernel
theorem dX5_copy_82 : decode cX5_copy 82 = .ok (.ifCond .eq 15, 3) := by decide +kernel
theorem dX5_copy_85 : decode cX5_copy 85 = .ok (.aload 7, 2) := by decide +kernel
theorem dX5_copy_87 : decode cX5_copy 87 = .ok (.iload 4, 2) := by decide +kernel
theorem dX5_copy_89 : decode cX5_copy 89 = .ok (.iload 5, 2) := by decide +kernel
theorem dX5_copy_91 : decode cX5_copy 91 = .ok (.invokevirtual 242, 3) := by decide +kernel
theorem dX5_copy_94 : decode cX5_copy 94 = .ok (.ifCond .ne 10, 3) := by decide +kernel
theorem dX5_copy_97 : decode cX5_copy 97 = .ok (.aload_n 0, 1) := by decide +kernel
theorem dX5_copy_98 : decode cX5_copy 98 = .ok (.ldc 51, 2) := by decide +kernel
theorem dX5_copy_100 : decode cX5_copy 100 = .ok (.invokevirtual 52, 3) := by decide +kernel
theorem dX5_copy_103 : decode cX5_copy 103 = .ok (.ireturn, 1) := by decide +kernel
theorem dX5_copy_104 : decode cX5_copy 104 = .ok (.aload 6, 2) := by decide +kernel
theorem dX5_copy_106 : decode cX5_copy 106 = .ok (.getfield 232, 3) := by decide +kernel
theorem dX5_copy_109 : decode cX5_copy 109 = .ok (.iload_n 2, 1) := by decide +kernel
theorem dX5_copy_110 : decode cX5_copy 110 = .ok (.aload 7, 2) := by decide +kernel
theorem dX5_copy_112 : decode cX5_copy 112 = .ok (.getfield 232, 3) := by decide +kernel
theorem dX5_copy_115 : decode cX5_copy 115 = .ok (.iload 4, 2) := by decide +kernel
theorem dX5_copy_117 : decode cX5_copy 117 = .ok (.iload 5, 2) := by decide +kernel
theorem dX5_copy_119 : decode cX5_copy 119 = .ok (.invokestatic 245, 3) := by decide +kernel
theorem dX5_copy_122 : decode cX5_copy 122 = .ok (.iload 5, 2) := by decide +kernel
theorem dX5_copy_124 : decode cX5_copy 124 = .ok (.ireturn, 1) := by decide +kernel
theorem dX5_lays_0 : decode cX5_lays 0 = .ok (.aload_n 0, 1) := by decide +kernel
theorem dX5_lays_1 : decode cX5_lays 1 = .ok (.iload_n 1, 1) := by decide +kernel
theorem dX5_lays_2 : decode cX5_lays 2 = .ok (.invokevirtual 219, 3) := by decide +kernel
theorem dX5_lays_5 : decode cX5_lays 5 = .ok (.astore_n 2, 1) := by decide +kernel
theorem dX5_lays_6 : decode cX5_lays 6 = .ok (.aload_n 2, 1) := by decide +kernel
theorem dX5_lays_7 : decode cX5_lays 7 = .ok (.ifnonnull 10, 3) := by decide +kernel
theorem dX5_lays_10 : decode cX5_lays 10 = .ok (.aload_n 0, 1) := by decide +kernel
theorem dX5_lays_11 : decode cX5_lays 11 = .ok (.ldc 51, 2) := by decide +kernel
theorem dX5_lays_13 : decode cX5_lays 13 = .ok (.invokevirtual 52, 3) := by decide +kernel
theorem dX5_lays_16 : decode cX5_lays 16 = .ok (.ireturn, 1) := by decide +kernel
theorem dX5_lays_17 : decode cX5_lays 17 = .ok (.aload_n 2, 1) := by decide +kernel
theorem dX5_lays_18 : decode cX5_lays 18 = .ok (.invokevirtual 228, 3) := by decide +kernel
theorem dX5_lays_21 : decode cX5_lays 21 = .ok (.ifCond .eq 10, 3) := by decide +kernel
theorem dX5_lays_24 : decode cX5_lays 24 = .ok (.aload_n 0, 1) := by decide +kernel
theorem dX5_lays_25 : decode cX5_lays 25 = .ok (.ldc 231, 2) := by decide +kernel
theorem dX5_lays_27 : decode cX5_lays 27 = .ok (.invokevirtual 52, 3) := by decide +kernel
theorem dX5_lays_30 : decode cX5_lays 30 = .ok (.ireturn, 1) := by decide +kernel
theorem dX5_lays_31 : decode cX5_lays 31 = .ok (.iconst 0, 1) := by decide +kernel
theorem dX5_lays_32 : decode cX5_lays 32 = .ok (.istore_n 3, 1) := by decide +kernel
theorem dX5_lays_33 : decode cX5_lays 33 = .ok (.iconst 0, 1) := by decide +kernel
theorem dX5_lays_34 : decode cX5_lays 34 = .ok (.istore 4, 2) := by decide +kernel
theorem dX5_lays_36 : decode cX5_lays 36 = .ok (.iload 4, 2) := by decide +kernel
theorem dX5_lays_38 : decode cX5_lays 38 = .ok (.aload_n 2, 1) := by decide +kernel
theorem dX5_lays_39 : decode cX5_lays 39 = .ok (.getfield 227, 3) := by decide +kernel
theorem dX5_lays_42 : decode cX5_lays 42 = .ok (.if_icmp .ge 57, 3) := by decide +kernel
theorem dX5_lays_45 : decode cX5_lays 45 = .ok (.iload 4, 2) := by decide +kernel
theorem dX5_lays_47 : decode cX5_lays 47 = .ok (.bipush 6, 2) := by decide +kernel
theorem dX5_lays_49 : decode cX5_lays 49 = .ok (.if_icmp .ge 50, 3) := by decide +kernel
theorem dX5_lays_52 : decode cX5_lays 52 = .ok (.aload_n 2, 1) := by decide +kernel
theorem dX5_lays_53 : decode cX5_lays 53 = .ok (.getfield 232, 3) := by decide +kernel
theorem dX5_lays_56 : decode cX5_lays 56 = .ok (.iload 4, 2) := by decide +kernel
theorem dX5_lays_58 : decode cX5_lays 58 = .ok (.laload, 1) := by decide +kernel
theorem dX5_lays_59 : decode cX5_lays 59 = .ok (.lstore 5, 2) := by decide +kernel
theorem dX5_lays_61 : decode cX5_lays 61 = .ok (.lload 5, 2) := by decide +kernel
theorem dX5_lays_63 : decode cX5_lays 63 = .ok (.lconst 0, 1) := by decide +kernel
theorem dX5_lays_64 : decode cX5_lays 64 = .ok (.lcmp, 1) := by decide +kernel
theorem dX5_lays_65 : decode cX5_lays 65 = .ok (.ifCond .lt 28, 3) := by decide +kernel
theorem dX5_lays_68 : decode cX5_lays 68 = .ok (.lload 5, 2) := by decide +kernel
theorem dX5_lays_70 : decode cX5_lays 70 = .ok (.ldc2_w 251, 3) := by decide +kernel
theorem dX5_lays_73 : decode cX5_lays 73 = .ok (.lcmp, 1) := by decide +kernel
theorem dX5_lays_74 : decode cX5_lays 74 = .ok (.ifCond .gt 19, 3) := by decide +kernel
theorem dX5_lays_77 : decode cX5_lays 77 = .ok (.aload_n 0, 1) := by decide +kernel
theorem dX5_lays_78 : decode cX5_lays 78 = .ok (.getfield 10, 3) := by decide +kernel
theorem dX5_lays_81 : decode cX5_lays 81 = .ok (.getfield 67, 3) := by decide +kernel
theorem dX5_lays_84 : decode cX5_lays 84 = .ok (.iload 4, 2) := by decide +kernel
theorem dX5_lays_86 : decode cX5_lays 86 = .ok (.lload 5, 2) := by decide +kernel
theorem dX5_lays_88 : decode cX5_lays 88 = .ok (.l2i, 1) := by decide +kernel
theorem dX5_lays_89 : decode cX5_lays 89 = .ok (.iastore, 1) := by decide +kernel
theorem dX5_lays_90 : decode cX5_lays 90 = .ok (.iinc 3 1, 3) := by decide +kernel
theorem dX5_lays_93 : decode cX5_lays 93 = .ok (.iinc 4 1, 3) := by decide +kernel
theorem dX5_lays_96 : decode cX5_lays 96 = .ok (.goto (-60), 3) := by decide +kernel
theorem dX5_lays_99 : decode cX5_lays 99 = .ok (.iload_n 3, 1) := by decide +kernel
theorem dX5_lays_100 : decode cX5_lays 100 = .ok (.ireturn, 1) := by decide +kernel
theorem dX5_book_0 : decode cX5_book 0 = .ok (.aload_n 0, 1) := by decide +kernel
theorem dX5_book_1 : decode cX5_book 1 = .ok (.iload_n 1, 1) := by decide +kernel
theorem dX5_book_2 : decode cX5_book 2 = .ok (.invokevirtual 219, 3) := by decide +kernel
theorem dX5_book_5 : decode cX5_book 5 = .ok (.astore_n 3, 1) := by decide +kernel
theorem dX5_book_6 : decode cX5_book 6 = .ok (.aload_n 3, 1) := by decide +kernel
theorem dX5_book_7 : decode cX5_book 7 = .ok (.ifnonnull 10, 3) := by decide +kernel
theorem dX5_book_10 : decode cX5_book 10 = .ok (.aload_n 0, 1) := by decide +kernel
theorem dX5_book_11 : decode cX5_book 11 = .ok (.ldc 51, 2) := by decide +kernel
theorem dX5_book_13 : decode cX5_book 13 = .ok (.invokevirtual 52, 3) := by decide +kernel
theorem dX5_book_16 : decode cX5_book 16 = .ok (.ireturn, 1) := by decide +kernel
theorem dX5_book_17 : decode cX5_book 17 = .ok (.aload_n 3, 1) := by decide +kernel
theorem dX5_book_18 : decode cX5_book 18 = .ok (.invokevirtual 228, 3) := by decide +kernel
theorem dX5_book_21 : decode cX5_book 21 = .ok (.ifCond .eq 10, 3) := by decide +kernel
theorem dX5_book_24 : decode cX5_book 24 = .ok (.aload_n 0, 1) := by decide +kernel
theorem dX5_book_25 : decode cX5_book 25 = .ok (.ldc 231, 2) := by decide +kernel
theorem dX5_book_27 : decode cX5_book 27 = .ok (.invokevirtual 52, 3) := by decide +kernel
theorem dX5_book_30 : decode cX5_book 30 = .ok (.ireturn, 1) := by decide +kernel
theorem dX5_book_31 : decode cX5_book 31 = .ok (.aload_n 0, 1) := by decide +kernel
theorem dX5_book_32 : decode cX5_book 32 = .ok (.getfield 10, 3) := by decide +kernel
theorem dX5_book_35 : decode cX5_book 35 = .ok (.iload_n 2, 1) := by decide +kernel
theorem dX5_book_36 : decode cX5_book 36 = .ok (.invokevirtual 95, 3) := by decide +kernel
theorem dX5_book_39 : decode cX5_book 39 = .ok (.ifCond .ne 10, 3) := by decide +kernel
theorem dX5_book_42 : decode cX5_book 42 = .ok (.aload_n 0, 1) := by decide +kernel
theorem dX5_book_43 : decode cX5_book 43 = .ok (.ldc 51, 2) := by decide +kernel
theorem dX5_book_45 : decode cX5_book 45 = .ok (.invokevirtual 52, 3) := by decide +kernel
theorem dX5_book_48 : decode cX5_book 48 = .ok (.ireturn, 1) := by decide +kernel
theorem dX5_book_49 : decode cX5_book 49 = .ok (.aload_n 0, 1) := by decide +kernel
theorem dX5_book_50 : decode cX5_book 50 = .ok (.invokevirtual 171, 3) := by decide +kernel
theorem dX5_book_53 : decode cX5_book 53 = .ok (.astore 4, 2) := by decide +kernel
theorem dX5_book_55 : decode cX5_book 55 = .ok (.iconst 0, 1) := by decide +kernel
theorem dX5_book_56 : decode cX5_book 56 = .ok (.istore 5, 2) := by decide +kernel
theorem dX5_book_58 : decode cX5_book 58 = .ok (.iload 5, 2) := by decide +kernel
theorem dX5_book_60 : decode cX5_book 60 = .ok (.aload_n 3, 1) := by decide +kernel
theorem dX5_book_61 : decode cX5_book 61 = .ok (.getfield 227, 3) := by decide +kernel
theorem dX5_book_64 : decode cX5_book 64 = .ok (.if_icmp .ge 28, 3) := by decide +kernel
theorem dX5_book_67 : decode cX5_book 67 = .ok (.aload_n 3, 1) := by decide +kernel
theorem dX5_book_68 : decode cX5_book 68 = .ok (.iload 5, 2) := by decide +kernel
theorem dX5_book_70 : decode cX5_book 70 = .ok (.aload 4, 2) := by decide +kernel
theorem dX5_book_72 : decode cX5_book 72 = .ok (.getfield 124, 3) := by decide +kernel
theorem dX5_book_75 : decode cX5_book 75 = .ok (.iload_n 2, 1) := by decide +kernel
theorem dX5_book_76 : decode cX5_book 76 = .ok (.iaload, 1) := by decide +kernel
theorem dX5_book_77 : decode cX5_book 77 = .ok (.i2l, 1) := by decide +kernel
theorem dX5_book_78 : decode cX5_book 78 = .ok (.invokevirtual 236, 3) := by decide +kernel
theorem dX5_book_81 : decode cX5_book 81 = .ok (.aload 4, 2) := by decide +kernel
theorem dX5_book_83 : decode cX5_book 83 = .ok (.invokevirtual 253, 3) := by decide +kernel
theorem dX5_book_86 : decode cX5_book 86 = .ok (.iinc 5 1, 3) := by decide +kernel
theorem dX5_book_89 : decode cX5_book 89 = .ok (.goto (-31), 3) := by decide +kernel
theorem dX5_book_92 : decode cX5_book 92 = .ok (.aload_n 3, 1) := by decide +kernel
theorem dX5_book_93 : decode cX5_book 93 = .ok (.getfield 227, 3) := by decide +kernel
theorem dX5_book_96 : decode cX5_book 96 = .ok (.ireturn, 1) := by decide +kernel
theorem dX5_read_0 : decode cX5_read 0 = .ok (.aload_n 0, 1) := by decide +kernel
theorem dX5_read_1 : decode cX5_read 1 = .ok (.iload_n 1, 1) := by decide +kernel
theorem dX5_read_2 : decode cX5_read 2 = .ok (.invokevirtual 219, 3) := by decide +kernel
theorem dX5_read_5 : decode cX5_read 5 = .ok (.astore_n 3, 1) := by decide +kernel
theorem dX5_read_6 : decode cX5_read 6 = .ok (.aload_n 3, 1) := by decide +kernel
theorem dX5_read_7 : decode cX5_read 7 = .ok (.ifnonnull 10, 3) := by decide +kernel
theorem dX5_read_10 : decode cX5_read 10 = .ok (.aload_n 0, 1) := by decide +kernel
theorem dX5_read_11 : decode cX5_read 11 = .ok (.ldc 51, 2) := by decide +kernel
theorem dX5_read_13 : decode cX5_read 13 = .ok (.invokevirtual 52, 3) := by decide +kernel
theorem dX5_read_16 : decode cX5_read 16 = .ok (.ireturn, 1) := by decide +kernel
theorem dX5_read_17 : decode cX5_read 17 = .ok (.aload_n 3, 1) := by decide +kernel
theorem dX5_read_18 : decode cX5_read 18 = .ok (.invokevirtual 228, 3) := by decide +kernel
theorem dX5_read_21 : decode cX5_read 21 = .ok (.ifCond .eq 10, 3) := by decide +kernel
theorem dX5_read_24 : decode cX5_read 24 = .ok (.aload_n 0, 1) := by decide +kernel
theorem dX5_read_25 : decode cX5_read 25 = .ok (.ldc 231, 2) := by decide +kernel
theorem dX5_read_27 : decode cX5_read 27 = .ok (.invokevirtual 52, 3) := by decide +kernel
theorem dX5_read_30 : decode cX5_read 30 = .ok (.ireturn, 1) := by decide +kernel
theorem dX5_read_31 : decode cX5_read 31 = .ok (.aload_n 0, 1) := by decide +kernel
theorem dX5_read_32 : decode cX5_read 32 = .ok (.getfield 10, 3) := by decide +kernel
theorem dX5_read_35 : decode cX5_read 35 = .ok (.iload_n 2, 1) := by decide +kernel
theorem dX5_read_36 : decode cX5_read 36 = .ok (.invokevirtual 95, 3) := by decide +kernel
theorem dX5_read_39 : decode cX5_read 39 = .ok (.ifCond .ne 10, 3) := by decide +kernel
theorem dX5_read_42 : decode cX5_read 42 = .ok (.aload_n 0, 1) := by decide +kernel
theorem dX5_read_43 : decode cX5_read 43 = .ok (.ldc 51, 2) := by decide +kernel
theorem dX5_read_45 : decode cX5_read 45 = .ok (.invokevirtual 52, 3) := by decide +kernel
theorem dX5_read_48 : decode cX5_read 48 = .ok (.ireturn, 1) := by decide +kernel
theorem dX5_read_49 : decode cX5_read 49 = .ok (.iconst 0, 1) := by decide +kernel
theorem dX5_read_50 : decode cX5_read 50 = .ok (.istore 4, 2) := by decide +kernel
theorem dX5_read_52 : decode cX5_read 52 = .ok (.iconst 0, 1) := by decide +kernel
theorem dX5_read_53 : decode cX5_read 53 = .ok (.istore 5, 2) := by decide +kernel
theorem dX5_read_55 : decode cX5_read 55 = .ok (.iload 5, 2) := by decide +kernel
theorem dX5_read_57 : decode cX5_read 57 = .ok (.bipush 6, 2) := by decide +kernel
theorem dX5_read_59 : decode cX5_read 59 = .ok (.if_icmp .ge 69, 3) := by decide +kernel
theorem dX5_read_62 : decode cX5_read 62 = .ok (.iconst 0, 1) := by decide +kernel
theorem dX5_read_63 : decode cX5_read 63 = .ok (.istore 6, 2) := by decide +kernel
theorem dX5_read_65 : decode cX5_read 65 = .ok (.iload 6, 2) := by decide +kernel
theorem dX5_read_67 : decode cX5_read 67 = .ok (.iconst 3, 1) := by decide +kernel
theorem dX5_read_68 : decode cX5_read 68 = .ok (.if_icmp .ge 54, 3) := by decide +kernel
theorem dX5_read_71 : decode cX5_read 71 = .ok (.aload_n 0, 1) := by decide +kernel
theorem dX5_read_72 : decode cX5_read 72 = .ok (.invokevirtual 171, 3) := by decide +kernel
theorem dX5_read_75 : decode cX5_read 75 = .ok (.astore 7, 2) := by decide +kernel
theorem dX5_read_77 : decode cX5_read 77 = .ok (.aload 7, 2) := by decide +kernel
theorem dX5_read_79 : decode cX5_read 79 = .ok (.getfield 104, 3) := by decide +kernel
theorem dX5_read_82 : decode cX5_read 82 = .ok (.iload_n 2, 1) := by decide +kernel
theorem dX5_read_83 : decode cX5_read 83 = .ok (.iload 5, 2) := by decide +kernel
theorem dX5_read_85 : decode cX5_read 85 = .ok (.iastore, 1) := by decide +kernel
theorem dX5_read_86 : decode cX5_read 86 = .ok (.aload 7, 2) := by decide +kernel
theorem dX5_read_88 : decode cX5_read 88 = .ok (.getfield 127, 3) := by decide +kernel
theorem dX5_read_91 : decode cX5_read 91 = .ok (.iload_n 2, 1) := by decide +kernel
theorem dX5_read_92 : decode cX5_read 92 = .ok (.iload 6, 2) := by decide +kernel
theorem dX5_read_94 : decode cX5_read 94 = .ok (.iastore, 1) := by decide +kernel
theorem dX5_read_95 : decode cX5_read 95 = .ok (.aload 7, 2) := by decide +kernel
theorem dX5_read_97 : decode cX5_read 97 = .ok (.getfield 256, 3) := by decide +kernel
theorem dX5_read_100 : decode cX5_read 100 = .ok (.iload_n 2, 1) := by decide +kernel
theorem dX5_read_101 : decode cX5_read 101 = .ok (.iconst 0, 1) := by decide +kernel
theorem dX5_read_102 : decode cX5_read 102 = .ok (.iastore, 1) := by decide +kernel
theorem dX5_read_103 : decode cX5_read 103 = .ok (.aload 7, 2) := by decide +kernel
theorem dX5_read_105 : decode cX5_read 105 = .ok (.iload_n 2, 1) := by decide +kernel
theorem dX5_read_106 : decode cX5_read 106 = .ok (.aload_n 3, 1) := by decide +kernel
theorem dX5_read_107 : decode cX5_read 107 = .ok (.invokestatic 259, 3) := by decide +kernel
theorem dX5_read_110 : decode cX5_read 110 = .ok (.ifCond .eq 6, 3) := by decide +kernel
theorem dX5_read_113 : decode cX5_read 113 = .ok (.iinc 4 1, 3) := by decide +kernel
theorem dX5_read_116 : decode cX5_read 116 = .ok (.iinc 6 1, 3) := by decide +kernel
theorem dX5_read_119 : decode cX5_read 119 = .ok (.goto (-54), 3) := by decide +kernel
theorem dX5_read_122 : decode cX5_read 122 = .ok (.iinc 5 1, 3) := by decide +kernel
theorem dX5_read_125 : decode cX5_read 125 = .ok (.goto (-70), 3) := by decide +kernel
theorem dX5_read_128 : decode cX5_read 128 = .ok (.iload 4, 2) := by decide +kernel
theorem dX5_read_130 : decode cX5_read 130 = .ok (.ireturn, 1) := by decide +kernel
theorem dX5_image_0 : decode cX5_image 0 = .ok (.aload_n 0, 1) := by decide +kernel
theorem dX5_image_1 : decode cX5_image 1 = .ok (.getfield 19, 3) := by decide +kernel
theorem dX5_image_4 : decode cX5_image 4 = .ok (.aload_n 0, 1) := by decide +kernel
theorem dX5_image_5 : decode cX5_image 5 = .ok (.getfield 10, 3) := by decide +kernel
theorem dX5_image_8 : decode cX5_image 8 = .ok (.invokevirtual 215, 3) := by decide +kernel
theorem dX5_image_11 : decode cX5_image 11 = .ok (.aload_n 0, 1) := by decide +kernel
theorem dX5_image_12 : decode cX5_image 12 = .ok (.iconst 1, 1) := by decide +kernel
theorem dX5_image_13 : decode cX5_image 13 = .ok (.putfield 22, 3) := by decide +kernel
theorem dX5_image_16 : decode cX5_image 16 = .ok (.iconst 1, 1) := by decide +kernel
theorem dX5_image_17 : decode cX5_image 17 = .ok (.ireturn, 1) := by decide +kernel
theorem dX5_undo_0 : decode cX5_undo 0 = .ok (.aload_n 0, 1) := by decide +kernel
theorem dX5_undo_1 : decode cX5_undo 1 = .ok (.getfield 22, 3) := by decide +kernel
theorem dX5_undo_4 : decode cX5_undo 4 = .ok (.ifCond .ne 10, 3) := by decide +kernel
theorem dX5_undo_7 : decode cX5_undo 7 = .ok (.aload_n 0, 1) := by decide +kernel
theorem dX5_undo_8 : decode cX5_undo 8 = .ok (.ldc 142, 2) := by decide +kernel
theorem dX5_undo_10 : decode cX5_undo 10 = .ok (.invokevirtual 52, 3) := by decide +kernel
theorem dX5_undo_13 : decode cX5_undo 13 = .ok (.ireturn, 1) := by decide +kernel
theorem dX5_undo_14 : decode cX5_undo 14 = .ok (.aload_n 0, 1) := by decide +kernel
theorem dX5_undo_15 : decode cX5_undo 15 = .ok (.getfield 10, 3) := by decide +kernel
theorem dX5_undo_18 : decode cX5_undo 18 = .ok (.aload_n 0, 1) := by decide +kernel
theorem dX5_undo_19 : decode cX5_undo 19 = .ok (.getfield 19, 3) := by decide +kernel
theorem dX5_undo_22 : decode cX5_undo 22 = .ok (.invokevirtual 215, 3) := by decide +kernel
theorem dX5_undo_25 : decode cX5_undo 25 = .ok (.aload_n 0, 1) := by decide +kernel
theorem dX5_undo_26 : decode cX5_undo 26 = .ok (.getfield 10, 3) := by decide +kernel
theorem dX5_undo_29 : decode cX5_undo 29 = .ok (.getfield 179, 3) := by decide +kernel
theorem dX5_undo_32 : decode cX5_undo 32 = .ok (.ireturn, 1) := by decide +kernel
theorem dX5_tear_0 : decode cX5_tear 0 = .ok (.aload_n 0, 1) := by decide +kernel
theorem dX5_tear_1 : decode cX5_tear 1 = .ok (.getfield 22, 3) := by decide +kernel
theorem dX5_tear_4 : decode cX5_tear 4 = .ok (.ifCond .eq 7, 3) := by decide +kernel
theorem dX5_tear_7 : decode cX5_tear 7 = .ok (.iconst 1, 1) := by decide +kernel
theorem dX5_tear_8 : decode cX5_tear 8 = .ok (.goto 4, 3) := by decide +kernel
theorem dX5_tear_11 : decode cX5_tear 11 = .ok (.iconst 0, 1) := by decide +kernel
theorem dX5_tear_12 : decode cX5_tear 12 = .ok (.istore_n 1, 1) := by decide +kernel
theorem dX5_tear_13 : decode cX5_tear 13 = .ok (.aload_n 0, 1) := by decide +kernel
theorem dX5_tear_14 : decode cX5_tear 14 = .ok (.iconst 0, 1) := by decide +kernel
theorem dX5_tear_15 : decode cX5_tear 15 = .ok (.putfield 22, 3) := by decide +kernel
theorem dX5_tear_18 : decode cX5_tear 18 = .ok (.iload_n 1, 1) := by decide +kernel
theorem dX5_tear_19 : decode cX5_tear 19 = .ok (.ireturn, 1) := by decide +kernel
theorem dX5_count_0 : decode cX5_count 0 = .ok (.iload_n 1, 1) := by decide +kernel
theorem dX5_count_1 : decode cX5_count 1 = .ok (.tableswitch 74 0 3 #[31, 39, 47, 66], 31) := by decide +kernel
theorem dX5_count_32 : decode cX5_count 32 = .ok (.aload_n 0, 1) := by decide +kernel
theorem dX5_count_33 : decode cX5_count 33 = .ok (.getfield 10, 3) := by decide +kernel
theorem dX5_count_36 : decode cX5_count 36 = .ok (.getfield 179, 3) := by decide +kernel
theorem dX5_count_39 : decode cX5_count 39 = .ok (.ireturn, 1) := by decide +kernel
theorem dX5_count_40 : decode cX5_count 40 = .ok (.aload_n 0, 1) := by decide +kernel
theorem dX5_count_41 : decode cX5_count 41 = .ok (.getfield 29, 3) := by decide +kernel
theorem dX5_count_44 : decode cX5_count 44 = .ok (.getfield 200, 3) := by decide +kernel
theorem dX5_count_47 : decode cX5_count 47 = .ok (.ireturn, 1) := by decide +kernel
theorem dX5_count_48 : decode cX5_count 48 = .ok (.aload_n 0, 1) := by decide +kernel
theorem dX5_count_49 : decode cX5_count 49 = .ok (.getfield 10, 3) := by decide +kernel
theorem dX5_count_52 : decode cX5_count 52 = .ok (.getfield 179, 3) := by decide +kernel
theorem dX5_count_55 : decode cX5_count 55 = .ok (.aload_n 0, 1) := by decide +kernel
theorem dX5_count_56 : decode cX5_count 56 = .ok (.getfield 10, 3) := by decide +kernel
theorem dX5_count_59 : decode cX5_count 59 = .ok (.invokevirtual 80, 3) := by decide +kernel
theorem dX5_count_62 : decode cX5_count 62 = .ok (.invokestatic 263, 3) := by decide +kernel
theorem dX5_count_65 : decode cX5_count 65 = .ok (.isub, 1) := by decide +kernel
theorem dX5_count_66 : decode cX5_count 66 = .ok (.ireturn, 1) := by decide +kernel
theorem dX5_count_67 : decode cX5_count 67 = .ok (.aload_n 0, 1) := by decide +kernel
theorem dX5_count_68 : decode cX5_count 68 = .ok (.getfield 10, 3) := by decide +kernel
theorem dX5_count_71 : decode cX5_count 71 = .ok (.invokevirtual 268, 3) := by decide +kernel
theorem dX5_count_74 : decode cX5_count 74 = .ok (.ireturn, 1) := by decide +kernel
theorem dX5_count_75 : decode cX5_count 75 = .ok (.aload_n 0, 1) := by decide +kernel
theorem dX5_count_76 : decode cX5_count 76 = .ok (.ldc 51, 2) := by decide +kernel
theorem dX5_count_78 : decode cX5_count 78 = .ok (.invokevirtual 52, 3) := by decide +kernel
theorem dX5_count_81 : decode cX5_count 81 = .ok (.ireturn, 1) := by decide +kernel
theorem dX5_status_0 : decode cX5_status 0 = .ok (.iload_n 1, 1) := by decide +kernel
theorem dX5_status_1 : decode cX5_status 1 = .ok (.iconst (-1), 1) := by decide +kernel
theorem dX5_status_2 : decode cX5_status 2 = .ok (.bipush 6, 2) := by decide +kernel
theorem dX5_status_4 : decode cX5_status 4 = .ok (.invokestatic 44, 3) := by decide +kernel
theorem dX5_status_7 : decode cX5_status 7 = .ok (.ifCond .ne 10, 3) := by decide +kernel
theorem dX5_status_10 : decode cX5_status 10 = .ok (.aload_n 0, 1) := by decide +kernel
theorem dX5_status_11 : decode cX5_status 11 = .ok (.ldc 51, 2) := by decide +kernel
theorem dX5_status_13 : decode cX5_status 13 = .ok (.invokevirtual 52, 3) := by decide +kernel
theorem dX5_status_16 : decode cX5_status 16 = .ok (.ireturn, 1) := by decide +kernel
theorem dX5_status_17 : decode cX5_status 17 = .ok (.iload_n 1, 1) := by decide +kernel
theorem dX5_status_18 : decode cX5_status 18 = .ok (.ifCond .lt 10, 3) := by decide +kernel
theorem dX5_status_21 : decode cX5_status 21 = .ok (.aload_n 0, 1) := by decide +kernel
theorem dX5_status_22 : decode cX5_status 22 = .ok (.getfield 39, 3) := by decide +kernel
theorem dX5_status_25 : decode cX5_status 25 = .ok (.iload_n 1, 1) := by decide +kernel
theorem dX5_status_26 : decode cX5_status 26 = .ok (.iaload, 1) := by decide +kernel
theorem dX5_status_27 : decode cX5_status 27 = .ok (.ireturn, 1) := by decide +kernel
theorem dX5_status_28 : decode cX5_status 28 = .ok (.iconst 0, 1) := by decide +kernel
theorem dX5_status_29 : decode cX5_status 29 = .ok (.istore_n 2, 1) := by decide +kernel
theorem dX5_status_30 : decode cX5_status 30 = .ok (.iconst 0, 1) := by decide +kernel
theorem dX5_status_31 : decode cX5_status 31 = .ok (.istore_n 3, 1) := by decide +kernel
theorem dX5_status_32 : decode cX5_status 32 = .ok (.iload_n 3, 1) := by decide +kernel
theorem dX5_status_33 : decode cX5_status 33 = .ok (.bipush 7, 2) := by decide +kernel
theorem dX5_status_35 : decode cX5_status 35 = .ok (.if_icmp .ge 18, 3) := by decide +kernel
theorem dX5_status_38 : decode cX5_status 38 = .ok (.iload_n 2, 1) := by decide +kernel
theorem dX5_status_39 : decode cX5_status 39 = .ok (.aload_n 0, 1) := by decide +kernel
theorem dX5_status_40 : decode cX5_status 40 = .ok (.getfield 39, 3) := by decide +kernel
theorem dX5_status_43 : decode cX5_status 43 = .ok (.iload_n 3, 1) := by decide +kernel
theorem dX5_status_44 : decode cX5_status 44 = .ok (.iaload, 1) := by decide +kernel
theorem dX5_status_45 : decode cX5_status 45 = .ok (.iadd, 1) := by decide +kernel
theorem dX5_status_46 : decode cX5_status 46 = .ok (.istore_n 2, 1) := by decide +kernel
theorem dX5_status_47 : decode cX5_status 47 = .ok (.iinc 3 1, 3) := by decide +kernel
theorem dX5_status_50 : decode cX5_status 50 = .ok (.goto (-18), 3) := by decide +kernel
theorem dX5_status_53 : decode cX5_status 53 = .ok (.iload_n 2, 1) := by decide +kernel
theorem dX5_status_54 : decode cX5_status 54 = .ok (.ireturn, 1) := by decide +kernel
theorem dX5_within_0 : decode cX5_within 0 = .ok (.iload_n 0, 1) := by decide +kernel
theorem dX5_within_1 : decode cX5_within 1 = .ok (.iload_n 1, 1) := by decide +kernel
theorem dX5_within_2 : decode cX5_within 2 = .ok (.if_icmp .lt 12, 3) := by decide +kernel
theorem dX5_within_5 : decode cX5_within 5 = .ok (.iload_n 0, 1) := by decide +kernel
theorem dX5_within_6 : decode cX5_within 6 = .ok (.iload_n 2, 1) := by decide +kernel
theorem dX5_within_7 : decode cX5_within 7 = .ok (.if_icmp .gt 7, 3) := by decide +kernel
theorem dX5_within_10 : decode cX5_within 10 = .ok (.iconst 1, 1) := by decide +kernel
theorem dX5_within_11 : decode cX5_within 11 = .ok (.goto 4, 3) := by decide +kernel
theorem dX5_within_14 : decode cX5_within 14 = .ok (.iconst 0, 1) := by decide +kernel
theorem dX5_within_15 : decode cX5_within 15 = .ok (.ireturn, 1) := by decide +kernel
theorem dX5_isStreet_0 : decode cX5_isStreet 0 = .ok (.iload_n 0, 1) := by decide +kernel
theorem dX5_isStreet_1 : decode cX5_isStreet 1 = .ok (.ifCond .lt 13, 3) := by decide +kernel
theorem dX5_isStreet_4 : decode cX5_isStreet 4 = .ok (.iload_n 0, 1) := by decide +kernel
theorem dX5_isStreet_5 : decode cX5_isStreet 5 = .ok (.bipush 6, 2) := by decide +kernel
theorem dX5_isStreet_7 : decode cX5_isStreet 7 = .ok (.if_icmp .ge 7, 3) := by decide +kernel
theorem dX5_isStreet_10 : decode cX5_isStreet 10 = .ok (.iconst 1, 1) := by decide +kernel
theorem dX5_isStreet_11 : decode cX5_isStreet 11 = .ok (.goto 4, 3) := by decide +kernel
theorem dX5_isStreet_14 : decode cX5_isStreet 14 = .ok (.iconst 0, 1) := by decide +kernel
theorem dX5_isStreet_15 : decode cX5_isStreet 15 = .ok (.ireturn, 1) := by decide +kernel
theorem dX5_isKind_0 : decode cX5_isKind 0 = .ok (.iload_n 0, 1) := by decide +kernel
theorem dX5_isKind_1 : decode cX5_isKind 1 = .ok (.ifCond .lt 13, 3) := by decide +kernel
theorem dX5_isKind_4 : decode cX5_isKind 4 = .ok (.iload_n 0, 1) := by decide +kernel
theorem dX5_isKind_5 : decode cX5_isKind 5 = .ok (.bipush 6, 2) := by decide +kernel
theorem dX5_isKind_7 : decode cX5_isKind 7 = .ok (.if_icmp .ge 7, 3) := by decide +kernel
theorem dX5_isKind_10 : decode cX5_isKind 10 = .ok (.iconst 1, 1) := by decide +kernel
theorem dX5_isKind_11 : decode cX5_isKind 11 = .ok (.goto 4, 3) := by decide +kernel
theorem dX5_isKind_14 : decode cX5_isKind 14 = .ok (.iconst 0, 1) := by decide +kernel
theorem dX5_isKind_15 : decode cX5_isKind 15 = .ok (.ireturn, 1) := by decide +kernel
theorem dX5_found_0 : decode cX5_found 0 = .ok (.ldc 51, 2) := by decide +kernel
theorem dX5_found_2 : decode cX5_found 2 = .ok (.iload_n 1, 1) := by decide +kernel
theorem dX5_found_3 : decode cX5_found 3 = .ok (.isub, 1) := by decide +kernel
theorem dX5_found_4 : decode cX5_found 4 = .ok (.istore_n 2, 1) := by decide +kernel
theorem dX5_found_5 : decode cX5_found 5 = .ok (.iload_n 2, 1) := by decide +kernel
theorem dX5_found_6 : decode cX5_found 6 = .ok (.ifCond .lt 19, 3) := by decide +kernel
theorem dX5_found_9 : decode cX5_found 9 = .ok (.iload_n 2, 1) := by decide +kernel
theorem dX5_found_10 : decode cX5_found 10 = .ok (.bipush 7, 2) := by decide +kernel
theorem dX5_found_12 : decode cX5_found 12 = .ok (.if_icmp .ge 13, 3) := by decide +kernel
theorem dX5_found_15 : decode cX5_found 15 = .ok (.aload_n 0, 1) := by decide +kernel
theorem dX5_found_16 : decode cX5_found 16 = .ok (.getfield 39, 3) := by decide +kernel
theorem dX5_found_19 : decode cX5_found 19 = .ok (.iload_n 2, 1) := by decide +kernel
theorem dX5_found_20 : decode cX5_found 20 = .ok (.dup2, 1) := by decide +kernel
theorem dX5_found_21 : decode cX5_found 21 = .ok (.iaload, 1) := by decide +kernel
theorem dX5_found_22 : decode cX5_found 22 = .ok (.iconst 1, 1) := by decide +kernel
theorem dX5_found_23 : decode cX5_found 23 = .ok (.iadd, 1) := by decide +kernel
theorem dX5_found_24 : decode cX5_found 24 = .ok (.iastore, 1) := by decide +kernel
theorem dX5_found_25 : decode cX5_found 25 = .ok (.iload_n 1, 1) := by decide +kernel
theorem dX5_found_26 : decode cX5_found 26 = .ok (.ireturn, 1) := by decide +kernel
theorem dX5_put_0 : decode cX5_put 0 = .ok (.aload_n 0, 1) := by decide +kernel
theorem dX5_put_1 : decode cX5_put 1 = .ok (.iload_n 1, 1) := by decide +kernel
theorem dX5_put_2 : decode cX5_put 2 = .ok (.iaload, 1) := by decide +kernel
theorem dX5_put_3 : decode cX5_put 3 = .ok (.istore_n 3, 1) := by decide +kernel
theorem dX5_put_4 : decode cX5_put 4 = .ok (.aload_n 0, 1) := by decide +kernel
theorem dX5_put_5 : decode cX5_put 5 = .ok (.iload_n 1, 1) := by decide +kernel
theorem dX5_put_6 : decode cX5_put 6 = .ok (.iload_n 2, 1) := by decide +kernel
theorem dX5_put_7 : decode cX5_put 7 = .ok (.iastore, 1) := by decide +kernel
theorem dX5_put_8 : decode cX5_put 8 = .ok (.iload_n 3, 1) := by decide +kernel
theorem dX5_put_9 : decode cX5_put 9 = .ok (.ireturn, 1) := by decide +kernel
theorem dX5_sheetAt_0 : decode cX5_sheetAt 0 = .ok (.iload_n 1, 1) := by decide +kernel
theorem dX5_sheetAt_1 : decode cX5_sheetAt 1 = .ok (.ifCond .lt 17, 3) := by decide +kernel
theorem dX5_sheetAt_4 : decode cX5_sheetAt 4 = .ok (.iload_n 1, 1) := by decide +kernel
theorem dX5_sheetAt_5 : decode cX5_sheetAt 5 = .ok (.iconst 4, 1) := by decide +kernel
theorem dX5_sheetAt_6 : decode cX5_sheetAt 6 = .ok (.if_icmp .ge 12, 3) := by decide +kernel
theorem dX5_sheetAt_9 : decode cX5_sheetAt 9 = .ok (.aload_n 0, 1) := by decide +kernel
theorem dX5_sheetAt_10 : decode cX5_sheetAt 10 = .ok (.getfield 35, 3) := by decide +kernel
theorem dX5_sheetAt_13 : decode cX5_sheetAt 13 = .ok (.iload_n 1, 1) := by decide +kernel
theorem dX5_sheetAt_14 : decode cX5_sheetAt 14 = .ok (.aaload, 1) := by decide +kernel
theorem dX5_sheetAt_15 : decode cX5_sheetAt 15 = .ok (.goto 4, 3) := by decide +kernel
theorem dX5_sheetAt_18 : decode cX5_sheetAt 18 = .ok (.aconst_null, 1) := by decide +kernel
theorem dX5_sheetAt_19 : decode cX5_sheetAt 19 = .ok (.areturn, 1) := by decide +kernel
theorem dX5_asItIs_0 : decode cX5_asItIs 0 = .ok (.aload_n 0, 1) := by decide +kernel
theorem dX5_asItIs_1 : decode cX5_asItIs 1 = .ok (.getfield 16, 3) := by decide +kernel
theorem dX5_asItIs_4 : decode cX5_asItIs 4 = .ok (.aload_n 0, 1) := by decide +kernel
theorem dX5_asItIs_5 : decode cX5_asItIs 5 = .ok (.getfield 10, 3) := by decide +kernel
theorem dX5_asItIs_8 : decode cX5_asItIs 8 = .ok (.invokevirtual 215, 3) := by decide +kernel
theorem dX5_asItIs_11 : decode cX5_asItIs 11 = .ok (.aload_n 0, 1) := by decide +kernel
theorem dX5_asItIs_12 : decode cX5_asItIs 12 = .ok (.getfield 16, 3) := by decide +kernel
theorem dX5_asItIs_15 : decode cX5_asItIs 15 = .ok (.areturn, 1) := by decide +kernel
theorem dX5_weeksUntil_0 : decode cX5_weeksUntil 0 = .ok (.aload_n 0, 1) := by decide +kernel
theorem dX5_weeksUntil_1 : decode cX5_weeksUntil 1 = .ok (.invokevirtual 171, 3) := by decide +kernel
theorem dX5_weeksUntil_4 : decode cX5_weeksUntil 4 = .ok (.astore_n 3, 1) := by decide +kernel
theorem dX5_weeksUntil_5 : decode cX5_weeksUntil 5 = .ok (.iconst 0, 1) := by decide +kernel
theorem dX5_weeksUntil_6 : decode cX5_weeksUntil 6 = .ok (.istore 4, 2) := by decide +kernel
theorem dX5_weeksUntil_8 : decode cX5_weeksUntil 8 = .ok (.iload 4, 2) := by decide +kernel
theorem dX5_weeksUntil_10 : decode cX5_weeksUntil 10 = .ok (.bipush 104, 2) := by decide +kernel
theorem dX5_weeksUntil_12 : decode cX5_weeksUntil 12 = .ok (.if_icmp .gt 34, 3) := by decide +kernel
theorem dX5_weeksUntil_15 : decode cX5_weeksUntil 15 = .ok (.aload_n 3, 1) := by decide +kernel
theorem dX5_weeksUntil_16 : decode cX5_weeksUntil 16 = .ok (.getfield 127, 3) := by decide +kernel
theorem dX5_weeksUntil_19 : decode cX5_weeksUntil 19 = .ok (.iload_n 1, 1) := by decide +kernel
theorem dX5_weeksUntil_20 : decode cX5_weeksUntil 20 = .ok (.iaload, 1) := by decide +kernel
theorem dX5_weeksUntil_21 : decode cX5_weeksUntil 21 = .ok (.ifCond .eq 7, 3) := by decide +kernel
theorem dX5_weeksUntil_24 : decode cX5_weeksUntil 24 = .ok (.iconst 1, 1) := by decide +kernel
theorem dX5_weeksUntil_25 : decode cX5_weeksUntil 25 = .ok (.goto 4, 3) := by decide +kernel
theorem dX5_weeksUntil_28 : decode cX5_weeksUntil 28 = .ok (.iconst 0, 1) := by decide +kernel
theorem dX5_weeksUntil_29 : decode cX5_weeksUntil 29 = .ok (.iload_n 2, 1) := by decide +kernel
theorem dX5_weeksUntil_30 : decode cX5_weeksUntil 30 = .ok (.if_icmp .ne 6, 3) := by decide +kernel
theorem dX5_weeksUntil_33 : decode cX5_weeksUntil 33 = .ok (.iload 4, 2) := by decide +kernel
theorem dX5_weeksUntil_35 : decode cX5_weeksUntil 35 = .ok (.ireturn, 1) := by decide +kernel
theorem dX5_weeksUntil_36 : decode cX5_weeksUntil 36 = .ok (.aload_n 3, 1) := by decide +kernel
theorem dX5_weeksUntil_37 : decode cX5_weeksUntil 37 = .ok (.invokevirtual 253, 3) := by decide +kernel
theorem dX5_weeksUntil_40 : decode cX5_weeksUntil 40 = .ok (.iinc 4 1, 3) := by decide +kernel
theorem dX5_weeksUntil_43 : decode cX5_weeksUntil 43 = .ok (.goto (-35), 3) := by decide +kernel
theorem dX5_weeksUntil_46 : decode cX5_weeksUntil 46 = .ok (.iconst (-1), 1) := by decide +kernel
theorem dX5_weeksUntil_47 : decode cX5_weeksUntil 47 = .ok (.ireturn, 1) := by decide +kernel
theorem dX5_growsAs_0 : decode cX5_growsAs 0 = .ok (.iconst 0, 1) := by decide +kernel
theorem dX5_growsAs_1 : decode cX5_growsAs 1 = .ok (.istore_n 3, 1) := by decide +kernel
theorem dX5_growsAs_2 : decode cX5_growsAs 2 = .ok (.iload_n 3, 1) := by decide +kernel
theorem dX5_growsAs_3 : decode cX5_growsAs 3 = .ok (.aload_n 2, 1) := by decide +kernel
theorem dX5_growsAs_4 : decode cX5_growsAs 4 = .ok (.getfield 227, 3) := by decide +kernel
theorem dX5_growsAs_7 : decode cX5_growsAs 7 = .ok (.if_icmp .ge 32, 3) := by decide +kernel
theorem dX5_growsAs_10 : decode cX5_growsAs 10 = .ok (.aload_n 2, 1) := by decide +kernel
theorem dX5_growsAs_11 : decode cX5_growsAs 11 = .ok (.getfield 232, 3) := by decide +kernel
theorem dX5_growsAs_14 : decode cX5_growsAs 14 = .ok (.iload_n 3, 1) := by decide +kernel
theorem dX5_growsAs_15 : decode cX5_growsAs 15 = .ok (.laload, 1) := by decide +kernel
theorem dX5_growsAs_16 : decode cX5_growsAs 16 = .ok (.aload_n 0, 1) := by decide +kernel
theorem dX5_growsAs_17 : decode cX5_growsAs 17 = .ok (.getfield 124, 3) := by decide +kernel
theorem dX5_growsAs_20 : decode cX5_growsAs 20 = .ok (.iload_n 1, 1) := by decide +kernel
theorem dX5_growsAs_21 : decode cX5_growsAs 21 = .ok (.iaload, 1) := by decide +kernel
theorem dX5_growsAs_22 : decode cX5_growsAs 22 = .ok (.i2l, 1) := by decide +kernel
theorem dX5_growsAs_23 : decode cX5_growsAs 23 = .ok (.lcmp, 1) := by decide +kernel
theorem dX5_growsAs_24 : decode cX5_growsAs 24 = .ok (.ifCond .eq 5, 3) := by decide +kernel
theorem dX5_growsAs_27 : decode cX5_growsAs 27 = .ok (.iconst 0, 1) := by decide +kernel
theorem dX5_growsAs_28 : decode cX5_growsAs 28 = .ok (.ireturn, 1) := by decide +kernel
theorem dX5_growsAs_29 : decode cX5_growsAs 29 = .ok (.aload_n 0, 1) := by decide +kernel
theorem dX5_growsAs_30 : decode cX5_growsAs 30 = .ok (.invokevirtual 253, 3) := by decide +kernel
theorem dX5_growsAs_33 : decode cX5_growsAs 33 = .ok (.iinc 3 1, 3) := by decide +kernel
theorem dX5_growsAs_36 : decode cX5_growsAs 36 = .ok (.goto (-34), 3) := by decide +kernel
theorem dX5_growsAs_39 : decode cX5_growsAs 39 = .ok (.iconst 1, 1) := by decide +kernel
theorem dX5_growsAs_40 : decode cX5_growsAs 40 = .ok (.ireturn, 1) := by decide +kernel
end
section
theorem dX6_init_0 : decode cX6_init 0 = .ok (.aload_n 0, 1) := by decide +kernel
theorem dX6_init_1 : decode cX6_init 1 = .ok (.invokespecial 1, 3) := by decide +kernel
theorem dX6_init_4 : decode cX6_init 4 = .ok (.aload_n 0, 1) := by decide +kernel
theorem dX6_init_5 : decode cX6_init 5 = .ok (.bipush 67, 2) := by decide +kernel
theorem dX6_init_7 : decode cX6_init 7 = .ok (.newarray .int, 2) := by decide +kernel
theorem dX6_init_9 : decode cX6_init 9 = .ok (.putfield 7, 3) := by decide +kernel
theorem dX6_init_12 : decode cX6_init 12 = .ok (.aload_n 0, 1) := by decide +kernel
theorem dX6_init_13 : decode cX6_init 13 = .ok (.bipush 67, 2) := by decide +kernel
theorem dX6_init_15 : decode cX6_init 15 = .ok (.newarray .int, 2) := by decide +kernel
theorem dX6_init_17 : decode cX6_init 17 = .ok (.putfield 13, 3) := by decide +kernel
theorem dX6_init_20 : decode cX6_init 20 = .ok (.aload_n 0, 1) := by decide +kernel
theorem dX6_init_21 : decode cX6_init 21 = .ok (.bipush 67, 2) := by decide +kernel
theorem dX6_init_23 : decode cX6_init 23 = .ok (.newarray .int, 2) := by decide +kernel
theorem dX6_init_25 : decode cX6_init 25 = .ok (.putfield 16, 3) := by decide +kernel
theorem dX6_init_28 : decode cX6_init 28 = .ok (.aload_n 0, 1) := by decide +kernel
theorem dX6_init_29 : decode cX6_init 29 = .ok (.bipush 67, 2) := by decide +kernel
theorem dX6_init_31 : decode cX6_init 31 = .ok (.newarray .int, 2) := by decide +kernel
theorem dX6_init_33 : decode cX6_init 33 = .ok (.putfield 19, 3) := by decide +kernel
theorem dX6_init_36 : decode cX6_init 36 = .ok (.aload_n 0, 1) := by decide +kernel
theorem dX6_init_37 : decode cX6_init 37 = .ok (.bipush 7, 2) := by decide +kernel
theorem dX6_init_39 : decode cX6_init 39 = .ok (.newarray .int, 2) := by decide +kernel
theorem dX6_init_41 : decode cX6_init 41 = .ok (.putfield 22, 3) := by decide +kernel
theorem dX6_init_44 : decode cX6_init 44 = .ok (.aload_n 0, 1) := by decide +kernel
theorem dX6_init_45 : decode cX6_init 45 = .ok (.bipush 120, 2) := by decide +kernel
theorem dX6_init_47 : decode cX6_init 47 = .ok (.newarray .int, 2) := by decide +kernel
theorem dX6_init_49 : decode cX6_init 49 = .ok (.putfield 25, 3) := by decide +kernel
theorem dX6_init_52 : decode cX6_init 52 = .ok (.aload_n 0, 1) := by decide +kernel
theorem dX6_init_53 : decode cX6_init 53 = .ok (.iconst 4, 1) := by decide +kernel
theorem dX6_init_54 : decode cX6_init 54 = .ok (.newarray .int, 2) := by decide +kernel
theorem dX6_init_56 : decode cX6_init 56 = .ok (.putfield 28, 3) := by decide +kernel
theorem dX6_init_59 : decode cX6_init 59 = .ok (.aload_n 0, 1) := by decide +kernel
theorem dX6_init_60 : decode cX6_init 60 = .ok (.iconst 4, 1) := by decide +kernel
theorem dX6_init_61 : decode cX6_init 61 = .ok (.newarray .int, 2) := by decide +kernel
theorem dX6_init_63 : decode cX6_init 63 = .ok (.putfield 31, 3) := by decide +kernel
theorem dX6_init_66 : decode cX6_init 66 = .ok (.aload_n 0, 1) := by decide +kernel
theorem dX6_init_67 : decode cX6_init 67 = .ok (.sipush 160, 3) := by decide +kernel
theorem dX6_init_70 : decode cX6_init 70 = .ok (.newarray .long, 2) := by decide +kernel
theorem dX6_init_72 : decode cX6_init 72 = .ok (.putfield 34, 3) := by decide +kernel
theorem dX6_init_75 : decode cX6_init 75 = .ok (.aload_n 0, 1) := by decide +kernel
theorem dX6_init_76 : decode cX6_init 76 = .ok (.bipush 40, 2) := by decide +kernel
theorem dX6_init_78 : decode cX6_init 78 = .ok (.newarray .long, 2) := by decide +kernel
theorem dX6_init_80 : decode cX6_init 80 = .ok (.putfield 38, 3) := by decide +kernel
theorem dX6_init_83 : decode cX6_init 83 = .ok (.aload_n 0, 1) := by decide +kernel
theorem dX6_init_84 : decode cX6_init 84 = .ok (.getfield 7, 3) := by decide +kernel
theorem dX6_init_87 : decode cX6_init 87 = .ok (.iconst 2, 1) := by decide +kernel
theorem dX6_init_88 : decode cX6_init 88 = .ok (.sipush 500, 3) := by decide +kernel
theorem dX6_init_91 : decode cX6_init 91 = .ok (.iastore, 1) := by decide +kernel
theorem dX6_init_92 : decode cX6_init 92 = .ok (.aload_n 0, 1) := by decide +kernel
theorem dX6_init_93 : decode cX6_init 93 = .ok (.getfield 7, 3) := by decide +kernel
theorem dX6_init_96 : decode cX6_init 96 = .ok (.iconst 3, 1) := by decide +kernel
theorem dX6_init_97 : decode cX6_init 97 = .ok (.sipush 500, 3) := by decide +kernel
theorem dX6_init_100 : decode cX6_init 100 = .ok (.iastore, 1) := by decide +kernel
theorem dX6_init_101 : decode cX6_init 101 = .ok (.aload_n 0, 1) := by decide +kernel
theorem dX6_init_102 : decode cX6_init 102 = .ok (.getfield 7, 3) := by decide +kernel
theorem dX6_init_105 : decode cX6_init 105 = .ok (.iconst 4, 1) := by decide +kernel
theorem dX6_init_106 : decode cX6_init 106 = .ok (.iconst 1, 1) := by decide +kernel
theorem dX6_init_107 : decode cX6_init 107 = .ok (.iastore, 1) := by decide +kernel
theorem dX6_init_108 : decode cX6_init 108 = .ok (.iconst 0, 1) := by decide +kernel
theorem dX6_init_109 : decode cX6_init 109 = .ok (.istore_n 1, 1) := by decide +kernel
theorem dX6_init_110 : decode cX6_init 110 = .ok (.iload_n 1, 1) := by decide +kernel
theorem dX6_init_111 : decode cX6_init 111 = .ok (.bipush 6, 2) := by decide +kernel
theorem dX6_init_113 : decode cX6_init 113 = .ok (.if_icmp .ge 21, 3) := by decide +kernel
theorem dX6_init_116 : decode cX6_init 116 = .ok (.aload_n 0, 1) := by decide +kernel
theorem dX6_init_117 : decode cX6_init 117 = .ok (.getfield 7, 3) := by decide +kernel
theorem dX6_init_120 : decode cX6_init 120 = .ok (.iload_n 1, 1) := by decide +kernel
theorem dX6_init_121 : decode cX6_init 121 = .ok (.iconst 0, 1) := by decide +kernel
theorem dX6_init_122 : decode cX6_init 122 = .ok (.invokestatic 41, 3) := by decide +kernel
theorem dX6_init_125 : decode cX6_init 125 = .ok (.bipush 20, 2) := by decide +kernel
theorem dX6_init_127 : decode cX6_init 127 = .ok (.iastore, 1) := by decide +kernel
theorem dX6_init_128 : decode cX6_init 128 = .ok (.iinc 1 1, 3) := by decide +kernel
theorem dX6_init_131 : decode cX6_init 131 = .ok (.goto (-21), 3) := by decide +kernel
theorem dX6_init_134 : decode cX6_init 134 = .ok (.return_, 1) := by decide +kernel
theorem dX6_in_0 : decode cX6_in 0 = .ok (.lload_n 0, 1) := by decide +kernel
theorem dX6_in_1 : decode cX6_in 1 = .ok (.lload_n 2, 1) := by decide +kernel
theorem dX6_in_2 : decode cX6_in 2 = .ok (.lcmp, 1) := by decide +kernel
theorem dX6_in_3 : decode cX6_in 3 = .ok (.ifCond .lt 14, 3) := by decide +kernel
theorem dX6_in_6 : decode cX6_in 6 = .ok (.lload_n 0, 1) := by decide +kernel
theorem dX6_in_7 : decode cX6_in 7 = .ok (.lload 4, 2) := by decide +kernel
theorem dX6_in_9 : decode cX6_in 9 = .ok (.lcmp, 1) := by decide +kernel
theorem dX6_in_10 : decode cX6_in 10 = .ok (.ifCond .gt 7, 3) := by decide +kernel
theorem dX6_in_13 : decode cX6_in 13 = .ok (.iconst 1, 1) := by decide +kernel
theorem dX6_in_14 : decode cX6_in 14 = .ok (.goto 4, 3) := by decide +kernel
theorem dX6_in_17 : decode cX6_in 17 = .ok (.iconst 0, 1) := by decide +kernel
theorem dX6_in_18 : decode cX6_in 18 = .ok (.ireturn, 1) := by decide +kernel
theorem dX6_finds_0 : decode cX6_finds 0 = .ok (.aload_n 0, 1) := by decide +kernel
theorem dX6_finds_1 : decode cX6_finds 1 = .ok (.getfield 22, 3) := by decide +kernel
theorem dX6_finds_4 : decode cX6_finds 4 = .ok (.ldc 45, 2) := by decide +kernel
theorem dX6_finds_6 : decode cX6_finds 6 = .ok (.iload_n 1, 1) := by decide +kernel
theorem dX6_finds_7 : decode cX6_finds 7 = .ok (.isub, 1) := by decide +kernel
theorem dX6_finds_8 : decode cX6_finds 8 = .ok (.dup2, 1) := by decide +kernel
theorem dX6_finds_9 : decode cX6_finds 9 = .ok (.iaload, 1) := by decide +kernel
theorem dX6_finds_10 : decode cX6_finds 10 = .ok (.iconst 1, 1) := by decide +kernel
theorem dX6_finds_11 : decode cX6_finds 11 = .ok (.iadd, 1) := by decide +kernel
theorem dX6_finds_12 : decode cX6_finds 12 = .ok (.iastore, 1) := by decide +kernel
theorem dX6_finds_13 : decode cX6_finds 13 = .ok (.iload_n 1, 1) := by decide +kernel
theorem dX6_finds_14 : decode cX6_finds 14 = .ok (.ireturn, 1) := by decide +kernel
theorem dX6_saves_0 : decode cX6_saves 0 = .ok (.iconst 0, 1) := by decide +kernel
theorem dX6_saves_1 : decode cX6_saves 1 = .ok (.istore_n 1, 1) := by decide +kernel
theorem dX6_saves_2 : decode cX6_saves 2 = .ok (.iload_n 1, 1) := by decide +kernel
theorem dX6_saves_3 : decode cX6_saves 3 = .ok (.bipush 67, 2) := by decide +kernel
theorem dX6_saves_5 : decode cX6_saves 5 = .ok (.if_icmp .ge 21, 3) := by decide +kernel
theorem dX6_saves_8 : decode cX6_saves 8 = .ok (.aload_n 0, 1) := by decide +kernel
theorem dX6_saves_9 : decode cX6_saves 9 = .ok (.getfield 16, 3) := by decide +kernel
theorem dX6_saves_12 : decode cX6_saves 12 = .ok (.iload_n 1, 1) := by decide +kernel
theorem dX6_saves_13 : decode cX6_saves 13 = .ok (.aload_n 0, 1) := by decide +kernel
theorem dX6_saves_14 : decode cX6_saves 14 = .ok (.getfield 7, 3) := by decide +kernel
theorem dX6_saves_17 : decode cX6_saves 17 = .ok (.iload_n 1, 1) := by decide +kernel
theorem dX6_saves_18 : decode cX6_saves 18 = .ok (.iaload, 1) := by decide +kernel
theorem dX6_saves_19 : decode cX6_saves 19 = .ok (.iastore, 1) := by decide +kernel
theorem dX6_saves_20 : decode cX6_saves 20 = .ok (.iinc 1 1, 3) := by decide +kernel
theorem dX6_saves_23 : decode cX6_saves 23 = .ok (.goto (-21), 3) := by decide +kernel
theorem dX6_saves_26 : decode cX6_saves 26 = .ok (.return_, 1) := by decide +kernel
theorem dX6_putsBack_0 : decode cX6_putsBack 0 = .ok (.iconst 0, 1) := by decide +kernel
theorem dX6_putsBack_1 : decode cX6_putsBack 1 = .ok (.istore_n 1, 1) := by decide +kernel
theorem dX6_putsBack_2 : decode cX6_putsBack 2 = .ok (.iload_n 1, 1) := by decide +kernel
theorem dX6_putsBack_3 : decode cX6_putsBack 3 = .ok (.bipush 67, 2) := by decide +kernel
theorem dX6_putsBack_5 : decode cX6_putsBack 5 = .ok (.if_icmp .ge 21, 3) := by decide +kernel
theorem dX6_putsBack_8 : decode cX6_putsBack 8 = .ok (.aload_n 0, 1) := by decide +kernel
theorem dX6_putsBack_9 : decode cX6_putsBack 9 = .ok (.getfield 7, 3) := by decide +kernel
theorem dX6_putsBack_12 : decode cX6_putsBack 12 = .ok (.iload_n 1, 1) := by decide +kernel
theorem dX6_putsBack_13 : decode cX6_putsBack 13 = .ok (.aload_n 0, 1) := by decide +kernel
theorem dX6_putsBack_14 : decode cX6_putsBack 14 = .ok (.getfield 16, 3) := by decide +kernel
theorem dX6_putsBack_17 : decode cX6_putsBack 17 = .ok (.iload_n 1, 1) := by decide +kernel
theorem dX6_putsBack_18 : decode cX6_putsBack 18 = .ok (.iaload, 1) := by decide +kernel
theorem dX6_putsBack_19 : decode cX6_putsBack 19 = .ok (.iastore, 1) := by decide +kernel
theorem dX6_putsBack_20 : decode cX6_putsBack 20 = .ok (.iinc 1 1, 3) := by decide +kernel
theorem dX6_putsBack_23 : decode cX6_putsBack 23 = .ok (.goto (-21), 3) := by decide +kernel
theorem dX6_putsBack_26 : decode cX6_putsBack 26 = .ok (.return_, 1) := by decide +kernel
theorem dX6_laysAside_0 : decode cX6_laysAside 0 = .ok (.iconst 0, 1) := by decide +kernel
theorem dX6_laysAside_1 : decode cX6_laysAside 1 = .ok (.istore_n 1, 1) := by decide +kernel
theorem dX6_laysAside_2 : decode cX6_laysAside 2 = .ok (.iload_n 1, 1) := by decide +kernel
theorem dX6_laysAside_3 : decode cX6_laysAside 3 = .ok (.bipush 67, 2) := by decide +kernel
theorem dX6_laysAside_5 : decode cX6_laysAside 5 = .ok (.if_icmp .ge 21, 3) := by decide +kernel
theorem dX6_laysAside_8 : decode cX6_laysAside 8 = .ok (.aload_n 0, 1) := by decide +kernel
theorem dX6_laysAside_9 : decode cX6_laysAside 9 = .ok (.getfield 19, 3) := by decide +kernel
theorem dX6_laysAside_12 : decode cX6_laysAside 12 = .ok (.iload_n 1, 1) := by decide +kernel
theorem dX6_laysAside_13 : decode cX6_laysAside 13 = .ok (.aload_n 0, 1) := by decide +kernel
theorem dX6_laysAside_14 : decode cX6_laysAside 14 = .ok (.getfield 7, 3) := by decide +kernel
theorem dX6_laysAside_17 : decode cX6_laysAside 17 = .ok (.iload_n 1, 1) := by decide +kernel
theorem dX6_laysAside_18 : decode cX6_laysAside 18 = .ok (.iaload, 1) := by decide +kernel
theorem dX6_laysAside_19 : decode cX6_laysAside 19 = .ok (.iastore, 1) := by decide +kernel
theorem dX6_laysAside_20 : decode cX6_laysAside 20 = .ok (.iinc 1 1, 3) := by decide +kernel
theorem dX6_laysAside_23 : decode cX6_laysAside 23 = .ok (.goto (-21), 3) := by decide +kernel
theorem dX6_laysAside_26 : decode cX6_laysAside 26 = .ok (.return_, 1) := by decide +kernel
theorem dX6_takesBack_0 : decode cX6_takesBack 0 = .ok (.iconst 0, 1) := by decide +kernel
theorem dX6_takesBack_1 : decode cX6_takesBack 1 = .ok (.istore_n 2, 1) := by decide +kernel
theorem dX6_takesBack_2 : decode cX6_takesBack 2 = .ok (.iload_n 2, 1) := by decide +kernel
theorem dX6_takesBack_3 : decode cX6_takesBack 3 = .ok (.bipush 67, 2) := by decide +kernel
theorem dX6_takesBack_5 : decode cX6_takesBack 5 = .ok (.if_icmp .ge 21, 3) := by decide +kernel
theorem dX6_takesBack_8 : decode cX6_takesBack 8 = .ok (.aload_n 0, 1) := by decide +kernel
theorem dX6_takesBack_9 : decode cX6_takesBack 9 = .ok (.getfield 7, 3) := by decide +kernel
theorem dX6_takesBack_12 : decode cX6_takesBack 12 = .ok (.iload_n 2, 1) := by decide +kernel
theorem dX6_takesBack_13 : decode cX6_takesBack 13 = .ok (.aload_n 0, 1) := by decide +kernel
theorem dX6_takesBack_14 : decode cX6_takesBack 14 = .ok (.getfield 19, 3) := by decide +kernel
theorem dX6_takesBack_17 : decode cX6_takesBack 17 = .ok (.iload_n 2, 1) := by decide +kernel
theorem dX6_takesBack_18 : decode cX6_takesBack 18 = .ok (.iaload, 1) := by decide +kernel
theorem dX6_takesBack_19 : decode cX6_takesBack 19 = .ok (.iastore, 1) := by decide +kernel
theorem dX6_takesBack_20 : decode cX6_takesBack 20 = .ok (.iinc 2 1, 3) := by decide +kernel
theorem dX6_takesBack_23 : decode cX6_takesBack 23 = .ok (.goto (-21), 3) := by decide +kernel
theorem dX6_takesBack_26 : decode cX6_takesBack 26 = .ok (.iload_n 1, 1) := by decide +kernel
theorem dX6_takesBack_27 : decode cX6_takesBack 27 = .ok (.ireturn, 1) := by decide +kernel
theorem dX6_becomes_0 : decode cX6_becomes 0 = .ok (.aload_n 0, 1) := by decide +kernel
theorem dX6_becomes_1 : decode cX6_becomes 1 = .ok (.getfield 7, 3) := by decide +kernel
theorem dX6_becomes_4 : decode cX6_becomes 4 = .ok (.iload_n 1, 1) := by decide +kernel
theorem dX6_becomes_5 : decode cX6_becomes 5 = .ok (.iaload, 1) := by decide +kernel
theorem dX6_becomes_6 : decode cX6_becomes 6 = .ok (.istore_n 3, 1) := by decide +kernel
theorem dX6_becomes_7 : decode cX6_becomes 7 = .ok (.aload_n 0, 1) := by decide +kernel
theorem dX6_becomes_8 : decode cX6_becomes 8 = .ok (.getfield 7, 3) := by decide +kernel
theorem dX6_becomes_11 : decode cX6_becomes 11 = .ok (.iload_n 1, 1) := by decide +kernel
theorem dX6_becomes_12 : decode cX6_becomes 12 = .ok (.iload_n 2, 1) := by decide +kernel
theorem dX6_becomes_13 : decode cX6_becomes 13 = .ok (.iastore, 1) := by decide +kernel
theorem dX6_becomes_14 : decode cX6_becomes 14 = .ok (.iload_n 3, 1) := by decide +kernel
theorem dX6_becomes_15 : decode cX6_becomes 15 = .ok (.ireturn, 1) := by decide +kernel
theorem dX6_isStreet_0 : decode cX6_isStreet 0 = .ok (.iload_n 0, 1) := by decide +kernel
theorem dX6_isStreet_1 : decode cX6_isStreet 1 = .ok (.i2l, 1) := by decide +kernel
theorem dX6_isStreet_2 : decode cX6_isStreet 2 = .ok (.lconst 0, 1) := by decide +kernel
theorem dX6_isStreet_3 : decode cX6_isStreet 3 = .ok (.ldc2_w 46, 3) := by decide +kernel
theorem dX6_isStreet_6 : decode cX6_isStreet 6 = .ok (.invokestatic 48, 3) := by decide +kernel
theorem dX6_isStreet_9 : decode cX6_isStreet 9 = .ok (.ireturn, 1) := by decide +kernel
theorem dX6_isHole_0 : decode cX6_isHole 0 = .ok (.iload_n 1, 1) := by decide +kernel
theorem dX6_isHole_1 : decode cX6_isHole 1 = .ok (.i2l, 1) := by decide +kernel
theorem dX6_isHole_2 : decode cX6_isHole 2 = .ok (.lconst 0, 1) := by decide +kernel
theorem dX6_isHole_3 : decode cX6_isHole 3 = .ok (.aload_n 0, 1) := by decide +kernel
theorem dX6_isHole_4 : decode cX6_isHole 4 = .ok (.getfield 7, 3) := by decide +kernel
theorem dX6_isHole_7 : decode cX6_isHole 7 = .ok (.iconst 0, 1) := by decide +kernel
theorem dX6_isHole_8 : decode cX6_isHole 8 = .ok (.iaload, 1) := by decide +kernel
theorem dX6_isHole_9 : decode cX6_isHole 9 = .ok (.iconst 1, 1) := by decide +kernel
theorem dX6_isHole_10 : decode cX6_isHole 10 = .ok (.isub, 1) := by decide +kernel
theorem dX6_isHole_11 : decode cX6_isHole 11 = .ok (.i2l, 1) := by decide +kernel
theorem dX6_isHole_12 : decode cX6_isHole 12 = .ok (.invokestatic 48, 3) := by decide +kernel
theorem dX6_isHole_15 : decode cX6_isHole 15 = .ok (.ireturn, 1) := by decide +kernel
theorem dX6_isKind_0 : decode cX6_isKind 0 = .ok (.iload_n 0, 1) := by decide +kernel
theorem dX6_isKind_1 : decode cX6_isKind 1 = .ok (.i2l, 1) := by decide +kernel
theorem dX6_isKind_2 : decode cX6_isKind 2 = .ok (.lconst 0, 1) := by decide +kernel
theorem dX6_isKind_3 : decode cX6_isKind 3 = .ok (.ldc2_w 46, 3) := by decide +kernel
theorem dX6_isKind_6 : decode cX6_isKind 6 = .ok (.invokestatic 48, 3) := by decide +kernel
theorem dX6_isKind_9 : decode cX6_isKind 9 = .ok (.ireturn, 1) := by decide +kernel
theorem dX6_roadOf_0 : decode cX6_roadOf 0 = .ok (.bipush 7, 2) := by decide +kernel
theorem dX6_roadOf_2 : decode cX6_roadOf 2 = .ok (.iconst 2, 1) := by decide +kernel
theorem dX6_roadOf_3 : decode cX6_roadOf 3 = .ok (.iload_n 0, 1) := by decide +kernel
theorem dX6_roadOf_4 : decode cX6_roadOf 4 = .ok (.imul, 1) := by decide +kernel
theorem dX6_roadOf_5 : decode cX6_roadOf 5 = .ok (.iadd, 1) := by decide +kernel
theorem dX6_roadOf_6 : decode cX6_roadOf 6 = .ok (.iload_n 1, 1) := by decide +kernel
theorem dX6_roadOf_7 : decode cX6_roadOf 7 = .ok (.iadd, 1) := by decide +kernel
theorem dX6_roadOf_8 : decode cX6_roadOf 8 = .ok (.ireturn, 1) := by decide +kernel
theorem dX6_spotOf_0 : decode cX6_spotOf 0 = .ok (.bipush 19, 2) := by decide +kernel
theorem dX6_spotOf_2 : decode cX6_spotOf 2 = .ok (.bipush 6, 2) := by decide +kernel
theorem dX6_spotOf_4 : decode cX6_spotOf 4 = .ok (.iload_n 0, 1) := by decide +kernel
theorem dX6_spotOf_5 : decode cX6_spotOf 5 = .ok (.imul, 1) := by decide +kernel
theorem dX6_spotOf_6 : decode cX6_spotOf 6 = .ok (.iadd, 1) := by decide +kernel
theorem dX6_spotOf_7 : decode cX6_spotOf 7 = .ok (.iload_n 1, 1) := by decide +kernel
theorem dX6_spotOf_8 : decode cX6_spotOf 8 = .ok (.iadd, 1) := by decide +kernel
theorem dX6_spotOf_9 : decode cX6_spotOf 9 = .ok (.ireturn, 1) := by decide +kernel
theorem dX6_its_0 : decode cX6_its 0 = .ok (.aload_n 0, 1) := by decide +kernel
theorem dX6_its_1 : decode cX6_its 1 = .ok (.getfield 7, 3) := by decide +kernel
theorem dX6_its_4 : decode cX6_its 4 = .ok (.iload_n 1, 1) := by decide +kernel
theorem dX6_its_5 : decode cX6_its 5 = .ok (.iload_n 2, 1) := by decide +kernel
theorem dX6_its_6 : decode cX6_its 6 = .ok (.invokestatic 52, 3) := by decide +kernel
theorem dX6_its_9 : decode cX6_its 9 = .ok (.iaload, 1) := by decide +kernel
theorem dX6_its_10 : decode cX6_its 10 = .ok (.ireturn, 1) := by decide +kernel
theorem dX6_heldTo_0 : decode cX6_heldTo 0 = .ok (.iload_n 0, 1) := by decide +kernel
theorem dX6_heldTo_1 : decode cX6_heldTo 1 = .ok (.iload_n 1, 1) := by decide +kernel
theorem dX6_heldTo_2 : decode cX6_heldTo 2 = .ok (.if_icmp .le 7, 3) := by decide +kernel
theorem dX6_heldTo_5 : decode cX6_heldTo 5 = .ok (.iload_n 1, 1) := by decide +kernel
theorem dX6_heldTo_6 : decode cX6_heldTo 6 = .ok (.goto 4, 3) := by decide +kernel
theorem dX6_heldTo_9 : decode cX6_heldTo 9 = .ok (.iload_n 0, 1) := by decide +kernel
theorem dX6_heldTo_10 : decode cX6_heldTo 10 = .ok (.ireturn, 1) := by decide +kernel
theorem dX6_ones_0 : decode cX6_ones 0 = .ok (.iconst 0, 1) := by decide +kernel
theorem dX6_ones_1 : decode cX6_ones 1 = .ok (.istore_n 1, 1) := by decide +kernel
theorem dX6_ones_2 : decode cX6_ones 2 = .ok (.iload_n 0, 1) := by decide +kernel
theorem dX6_ones_3 : decode cX6_ones 3 = .ok (.istore_n 2, 1) := by decide +kernel
theorem dX6_ones_4 : decode cX6_ones 4 = .ok (.iload_n 2, 1) := by decide +kernel
theorem dX6_ones_5 : decode cX6_ones 5 = .ok (.ifCond .eq 15, 3) := by decide +kernel
theorem dX6_ones_8 : decode cX6_ones 8 = .ok (.iinc 1 1, 3) := by decide +kernel
theorem dX6_ones_11 : decode cX6_ones 11 = .ok (.iload_n 2, 1) := by decide +kernel
theorem dX6_ones_12 : decode cX6_ones 12 = .ok (.iload_n 2, 1) := by decide +kernel
theorem dX6_ones_13 : decode cX6_ones 13 = .ok (.iconst 1, 1) := by decide +kernel
theorem dX6_ones_14 : decode cX6_ones 14 = .ok (.isub, 1) := by decide +kernel
theorem dX6_ones_15 : decode cX6_ones 15 = .ok (.iand, 1) := by decide +kernel
theorem dX6_ones_16 : decode cX6_ones 16 = .ok (.istore_n 2, 1) := by decide +kernel
theorem dX6_ones_17 : decode cX6_ones 17 = .ok (.goto (-13), 3) := by decide +kernel
theorem dX6_ones_20 : decode cX6_ones 20 = .ok (.iload_n 1, 1) := by decide +kernel
theorem dX6_ones_21 : decode cX6_ones 21 = .ok (.ireturn, 1) := by decide +kernel
theorem dX6_town_0 : decode cX6_town 0 = .ok (.iload_n 1, 1) := by decide +kernel
theorem dX6_town_1 : decode cX6_town 1 = .ok (.i2l, 1) := by decide +kernel
theorem dX6_town_2 : decode cX6_town 2 = .ok (.lconst 0, 1) := by decide +kernel
theorem dX6_town_3 : decode cX6_town 3 = .ok (.ldc2_w 55, 3) := by decide +kernel
theorem dX6_town_6 : decode cX6_town 6 = .ok (.invokestatic 48, 3) := by decide +kernel
theorem dX6_town_9 : decode cX6_town 9 = .ok (.ifCond .eq 39, 3) := by decide +kernel
theorem dX6_town_12 : decode cX6_town 12 = .ok (.iload_n 2, 1) := by decide +kernel
theorem dX6_town_13 : decode cX6_town 13 = .ok (.i2l, 1) := by decide +kernel
theorem dX6_town_14 : decode cX6_town 14 = .ok (.lconst 0, 1) := by decide +kernel
theorem dX6_town_15 : decode cX6_town 15 = .ok (.iload_n 1, 1) := by decide +kernel
theorem dX6_town_16 : decode cX6_town 16 = .ok (.iconst 2, 1) := by decide +kernel
theorem dX6_town_17 : decode cX6_town 17 = .ok (.if_icmp .ge 9, 3) := by decide +kernel
theorem dX6_town_20 : decode cX6_town 20 = .ok (.ldc2_w 57, 3) := by decide +kernel
theorem dX6_town_23 : decode cX6_town 23 = .ok (.goto 15, 3) := by decide +kernel
theorem dX6_town_26 : decode cX6_town 26 = .ok (.iload_n 1, 1) := by decide +kernel
theorem dX6_town_27 : decode cX6_town 27 = .ok (.iconst 2, 1) := by decide +kernel
theorem dX6_town_28 : decode cX6_town 28 = .ok (.if_icmp .ne 9, 3) := by decide +kernel
theorem dX6_town_31 : decode cX6_town 31 = .ok (.ldc2_w 59, 3) := by decide +kernel
theorem dX6_town_34 : decode cX6_town 34 = .ok (.goto 4, 3) := by decide +kernel
theorem dX6_town_37 : decode cX6_town 37 = .ok (.lconst 1, 1) := by decide +kernel
theorem dX6_town_38 : decode cX6_town 38 = .ok (.invokestatic 48, 3) := by decide +kernel
theorem dX6_town_41 : decode cX6_town 41 = .ok (.ifCond .eq 7, 3) := by decide +kernel
theorem dX6_town_44 : decode cX6_town 44 = .ok (.iconst 1, 1) := by decide +kernel
theorem dX6_town_45 : decode cX6_town 45 = .ok (.goto 4, 3) := by decide +kernel
theorem dX6_town_48 : decode cX6_town 48 = .ok (.iconst 0, 1) := by decide +kernel
theorem dX6_town_49 : decode cX6_town 49 = .ok (.istore_n 3, 1) := by decide +kernel
theorem dX6_town_50 : decode cX6_town 50 = .ok (.iload_n 3, 1) := by decide +kernel
theorem dX6_town_51 : decode cX6_town 51 = .ok (.ifCond .eq 14, 3) := by decide +kernel
theorem dX6_town_54 : decode cX6_town 54 = .ok (.aload_n 0, 1) := by decide +kernel
theorem dX6_town_55 : decode cX6_town 55 = .ok (.iconst 2, 1) := by decide +kernel
theorem dX6_town_56 : decode cX6_town 56 = .ok (.iload_n 1, 1) := by decide +kernel
theorem dX6_town_57 : decode cX6_town 57 = .ok (.iadd, 1) := by decide +kernel
theorem dX6_town_58 : decode cX6_town 58 = .ok (.iload_n 2, 1) := by decide +kernel
theorem dX6_town_59 : decode cX6_town 59 = .ok (.invokevirtual 61, 3) := by decide +kernel
theorem dX6_town_62 : decode cX6_town 62 = .ok (.goto 9, 3) := by decide +kernel
theorem dX6_town_65 : decode cX6_town 65 = .ok (.aload_n 0, 1) := by decide +kernel
theorem dX6_town_66 : decode cX6_town 66 = .ok (.ldc 45, 2) := by decide +kernel
theorem dX6_town_68 : decode cX6_town 68 = .ok (.invokevirtual 64, 3) := by decide +kernel
theorem dX6_town_71 : decode cX6_town 71 = .ok (.ireturn, 1) := by decide +kernel
theorem dX6_street_0 : decode cX6_street 0 = .ok (.iload_n 2, 1) := by decide +kernel
theorem dX6_street_1 : decode cX6_street 1 = .ok (.i2l, 1) := by decide +kernel
theorem dX6_street_2 : decode cX6_street 2 = .ok (.lconst 0, 1) := by decide +kernel
theorem dX6_street_3 : decode cX6_street 3 = .ok (.lconst 1, 1) := by decide +kernel
theorem dX6_street_4 : decode cX6_street 4 = .ok (.invokestatic 48, 3) := by decide +kernel
theorem dX6_street_7 : decode cX6_street 7 = .ok (.ifCond .eq 27, 3) := by decide +kernel
theorem dX6_street_10 : decode cX6_street 10 = .ok (.iload_n 3, 1) := by decide +kernel
theorem dX6_street_11 : decode cX6_street 11 = .ok (.i2l, 1) := by decide +kernel
theorem dX6_street_12 : decode cX6_street 12 = .ok (.lconst 0, 1) := by decide +kernel
theorem dX6_street_13 : decode cX6_street 13 = .ok (.iload_n 2, 1) := by decide +kernel
theorem dX6_street_14 : decode cX6_street 14 = .ok (.ifCond .ne 9, 3) := by decide +kernel
theorem dX6_street_17 : decode cX6_street 17 = .ok (.ldc2_w 68, 3) := by decide +kernel
theorem dX6_street_20 : decode cX6_street 20 = .ok (.goto 4, 3) := by decide +kernel
theorem dX6_street_23 : decode cX6_street 23 = .ok (.lconst 1, 1) := by decide +kernel
theorem dX6_street_24 : decode cX6_street 24 = .ok (.invokestatic 48, 3) := by decide +kernel
theorem dX6_street_27 : decode cX6_street 27 = .ok (.ifCond .eq 7, 3) := by decide +kernel
theorem dX6_street_30 : decode cX6_street 30 = .ok (.iconst 1, 1) := by decide +kernel
theorem dX6_street_31 : decode cX6_street 31 = .ok (.goto 4, 3) := by decide +kernel
theorem dX6_street_34 : decode cX6_street 34 = .ok (.iconst 0, 1) := by decide +kernel
theorem dX6_street_35 : decode cX6_street 35 = .ok (.istore 4, 2) := by decide +kernel
theorem dX6_street_37 : decode cX6_street 37 = .ok (.iload_n 1, 1) := by decide +kernel
theorem dX6_street_38 : decode cX6_street 38 = .ok (.invokestatic 70, 3) := by decide +kernel
theorem dX6_street_41 : decode cX6_street 41 = .ok (.ifCond .eq 21, 3) := by decide +kernel
theorem dX6_street_44 : decode cX6_street 44 = .ok (.iload 4, 2) := by decide +kernel
theorem dX6_street_46 : decode cX6_street 46 = .ok (.ifCond .eq 16, 3) := by decide +kernel
theorem dX6_street_49 : decode cX6_street 49 = .ok (.aload_n 0, 1) := by decide +kernel
theorem dX6_street_50 : decode cX6_street 50 = .ok (.iload_n 1, 1) := by decide +kernel
theorem dX6_street_51 : decode cX6_street 51 = .ok (.iload_n 2, 1) := by decide +kernel
theorem dX6_street_52 : decode cX6_street 52 = .ok (.invokestatic 41, 3) := by decide +kernel
theorem dX6_street_55 : decode cX6_street 55 = .ok (.iload_n 3, 1) := by decide +kernel
theorem dX6_street_56 : decode cX6_street 56 = .ok (.invokevirtual 61, 3) := by decide +kernel
theorem dX6_street_59 : decode cX6_street 59 = .ok (.goto 9, 3) := by decide +kernel
theorem dX6_street_62 : decode cX6_street 62 = .ok (.aload_n 0, 1) := by decide +kernel
theorem dX6_street_63 : decode cX6_street 63 = .ok (.ldc 45, 2) := by decide +kernel
theorem dX6_street_65 : decode cX6_street 65 = .ok (.invokevirtual 64, 3) := by decide +kernel
theorem dX6_street_68 : decode cX6_street 68 = .ok (.ireturn, 1) := by decide +kernel
theorem dX6_thoseAs_0 : decode cX6_thoseAs 0 = .ok (.iconst 0, 1) := by decide +kernel
theorem dX6_thoseAs_1 : decode cX6_thoseAs 1 = .ok (.istore_n 3, 1) := by decide +kernel
theorem dX6_thoseAs_2 : decode cX6_thoseAs 2 = .ok (.iconst 0, 1) := by decide +kernel
theorem dX6_thoseAs_3 : decode cX6_thoseAs 3 = .ok (.istore 4, 2) := by decide +kernel
theorem dX6_thoseAs_5 : decode cX6_thoseAs 5 = .ok (.iload 4, 2) := by decide +kernel
theorem dX6_thoseAs_7 : decode cX6_thoseAs 7 = .ok (.aload_n 0, 1) := by decide +kernel
theorem dX6_thoseAs_8 : decode cX6_thoseAs 8 = .ok (.getfield 7, 3) := by decide +kernel
theorem dX6_thoseAs_11 : decode cX6_thoseAs 11 = .ok (.iconst 0, 1) := by decide +kernel
theorem dX6_thoseAs_12 : decode cX6_thoseAs 12 = .ok (.iaload, 1) := by decide +kernel
theorem dX6_thoseAs_13 : decode cX6_thoseAs 13 = .ok (.if_icmp .ge 31, 3) := by decide +kernel
theorem dX6_thoseAs_16 : decode cX6_thoseAs 16 = .ok (.iload_n 3, 1) := by decide +kernel
theorem dX6_thoseAs_17 : decode cX6_thoseAs 17 = .ok (.aload_n 0, 1) := by decide +kernel
theorem dX6_thoseAs_18 : decode cX6_thoseAs 18 = .ok (.iload 4, 2) := by decide +kernel
theorem dX6_thoseAs_20 : decode cX6_thoseAs 20 = .ok (.iload_n 1, 1) := by decide +kernel
theorem dX6_thoseAs_21 : decode cX6_thoseAs 21 = .ok (.invokevirtual 74, 3) := by decide +kernel
theorem dX6_thoseAs_24 : decode cX6_thoseAs 24 = .ok (.iload_n 2, 1) := by decide +kernel
theorem dX6_thoseAs_25 : decode cX6_thoseAs 25 = .ok (.if_icmp .ne 10, 3) := by decide +kernel
theorem dX6_thoseAs_28 : decode cX6_thoseAs 28 = .ok (.iconst 1, 1) := by decide +kernel
theorem dX6_thoseAs_29 : decode cX6_thoseAs 29 = .ok (.iload 4, 2) := by decide +kernel
theorem dX6_thoseAs_31 : decode cX6_thoseAs 31 = .ok (.ishl, 1) := by decide +kernel
theorem dX6_thoseAs_32 : decode cX6_thoseAs 32 = .ok (.goto 4, 3) := by decide +kernel
theorem dX6_thoseAs_35 : decode cX6_thoseAs 35 = .ok (.iconst 0, 1) := by decide +kernel
theorem dX6_thoseAs_36 : decode cX6_thoseAs 36 = .ok (.ior, 1) := by decide +kernel
theorem dX6_thoseAs_37 : decode cX6_thoseAs 37 = .ok (.istore_n 3, 1) := by decide +kernel
theorem dX6_thoseAs_38 : decode cX6_thoseAs 38 = .ok (.iinc 4 1, 3) := by decide +kernel
theorem dX6_thoseAs_41 : decode cX6_thoseAs 41 = .ok (.goto (-36), 3) := by decide +kernel
theorem dX6_thoseAs_44 : decode cX6_thoseAs 44 = .ok (.iload_n 3, 1) := by decide +kernel
theorem dX6_thoseAs_45 : decode cX6_thoseAs 45 = .ok (.ireturn, 1) := by decide +kernel
theorem dX6_streetOf_0 : decode cX6_streetOf 0 = .ok (.iload_n 1, 1) := by decide +kernel
theorem dX6_streetOf_1 : decode cX6_streetOf 1 = .ok (.invokestatic 70, 3) := by decide +kernel
theorem dX6_streetOf_4 : decode cX6_streetOf 4 = .ok (.ifCond .eq 15, 3) := by decide +kernel
theorem dX6_streetOf_7 : decode cX6_streetOf 7 = .ok (.iload_n 2, 1) := by decide +kernel
theorem dX6_streetOf_8 : decode cX6_streetOf 8 = .ok (.i2l, 1) := by decide +kernel
theorem dX6_streetOf_9 : decode cX6_streetOf 9 = .ok (.lconst 0, 1) := by decide +kernel
theorem dX6_streetOf_10 : decode cX6_streetOf 10 = .ok (.ldc2_w 55, 3) := by decide +kernel
theorem dX6_streetOf_13 : decode cX6_streetOf 13 = .ok (.invokestatic 48, 3) := by decide +kernel
theorem dX6_streetOf_16 : decode cX6_streetOf 16 = .ok (.ifCond .ne 10, 3) := by decide +kernel
theorem dX6_streetOf_19 : decode cX6_streetOf 19 = .ok (.aload_n 0, 1) := by decide +kernel
theorem dX6_streetOf_20 : decode cX6_streetOf 20 = .ok (.ldc 45, 2) := by decide +kernel
theorem dX6_streetOf_22 : decode cX6_streetOf 22 = .ok (.invokevirtual 64, 3) := by decide +kernel
theorem dX6_streetOf_25 : decode cX6_streetOf 25 = .ok (.ireturn, 1) := by decide +kernel
theorem dX6_streetOf_26 : decode cX6_streetOf 26 = .ok (.aload_n 0, 1) := by decide +kernel
theorem dX6_streetOf_27 : decode cX6_streetOf 27 = .ok (.iconst 1, 1) := by decide +kernel
theorem dX6_streetOf_28 : decode cX6_streetOf 28 = .ok (.iload_n 1, 1) := by decide +kernel
theorem dX6_streetOf_29 : decode cX6_streetOf 29 = .ok (.invokevirtual 77, 3) := by decide +kernel
theorem dX6_streetOf_32 : decode cX6_streetOf 32 = .ok (.istore_n 3, 1) := by decide +kernel
theorem dX6_streetOf_33 : decode cX6_streetOf 33 = .ok (.iload_n 2, 1) := by decide +kernel
theorem dX6_streetOf_34 : decode cX6_streetOf 34 = .ok (.iconst 1, 1) := by decide +kernel
theorem dX6_streetOf_35 : decode cX6_streetOf 35 = .ok (.if_icmp .gt 16, 3) := by decide +kernel
theorem dX6_streetOf_38 : decode cX6_streetOf 38 = .ok (.aload_n 0, 1) := by decide +kernel
theorem dX6_streetOf_39 : decode cX6_streetOf 39 = .ok (.getfield 7, 3) := by decide +kernel
theorem dX6_streetOf_42 : decode cX6_streetOf 42 = .ok (.iload_n 1, 1) := by decide +kernel
theorem dX6_streetOf_43 : decode cX6_streetOf 43 = .ok (.iload_n 2, 1) := by decide +kernel
theorem dX6_streetOf_44 : decode cX6_streetOf 44 = .ok (.invokestatic 41, 3) := by decide +kernel
theorem dX6_streetOf_47 : decode cX6_streetOf 47 = .ok (.iaload, 1) := by decide +kernel
theorem dX6_streetOf_48 : decode cX6_streetOf 48 = .ok (.goto 20, 3) := by decide +kernel
theorem dX6_streetOf_51 : decode cX6_streetOf 51 = .ok (.iload_n 2, 1) := by decide +kernel
theorem dX6_streetOf_52 : decode cX6_streetOf 52 = .ok (.iconst 2, 1) := by decide +kernel
theorem dX6_streetOf_53 : decode cX6_streetOf 53 = .ok (.if_icmp .ne 7, 3) := by decide +kernel
theorem dX6_streetOf_56 : decode cX6_streetOf 56 = .ok (.iload_n 3, 1) := by decide +kernel
theorem dX6_streetOf_57 : decode cX6_streetOf 57 = .ok (.goto 11, 3) := by decide +kernel
theorem dX6_streetOf_60 : decode cX6_streetOf 60 = .ok (.iload_n 3, 1) := by decide +kernel
theorem dX6_streetOf_61 : decode cX6_streetOf 61 = .ok (.aload_n 0, 1) := by decide +kernel
theorem dX6_streetOf_62 : decode cX6_streetOf 62 = .ok (.iconst 3, 1) := by decide +kernel
theorem dX6_streetOf_63 : decode cX6_streetOf 63 = .ok (.iconst 0, 1) := by decide +kernel
theorem dX6_streetOf_64 : decode cX6_streetOf 64 = .ok (.invokevirtual 77, 3) := by decide +kernel
theorem dX6_streetOf_67 : decode cX6_streetOf 67 = .ok (.iand, 1) := by decide +kernel
theorem dX6_streetOf_68 : decode cX6_streetOf 68 = .ok (.ireturn, 1) := by decide +kernel
theorem dX6_adds_0 : decode cX6_adds 0 = .ok (.aload_n 0, 1) := by decide +kernel
theorem dX6_adds_1 : decode cX6_adds 1 = .ok (.getfield 7, 3) := by decide +kernel
theorem dX6_adds_4 : decode cX6_adds 4 = .ok (.iconst 0, 1) := by decide +kernel
theorem dX6_adds_5 : decode cX6_adds 5 = .ok (.iaload, 1) := by decide +kernel
theorem dX6_adds_6 : decode cX6_adds 6 = .ok (.istore_n 3, 1) := by decide +kernel
theorem dX6_adds_7 : decode cX6_adds 7 = .ok (.aload_n 0, 1) := by decide +kernel
theorem dX6_adds_8 : decode cX6_adds 8 = .ok (.getfield 7, 3) := by decide +kernel
theorem dX6_adds_11 : decode cX6_adds 11 = .ok (.iload_n 3, 1) := by decide +kernel
theorem dX6_adds_12 : decode cX6_adds 12 = .ok (.iconst 0, 1) := by decide +kernel
theorem dX6_adds_13 : decode cX6_adds 13 = .ok (.invokestatic 52, 3) := by decide +kernel
theorem dX6_adds_16 : decode cX6_adds 16 = .ok (.iload_n 1, 1) := by decide +kernel
theorem dX6_adds_17 : decode cX6_adds 17 = .ok (.iastore, 1) := by decide +kernel
theorem dX6_adds_18 : decode cX6_adds 18 = .ok (.aload_n 0, 1) := by decide +kernel
theorem dX6_adds_19 : decode cX6_adds 19 = .ok (.getfield 7, 3) := by decide +kernel
theorem dX6_adds_22 : decode cX6_adds 22 = .ok (.iload_n 3, 1) := by decide +kernel
theorem dX6_adds_23 : decode cX6_adds 23 = .ok (.iconst 1, 1) := by decide +kernel
theorem dX6_adds_24 : decode cX6_adds 24 = .ok (.invokestatic 52, 3) := by decide +kernel
theorem dX6_adds_27 : decode cX6_adds 27 = .ok (.iload_n 2, 1) := by decide +kernel
theorem dX6_adds_28 : decode cX6_adds 28 = .ok (.iastore, 1) := by decide +kernel
theorem dX6_adds_29 : decode cX6_adds 29 = .ok (.aload_n 0, 1) := by decide +kernel
theorem dX6_adds_30 : decode cX6_adds 30 = .ok (.getfield 7, 3) := by decide +kernel
theorem dX6_adds_33 : decode cX6_adds 33 = .ok (.iload_n 3, 1) := by decide +kernel
theorem dX6_adds_34 : decode cX6_adds 34 = .ok (.iconst 2, 1) := by decide +kernel
theorem dX6_adds_35 : decode cX6_adds 35 = .ok (.invokestatic 52, 3) := by decide +kernel
theorem dX6_adds_38 : decode cX6_adds 38 = .ok (.iconst 5, 1) := by decide +kernel
theorem dX6_adds_39 : decode cX6_adds 39 = .ok (.iastore, 1) := by decide +kernel
theorem dX6_adds_40 : decode cX6_adds 40 = .ok (.aload_n 0, 1) := by decide +kernel
theorem dX6_adds_41 : decode cX6_adds 41 = .ok (.getfield 7, 3) := by decide +kernel
theorem dX6_adds_44 : decode cX6_adds 44 = .ok (.iload_n 3, 1) := by decide +kernel
theorem dX6_adds_45 : decode cX6_adds 45 = .ok (.iconst 3, 1) := by decide +kernel
theorem dX6_adds_46 : decode cX6_adds 46 = .ok (.invokestatic 52, 3) := by decide +kernel
theorem dX6_adds_49 : decode cX6_adds 49 = .ok (.iconst 0, 1) := by decide +kernel
theorem dX6_adds_50 : decode cX6_adds 50 = .ok (.iastore, 1) := by decide +kernel
theorem dX6_adds_51 : decode cX6_adds 51 = .ok (.aload_n 0, 1) := by decide +kernel
theorem dX6_adds_52 : decode cX6_adds 52 = .ok (.getfield 7, 3) := by decide +kernel
theorem dX6_adds_55 : decode cX6_adds 55 = .ok (.iload_n 3, 1) := by decide +kernel
theorem dX6_adds_56 : decode cX6_adds 56 = .ok (.iconst 4, 1) := by decide +kernel
theorem dX6_adds_57 : decode cX6_adds 57 = .ok (.invokestatic 52, 3) := by decide +kernel
theorem dX6_adds_60 : decode cX6_adds 60 = .ok (.iconst 0, 1) := by decide +kernel
theorem dX6_adds_61 : decode cX6_adds 61 = .ok (.iastore, 1) := by decide +kernel
theorem dX6_adds_62 : decode cX6_adds 62 = .ok (.aload_n 0, 1) := by decide +kernel
theorem dX6_adds_63 : decode cX6_adds 63 = .ok (.getfield 7, 3) := by decide +kernel
theorem dX6_adds_66 : decode cX6_adds 66 = .ok (.iload_n 3, 1) := by decide +kernel
theorem dX6_adds_67 : decode cX6_adds 67 = .ok (.iconst 5, 1) := by decide +kernel
theorem dX6_adds_68 : decode cX6_adds 68 = .ok (.invokestatic 52, 3) := by decide +kernel
theorem dX6_adds_71 : decode cX6_adds 71 = .ok (.iconst 0, 1) := by decide +kernel
theorem dX6_adds_72 : decode cX6_adds 72 = .ok (.iastore, 1) := by decide +kernel
theorem dX6_adds_73 : decode cX6_adds 73 = .ok (.aload_n 0, 1) := by decide +kernel
theorem dX6_adds_74 : decode cX6_adds 74 = .ok (.getfield 7, 3) := by decide +kernel
theorem dX6_adds_77 : decode cX6_adds 77 = .ok (.iconst 0, 1) := by decide +kernel
theorem dX6_adds_78 : decode cX6_adds 78 = .ok (.dup2, 1) := by decide +kernel
theorem dX6_adds_79 : decode cX6_adds 79 = .ok (.iaload, 1) := by decide +kernel
theorem dX6_adds_80 : decode cX6_adds 80 = .ok (.iconst 1, 1) := by decide +kernel
theorem dX6_adds_81 : decode cX6_adds 81 = .ok (.iadd, 1) := by decide +kernel
theorem dX6_adds_82 : decode cX6_adds 82 = .ok (.iastore, 1) := by decide +kernel
theorem dX6_adds_83 : decode cX6_adds 83 = .ok (.iload_n 3, 1) := by decide +kernel
theorem dX6_adds_84 : decode cX6_adds 84 = .ok (.ireturn, 1) := by decide +kernel
theorem dX6_hole_0 : decode cX6_hole 0 = .ok (.iload_n 1, 1) := by decide +kernel
theorem dX6_hole_1 : decode cX6_hole 1 = .ok (.invokestatic 80, 3) := by decide +kernel
theorem dX6_hole_4 : decode cX6_hole 4 = .ok (.ifCond .eq 10, 3) := by decide +kernel
theorem dX6_hole_7 : decode cX6_hole 7 = .ok (.iload_n 2, 1) := by decide +kernel
theorem dX6_hole_8 : decode cX6_hole 8 = .ok (.invokestatic 70, 3) := by decide +kernel
theorem dX6_hole_11 : decode cX6_hole 11 = .ok (.ifCond .ne 10, 3) := by decide +kernel
theorem dX6_hole_14 : decode cX6_hole 14 = .ok (.aload_n 0, 1) := by decide +kernel
theorem dX6_hole_15 : decode cX6_hole 15 = .ok (.ldc 45, 2) := by decide +kernel
theorem dX6_hole_17 : decode cX6_hole 17 = .ok (.invokevirtual 64, 3) := by decide +kernel
theorem dX6_hole_20 : decode cX6_hole 20 = .ok (.ireturn, 1) := by decide +kernel
theorem dX6_hole_21 : decode cX6_hole 21 = .ok (.aload_n 0, 1) := by decide +kernel
theorem dX6_hole_22 : decode cX6_hole 22 = .ok (.getfield 7, 3) := by decide +kernel
theorem dX6_hole_25 : decode cX6_hole 25 = .ok (.iconst 0, 1) := by decide +kernel
theorem dX6_hole_26 : decode cX6_hole 26 = .ok (.iaload, 1) := by decide +kernel
theorem dX6_hole_27 : decode cX6_hole 27 = .ok (.bipush 8, 2) := by decide +kernel
theorem dX6_hole_29 : decode cX6_hole 29 = .ok (.if_icmp .ne 12, 3) := by decide +kernel
theorem dX6_hole_32 : decode cX6_hole 32 = .ok (.aload_n 0, 1) := by decide +kernel
theorem dX6_hole_33 : decode cX6_hole 33 = .ok (.ldc 83, 2) := by decide +kernel
theorem dX6_hole_35 : decode cX6_hole 35 = .ok (.invokevirtual 64, 3) := by decide +kernel
theorem dX6_hole_38 : decode cX6_hole 38 = .ok (.goto 9, 3) := by decide +kernel
theorem dX6_hole_41 : decode cX6_hole 41 = .ok (.aload_n 0, 1) := by decide +kernel
theorem dX6_hole_42 : decode cX6_hole 42 = .ok (.iload_n 1, 1) := by decide +kernel
theorem dX6_hole_43 : decode cX6_hole 43 = .ok (.iload_n 2, 1) := by decide +kernel
theorem dX6_hole_44 : decode cX6_hole 44 = .ok (.invokevirtual 84, 3) := by decide +kernel
theorem dX6_hole_47 : decode cX6_hole 47 = .ok (.ireturn, 1) := by decide +kernel
theorem dX6_weekOfYear_0 : decode cX6_weekOfYear 0 = .ok (.aload_n 0, 1) := by decide +kernel
theorem dX6_weekOfYear_1 : decode cX6_weekOfYear 1 = .ok (.getfield 7, 3) := by decide +kernel
theorem dX6_weekOfYear_4 : decode cX6_weekOfYear 4 = .ok (.iconst 1, 1) := by decide +kernel
theorem dX6_weekOfYear_5 : decode cX6_weekOfYear 5 = .ok (.iaload, 1) := by decide +kernel
theorem dX6_weekOfYear_6 : decode cX6_weekOfYear 6 = .ok (.bipush 52, 2) := by decide +kernel
theorem dX6_weekOfYear_8 : decode cX6_weekOfYear 8 = .ok (.irem, 1) := by decide +kernel
theorem dX6_weekOfYear_9 : decode cX6_weekOfYear 9 = .ok (.ireturn, 1) := by decide +kernel
theorem dX6_isFrost_0 : decode cX6_isFrost 0 = .ok (.aload_n 0, 1) := by decide +kernel
theorem dX6_isFrost_1 : decode cX6_isFrost 1 = .ok (.invokevirtual 87, 3) := by decide +kernel
theorem dX6_isFrost_4 : decode cX6_isFrost 4 = .ok (.bipush 10, 2) := by decide +kernel
theorem dX6_isFrost_6 : decode cX6_isFrost 6 = .ok (.if_icmp .lt 12, 3) := by decide +kernel
theorem dX6_isFrost_9 : decode cX6_isFrost 9 = .ok (.aload_n 0, 1) := by decide +kernel
theorem dX6_isFrost_10 : decode cX6_isFrost 10 = .ok (.invokevirtual 87, 3) := by decide +kernel
theorem dX6_isFrost_13 : decode cX6_isFrost 13 = .ok (.bipush 46, 2) := by decide +kernel
theorem dX6_isFrost_15 : decode cX6_isFrost 15 = .ok (.if_icmp .lt 7, 3) := by decide +kernel
theorem dX6_isFrost_18 : decode cX6_isFrost 18 = .ok (.iconst 1, 1) := by decide +kernel
theorem dX6_isFrost_19 : decode cX6_isFrost 19 = .ok (.goto 4, 3) := by decide +kernel
theorem dX6_isFrost_22 : decode cX6_isFrost 22 = .ok (.iconst 0, 1) := by decide +kernel
theorem dX6_isFrost_23 : decode cX6_isFrost 23 = .ok (.ireturn, 1) := by decide +kernel
theorem dX6_growsOf_0 : decode cX6_growsOf 0 = .ok (.iconst 1, 1) := by decide +kernel
theorem dX6_growsOf_1 : decode cX6_growsOf 1 = .ok (.aload_n 0, 1) := by decide +kernel
theorem dX6_growsOf_2 : decode cX6_growsOf 2 = .ok (.getfield 7, 3) := by decide +kernel
theorem dX6_growsOf_5 : decode cX6_growsOf 5 = .ok (.aload_n 0, 1) := by decide +kernel
theorem dX6_growsOf_6 : decode cX6_growsOf 6 = .ok (.iload_n 1, 1) := by decide +kernel
theorem dX6_growsOf_7 : decode cX6_growsOf 7 = .ok (.iconst 1, 1) := by decide +kernel
theorem dX6_growsOf_8 : decode cX6_growsOf 8 = .ok (.invokevirtual 74, 3) := by decide +kernel
theorem dX6_growsOf_11 : decode cX6_growsOf 11 = .ok (.iconst 0, 1) := by decide +kernel
theorem dX6_growsOf_12 : decode cX6_growsOf 12 = .ok (.invokestatic 41, 3) := by decide +kernel
theorem dX6_growsOf_15 : decode cX6_growsOf 15 = .ok (.iaload, 1) := by decide +kernel
theorem dX6_growsOf_16 : decode cX6_growsOf 16 = .ok (.bipush 10, 2) := by decide +kernel
theorem dX6_growsOf_18 : decode cX6_growsOf 18 = .ok (.idiv, 1) := by decide +kernel
theorem dX6_growsOf_19 : decode cX6_growsOf 19 = .ok (.iadd, 1) := by decide +kernel
theorem dX6_growsOf_20 : decode cX6_growsOf 20 = .ok (.istore_n 2, 1) := by decide +kernel
theorem dX6_growsOf_21 : decode cX6_growsOf 21 = .ok (.aload_n 0, 1) := by decide +kernel
theorem dX6_growsOf_22 : decode cX6_growsOf 22 = .ok (.invokevirtual 91, 3) := by decide +kernel
theorem dX6_growsOf_25 : decode cX6_growsOf 25 = .ok (.ifCond .eq 9, 3) := by decide +kernel
theorem dX6_growsOf_28 : decode cX6_growsOf 28 = .ok (.iload_n 2, 1) := by decide +kernel
theorem dX6_growsOf_29 : decode cX6_growsOf 29 = .ok (.iconst 2, 1) := by decide +kernel
theorem dX6_growsOf_30 : decode cX6_growsOf 30 = .ok (.iadd, 1) := by decide +kernel
theorem dX6_growsOf_31 : decode cX6_growsOf 31 = .ok (.goto 4, 3) := by decide +kernel
theorem dX6_growsOf_34 : decode cX6_growsOf 34 = .ok (.iload_n 2, 1) := by decide +kernel
theorem dX6_growsOf_35 : decode cX6_growsOf 35 = .ok (.istore_n 2, 1) := by decide +kernel
theorem dX6_growsOf_36 : decode cX6_growsOf 36 = .ok (.iload_n 2, 1) := by decide +kernel
theorem dX6_growsOf_37 : decode cX6_growsOf 37 = .ok (.aload_n 0, 1) := by decide +kernel
theorem dX6_growsOf_38 : decode cX6_growsOf 38 = .ok (.iload_n 1, 1) := by decide +kernel
theorem dX6_growsOf_39 : decode cX6_growsOf 39 = .ok (.iconst 2, 1) := by decide +kernel
theorem dX6_growsOf_40 : decode cX6_growsOf 40 = .ok (.invokevirtual 74, 3) := by decide +kernel
theorem dX6_growsOf_43 : decode cX6_growsOf 43 = .ok (.bipush 20, 2) := by decide +kernel
theorem dX6_growsOf_45 : decode cX6_growsOf 45 = .ok (.idiv, 1) := by decide +kernel
theorem dX6_growsOf_46 : decode cX6_growsOf 46 = .ok (.iadd, 1) := by decide +kernel
theorem dX6_growsOf_47 : decode cX6_growsOf 47 = .ok (.istore_n 3, 1) := by decide +kernel
theorem dX6_growsOf_48 : decode cX6_growsOf 48 = .ok (.aload_n 0, 1) := by decide +kernel
theorem dX6_growsOf_49 : decode cX6_growsOf 49 = .ok (.iload_n 1, 1) := by decide +kernel
theorem dX6_growsOf_50 : decode cX6_growsOf 50 = .ok (.iconst 0, 1) := by decide +kernel
theorem dX6_growsOf_51 : decode cX6_growsOf 51 = .ok (.invokevirtual 74, 3) := by decide +kernel
theorem dX6_growsOf_54 : decode cX6_growsOf 54 = .ok (.tableswitch 73 1 5 #[34, 36, 38, 56, 60], 34) := by decide +kernel
theorem dX6_growsOf_88 : decode cX6_growsOf 88 = .ok (.iload_n 3, 1) := by decide +kernel
theorem dX6_growsOf_89 : decode cX6_growsOf 89 = .ok (.ireturn, 1) := by decide +kernel
theorem dX6_growsOf_90 : decode cX6_growsOf 90 = .ok (.iconst 1, 1) := by decide +kernel
theorem dX6_growsOf_91 : decode cX6_growsOf 91 = .ok (.ireturn, 1) := by decide +kernel
theorem dX6_growsOf_92 : decode cX6_growsOf 92 = .ok (.aload_n 0, 1) := by decide +kernel
theorem dX6_growsOf_93 : decode cX6_growsOf 93 = .ok (.invokevirtual 87, 3) := by decide +kernel
theorem dX6_growsOf_96 : decode cX6_growsOf 96 = .ok (.bipush 9, 2) := by decide +kernel
theorem dX6_growsOf_98 : decode cX6_growsOf 98 = .ok (.irem, 1) := by decide +kernel
theorem dX6_growsOf_99 : decode cX6_growsOf 99 = .ok (.ifCond .ne 9, 3) := by decide +kernel
theorem dX6_growsOf_102 : decode cX6_growsOf 102 = .ok (.iload_n 2, 1) := by decide +kernel
theorem dX6_growsOf_103 : decode cX6_growsOf 103 = .ok (.iconst 3, 1) := by decide +kernel
theorem dX6_growsOf_104 : decode cX6_growsOf 104 = .ok (.iadd, 1) := by decide +kernel
theorem dX6_growsOf_105 : decode cX6_growsOf 105 = .ok (.goto 4, 3) := by decide +kernel
theorem dX6_growsOf_108 : decode cX6_growsOf 108 = .ok (.iload_n 2, 1) := by decide +kernel
theorem dX6_growsOf_109 : decode cX6_growsOf 109 = .ok (.ireturn, 1) := by decide +kernel
theorem dX6_growsOf_110 : decode cX6_growsOf 110 = .ok (.iload_n 3, 1) := by decide +kernel
theorem dX6_growsOf_111 : decode cX6_growsOf 111 = .ok (.iconst 1, 1) := by decide +kernel
theorem dX6_growsOf_112 : decode cX6_growsOf 112 = .ok (.isub, 1) := by decide +kernel
theorem dX6_growsOf_113 : decode cX6_growsOf 113 = .ok (.ireturn, 1) := by decide +kernel
theorem dX6_growsOf_114 : decode cX6_growsOf 114 = .ok (.aload_n 0, 1) := by decide +kernel
theorem dX6_growsOf_115 : decode cX6_growsOf 115 = .ok (.invokevirtual 91, 3) := by decide +kernel
theorem dX6_growsOf_118 : decode cX6_growsOf 118 = .ok (.ifCond .eq 7, 3) := by decide +kernel
theorem dX6_growsOf_121 : decode cX6_growsOf 121 = .ok (.iconst 2, 1) := by decide +kernel
theorem dX6_growsOf_122 : decode cX6_growsOf 122 = .ok (.goto 4, 3) := by decide +kernel
theorem dX6_growsOf_125 : decode cX6_growsOf 125 = .ok (.iconst 1, 1) := by decide +kernel
theorem dX6_growsOf_126 : decode cX6_growsOf 126 = .ok (.ireturn, 1) := by decide +kernel
theorem dX6_growsOf_127 : decode cX6_growsOf 127 = .ok (.iload_n 2, 1) := by decide +kernel
theorem dX6_growsOf_128 : decode cX6_growsOf 128 = .ok (.ireturn, 1) := by decide +kernel
theorem dX6_holdsOf_0 : decode cX6_holdsOf 0 = .ok (.iload_n 2, 1) := by decide +kernel
theorem dX6_holdsOf_1 : decode cX6_holdsOf 1 = .ok (.ifCond .eq 8, 3) := by decide +kernel
theorem dX6_holdsOf_4 : decode cX6_holdsOf 4 = .ok (.bipush 40, 2) := by decide +kernel
theorem dX6_holdsOf_6 : decode cX6_holdsOf 6 = .ok (.goto 4, 3) := by decide +kernel
theorem dX6_holdsOf_9 : decode cX6_holdsOf 9 = .ok (.iconst 3, 1) := by decide +kernel
theorem dX6_holdsOf_10 : decode cX6_holdsOf 10 = .ok (.istore_n 3, 1) := by decide +kernel
theorem dX6_holdsOf_11 : decode cX6_holdsOf 11 = .ok (.aload_n 0, 1) := by decide +kernel
theorem dX6_holdsOf_12 : decode cX6_holdsOf 12 = .ok (.iload_n 1, 1) := by decide +kernel
theorem dX6_holdsOf_13 : decode cX6_holdsOf 13 = .ok (.iconst 0, 1) := by decide +kernel
theorem dX6_holdsOf_14 : decode cX6_holdsOf 14 = .ok (.invokevirtual 74, 3) := by decide +kernel
theorem dX6_holdsOf_17 : decode cX6_holdsOf 17 = .ok (.tableswitch 53 1 5 #[35, 39, 43, 35, 47], 35) := by decide +kernel
theorem dX6_holdsOf_52 : decode cX6_holdsOf 52 = .ok (.iload_n 3, 1) := by decide +kernel
theorem dX6_holdsOf_53 : decode cX6_holdsOf 53 = .ok (.iconst 1, 1) := by decide +kernel
theorem dX6_holdsOf_54 : decode cX6_holdsOf 54 = .ok (.isub, 1) := by decide +kernel
theorem dX6_holdsOf_55 : decode cX6_holdsOf 55 = .ok (.ireturn, 1) := by decide +kernel
theorem dX6_holdsOf_56 : decode cX6_holdsOf 56 = .ok (.iload_n 3, 1) := by decide +kernel
theorem dX6_holdsOf_57 : decode cX6_holdsOf 57 = .ok (.iconst 5, 1) := by decide +kernel
theorem dX6_holdsOf_58 : decode cX6_holdsOf 58 = .ok (.iadd, 1) := by decide +kernel
theorem dX6_holdsOf_59 : decode cX6_holdsOf 59 = .ok (.ireturn, 1) := by decide +kernel
theorem dX6_holdsOf_60 : decode cX6_holdsOf 60 = .ok (.iload_n 3, 1) := by decide +kernel
theorem dX6_holdsOf_61 : decode cX6_holdsOf 61 = .ok (.iconst 2, 1) := by decide +kernel
theorem dX6_holdsOf_62 : decode cX6_holdsOf 62 = .ok (.idiv, 1) := by decide +kernel
theorem dX6_holdsOf_63 : decode cX6_holdsOf 63 = .ok (.ireturn, 1) := by decide +kernel
theorem dX6_holdsOf_64 : decode cX6_holdsOf 64 = .ok (.iconst 2, 1) := by decide +kernel
theorem dX6_holdsOf_65 : decode cX6_holdsOf 65 = .ok (.iload_n 3, 1) := by decide +kernel
theorem dX6_holdsOf_66 : decode cX6_holdsOf 66 = .ok (.iconst 5, 1) := by decide +kernel
theorem dX6_holdsOf_67 : decode cX6_holdsOf 67 = .ok (.iadd, 1) := by decide +kernel
theorem dX6_holdsOf_68 : decode cX6_holdsOf 68 = .ok (.imul, 1) := by decide +kernel
theorem dX6_holdsOf_69 : decode cX6_holdsOf 69 = .ok (.ireturn, 1) := by decide +kernel
theorem dX6_holdsOf_70 : decode cX6_holdsOf 70 = .ok (.iload_n 3, 1) := by decide +kernel
theorem dX6_holdsOf_71 : decode cX6_holdsOf 71 = .ok (.ireturn, 1) := by decide +kernel
theorem dX6_costsOf_0 : decode cX6_costsOf 0 = .ok (.iconst 5, 1) := by decide +kernel
theorem dX6_costsOf_1 : decode cX6_costsOf 1 = .ok (.aload_n 0, 1) := by decide +kernel
theorem dX6_costsOf_2 : decode cX6_costsOf 2 = .ok (.iload_n 1, 1) := by decide +kernel
theorem dX6_costsOf_3 : decode cX6_costsOf 3 = .ok (.iconst 2, 1) := by decide +kernel
theorem dX6_costsOf_4 : decode cX6_costsOf 4 = .ok (.invokevirtual 74, 3) := by decide +kernel
theorem dX6_costsOf_7 : decode cX6_costsOf 7 = .ok (.bipush 10, 2) := by decide +kernel
theorem dX6_costsOf_9 : decode cX6_costsOf 9 = .ok (.idiv, 1) := by decide +kernel
theorem dX6_costsOf_10 : decode cX6_costsOf 10 = .ok (.iadd, 1) := by decide +kernel
theorem dX6_costsOf_11 : decode cX6_costsOf 11 = .ok (.istore_n 2, 1) := by decide +kernel
theorem dX6_costsOf_12 : decode cX6_costsOf 12 = .ok (.aload_n 0, 1) := by decide +kernel
theorem dX6_costsOf_13 : decode cX6_costsOf 13 = .ok (.iload_n 1, 1) := by decide +kernel
theorem dX6_costsOf_14 : decode cX6_costsOf 14 = .ok (.iconst 0, 1) := by decide +kernel
theorem dX6_costsOf_15 : decode cX6_costsOf 15 = .ok (.invokevirtual 74, 3) := by decide +kernel
theorem dX6_costsOf_18 : decode cX6_costsOf 18 = .ok (.tableswitch 46 1 5 #[34, 38, 46, 40, 44], 34) := by decide +kernel
theorem dX6_costsOf_52 : decode cX6_costsOf 52 = .ok (.iload_n 2, 1) := by decide +kernel
theorem dX6_costsOf_53 : decode cX6_costsOf 53 = .ok (.iconst 3, 1) := by decide +kernel
theorem dX6_costsOf_54 : decode cX6_costsOf 54 = .ok (.iadd, 1) := by decide +kernel
theorem dX6_costsOf_55 : decode cX6_costsOf 55 = .ok (.ireturn, 1) := by decide +kernel
theorem dX6_costsOf_56 : decode cX6_costsOf 56 = .ok (.iconst 2, 1) := by decide +kernel
theorem dX6_costsOf_57 : decode cX6_costsOf 57 = .ok (.ireturn, 1) := by decide +kernel
theorem dX6_costsOf_58 : decode cX6_costsOf 58 = .ok (.iload_n 2, 1) := by decide +kernel
theorem dX6_costsOf_59 : decode cX6_costsOf 59 = .ok (.iconst 1, 1) := by decide +kernel
theorem dX6_costsOf_60 : decode cX6_costsOf 60 = .ok (.iadd, 1) := by decide +kernel
theorem dX6_costsOf_61 : decode cX6_costsOf 61 = .ok (.ireturn, 1) := by decide +kernel
theorem dX6_costsOf_62 : decode cX6_costsOf 62 = .ok (.iconst 3, 1) := by decide +kernel
theorem dX6_costsOf_63 : decode cX6_costsOf 63 = .ok (.ireturn, 1) := by decide +kernel
theorem dX6_costsOf_64 : decode cX6_costsOf 64 = .ok (.iload_n 2, 1) := by decide +kernel
theorem dX6_costsOf_65 : decode cX6_costsOf 65 = .ok (.ireturn, 1) := by decide +kernel
theorem dX6_priceOf_0 : decode cX6_priceOf 0 = .ok (.iload_n 2, 1) := by decide +kernel
theorem dX6_priceOf_1 : decode cX6_priceOf 1 = .ok (.iconst 1, 1) := by decide +kernel
theorem dX6_priceOf_2 : decode cX6_priceOf 2 = .ok (.if_icmp .ne 14, 3) := by decide +kernel
theorem dX6_priceOf_5 : decode cX6_priceOf 5 = .ok (.bipush 11, 2) := by decide +kernel
theorem dX6_priceOf_7 : decode cX6_priceOf 7 = .ok (.aload_n 0, 1) := by decide +kernel
theorem dX6_priceOf_8 : decode cX6_priceOf 8 = .ok (.iload_n 1, 1) := by decide +kernel
theorem dX6_priceOf_9 : decode cX6_priceOf 9 = .ok (.invokevirtual 95, 3) := by decide +kernel
theorem dX6_priceOf_12 : decode cX6_priceOf 12 = .ok (.imul, 1) := by decide +kernel
theorem dX6_priceOf_13 : decode cX6_priceOf 13 = .ok (.goto 8, 3) := by decide +kernel
theorem dX6_priceOf_16 : decode cX6_priceOf 16 = .ok (.aload_n 0, 1) := by decide +kernel
theorem dX6_priceOf_17 : decode cX6_priceOf 17 = .ok (.iload_n 1, 1) := by decide +kernel
theorem dX6_priceOf_18 : decode cX6_priceOf 18 = .ok (.invokevirtual 95, 3) := by decide +kernel
theorem dX6_priceOf_21 : decode cX6_priceOf 21 = .ok (.ireturn, 1) := by decide +kernel
theorem dX6_of_0 : decode cX6_of 0 = .ok (.aload_n 0, 1) := by decide +kernel
theorem dX6_of_1 : decode cX6_of 1 = .ok (.iload_n 1, 1) := by decide +kernel
theorem dX6_of_2 : decode cX6_of 2 = .ok (.invokevirtual 98, 3) := by decide +kernel
theorem dX6_of_5 : decode cX6_of 5 = .ok (.ifCond .eq 15, 3) := by decide +kernel
theorem dX6_of_8 : decode cX6_of 8 = .ok (.iload_n 2, 1) := by decide +kernel
theorem dX6_of_9 : decode cX6_of 9 = .ok (.i2l, 1) := by decide +kernel
theorem dX6_of_10 : decode cX6_of 10 = .ok (.lconst 0, 1) := by decide +kernel
theorem dX6_of_11 : decode cX6_of 11 = .ok (.ldc2_w 101, 3) := by decide +kernel
theorem dX6_of_14 : decode cX6_of 14 = .ok (.invokestatic 48, 3) := by decide +kernel
theorem dX6_of_17 : decode cX6_of 17 = .ok (.ifCond .ne 10, 3) := by decide +kernel
theorem dX6_of_20 : decode cX6_of 20 = .ok (.aload_n 0, 1) := by decide +kernel
theorem dX6_of_21 : decode cX6_of 21 = .ok (.ldc 45, 2) := by decide +kernel
theorem dX6_of_23 : decode cX6_of 23 = .ok (.invokevirtual 64, 3) := by decide +kernel
theorem dX6_of_26 : decode cX6_of 26 = .ok (.ireturn, 1) := by decide +kernel
theorem dX6_of_27 : decode cX6_of 27 = .ok (.iload_n 2, 1) := by decide +kernel
theorem dX6_of_28 : decode cX6_of 28 = .ok (.tableswitch 58 6 9 #[32, 38, 44, 51], 32) := by decide +kernel
theorem dX6_of_60 : decode cX6_of 60 = .ok (.aload_n 0, 1) := by decide +kernel
theorem dX6_of_61 : decode cX6_of 61 = .ok (.iload_n 1, 1) := by decide +kernel
theorem dX6_of_62 : decode cX6_of 62 = .ok (.invokevirtual 103, 3) := by decide +kernel
theorem dX6_of_65 : decode cX6_of 65 = .ok (.ireturn, 1) := by decide +kernel
theorem dX6_of_66 : decode cX6_of 66 = .ok (.aload_n 0, 1) := by decide +kernel
theorem dX6_of_67 : decode cX6_of 67 = .ok (.iload_n 1, 1) := by decide +kernel
theorem dX6_of_68 : decode cX6_of 68 = .ok (.invokevirtual 95, 3) := by decide +kernel
theorem dX6_of_71 : decode cX6_of 71 = .ok (.ireturn, 1) := by decide +kernel
theorem dX6_of_72 : decode cX6_of 72 = .ok (.aload_n 0, 1) := by decide +kernel
theorem dX6_of_73 : decode cX6_of 73 = .ok (.iload_n 1, 1) := by decide +kernel
theorem dX6_of_74 : decode cX6_of 74 = .ok (.iconst 0, 1) := by decide +kernel
theorem dX6_of_75 : decode cX6_of 75 = .ok (.invokevirtual 106, 3) := by decide +kernel
theorem dX6_of_78 : decode cX6_of 78 = .ok (.ireturn, 1) := by decide +kernel
theorem dX6_of_79 : decode cX6_of 79 = .ok (.aload_n 0, 1) := by decide +kernel
theorem dX6_of_80 : decode cX6_of 80 = .ok (.iload_n 1, 1) := by decide +kernel
theorem dX6_of_81 : decode cX6_of 81 = .ok (.iconst 1, 1) := by decide +kernel
theorem dX6_of_82 : decode cX6_of 82 = .ok (.invokevirtual 106, 3) := by decide +kernel
theorem dX6_of_85 : decode cX6_of 85 = .ok (.ireturn, 1) := by decide +kernel
theorem dX6_of_86 : decode cX6_of 86 = .ok (.aload_n 0, 1) := by decide +kernel
theorem dX6_of_87 : decode cX6_of 87 = .ok (.iload_n 1, 1) := by decide +kernel
theorem dX6_of_88 : decode cX6_of 88 = .ok (.iload_n 2, 1) := by decide +kernel
theorem dX6_of_89 : decode cX6_of 89 = .ok (.invokevirtual 74, 3) := by decide +kernel
theorem dX6_of_92 : decode cX6_of 92 = .ok (.ireturn, 1) := by decide +kernel
theorem dX6_isPart_0 : decode cX6_isPart 0 = .ok (.iload_n 0, 1) := by decide +kernel
theorem dX6_isPart_1 : decode cX6_isPart 1 = .ok (.tableswitch 66 1 4 #[31, 36, 46, 56], 31) := by decide +kernel
theorem dX6_isPart_32 : decode cX6_isPart 32 = .ok (.iload_n 1, 1) := by decide +kernel
theorem dX6_isPart_33 : decode cX6_isPart 33 = .ok (.invokestatic 70, 3) := by decide +kernel
theorem dX6_isPart_36 : decode cX6_isPart 36 = .ok (.ireturn, 1) := by decide +kernel
theorem dX6_isPart_37 : decode cX6_isPart 37 = .ok (.iload_n 1, 1) := by decide +kernel
theorem dX6_isPart_38 : decode cX6_isPart 38 = .ok (.i2l, 1) := by decide +kernel
theorem dX6_isPart_39 : decode cX6_isPart 39 = .ok (.lconst 0, 1) := by decide +kernel
theorem dX6_isPart_40 : decode cX6_isPart 40 = .ok (.ldc2_w 68, 3) := by decide +kernel
theorem dX6_isPart_43 : decode cX6_isPart 43 = .ok (.invokestatic 48, 3) := by decide +kernel
theorem dX6_isPart_46 : decode cX6_isPart 46 = .ok (.ireturn, 1) := by decide +kernel
theorem dX6_isPart_47 : decode cX6_isPart 47 = .ok (.iload_n 1, 1) := by decide +kernel
theorem dX6_isPart_48 : decode cX6_isPart 48 = .ok (.i2l, 1) := by decide +kernel
theorem dX6_isPart_49 : decode cX6_isPart 49 = .ok (.lconst 0, 1) := by decide +kernel
theorem dX6_isPart_50 : decode cX6_isPart 50 = .ok (.ldc2_w 110, 3) := by decide +kernel
theorem dX6_isPart_53 : decode cX6_isPart 53 = .ok (.invokestatic 48, 3) := by decide +kernel
theorem dX6_isPart_56 : decode cX6_isPart 56 = .ok (.ireturn, 1) := by decide +kernel
theorem dX6_isPart_57 : decode cX6_isPart 57 = .ok (.iload_n 1, 1) := by decide +kernel
theorem dX6_isPart_58 : decode cX6_isPart 58 = .ok (.i2l, 1) := by decide +kernel
theorem dX6_isPart_59 : decode cX6_isPart 59 = .ok (.lconst 0, 1) := by decide +kernel
theorem dX6_isPart_60 : decode cX6_isPart 60 = .ok (.ldc2_w 112, 3) := by decide +kernel
theorem dX6_isPart_63 : decode cX6_isPart 63 = .ok (.invokestatic 48, 3) := by decide +kernel
theorem dX6_isPart_66 : decode cX6_isPart 66 = .ok (.ireturn, 1) := by decide +kernel
theorem dX6_isPart_67 : decode cX6_isPart 67 = .ok (.iload_n 0, 1) := by decide +kernel
theorem dX6_isPart_68 : decode cX6_isPart 68 = .ok (.iconst 5, 1) := by decide +kernel
theorem dX6_isPart_69 : decode cX6_isPart 69 = .ok (.if_icmp .ne 17, 3) := by decide +kernel
theorem dX6_isPart_72 : decode cX6_isPart 72 = .ok (.iload_n 1, 1) := by decide +kernel
theorem dX6_isPart_73 : decode cX6_isPart 73 = .ok (.i2l, 1) := by decide +kernel
theorem dX6_isPart_74 : decode cX6_isPart 74 = .ok (.lconst 0, 1) := by decide +kernel
theorem dX6_isPart_75 : decode cX6_isPart 75 = .ok (.lconst 1, 1) := by decide +kernel
theorem dX6_isPart_76 : decode cX6_isPart 76 = .ok (.invokestatic 48, 3) := by decide +kernel
theorem dX6_isPart_79 : decode cX6_isPart 79 = .ok (.ifCond .eq 7, 3) := by decide +kernel
theorem dX6_isPart_82 : decode cX6_isPart 82 = .ok (.iconst 1, 1) := by decide +kernel
theorem dX6_isPart_83 : decode cX6_isPart 83 = .ok (.goto 4, 3) := by decide +kernel
theorem dX6_isPart_86 : decode cX6_isPart 86 = .ok (.iconst 0, 1) := by decide +kernel
theorem dX6_isPart_87 : decode cX6_isPart 87 = .ok (.ireturn, 1) := by decide +kernel
theorem dX6_set_0 : decode cX6_set 0 = .ok (.aload_n 0, 1) := by decide +kernel
theorem dX6_set_1 : decode cX6_set 1 = .ok (.iload_n 1, 1) := by decide +kernel
theorem dX6_set_2 : decode cX6_set 2 = .ok (.invokevirtual 98, 3) := by decide +kernel
theorem dX6_set_5 : decode cX6_set 5 = .ok (.ifCond .eq 24, 3) := by decide +kernel
theorem dX6_set_8 : decode cX6_set 8 = .ok (.iload_n 2, 1) := by decide +kernel
theorem dX6_set_9 : decode cX6_set 9 = .ok (.iload_n 3, 1) := by decide +kernel
theorem dX6_set_10 : decode cX6_set 10 = .ok (.invokestatic 114, 3) := by decide +kernel
theorem dX6_set_13 : decode cX6_set 13 = .ok (.ifCond .eq 16, 3) := by decide +kernel
theorem dX6_set_16 : decode cX6_set 16 = .ok (.aload_n 0, 1) := by decide +kernel
theorem dX6_set_17 : decode cX6_set 17 = .ok (.iload_n 1, 1) := by decide +kernel
theorem dX6_set_18 : decode cX6_set 18 = .ok (.iload_n 2, 1) := by decide +kernel
theorem dX6_set_19 : decode cX6_set 19 = .ok (.invokestatic 52, 3) := by decide +kernel
theorem dX6_set_22 : decode cX6_set 22 = .ok (.iload_n 3, 1) := by decide +kernel
theorem dX6_set_23 : decode cX6_set 23 = .ok (.invokevirtual 61, 3) := by decide +kernel
theorem dX6_set_26 : decode cX6_set 26 = .ok (.goto 9, 3) := by decide +kernel
theorem dX6_set_29 : decode cX6_set 29 = .ok (.aload_n 0, 1) := by decide +kernel
theorem dX6_set_30 : decode cX6_set 30 = .ok (.ldc 45, 2) := by decide +kernel
theorem dX6_set_32 : decode cX6_set 32 = .ok (.invokevirtual 64, 3) := by decide +kernel
theorem dX6_set_35 : decode cX6_set 35 = .ok (.ireturn, 1) := by decide +kernel
theorem dX6_turn_0 : decode cX6_turn 0 = .ok (.aload_n 0, 1) := by decide +kernel
theorem dX6_turn_1 : decode cX6_turn 1 = .ok (.iload_n 1, 1) := by decide +kernel
theorem dX6_turn_2 : decode cX6_turn 2 = .ok (.invokevirtual 98, 3) := by decide +kernel
theorem dX6_turn_5 : decode cX6_turn 5 = .ok (.ifCond .eq 23, 3) := by decide +kernel
theorem dX6_turn_8 : decode cX6_turn 8 = .ok (.iload_n 2, 1) := by decide +kernel
theorem dX6_turn_9 : decode cX6_turn 9 = .ok (.invokestatic 80, 3) := by decide +kernel
theorem dX6_turn_12 : decode cX6_turn 12 = .ok (.ifCond .eq 16, 3) := by decide +kernel
theorem dX6_turn_15 : decode cX6_turn 15 = .ok (.aload_n 0, 1) := by decide +kernel
theorem dX6_turn_16 : decode cX6_turn 16 = .ok (.iload_n 1, 1) := by decide +kernel
theorem dX6_turn_17 : decode cX6_turn 17 = .ok (.iconst 0, 1) := by decide +kernel
theorem dX6_turn_18 : decode cX6_turn 18 = .ok (.invokestatic 52, 3) := by decide +kernel
theorem dX6_turn_21 : decode cX6_turn 21 = .ok (.iload_n 2, 1) := by decide +kernel
theorem dX6_turn_22 : decode cX6_turn 22 = .ok (.invokevirtual 61, 3) := by decide +kernel
theorem dX6_turn_25 : decode cX6_turn 25 = .ok (.goto 9, 3) := by decide +kernel
theorem dX6_turn_28 : decode cX6_turn 28 = .ok (.aload_n 0, 1) := by decide +kernel
theorem dX6_turn_29 : decode cX6_turn 29 = .ok (.ldc 45, 2) := by decide +kernel
theorem dX6_turn_31 : decode cX6_turn 31 = .ok (.invokevirtual 64, 3) := by decide +kernel
theorem dX6_turn_34 : decode cX6_turn 34 = .ok (.ireturn, 1) := by decide +kernel
theorem dX6_isUnder_0 : decode cX6_isUnder 0 = .ok (.iload_n 1, 1) := by decide +kernel
theorem dX6_isUnder_1 : decode cX6_isUnder 1 = .ok (.ifCond .eq 20, 3) := by decide +kernel
theorem dX6_isUnder_4 : decode cX6_isUnder 4 = .ok (.iload_n 0, 1) := by decide +kernel
theorem dX6_isUnder_5 : decode cX6_isUnder 5 = .ok (.iload_n 1, 1) := by decide +kernel
theorem dX6_isUnder_6 : decode cX6_isUnder 6 = .ok (.if_icmp .eq 15, 3) := by decide +kernel
theorem dX6_isUnder_9 : decode cX6_isUnder 9 = .ok (.iload_n 0, 1) := by decide +kernel
theorem dX6_isUnder_10 : decode cX6_isUnder 10 = .ok (.iconst 3, 1) := by decide +kernel
theorem dX6_isUnder_11 : decode cX6_isUnder 11 = .ok (.if_icmp .le 14, 3) := by decide +kernel
theorem dX6_isUnder_14 : decode cX6_isUnder 14 = .ok (.iload_n 0, 1) := by decide +kernel
theorem dX6_isUnder_15 : decode cX6_isUnder 15 = .ok (.iconst 3, 1) := by decide +kernel
theorem dX6_isUnder_16 : decode cX6_isUnder 16 = .ok (.isub, 1) := by decide +kernel
theorem dX6_isUnder_17 : decode cX6_isUnder 17 = .ok (.iload_n 1, 1) := by decide +kernel
theorem dX6_isUnder_18 : decode cX6_isUnder 18 = .ok (.if_icmp .ne 7, 3) := by decide +kernel
theorem dX6_isUnder_21 : decode cX6_isUnder 21 = .ok (.iconst 1, 1) := by decide +kernel
theorem dX6_isUnder_22 : decode cX6_isUnder 22 = .ok (.goto 4, 3) := by decide +kernel
theorem dX6_isUnder_25 : decode cX6_isUnder 25 = .ok (.iconst 0, 1) := by decide +kernel
theorem dX6_isUnder_26 : decode cX6_isUnder 26 = .ok (.ireturn, 1) := by decide +kernel
theorem dX6_as_0 : decode cX6_as 0 = .ok (.aload_n 0, 1) := by decide +kernel
theorem dX6_as_1 : decode cX6_as 1 = .ok (.iload_n 1, 1) := by decide +kernel
theorem dX6_as_2 : decode cX6_as 2 = .ok (.invokevirtual 98, 3) := by decide +kernel
theorem dX6_as_5 : decode cX6_as 5 = .ok (.ifCond .eq 10, 3) := by decide +kernel
theorem dX6_as_8 : decode cX6_as 8 = .ok (.iload_n 2, 1) := by decide +kernel
theorem dX6_as_9 : decode cX6_as 9 = .ok (.invokestatic 80, 3) := by decide +kernel
theorem dX6_as_12 : decode cX6_as 12 = .ok (.ifCond .ne 10, 3) := by decide +kernel
theorem dX6_as_15 : decode cX6_as 15 = .ok (.aload_n 0, 1) := by decide +kernel
theorem dX6_as_16 : decode cX6_as 16 = .ok (.ldc 45, 2) := by decide +kernel
theorem dX6_as_18 : decode cX6_as 18 = .ok (.invokevirtual 64, 3) := by decide +kernel
theorem dX6_as_21 : decode cX6_as 21 = .ok (.ireturn, 1) := by decide +kernel
theorem dX6_as_22 : decode cX6_as 22 = .ok (.aload_n 0, 1) := by decide +kernel
theorem dX6_as_23 : decode cX6_as 23 = .ok (.iload_n 1, 1) := by decide +kernel
theorem dX6_as_24 : decode cX6_as 24 = .ok (.iconst 0, 1) := by decide +kernel
theorem dX6_as_25 : decode cX6_as 25 = .ok (.invokevirtual 74, 3) := by decide +kernel
theorem dX6_as_28 : decode cX6_as 28 = .ok (.iload_n 2, 1) := by decide +kernel
theorem dX6_as_29 : decode cX6_as 29 = .ok (.invokestatic 118, 3) := by decide +kernel
theorem dX6_as_32 : decode cX6_as 32 = .ok (.ifCond .eq 12, 3) := by decide +kernel
theorem dX6_as_35 : decode cX6_as 35 = .ok (.aload_n 0, 1) := by decide +kernel
theorem dX6_as_36 : decode cX6_as 36 = .ok (.iload_n 1, 1) := by decide +kernel
theorem dX6_as_37 : decode cX6_as 37 = .ok (.iconst 2, 1) := by decide +kernel
theorem dX6_as_38 : decode cX6_as 38 = .ok (.invokevirtual 74, 3) := by decide +kernel
theorem dX6_as_41 : decode cX6_as 41 = .ok (.goto 9, 3) := by decide +kernel
theorem dX6_as_44 : decode cX6_as 44 = .ok (.aload_n 0, 1) := by decide +kernel
theorem dX6_as_45 : decode cX6_as 45 = .ok (.ldc 121, 2) := by decide +kernel
theorem dX6_as_47 : decode cX6_as 47 = .ok (.invokevirtual 64, 3) := by decide +kernel
theorem dX6_as_50 : decode cX6_as 50 = .ok (.ireturn, 1) := by decide +kernel
theorem dX6_mayFill_0 : decode cX6_mayFill 0 = .ok (.aload_n 0, 1) := by decide +kernel
theorem dX6_mayFill_1 : decode cX6_mayFill 1 = .ok (.iload_n 1, 1) := by decide +kernel
theorem dX6_mayFill_2 : decode cX6_mayFill 2 = .ok (.iconst 3, 1) := by decide +kernel
theorem dX6_mayFill_3 : decode cX6_mayFill 3 = .ok (.invokevirtual 74, 3) := by decide +kernel
theorem dX6_mayFill_6 : decode cX6_mayFill 6 = .ok (.ifCond .ne 22, 3) := by decide +kernel
theorem dX6_mayFill_9 : decode cX6_mayFill 9 = .ok (.aload_n 0, 1) := by decide +kernel
theorem dX6_mayFill_10 : decode cX6_mayFill 10 = .ok (.iload_n 1, 1) := by decide +kernel
theorem dX6_mayFill_11 : decode cX6_mayFill 11 = .ok (.iload_n 2, 1) := by decide +kernel
theorem dX6_mayFill_12 : decode cX6_mayFill 12 = .ok (.invokevirtual 122, 3) := by decide +kernel
theorem dX6_mayFill_15 : decode cX6_mayFill 15 = .ok (.aload_n 0, 1) := by decide +kernel
theorem dX6_mayFill_16 : decode cX6_mayFill 16 = .ok (.getfield 7, 3) := by decide +kernel
theorem dX6_mayFill_19 : decode cX6_mayFill 19 = .ok (.iconst 2, 1) := by decide +kernel
theorem dX6_mayFill_20 : decode cX6_mayFill 20 = .ok (.iaload, 1) := by decide +kernel
theorem dX6_mayFill_21 : decode cX6_mayFill 21 = .ok (.if_icmp .gt 7, 3) := by decide +kernel
theorem dX6_mayFill_24 : decode cX6_mayFill 24 = .ok (.iconst 1, 1) := by decide +kernel
theorem dX6_mayFill_25 : decode cX6_mayFill 25 = .ok (.goto 4, 3) := by decide +kernel
theorem dX6_mayFill_28 : decode cX6_mayFill 28 = .ok (.iconst 0, 1) := by decide +kernel
theorem dX6_mayFill_29 : decode cX6_mayFill 29 = .ok (.ireturn, 1) := by decide +kernel
theorem dX6_fills_0 : decode cX6_fills 0 = .ok (.aload_n 0, 1) := by decide +kernel
theorem dX6_fills_1 : decode cX6_fills 1 = .ok (.iload_n 1, 1) := by decide +kernel
theorem dX6_fills_2 : decode cX6_fills 2 = .ok (.iload_n 2, 1) := by decide +kernel
theorem dX6_fills_3 : decode cX6_fills 3 = .ok (.invokevirtual 122, 3) := by decide +kernel
theorem dX6_fills_6 : decode cX6_fills 6 = .ok (.istore_n 3, 1) := by decide +kernel
theorem dX6_fills_7 : decode cX6_fills 7 = .ok (.aload_n 0, 1) := by decide +kernel
theorem dX6_fills_8 : decode cX6_fills 8 = .ok (.getfield 7, 3) := by decide +kernel
theorem dX6_fills_11 : decode cX6_fills 11 = .ok (.iconst 2, 1) := by decide +kernel
theorem dX6_fills_12 : decode cX6_fills 12 = .ok (.dup2, 1) := by decide +kernel
theorem dX6_fills_13 : decode cX6_fills 13 = .ok (.iaload, 1) := by decide +kernel
theorem dX6_fills_14 : decode cX6_fills 14 = .ok (.iload_n 3, 1) := by decide +kernel
theorem dX6_fills_15 : decode cX6_fills 15 = .ok (.isub, 1) := by decide +kernel
theorem dX6_fills_16 : decode cX6_fills 16 = .ok (.iastore, 1) := by decide +kernel
theorem dX6_fills_17 : decode cX6_fills 17 = .ok (.aload_n 0, 1) := by decide +kernel
theorem dX6_fills_18 : decode cX6_fills 18 = .ok (.getfield 7, 3) := by decide +kernel
theorem dX6_fills_21 : decode cX6_fills 21 = .ok (.bipush 6, 2) := by decide +kernel
theorem dX6_fills_23 : decode cX6_fills 23 = .ok (.aload_n 0, 1) := by decide +kernel
theorem dX6_fills_24 : decode cX6_fills 24 = .ok (.getfield 7, 3) := by decide +kernel
theorem dX6_fills_27 : decode cX6_fills 27 = .ok (.bipush 6, 2) := by decide +kernel
theorem dX6_fills_29 : decode cX6_fills 29 = .ok (.iaload, 1) := by decide +kernel
theorem dX6_fills_30 : decode cX6_fills 30 = .ok (.iload_n 3, 1) := by decide +kernel
theorem dX6_fills_31 : decode cX6_fills 31 = .ok (.iadd, 1) := by decide +kernel
theorem dX6_fills_32 : decode cX6_fills 32 = .ok (.ldc 125, 2) := by decide +kernel
theorem dX6_fills_34 : decode cX6_fills 34 = .ok (.invokestatic 126, 3) := by decide +kernel
theorem dX6_fills_37 : decode cX6_fills 37 = .ok (.iastore, 1) := by decide +kernel
theorem dX6_fills_38 : decode cX6_fills 38 = .ok (.aload_n 0, 1) := by decide +kernel
theorem dX6_fills_39 : decode cX6_fills 39 = .ok (.getfield 7, 3) := by decide +kernel
theorem dX6_fills_42 : decode cX6_fills 42 = .ok (.iload_n 1, 1) := by decide +kernel
theorem dX6_fills_43 : decode cX6_fills 43 = .ok (.iconst 3, 1) := by decide +kernel
theorem dX6_fills_44 : decode cX6_fills 44 = .ok (.invokestatic 52, 3) := by decide +kernel
theorem dX6_fills_47 : decode cX6_fills 47 = .ok (.iconst 1, 1) := by decide +kernel
theorem dX6_fills_48 : decode cX6_fills 48 = .ok (.iload_n 2, 1) := by decide +kernel
theorem dX6_fills_49 : decode cX6_fills 49 = .ok (.iadd, 1) := by decide +kernel
theorem dX6_fills_50 : decode cX6_fills 50 = .ok (.iastore, 1) := by decide +kernel
theorem dX6_fills_51 : decode cX6_fills 51 = .ok (.aload_n 0, 1) := by decide +kernel
theorem dX6_fills_52 : decode cX6_fills 52 = .ok (.getfield 7, 3) := by decide +kernel
theorem dX6_fills_55 : decode cX6_fills 55 = .ok (.iload_n 1, 1) := by decide +kernel
theorem dX6_fills_56 : decode cX6_fills 56 = .ok (.iconst 4, 1) := by decide +kernel
theorem dX6_fills_57 : decode cX6_fills 57 = .ok (.invokestatic 52, 3) := by decide +kernel
theorem dX6_fills_60 : decode cX6_fills 60 = .ok (.iconst 0, 1) := by decide +kernel
theorem dX6_fills_61 : decode cX6_fills 61 = .ok (.iastore, 1) := by decide +kernel
theorem dX6_fills_62 : decode cX6_fills 62 = .ok (.aload_n 0, 1) := by decide +kernel
theorem dX6_fills_63 : decode cX6_fills 63 = .ok (.getfield 7, 3) := by decide +kernel
theorem dX6_fills_66 : decode cX6_fills 66 = .ok (.iload_n 1, 1) := by decide +kernel
theorem dX6_fills_67 : decode cX6_fills 67 = .ok (.iconst 5, 1) := by decide +kernel
theorem dX6_fills_68 : decode cX6_fills 68 = .ok (.invokestatic 52, 3) := by decide +kernel
theorem dX6_fills_71 : decode cX6_fills 71 = .ok (.iconst 0, 1) := by decide +kernel
theorem dX6_fills_72 : decode cX6_fills 72 = .ok (.iastore, 1) := by decide +kernel
theorem dX6_fills_73 : decode cX6_fills 73 = .ok (.iload_n 3, 1) := by decide +kernel
theorem dX6_fills_74 : decode cX6_fills 74 = .ok (.ireturn, 1) := by decide +kernel
theorem dX6_fill_0 : decode cX6_fill 0 = .ok (.aload_n 0, 1) := by decide +kernel
theorem dX6_fill_1 : decode cX6_fill 1 = .ok (.iload_n 1, 1) := by decide +kernel
theorem dX6_fill_2 : decode cX6_fill 2 = .ok (.invokevirtual 98, 3) := by decide +kernel
theorem dX6_fill_5 : decode cX6_fill 5 = .ok (.ifCond .eq 13, 3) := by decide +kernel
theorem dX6_fill_8 : decode cX6_fill 8 = .ok (.iload_n 2, 1) := by decide +kernel
theorem dX6_fill_9 : decode cX6_fill 9 = .ok (.i2l, 1) := by decide +kernel
theorem dX6_fill_10 : decode cX6_fill 10 = .ok (.lconst 0, 1) := by decide +kernel
theorem dX6_fill_11 : decode cX6_fill 11 = .ok (.lconst 1, 1) := by decide +kernel
theorem dX6_fill_12 : decode cX6_fill 12 = .ok (.invokestatic 48, 3) := by decide +kernel
theorem dX6_fill_15 : decode cX6_fill 15 = .ok (.ifCond .ne 10, 3) := by decide +kernel
theorem dX6_fill_18 : decode cX6_fill 18 = .ok (.aload_n 0, 1) := by decide +kernel
theorem dX6_fill_19 : decode cX6_fill 19 = .ok (.ldc 45, 2) := by decide +kernel
theorem dX6_fill_21 : decode cX6_fill 21 = .ok (.invokevirtual 64, 3) := by decide +kernel
theorem dX6_fill_24 : decode cX6_fill 24 = .ok (.ireturn, 1) := by decide +kernel
theorem dX6_fill_25 : decode cX6_fill 25 = .ok (.aload_n 0, 1) := by decide +kernel
theorem dX6_fill_26 : decode cX6_fill 26 = .ok (.iload_n 1, 1) := by decide +kernel
theorem dX6_fill_27 : decode cX6_fill 27 = .ok (.iload_n 2, 1) := by decide +kernel
theorem dX6_fill_28 : decode cX6_fill 28 = .ok (.invokevirtual 129, 3) := by decide +kernel
theorem dX6_fill_31 : decode cX6_fill 31 = .ok (.ifCond .eq 12, 3) := by decide +kernel
theorem dX6_fill_34 : decode cX6_fill 34 = .ok (.aload_n 0, 1) := by decide +kernel
theorem dX6_fill_35 : decode cX6_fill 35 = .ok (.iload_n 1, 1) := by decide +kernel
theorem dX6_fill_36 : decode cX6_fill 36 = .ok (.iload_n 2, 1) := by decide +kernel
theorem dX6_fill_37 : decode cX6_fill 37 = .ok (.invokevirtual 132, 3) := by decide +kernel
theorem dX6_fill_40 : decode cX6_fill 40 = .ok (.goto 9, 3) := by decide +kernel
theorem dX6_fill_43 : decode cX6_fill 43 = .ok (.aload_n 0, 1) := by decide +kernel
theorem dX6_fill_44 : decode cX6_fill 44 = .ok (.ldc 135, 2) := by decide +kernel
theorem dX6_fill_46 : decode cX6_fill 46 = .ok (.invokevirtual 64, 3) := by decide +kernel
theorem dX6_fill_49 : decode cX6_fill 49 = .ok (.ireturn, 1) := by decide +kernel
theorem dX6_isAhead_0 : decode cX6_isAhead 0 = .ok (.aload_n 0, 1) := by decide +kernel
theorem dX6_isAhead_1 : decode cX6_isAhead 1 = .ok (.iload_n 1, 1) := by decide +kernel
theorem dX6_isAhead_2 : decode cX6_isAhead 2 = .ok (.iconst 0, 1) := by decide +kernel
theorem dX6_isAhead_3 : decode cX6_isAhead 3 = .ok (.invokevirtual 74, 3) := by decide +kernel
theorem dX6_isAhead_6 : decode cX6_isAhead 6 = .ok (.iconst 4, 1) := by decide +kernel
theorem dX6_isAhead_7 : decode cX6_isAhead 7 = .ok (.if_icmp .ne 7, 3) := by decide +kernel
theorem dX6_isAhead_10 : decode cX6_isAhead 10 = .ok (.iconst 1, 1) := by decide +kernel
theorem dX6_isAhead_11 : decode cX6_isAhead 11 = .ok (.goto 4, 3) := by decide +kernel
theorem dX6_isAhead_14 : decode cX6_isAhead 14 = .ok (.iconst 0, 1) := by decide +kernel
theorem dX6_isAhead_15 : decode cX6_isAhead 15 = .ok (.istore_n 3, 1) := by decide +kernel
theorem dX6_isAhead_16 : decode cX6_isAhead 16 = .ok (.iload_n 3, 1) := by decide +kernel
theorem dX6_isAhead_17 : decode cX6_isAhead 17 = .ok (.aload_n 0, 1) := by decide +kernel
theorem dX6_isAhead_18 : decode cX6_isAhead 18 = .ok (.iload_n 2, 1) := by decide +kernel
theorem dX6_isAhead_19 : decode cX6_isAhead 19 = .ok (.iconst 0, 1) := by decide +kernel
theorem dX6_isAhead_20 : decode cX6_isAhead 20 = .ok (.invokevirtual 74, 3) := by decide +kernel
theorem dX6_isAhead_23 : decode cX6_isAhead 23 = .ok (.iconst 4, 1) := by decide +kernel
theorem dX6_isAhead_24 : decode cX6_isAhead 24 = .ok (.if_icmp .ne 7, 3) := by decide +kernel
theorem dX6_isAhead_27 : decode cX6_isAhead 27 = .ok (.iconst 1, 1) := by decide +kernel
theorem dX6_isAhead_28 : decode cX6_isAhead 28 = .ok (.goto 4, 3) := by decide +kernel
theorem dX6_isAhead_31 : decode cX6_isAhead 31 = .ok (.iconst 0, 1) := by decide +kernel
theorem dX6_isAhead_32 : decode cX6_isAhead 32 = .ok (.if_icmp .eq 5, 3) := by decide +kernel
theorem dX6_isAhead_35 : decode cX6_isAhead 35 = .ok (.iload_n 3, 1) := by decide +kernel
theorem dX6_isAhead_36 : decode cX6_isAhead 36 = .ok (.ireturn, 1) := by decide +kernel
theorem dX6_isAhead_37 : decode cX6_isAhead 37 = .ok (.aload_n 0, 1) := by decide +kernel
theorem dX6_isAhead_38 : decode cX6_isAhead 38 = .ok (.iload_n 1, 1) := by decide +kernel
theorem dX6_isAhead_39 : decode cX6_isAhead 39 = .ok (.iconst 5, 1) := by decide +kernel
theorem dX6_isAhead_40 : decode cX6_isAhead 40 = .ok (.invokevirtual 74, 3) := by decide +kernel
theorem dX6_isAhead_43 : decode cX6_isAhead 43 = .ok (.aload_n 0, 1) := by decide +kernel
theorem dX6_isAhead_44 : decode cX6_isAhead 44 = .ok (.iload_n 2, 1) := by decide +kernel
theorem dX6_isAhead_45 : decode cX6_isAhead 45 = .ok (.iconst 5, 1) := by decide +kernel
theorem dX6_isAhead_46 : decode cX6_isAhead 46 = .ok (.invokevirtual 74, 3) := by decide +kernel
theorem dX6_isAhead_49 : decode cX6_isAhead 49 = .ok (.if_icmp .eq 19, 3) := by decide +kernel
theorem dX6_isAhead_52 : decode cX6_isAhead 52 = .ok (.aload_n 0, 1) := by decide +kernel
theorem dX6_isAhead_53 : decode cX6_isAhead 53 = .ok (.iload_n 1, 1) := by decide +kernel
theorem dX6_isAhead_54 : decode cX6_isAhead 54 = .ok (.iconst 5, 1) := by decide +kernel
theorem dX6_isAhead_55 : decode cX6_isAhead 55 = .ok (.invokevirtual 74, 3) := by decide +kernel
theorem dX6_isAhead_58 : decode cX6_isAhead 58 = .ok (.iconst 1, 1) := by decide +kernel
theorem dX6_isAhead_59 : decode cX6_isAhead 59 = .ok (.if_icmp .ne 7, 3) := by decide +kernel
theorem dX6_isAhead_62 : decode cX6_isAhead 62 = .ok (.iconst 1, 1) := by decide +kernel
theorem dX6_isAhead_63 : decode cX6_isAhead 63 = .ok (.goto 4, 3) := by decide +kernel
theorem dX6_isAhead_66 : decode cX6_isAhead 66 = .ok (.iconst 0, 1) := by decide +kernel
theorem dX6_isAhead_67 : decode cX6_isAhead 67 = .ok (.ireturn, 1) := by decide +kernel
theorem dX6_isAhead_68 : decode cX6_isAhead 68 = .ok (.aload_n 0, 1) := by decide +kernel
theorem dX6_isAhead_69 : decode cX6_isAhead 69 = .ok (.iload_n 1, 1) := by decide +kernel
theorem dX6_isAhead_70 : decode cX6_isAhead 70 = .ok (.iconst 2, 1) := by decide +kernel
theorem dX6_isAhead_71 : decode cX6_isAhead 71 = .ok (.invokevirtual 74, 3) := by decide +kernel
theorem dX6_isAhead_74 : decode cX6_isAhead 74 = .ok (.aload_n 0, 1) := by decide +kernel
theorem dX6_isAhead_75 : decode cX6_isAhead 75 = .ok (.iload_n 2, 1) := by decide +kernel
theorem dX6_isAhead_76 : decode cX6_isAhead 76 = .ok (.iconst 2, 1) := by decide +kernel
theorem dX6_isAhead_77 : decode cX6_isAhead 77 = .ok (.invokevirtual 74, 3) := by decide +kernel
theorem dX6_isAhead_80 : decode cX6_isAhead 80 = .ok (.if_icmp .lt 7, 3) := by decide +kernel
theorem dX6_isAhead_83 : decode cX6_isAhead 83 = .ok (.iconst 1, 1) := by decide +kernel
theorem dX6_isAhead_84 : decode cX6_isAhead 84 = .ok (.goto 4, 3) := by decide +kernel
theorem dX6_isAhead_87 : decode cX6_isAhead 87 = .ok (.iconst 0, 1) := by decide +kernel
theorem dX6_isAhead_88 : decode cX6_isAhead 88 = .ok (.ireturn, 1) := by decide +kernel
theorem dX6_nextOne_0 : decode cX6_nextOne 0 = .ok (.iconst (-1), 1) := by decide +kernel
theorem dX6_nextOne_1 : decode cX6_nextOne 1 = .ok (.istore_n 1, 1) := by decide +kernel
theorem dX6_nextOne_2 : decode cX6_nextOne 2 = .ok (.iconst 0, 1) := by decide +kernel
theorem dX6_nextOne_3 : decode cX6_nextOne 3 = .ok (.istore_n 2, 1) := by decide +kernel
theorem dX6_nextOne_4 : decode cX6_nextOne 4 = .ok (.iload_n 2, 1) := by decide +kernel
theorem dX6_nextOne_5 : decode cX6_nextOne 5 = .ok (.aload_n 0, 1) := by decide +kernel
theorem dX6_nextOne_6 : decode cX6_nextOne 6 = .ok (.getfield 7, 3) := by decide +kernel
theorem dX6_nextOne_9 : decode cX6_nextOne 9 = .ok (.iconst 0, 1) := by decide +kernel
theorem dX6_nextOne_10 : decode cX6_nextOne 10 = .ok (.iaload, 1) := by decide +kernel
theorem dX6_nextOne_11 : decode cX6_nextOne 11 = .ok (.if_icmp .ge 70, 3) := by decide +kernel
theorem dX6_nextOne_14 : decode cX6_nextOne 14 = .ok (.aload_n 0, 1) := by decide +kernel
theorem dX6_nextOne_15 : decode cX6_nextOne 15 = .ok (.iload_n 2, 1) := by decide +kernel
theorem dX6_nextOne_16 : decode cX6_nextOne 16 = .ok (.aload_n 0, 1) := by decide +kernel
theorem dX6_nextOne_17 : decode cX6_nextOne 17 = .ok (.getfield 7, 3) := by decide +kernel
theorem dX6_nextOne_20 : decode cX6_nextOne 20 = .ok (.iconst 5, 1) := by decide +kernel
theorem dX6_nextOne_21 : decode cX6_nextOne 21 = .ok (.iaload, 1) := by decide +kernel
theorem dX6_nextOne_22 : decode cX6_nextOne 22 = .ok (.invokevirtual 129, 3) := by decide +kernel
theorem dX6_nextOne_25 : decode cX6_nextOne 25 = .ok (.ifCond .eq 25, 3) := by decide +kernel
theorem dX6_nextOne_28 : decode cX6_nextOne 28 = .ok (.aload_n 0, 1) := by decide +kernel
theorem dX6_nextOne_29 : decode cX6_nextOne 29 = .ok (.getfield 7, 3) := by decide +kernel
theorem dX6_nextOne_32 : decode cX6_nextOne 32 = .ok (.aload_n 0, 1) := by decide +kernel
theorem dX6_nextOne_33 : decode cX6_nextOne 33 = .ok (.iload_n 2, 1) := by decide +kernel
theorem dX6_nextOne_34 : decode cX6_nextOne 34 = .ok (.iconst 1, 1) := by decide +kernel
theorem dX6_nextOne_35 : decode cX6_nextOne 35 = .ok (.invokevirtual 74, 3) := by decide +kernel
theorem dX6_nextOne_38 : decode cX6_nextOne 38 = .ok (.iconst 1, 1) := by decide +kernel
theorem dX6_nextOne_39 : decode cX6_nextOne 39 = .ok (.invokestatic 41, 3) := by decide +kernel
theorem dX6_nextOne_42 : decode cX6_nextOne 42 = .ok (.iaload, 1) := by decide +kernel
theorem dX6_nextOne_43 : decode cX6_nextOne 43 = .ok (.ifCond .ne 7, 3) := by decide +kernel
theorem dX6_nextOne_46 : decode cX6_nextOne 46 = .ok (.iconst 1, 1) := by decide +kernel
theorem dX6_nextOne_47 : decode cX6_nextOne 47 = .ok (.goto 4, 3) := by decide +kernel
theorem dX6_nextOne_50 : decode cX6_nextOne 50 = .ok (.iconst 0, 1) := by decide +kernel
theorem dX6_nextOne_51 : decode cX6_nextOne 51 = .ok (.istore_n 3, 1) := by decide +kernel
theorem dX6_nextOne_52 : decode cX6_nextOne 52 = .ok (.iload_n 3, 1) := by decide +kernel
theorem dX6_nextOne_53 : decode cX6_nextOne 53 = .ok (.ifCond .eq 20, 3) := by decide +kernel
theorem dX6_nextOne_56 : decode cX6_nextOne 56 = .ok (.iload_n 1, 1) := by decide +kernel
theorem dX6_nextOne_57 : decode cX6_nextOne 57 = .ok (.ifCond .lt 12, 3) := by decide +kernel
theorem dX6_nextOne_60 : decode cX6_nextOne 60 = .ok (.aload_n 0, 1) := by decide +kernel
theorem dX6_nextOne_61 : decode cX6_nextOne 61 = .ok (.iload_n 1, 1) := by decide +kernel
theorem dX6_nextOne_62 : decode cX6_nextOne 62 = .ok (.iload_n 2, 1) := by decide +kernel
theorem dX6_nextOne_63 : decode cX6_nextOne 63 = .ok (.invokevirtual 136, 3) := by decide +kernel
theorem dX6_nextOne_66 : decode cX6_nextOne 66 = .ok (.ifCond .ne 7, 3) := by decide +kernel
theorem dX6_nextOne_69 : decode cX6_nextOne 69 = .ok (.iload_n 2, 1) := by decide +kernel
theorem dX6_nextOne_70 : decode cX6_nextOne 70 = .ok (.goto 4, 3) := by decide +kernel
theorem dX6_nextOne_73 : decode cX6_nextOne 73 = .ok (.iload_n 1, 1) := by decide +kernel
theorem dX6_nextOne_74 : decode cX6_nextOne 74 = .ok (.istore_n 1, 1) := by decide +kernel
theorem dX6_nextOne_75 : decode cX6_nextOne 75 = .ok (.iinc 2 1, 3) := by decide +kernel
theorem dX6_nextOne_78 : decode cX6_nextOne 78 = .ok (.goto (-74), 3) := by decide +kernel
theorem dX6_nextOne_81 : decode cX6_nextOne 81 = .ok (.iload_n 1, 1) := by decide +kernel
theorem dX6_nextOne_82 : decode cX6_nextOne 82 = .ok (.ireturn, 1) := by decide +kernel
theorem dX6_next_0 : decode cX6_next 0 = .ok (.aload_n 0, 1) := by decide +kernel
theorem dX6_next_1 : decode cX6_next 1 = .ok (.invokevirtual 139, 3) := by decide +kernel
theorem dX6_next_4 : decode cX6_next 4 = .ok (.istore_n 1, 1) := by decide +kernel
theorem dX6_next_5 : decode cX6_next 5 = .ok (.iload_n 1, 1) := by decide +kernel
theorem dX6_next_6 : decode cX6_next 6 = .ok (.ifCond .ge 12, 3) := by decide +kernel
theorem dX6_next_9 : decode cX6_next 9 = .ok (.aload_n 0, 1) := by decide +kernel
theorem dX6_next_10 : decode cX6_next 10 = .ok (.ldc 142, 2) := by decide +kernel
theorem dX6_next_12 : decode cX6_next 12 = .ok (.invokevirtual 64, 3) := by decide +kernel
theorem dX6_next_15 : decode cX6_next 15 = .ok (.goto 4, 3) := by decide +kernel
theorem dX6_next_18 : decode cX6_next 18 = .ok (.iload_n 1, 1) := by decide +kernel
theorem dX6_next_19 : decode cX6_next 19 = .ok (.ireturn, 1) := by decide +kernel
theorem dX6_ages_0 : decode cX6_ages 0 = .ok (.aload_n 0, 1) := by decide +kernel
theorem dX6_ages_1 : decode cX6_ages 1 = .ok (.getfield 7, 3) := by decide +kernel
theorem dX6_ages_4 : decode cX6_ages 4 = .ok (.iload_n 1, 1) := by decide +kernel
theorem dX6_ages_5 : decode cX6_ages 5 = .ok (.iconst 4, 1) := by decide +kernel
theorem dX6_ages_6 : decode cX6_ages 6 = .ok (.invokestatic 52, 3) := by decide +kernel
theorem dX6_ages_9 : decode cX6_ages 9 = .ok (.aload_n 0, 1) := by decide +kernel
theorem dX6_ages_10 : decode cX6_ages 10 = .ok (.iload_n 1, 1) := by decide +kernel
theorem dX6_ages_11 : decode cX6_ages 11 = .ok (.iconst 4, 1) := by decide +kernel
theorem dX6_ages_12 : decode cX6_ages 12 = .ok (.invokevirtual 74, 3) := by decide +kernel
end
section
theorem dX6_ages_15 : decode cX6_ages 15 = .ok (.iconst 1, 1) := by decide +kernel
theorem dX6_ages_16 : decode cX6_ages 16 = .ok (.iadd, 1) := by decide +kernel
theorem dX6_ages_17 : decode cX6_ages 17 = .ok (.sipush 999, 3) := by decide +kernel
theorem dX6_ages_20 : decode cX6_ages 20 = .ok (.invokestatic 126, 3) := by decide +kernel
theorem dX6_ages_23 : decode cX6_ages 23 = .ok (.iastore, 1) := by decide +kernel
theorem dX6_ages_24 : decode cX6_ages 24 = .ok (.aload_n 0, 1) := by decide +kernel
theorem dX6_ages_25 : decode cX6_ages 25 = .ok (.iload_n 1, 1) := by decide +kernel
theorem dX6_ages_26 : decode cX6_ages 26 = .ok (.iconst 4, 1) := by decide +kernel
theorem dX6_ages_27 : decode cX6_ages 27 = .ok (.invokevirtual 74, 3) := by decide +kernel
theorem dX6_ages_30 : decode cX6_ages 30 = .ok (.aload_n 0, 1) := by decide +kernel
theorem dX6_ages_31 : decode cX6_ages 31 = .ok (.iload_n 1, 1) := by decide +kernel
theorem dX6_ages_32 : decode cX6_ages 32 = .ok (.aload_n 0, 1) := by decide +kernel
theorem dX6_ages_33 : decode cX6_ages 33 = .ok (.iload_n 1, 1) := by decide +kernel
theorem dX6_ages_34 : decode cX6_ages 34 = .ok (.iconst 3, 1) := by decide +kernel
theorem dX6_ages_35 : decode cX6_ages 35 = .ok (.invokevirtual 74, 3) := by decide +kernel
theorem dX6_ages_38 : decode cX6_ages 38 = .ok (.iconst 2, 1) := by decide +kernel
theorem dX6_ages_39 : decode cX6_ages 39 = .ok (.if_icmp .ne 7, 3) := by decide +kernel
theorem dX6_ages_42 : decode cX6_ages 42 = .ok (.iconst 1, 1) := by decide +kernel
theorem dX6_ages_43 : decode cX6_ages 43 = .ok (.goto 4, 3) := by decide +kernel
theorem dX6_ages_46 : decode cX6_ages 46 = .ok (.iconst 0, 1) := by decide +kernel
theorem dX6_ages_47 : decode cX6_ages 47 = .ok (.invokevirtual 106, 3) := by decide +kernel
theorem dX6_ages_50 : decode cX6_ages 50 = .ok (.if_icmp .le 14, 3) := by decide +kernel
theorem dX6_ages_53 : decode cX6_ages 53 = .ok (.aload_n 0, 1) := by decide +kernel
theorem dX6_ages_54 : decode cX6_ages 54 = .ok (.getfield 7, 3) := by decide +kernel
theorem dX6_ages_57 : decode cX6_ages 57 = .ok (.iload_n 1, 1) := by decide +kernel
theorem dX6_ages_58 : decode cX6_ages 58 = .ok (.iconst 3, 1) := by decide +kernel
theorem dX6_ages_59 : decode cX6_ages 59 = .ok (.invokestatic 52, 3) := by decide +kernel
theorem dX6_ages_62 : decode cX6_ages 62 = .ok (.iconst 0, 1) := by decide +kernel
theorem dX6_ages_63 : decode cX6_ages 63 = .ok (.iastore, 1) := by decide +kernel
theorem dX6_ages_64 : decode cX6_ages 64 = .ok (.return_, 1) := by decide +kernel
theorem dX6_week_0 : decode cX6_week 0 = .ok (.aload_n 0, 1) := by decide +kernel
theorem dX6_week_1 : decode cX6_week 1 = .ok (.invokevirtual 139, 3) := by decide +kernel
theorem dX6_week_4 : decode cX6_week 4 = .ok (.istore_n 1, 1) := by decide +kernel
theorem dX6_week_5 : decode cX6_week 5 = .ok (.iconst 0, 1) := by decide +kernel
theorem dX6_week_6 : decode cX6_week 6 = .ok (.istore_n 2, 1) := by decide +kernel
theorem dX6_week_7 : decode cX6_week 7 = .ok (.iload_n 2, 1) := by decide +kernel
theorem dX6_week_8 : decode cX6_week 8 = .ok (.aload_n 0, 1) := by decide +kernel
theorem dX6_week_9 : decode cX6_week 9 = .ok (.getfield 7, 3) := by decide +kernel
theorem dX6_week_12 : decode cX6_week 12 = .ok (.iconst 4, 1) := by decide +kernel
theorem dX6_week_13 : decode cX6_week 13 = .ok (.iaload, 1) := by decide +kernel
theorem dX6_week_14 : decode cX6_week 14 = .ok (.if_icmp .ge 30, 3) := by decide +kernel
theorem dX6_week_17 : decode cX6_week 17 = .ok (.iload_n 1, 1) := by decide +kernel
theorem dX6_week_18 : decode cX6_week 18 = .ok (.ifCond .lt 26, 3) := by decide +kernel
theorem dX6_week_21 : decode cX6_week 21 = .ok (.aload_n 0, 1) := by decide +kernel
theorem dX6_week_22 : decode cX6_week 22 = .ok (.iload_n 1, 1) := by decide +kernel
theorem dX6_week_23 : decode cX6_week 23 = .ok (.aload_n 0, 1) := by decide +kernel
theorem dX6_week_24 : decode cX6_week 24 = .ok (.getfield 7, 3) := by decide +kernel
theorem dX6_week_27 : decode cX6_week 27 = .ok (.iconst 5, 1) := by decide +kernel
theorem dX6_week_28 : decode cX6_week 28 = .ok (.iaload, 1) := by decide +kernel
theorem dX6_week_29 : decode cX6_week 29 = .ok (.invokevirtual 132, 3) := by decide +kernel
theorem dX6_week_32 : decode cX6_week 32 = .ok (.istore_n 3, 1) := by decide +kernel
theorem dX6_week_33 : decode cX6_week 33 = .ok (.aload_n 0, 1) := by decide +kernel
theorem dX6_week_34 : decode cX6_week 34 = .ok (.invokevirtual 139, 3) := by decide +kernel
theorem dX6_week_37 : decode cX6_week 37 = .ok (.istore_n 1, 1) := by decide +kernel
theorem dX6_week_38 : decode cX6_week 38 = .ok (.iinc 2 1, 3) := by decide +kernel
theorem dX6_week_41 : decode cX6_week 41 = .ok (.goto (-34), 3) := by decide +kernel
theorem dX6_week_44 : decode cX6_week 44 = .ok (.iconst 0, 1) := by decide +kernel
theorem dX6_week_45 : decode cX6_week 45 = .ok (.istore_n 2, 1) := by decide +kernel
theorem dX6_week_46 : decode cX6_week 46 = .ok (.iload_n 2, 1) := by decide +kernel
theorem dX6_week_47 : decode cX6_week 47 = .ok (.aload_n 0, 1) := by decide +kernel
theorem dX6_week_48 : decode cX6_week 48 = .ok (.getfield 7, 3) := by decide +kernel
theorem dX6_week_51 : decode cX6_week 51 = .ok (.iconst 0, 1) := by decide +kernel
theorem dX6_week_52 : decode cX6_week 52 = .ok (.iaload, 1) := by decide +kernel
theorem dX6_week_53 : decode cX6_week 53 = .ok (.if_icmp .ge 53, 3) := by decide +kernel
theorem dX6_week_56 : decode cX6_week 56 = .ok (.aload_n 0, 1) := by decide +kernel
theorem dX6_week_57 : decode cX6_week 57 = .ok (.iload_n 2, 1) := by decide +kernel
theorem dX6_week_58 : decode cX6_week 58 = .ok (.iconst 3, 1) := by decide +kernel
theorem dX6_week_59 : decode cX6_week 59 = .ok (.invokevirtual 74, 3) := by decide +kernel
theorem dX6_week_62 : decode cX6_week 62 = .ok (.ifCond .le 11, 3) := by decide +kernel
theorem dX6_week_65 : decode cX6_week 65 = .ok (.aload_n 0, 1) := by decide +kernel
theorem dX6_week_66 : decode cX6_week 66 = .ok (.iload_n 2, 1) := by decide +kernel
theorem dX6_week_67 : decode cX6_week 67 = .ok (.invokevirtual 143, 3) := by decide +kernel
theorem dX6_week_70 : decode cX6_week 70 = .ok (.goto 30, 3) := by decide +kernel
theorem dX6_week_73 : decode cX6_week 73 = .ok (.aload_n 0, 1) := by decide +kernel
theorem dX6_week_74 : decode cX6_week 74 = .ok (.getfield 7, 3) := by decide +kernel
theorem dX6_week_77 : decode cX6_week 77 = .ok (.iload_n 2, 1) := by decide +kernel
theorem dX6_week_78 : decode cX6_week 78 = .ok (.iconst 2, 1) := by decide +kernel
theorem dX6_week_79 : decode cX6_week 79 = .ok (.invokestatic 52, 3) := by decide +kernel
theorem dX6_week_82 : decode cX6_week 82 = .ok (.aload_n 0, 1) := by decide +kernel
theorem dX6_week_83 : decode cX6_week 83 = .ok (.iload_n 2, 1) := by decide +kernel
theorem dX6_week_84 : decode cX6_week 84 = .ok (.iconst 2, 1) := by decide +kernel
theorem dX6_week_85 : decode cX6_week 85 = .ok (.invokevirtual 74, 3) := by decide +kernel
theorem dX6_week_88 : decode cX6_week 88 = .ok (.aload_n 0, 1) := by decide +kernel
theorem dX6_week_89 : decode cX6_week 89 = .ok (.iload_n 2, 1) := by decide +kernel
theorem dX6_week_90 : decode cX6_week 90 = .ok (.invokevirtual 103, 3) := by decide +kernel
theorem dX6_week_93 : decode cX6_week 93 = .ok (.iadd, 1) := by decide +kernel
theorem dX6_week_94 : decode cX6_week 94 = .ok (.bipush 99, 2) := by decide +kernel
theorem dX6_week_96 : decode cX6_week 96 = .ok (.invokestatic 126, 3) := by decide +kernel
theorem dX6_week_99 : decode cX6_week 99 = .ok (.iastore, 1) := by decide +kernel
theorem dX6_week_100 : decode cX6_week 100 = .ok (.iinc 2 1, 3) := by decide +kernel
theorem dX6_week_103 : decode cX6_week 103 = .ok (.goto (-57), 3) := by decide +kernel
theorem dX6_week_106 : decode cX6_week 106 = .ok (.aload_n 0, 1) := by decide +kernel
theorem dX6_week_107 : decode cX6_week 107 = .ok (.getfield 7, 3) := by decide +kernel
theorem dX6_week_110 : decode cX6_week 110 = .ok (.iconst 1, 1) := by decide +kernel
theorem dX6_week_111 : decode cX6_week 111 = .ok (.dup2, 1) := by decide +kernel
theorem dX6_week_112 : decode cX6_week 112 = .ok (.iaload, 1) := by decide +kernel
theorem dX6_week_113 : decode cX6_week 113 = .ok (.iconst 1, 1) := by decide +kernel
theorem dX6_week_114 : decode cX6_week 114 = .ok (.iadd, 1) := by decide +kernel
theorem dX6_week_115 : decode cX6_week 115 = .ok (.iastore, 1) := by decide +kernel
theorem dX6_week_116 : decode cX6_week 116 = .ok (.aload_n 0, 1) := by decide +kernel
theorem dX6_week_117 : decode cX6_week 117 = .ok (.getfield 7, 3) := by decide +kernel
theorem dX6_week_120 : decode cX6_week 120 = .ok (.iconst 2, 1) := by decide +kernel
theorem dX6_week_121 : decode cX6_week 121 = .ok (.aload_n 0, 1) := by decide +kernel
theorem dX6_week_122 : decode cX6_week 122 = .ok (.invokevirtual 87, 3) := by decide +kernel
theorem dX6_week_125 : decode cX6_week 125 = .ok (.bipush 12, 2) := by decide +kernel
theorem dX6_week_127 : decode cX6_week 127 = .ok (.if_icmp .ne 12, 3) := by decide +kernel
theorem dX6_week_130 : decode cX6_week 130 = .ok (.aload_n 0, 1) := by decide +kernel
theorem dX6_week_131 : decode cX6_week 131 = .ok (.getfield 7, 3) := by decide +kernel
theorem dX6_week_134 : decode cX6_week 134 = .ok (.iconst 3, 1) := by decide +kernel
theorem dX6_week_135 : decode cX6_week 135 = .ok (.iaload, 1) := by decide +kernel
theorem dX6_week_136 : decode cX6_week 136 = .ok (.goto 9, 3) := by decide +kernel
theorem dX6_week_139 : decode cX6_week 139 = .ok (.aload_n 0, 1) := by decide +kernel
theorem dX6_week_140 : decode cX6_week 140 = .ok (.getfield 7, 3) := by decide +kernel
theorem dX6_week_143 : decode cX6_week 143 = .ok (.iconst 2, 1) := by decide +kernel
theorem dX6_week_144 : decode cX6_week 144 = .ok (.iaload, 1) := by decide +kernel
theorem dX6_week_145 : decode cX6_week 145 = .ok (.iastore, 1) := by decide +kernel
theorem dX6_week_146 : decode cX6_week 146 = .ok (.return_, 1) := by decide +kernel
theorem dX6_weeksGo_0 : decode cX6_weeksGo 0 = .ok (.iconst 0, 1) := by decide +kernel
theorem dX6_weeksGo_1 : decode cX6_weeksGo 1 = .ok (.istore_n 2, 1) := by decide +kernel
theorem dX6_weeksGo_2 : decode cX6_weeksGo 2 = .ok (.iload_n 2, 1) := by decide +kernel
theorem dX6_weeksGo_3 : decode cX6_weeksGo 3 = .ok (.iload_n 1, 1) := by decide +kernel
theorem dX6_weeksGo_4 : decode cX6_weeksGo 4 = .ok (.if_icmp .ge 13, 3) := by decide +kernel
theorem dX6_weeksGo_7 : decode cX6_weeksGo 7 = .ok (.aload_n 0, 1) := by decide +kernel
theorem dX6_weeksGo_8 : decode cX6_weeksGo 8 = .ok (.invokevirtual 147, 3) := by decide +kernel
theorem dX6_weeksGo_11 : decode cX6_weeksGo 11 = .ok (.iinc 2 1, 3) := by decide +kernel
theorem dX6_weeksGo_14 : decode cX6_weeksGo 14 = .ok (.goto (-12), 3) := by decide +kernel
theorem dX6_weeksGo_17 : decode cX6_weeksGo 17 = .ok (.return_, 1) := by decide +kernel
theorem dX6_weeks_0 : decode cX6_weeks 0 = .ok (.iload_n 1, 1) := by decide +kernel
theorem dX6_weeks_1 : decode cX6_weeks 1 = .ok (.i2l, 1) := by decide +kernel
theorem dX6_weeks_2 : decode cX6_weeks 2 = .ok (.lconst 1, 1) := by decide +kernel
theorem dX6_weeks_3 : decode cX6_weeks 3 = .ok (.ldc2_w 150, 3) := by decide +kernel
theorem dX6_weeks_6 : decode cX6_weeks 6 = .ok (.invokestatic 48, 3) := by decide +kernel
theorem dX6_weeks_9 : decode cX6_weeks 9 = .ok (.ifCond .ne 10, 3) := by decide +kernel
theorem dX6_weeks_12 : decode cX6_weeks 12 = .ok (.aload_n 0, 1) := by decide +kernel
theorem dX6_weeks_13 : decode cX6_weeks 13 = .ok (.ldc 45, 2) := by decide +kernel
theorem dX6_weeks_15 : decode cX6_weeks 15 = .ok (.invokevirtual 64, 3) := by decide +kernel
theorem dX6_weeks_18 : decode cX6_weeks 18 = .ok (.ireturn, 1) := by decide +kernel
theorem dX6_weeks_19 : decode cX6_weeks 19 = .ok (.aload_n 0, 1) := by decide +kernel
theorem dX6_weeks_20 : decode cX6_weeks 20 = .ok (.getfield 7, 3) := by decide +kernel
theorem dX6_weeks_23 : decode cX6_weeks 23 = .ok (.iconst 1, 1) := by decide +kernel
theorem dX6_weeks_24 : decode cX6_weeks 24 = .ok (.iaload, 1) := by decide +kernel
theorem dX6_weeks_25 : decode cX6_weeks 25 = .ok (.iload_n 1, 1) := by decide +kernel
theorem dX6_weeks_26 : decode cX6_weeks 26 = .ok (.iadd, 1) := by decide +kernel
theorem dX6_weeks_27 : decode cX6_weeks 27 = .ok (.sipush 9999, 3) := by decide +kernel
theorem dX6_weeks_30 : decode cX6_weeks 30 = .ok (.if_icmp .le 10, 3) := by decide +kernel
theorem dX6_weeks_33 : decode cX6_weeks 33 = .ok (.aload_n 0, 1) := by decide +kernel
theorem dX6_weeks_34 : decode cX6_weeks 34 = .ok (.ldc 135, 2) := by decide +kernel
theorem dX6_weeks_36 : decode cX6_weeks 36 = .ok (.invokevirtual 64, 3) := by decide +kernel
theorem dX6_weeks_39 : decode cX6_weeks 39 = .ok (.ireturn, 1) := by decide +kernel
theorem dX6_weeks_40 : decode cX6_weeks 40 = .ok (.aload_n 0, 1) := by decide +kernel
theorem dX6_weeks_41 : decode cX6_weeks 41 = .ok (.iload_n 1, 1) := by decide +kernel
theorem dX6_weeks_42 : decode cX6_weeks 42 = .ok (.invokevirtual 152, 3) := by decide +kernel
theorem dX6_weeks_45 : decode cX6_weeks 45 = .ok (.aload_n 0, 1) := by decide +kernel
theorem dX6_weeks_46 : decode cX6_weeks 46 = .ok (.iconst 3, 1) := by decide +kernel
theorem dX6_weeks_47 : decode cX6_weeks 47 = .ok (.iconst 0, 1) := by decide +kernel
theorem dX6_weeks_48 : decode cX6_weeks 48 = .ok (.invokevirtual 77, 3) := by decide +kernel
theorem dX6_weeks_51 : decode cX6_weeks 51 = .ok (.ireturn, 1) := by decide +kernel
theorem dX6_sizesOf_0 : decode cX6_sizesOf 0 = .ok (.iconst 0, 1) := by decide +kernel
theorem dX6_sizesOf_1 : decode cX6_sizesOf 1 = .ok (.istore_n 2, 1) := by decide +kernel
theorem dX6_sizesOf_2 : decode cX6_sizesOf 2 = .ok (.iconst 0, 1) := by decide +kernel
theorem dX6_sizesOf_3 : decode cX6_sizesOf 3 = .ok (.istore_n 3, 1) := by decide +kernel
theorem dX6_sizesOf_4 : decode cX6_sizesOf 4 = .ok (.iload_n 3, 1) := by decide +kernel
theorem dX6_sizesOf_5 : decode cX6_sizesOf 5 = .ok (.aload_n 0, 1) := by decide +kernel
theorem dX6_sizesOf_6 : decode cX6_sizesOf 6 = .ok (.getfield 7, 3) := by decide +kernel
theorem dX6_sizesOf_9 : decode cX6_sizesOf 9 = .ok (.iconst 0, 1) := by decide +kernel
theorem dX6_sizesOf_10 : decode cX6_sizesOf 10 = .ok (.iaload, 1) := by decide +kernel
theorem dX6_sizesOf_11 : decode cX6_sizesOf 11 = .ok (.if_icmp .ge 31, 3) := by decide +kernel
theorem dX6_sizesOf_14 : decode cX6_sizesOf 14 = .ok (.iload_n 2, 1) := by decide +kernel
theorem dX6_sizesOf_15 : decode cX6_sizesOf 15 = .ok (.iload_n 1, 1) := by decide +kernel
theorem dX6_sizesOf_16 : decode cX6_sizesOf 16 = .ok (.iload_n 3, 1) := by decide +kernel
theorem dX6_sizesOf_17 : decode cX6_sizesOf 17 = .ok (.ishr, 1) := by decide +kernel
theorem dX6_sizesOf_18 : decode cX6_sizesOf 18 = .ok (.iconst 1, 1) := by decide +kernel
theorem dX6_sizesOf_19 : decode cX6_sizesOf 19 = .ok (.iand, 1) := by decide +kernel
theorem dX6_sizesOf_20 : decode cX6_sizesOf 20 = .ok (.iconst 1, 1) := by decide +kernel
theorem dX6_sizesOf_21 : decode cX6_sizesOf 21 = .ok (.if_icmp .ne 12, 3) := by decide +kernel
theorem dX6_sizesOf_24 : decode cX6_sizesOf 24 = .ok (.aload_n 0, 1) := by decide +kernel
theorem dX6_sizesOf_25 : decode cX6_sizesOf 25 = .ok (.iload_n 3, 1) := by decide +kernel
theorem dX6_sizesOf_26 : decode cX6_sizesOf 26 = .ok (.iconst 2, 1) := by decide +kernel
theorem dX6_sizesOf_27 : decode cX6_sizesOf 27 = .ok (.invokevirtual 74, 3) := by decide +kernel
theorem dX6_sizesOf_30 : decode cX6_sizesOf 30 = .ok (.goto 4, 3) := by decide +kernel
theorem dX6_sizesOf_33 : decode cX6_sizesOf 33 = .ok (.iconst 0, 1) := by decide +kernel
theorem dX6_sizesOf_34 : decode cX6_sizesOf 34 = .ok (.iadd, 1) := by decide +kernel
theorem dX6_sizesOf_35 : decode cX6_sizesOf 35 = .ok (.istore_n 2, 1) := by decide +kernel
theorem dX6_sizesOf_36 : decode cX6_sizesOf 36 = .ok (.iinc 3 1, 3) := by decide +kernel
theorem dX6_sizesOf_39 : decode cX6_sizesOf 39 = .ok (.goto (-35), 3) := by decide +kernel
theorem dX6_sizesOf_42 : decode cX6_sizesOf 42 = .ok (.iload_n 2, 1) := by decide +kernel
theorem dX6_sizesOf_43 : decode cX6_sizesOf 43 = .ok (.ireturn, 1) := by decide +kernel
theorem dX6_worseNow_0 : decode cX6_worseNow 0 = .ok (.aload_n 0, 1) := by decide +kernel
theorem dX6_worseNow_1 : decode cX6_worseNow 1 = .ok (.aload_n 0, 1) := by decide +kernel
theorem dX6_worseNow_2 : decode cX6_worseNow 2 = .ok (.iconst 3, 1) := by decide +kernel
theorem dX6_worseNow_3 : decode cX6_worseNow 3 = .ok (.iconst 0, 1) := by decide +kernel
theorem dX6_worseNow_4 : decode cX6_worseNow 4 = .ok (.invokevirtual 77, 3) := by decide +kernel
theorem dX6_worseNow_7 : decode cX6_worseNow 7 = .ok (.invokevirtual 155, 3) := by decide +kernel
theorem dX6_worseNow_10 : decode cX6_worseNow 10 = .ok (.ireturn, 1) := by decide +kernel
theorem dX6_now_0 : decode cX6_now 0 = .ok (.iload_n 1, 1) := by decide +kernel
theorem dX6_now_1 : decode cX6_now 1 = .ok (.tableswitch 81 0 7 #[47, 54, 54, 54, 54, 54, 63, 76], 47) := by decide +kernel
theorem dX6_now_48 : decode cX6_now 48 = .ok (.aload_n 0, 1) := by decide +kernel
theorem dX6_now_49 : decode cX6_now 49 = .ok (.getfield 7, 3) := by decide +kernel
theorem dX6_now_52 : decode cX6_now 52 = .ok (.iconst 1, 1) := by decide +kernel
theorem dX6_now_53 : decode cX6_now 53 = .ok (.iaload, 1) := by decide +kernel
theorem dX6_now_54 : decode cX6_now 54 = .ok (.ireturn, 1) := by decide +kernel
theorem dX6_now_55 : decode cX6_now 55 = .ok (.aload_n 0, 1) := by decide +kernel
theorem dX6_now_56 : decode cX6_now 56 = .ok (.getfield 7, 3) := by decide +kernel
theorem dX6_now_59 : decode cX6_now 59 = .ok (.iconst 1, 1) := by decide +kernel
theorem dX6_now_60 : decode cX6_now 60 = .ok (.iload_n 1, 1) := by decide +kernel
theorem dX6_now_61 : decode cX6_now 61 = .ok (.iadd, 1) := by decide +kernel
theorem dX6_now_62 : decode cX6_now 62 = .ok (.iaload, 1) := by decide +kernel
theorem dX6_now_63 : decode cX6_now 63 = .ok (.ireturn, 1) := by decide +kernel
theorem dX6_now_64 : decode cX6_now 64 = .ok (.aload_n 0, 1) := by decide +kernel
theorem dX6_now_65 : decode cX6_now 65 = .ok (.invokevirtual 91, 3) := by decide +kernel
theorem dX6_now_68 : decode cX6_now 68 = .ok (.ifCond .eq 7, 3) := by decide +kernel
theorem dX6_now_71 : decode cX6_now 71 = .ok (.iconst 1, 1) := by decide +kernel
theorem dX6_now_72 : decode cX6_now 72 = .ok (.goto 4, 3) := by decide +kernel
theorem dX6_now_75 : decode cX6_now 75 = .ok (.iconst 0, 1) := by decide +kernel
theorem dX6_now_76 : decode cX6_now 76 = .ok (.ireturn, 1) := by decide +kernel
theorem dX6_now_77 : decode cX6_now 77 = .ok (.aload_n 0, 1) := by decide +kernel
theorem dX6_now_78 : decode cX6_now 78 = .ok (.invokevirtual 158, 3) := by decide +kernel
theorem dX6_now_81 : decode cX6_now 81 = .ok (.ireturn, 1) := by decide +kernel
theorem dX6_now_82 : decode cX6_now 82 = .ok (.aload_n 0, 1) := by decide +kernel
theorem dX6_now_83 : decode cX6_now 83 = .ok (.ldc 45, 2) := by decide +kernel
theorem dX6_now_85 : decode cX6_now 85 = .ok (.invokevirtual 64, 3) := by decide +kernel
theorem dX6_now_88 : decode cX6_now 88 = .ok (.ireturn, 1) := by decide +kernel
theorem dX6_isFar_0 : decode cX6_isFar 0 = .ok (.iload_n 0, 1) := by decide +kernel
theorem dX6_isFar_1 : decode cX6_isFar 1 = .ok (.i2l, 1) := by decide +kernel
theorem dX6_isFar_2 : decode cX6_isFar 2 = .ok (.iload_n 1, 1) := by decide +kernel
theorem dX6_isFar_3 : decode cX6_isFar 3 = .ok (.i2l, 1) := by decide +kernel
theorem dX6_isFar_4 : decode cX6_isFar 4 = .ok (.iload_n 2, 1) := by decide +kernel
theorem dX6_isFar_5 : decode cX6_isFar 5 = .ok (.i2l, 1) := by decide +kernel
theorem dX6_isFar_6 : decode cX6_isFar 6 = .ok (.invokestatic 48, 3) := by decide +kernel
theorem dX6_isFar_9 : decode cX6_isFar 9 = .ok (.ireturn, 1) := by decide +kernel
theorem dX6_on_0 : decode cX6_on 0 = .ok (.aload_n 0, 1) := by decide +kernel
theorem dX6_on_1 : decode cX6_on 1 = .ok (.iload_n 1, 1) := by decide +kernel
theorem dX6_on_2 : decode cX6_on 2 = .ok (.invokevirtual 98, 3) := by decide +kernel
theorem dX6_on_5 : decode cX6_on 5 = .ok (.ifCond .eq 23, 3) := by decide +kernel
theorem dX6_on_8 : decode cX6_on 8 = .ok (.iload_n 2, 1) := by decide +kernel
theorem dX6_on_9 : decode cX6_on 9 = .ok (.iconst 0, 1) := by decide +kernel
theorem dX6_on_10 : decode cX6_on 10 = .ok (.bipush 104, 2) := by decide +kernel
theorem dX6_on_12 : decode cX6_on 12 = .ok (.invokestatic 161, 3) := by decide +kernel
theorem dX6_on_15 : decode cX6_on 15 = .ok (.ifCond .eq 13, 3) := by decide +kernel
theorem dX6_on_18 : decode cX6_on 18 = .ok (.iload_n 3, 1) := by decide +kernel
theorem dX6_on_19 : decode cX6_on 19 = .ok (.i2l, 1) := by decide +kernel
theorem dX6_on_20 : decode cX6_on 20 = .ok (.lconst 0, 1) := by decide +kernel
theorem dX6_on_21 : decode cX6_on 21 = .ok (.lconst 1, 1) := by decide +kernel
theorem dX6_on_22 : decode cX6_on 22 = .ok (.invokestatic 48, 3) := by decide +kernel
theorem dX6_on_25 : decode cX6_on 25 = .ok (.ifCond .ne 10, 3) := by decide +kernel
theorem dX6_on_28 : decode cX6_on 28 = .ok (.aload_n 0, 1) := by decide +kernel
theorem dX6_on_29 : decode cX6_on 29 = .ok (.ldc 45, 2) := by decide +kernel
theorem dX6_on_31 : decode cX6_on 31 = .ok (.invokevirtual 64, 3) := by decide +kernel
theorem dX6_on_34 : decode cX6_on 34 = .ok (.ireturn, 1) := by decide +kernel
theorem dX6_on_35 : decode cX6_on 35 = .ok (.aload_n 0, 1) := by decide +kernel
theorem dX6_on_36 : decode cX6_on 36 = .ok (.invokevirtual 165, 3) := by decide +kernel
theorem dX6_on_39 : decode cX6_on 39 = .ok (.aload_n 0, 1) := by decide +kernel
theorem dX6_on_40 : decode cX6_on 40 = .ok (.iload_n 2, 1) := by decide +kernel
theorem dX6_on_41 : decode cX6_on 41 = .ok (.invokevirtual 152, 3) := by decide +kernel
theorem dX6_on_44 : decode cX6_on 44 = .ok (.aload_n 0, 1) := by decide +kernel
theorem dX6_on_45 : decode cX6_on 45 = .ok (.aload_n 0, 1) := by decide +kernel
theorem dX6_on_46 : decode cX6_on 46 = .ok (.iload_n 1, 1) := by decide +kernel
theorem dX6_on_47 : decode cX6_on 47 = .ok (.iload_n 3, 1) := by decide +kernel
theorem dX6_on_48 : decode cX6_on 48 = .ok (.ifCond .ne 7, 3) := by decide +kernel
theorem dX6_on_51 : decode cX6_on 51 = .ok (.iconst 2, 1) := by decide +kernel
theorem dX6_on_52 : decode cX6_on 52 = .ok (.goto 4, 3) := by decide +kernel
theorem dX6_on_55 : decode cX6_on 55 = .ok (.iconst 3, 1) := by decide +kernel
theorem dX6_on_56 : decode cX6_on 56 = .ok (.invokevirtual 74, 3) := by decide +kernel
theorem dX6_on_59 : decode cX6_on 59 = .ok (.invokevirtual 168, 3) := by decide +kernel
theorem dX6_on_62 : decode cX6_on 62 = .ok (.ireturn, 1) := by decide +kernel
theorem dX6_worseIn_0 : decode cX6_worseIn 0 = .ok (.aload_n 0, 1) := by decide +kernel
theorem dX6_worseIn_1 : decode cX6_worseIn 1 = .ok (.invokevirtual 165, 3) := by decide +kernel
theorem dX6_worseIn_4 : decode cX6_worseIn 4 = .ok (.aload_n 0, 1) := by decide +kernel
theorem dX6_worseIn_5 : decode cX6_worseIn 5 = .ok (.iload_n 1, 1) := by decide +kernel
theorem dX6_worseIn_6 : decode cX6_worseIn 6 = .ok (.invokevirtual 152, 3) := by decide +kernel
theorem dX6_worseIn_9 : decode cX6_worseIn 9 = .ok (.aload_n 0, 1) := by decide +kernel
theorem dX6_worseIn_10 : decode cX6_worseIn 10 = .ok (.aload_n 0, 1) := by decide +kernel
theorem dX6_worseIn_11 : decode cX6_worseIn 11 = .ok (.invokevirtual 158, 3) := by decide +kernel
theorem dX6_worseIn_14 : decode cX6_worseIn 14 = .ok (.invokevirtual 168, 3) := by decide +kernel
theorem dX6_worseIn_17 : decode cX6_worseIn 17 = .ok (.ireturn, 1) := by decide +kernel
theorem dX6_worse_0 : decode cX6_worse 0 = .ok (.iload_n 1, 1) := by decide +kernel
theorem dX6_worse_1 : decode cX6_worse 1 = .ok (.iconst 0, 1) := by decide +kernel
theorem dX6_worse_2 : decode cX6_worse 2 = .ok (.bipush 104, 2) := by decide +kernel
theorem dX6_worse_4 : decode cX6_worse 4 = .ok (.invokestatic 161, 3) := by decide +kernel
theorem dX6_worse_7 : decode cX6_worse 7 = .ok (.ifCond .eq 11, 3) := by decide +kernel
theorem dX6_worse_10 : decode cX6_worse 10 = .ok (.aload_n 0, 1) := by decide +kernel
theorem dX6_worse_11 : decode cX6_worse 11 = .ok (.iload_n 1, 1) := by decide +kernel
theorem dX6_worse_12 : decode cX6_worse 12 = .ok (.invokevirtual 171, 3) := by decide +kernel
theorem dX6_worse_15 : decode cX6_worse 15 = .ok (.goto 9, 3) := by decide +kernel
theorem dX6_worse_18 : decode cX6_worse 18 = .ok (.aload_n 0, 1) := by decide +kernel
theorem dX6_worse_19 : decode cX6_worse 19 = .ok (.ldc 45, 2) := by decide +kernel
theorem dX6_worse_21 : decode cX6_worse 21 = .ok (.invokevirtual 64, 3) := by decide +kernel
theorem dX6_worse_24 : decode cX6_worse 24 = .ok (.ireturn, 1) := by decide +kernel
theorem dX6_cost_0 : decode cX6_cost 0 = .ok (.iload_n 1, 1) := by decide +kernel
theorem dX6_cost_1 : decode cX6_cost 1 = .ok (.iconst 0, 1) := by decide +kernel
theorem dX6_cost_2 : decode cX6_cost 2 = .ok (.bipush 104, 2) := by decide +kernel
theorem dX6_cost_4 : decode cX6_cost 4 = .ok (.invokestatic 161, 3) := by decide +kernel
theorem dX6_cost_7 : decode cX6_cost 7 = .ok (.ifCond .ne 10, 3) := by decide +kernel
theorem dX6_cost_10 : decode cX6_cost 10 = .ok (.aload_n 0, 1) := by decide +kernel
theorem dX6_cost_11 : decode cX6_cost 11 = .ok (.ldc 45, 2) := by decide +kernel
theorem dX6_cost_13 : decode cX6_cost 13 = .ok (.invokevirtual 64, 3) := by decide +kernel
theorem dX6_cost_16 : decode cX6_cost 16 = .ok (.ireturn, 1) := by decide +kernel
theorem dX6_cost_17 : decode cX6_cost 17 = .ok (.aload_n 0, 1) := by decide +kernel
theorem dX6_cost_18 : decode cX6_cost 18 = .ok (.getfield 7, 3) := by decide +kernel
theorem dX6_cost_21 : decode cX6_cost 21 = .ok (.bipush 6, 2) := by decide +kernel
theorem dX6_cost_23 : decode cX6_cost 23 = .ok (.iaload, 1) := by decide +kernel
theorem dX6_cost_24 : decode cX6_cost 24 = .ok (.istore_n 2, 1) := by decide +kernel
theorem dX6_cost_25 : decode cX6_cost 25 = .ok (.aload_n 0, 1) := by decide +kernel
theorem dX6_cost_26 : decode cX6_cost 26 = .ok (.invokevirtual 165, 3) := by decide +kernel
theorem dX6_cost_29 : decode cX6_cost 29 = .ok (.aload_n 0, 1) := by decide +kernel
theorem dX6_cost_30 : decode cX6_cost 30 = .ok (.iload_n 1, 1) := by decide +kernel
theorem dX6_cost_31 : decode cX6_cost 31 = .ok (.invokevirtual 152, 3) := by decide +kernel
theorem dX6_cost_34 : decode cX6_cost 34 = .ok (.aload_n 0, 1) := by decide +kernel
theorem dX6_cost_35 : decode cX6_cost 35 = .ok (.aload_n 0, 1) := by decide +kernel
theorem dX6_cost_36 : decode cX6_cost 36 = .ok (.getfield 7, 3) := by decide +kernel
theorem dX6_cost_39 : decode cX6_cost 39 = .ok (.bipush 6, 2) := by decide +kernel
theorem dX6_cost_41 : decode cX6_cost 41 = .ok (.iaload, 1) := by decide +kernel
theorem dX6_cost_42 : decode cX6_cost 42 = .ok (.iload_n 2, 1) := by decide +kernel
theorem dX6_cost_43 : decode cX6_cost 43 = .ok (.isub, 1) := by decide +kernel
theorem dX6_cost_44 : decode cX6_cost 44 = .ok (.invokevirtual 168, 3) := by decide +kernel
theorem dX6_cost_47 : decode cX6_cost 47 = .ok (.ireturn, 1) := by decide +kernel
theorem dX6_firstSo_0 : decode cX6_firstSo 0 = .ok (.aload_n 0, 1) := by decide +kernel
theorem dX6_firstSo_1 : decode cX6_firstSo 1 = .ok (.invokevirtual 165, 3) := by decide +kernel
theorem dX6_firstSo_4 : decode cX6_firstSo 4 = .ok (.iconst 0, 1) := by decide +kernel
theorem dX6_firstSo_5 : decode cX6_firstSo 5 = .ok (.istore_n 3, 1) := by decide +kernel
theorem dX6_firstSo_6 : decode cX6_firstSo 6 = .ok (.iload_n 3, 1) := by decide +kernel
theorem dX6_firstSo_7 : decode cX6_firstSo 7 = .ok (.bipush 104, 2) := by decide +kernel
theorem dX6_firstSo_9 : decode cX6_firstSo 9 = .ok (.if_icmp .gt 31, 3) := by decide +kernel
theorem dX6_firstSo_12 : decode cX6_firstSo 12 = .ok (.aload_n 0, 1) := by decide +kernel
theorem dX6_firstSo_13 : decode cX6_firstSo 13 = .ok (.iload_n 1, 1) := by decide +kernel
theorem dX6_firstSo_14 : decode cX6_firstSo 14 = .ok (.iconst 3, 1) := by decide +kernel
theorem dX6_firstSo_15 : decode cX6_firstSo 15 = .ok (.invokevirtual 74, 3) := by decide +kernel
theorem dX6_firstSo_18 : decode cX6_firstSo 18 = .ok (.ifCond .le 7, 3) := by decide +kernel
theorem dX6_firstSo_21 : decode cX6_firstSo 21 = .ok (.iconst 1, 1) := by decide +kernel
theorem dX6_firstSo_22 : decode cX6_firstSo 22 = .ok (.goto 4, 3) := by decide +kernel
theorem dX6_firstSo_25 : decode cX6_firstSo 25 = .ok (.iconst 0, 1) := by decide +kernel
theorem dX6_firstSo_26 : decode cX6_firstSo 26 = .ok (.iload_n 2, 1) := by decide +kernel
theorem dX6_firstSo_27 : decode cX6_firstSo 27 = .ok (.if_icmp .eq 13, 3) := by decide +kernel
theorem dX6_firstSo_30 : decode cX6_firstSo 30 = .ok (.aload_n 0, 1) := by decide +kernel
theorem dX6_firstSo_31 : decode cX6_firstSo 31 = .ok (.invokevirtual 147, 3) := by decide +kernel
theorem dX6_firstSo_34 : decode cX6_firstSo 34 = .ok (.iinc 3 1, 3) := by decide +kernel
theorem dX6_firstSo_37 : decode cX6_firstSo 37 = .ok (.goto (-31), 3) := by decide +kernel
theorem dX6_firstSo_40 : decode cX6_firstSo 40 = .ok (.aload_n 0, 1) := by decide +kernel
theorem dX6_firstSo_41 : decode cX6_firstSo 41 = .ok (.iload_n 3, 1) := by decide +kernel
theorem dX6_firstSo_42 : decode cX6_firstSo 42 = .ok (.invokevirtual 168, 3) := by decide +kernel
theorem dX6_firstSo_45 : decode cX6_firstSo 45 = .ok (.istore 4, 2) := by decide +kernel
theorem dX6_firstSo_47 : decode cX6_firstSo 47 = .ok (.iload 4, 2) := by decide +kernel
theorem dX6_firstSo_49 : decode cX6_firstSo 49 = .ok (.bipush 104, 2) := by decide +kernel
theorem dX6_firstSo_51 : decode cX6_firstSo 51 = .ok (.if_icmp .le 12, 3) := by decide +kernel
theorem dX6_firstSo_54 : decode cX6_firstSo 54 = .ok (.aload_n 0, 1) := by decide +kernel
theorem dX6_firstSo_55 : decode cX6_firstSo 55 = .ok (.ldc 142, 2) := by decide +kernel
theorem dX6_firstSo_57 : decode cX6_firstSo 57 = .ok (.invokevirtual 64, 3) := by decide +kernel
theorem dX6_firstSo_60 : decode cX6_firstSo 60 = .ok (.goto 5, 3) := by decide +kernel
theorem dX6_firstSo_63 : decode cX6_firstSo 63 = .ok (.iload 4, 2) := by decide +kernel
theorem dX6_firstSo_65 : decode cX6_firstSo 65 = .ok (.ireturn, 1) := by decide +kernel
theorem dX6_filled_0 : decode cX6_filled 0 = .ok (.aload_n 0, 1) := by decide +kernel
theorem dX6_filled_1 : decode cX6_filled 1 = .ok (.iload_n 1, 1) := by decide +kernel
theorem dX6_filled_2 : decode cX6_filled 2 = .ok (.invokevirtual 98, 3) := by decide +kernel
theorem dX6_filled_5 : decode cX6_filled 5 = .ok (.ifCond .eq 12, 3) := by decide +kernel
theorem dX6_filled_8 : decode cX6_filled 8 = .ok (.aload_n 0, 1) := by decide +kernel
theorem dX6_filled_9 : decode cX6_filled 9 = .ok (.iload_n 1, 1) := by decide +kernel
theorem dX6_filled_10 : decode cX6_filled 10 = .ok (.iconst 1, 1) := by decide +kernel
theorem dX6_filled_11 : decode cX6_filled 11 = .ok (.invokevirtual 174, 3) := by decide +kernel
theorem dX6_filled_14 : decode cX6_filled 14 = .ok (.goto 9, 3) := by decide +kernel
theorem dX6_filled_17 : decode cX6_filled 17 = .ok (.aload_n 0, 1) := by decide +kernel
theorem dX6_filled_18 : decode cX6_filled 18 = .ok (.ldc 45, 2) := by decide +kernel
theorem dX6_filled_20 : decode cX6_filled 20 = .ok (.invokevirtual 64, 3) := by decide +kernel
theorem dX6_filled_23 : decode cX6_filled 23 = .ok (.ireturn, 1) := by decide +kernel
theorem dX6_breaks_0 : decode cX6_breaks 0 = .ok (.aload_n 0, 1) := by decide +kernel
theorem dX6_breaks_1 : decode cX6_breaks 1 = .ok (.iload_n 1, 1) := by decide +kernel
theorem dX6_breaks_2 : decode cX6_breaks 2 = .ok (.invokevirtual 98, 3) := by decide +kernel
theorem dX6_breaks_5 : decode cX6_breaks 5 = .ok (.ifCond .eq 12, 3) := by decide +kernel
theorem dX6_breaks_8 : decode cX6_breaks 8 = .ok (.aload_n 0, 1) := by decide +kernel
theorem dX6_breaks_9 : decode cX6_breaks 9 = .ok (.iload_n 1, 1) := by decide +kernel
theorem dX6_breaks_10 : decode cX6_breaks 10 = .ok (.iconst 0, 1) := by decide +kernel
theorem dX6_breaks_11 : decode cX6_breaks 11 = .ok (.invokevirtual 174, 3) := by decide +kernel
theorem dX6_breaks_14 : decode cX6_breaks 14 = .ok (.goto 9, 3) := by decide +kernel
theorem dX6_breaks_17 : decode cX6_breaks 17 = .ok (.aload_n 0, 1) := by decide +kernel
theorem dX6_breaks_18 : decode cX6_breaks 18 = .ok (.ldc 45, 2) := by decide +kernel
theorem dX6_breaks_20 : decode cX6_breaks 20 = .ok (.invokevirtual 64, 3) := by decide +kernel
theorem dX6_breaks_23 : decode cX6_breaks 23 = .ok (.ireturn, 1) := by decide +kernel
theorem dX6_how_0 : decode cX6_how 0 = .ok (.iload_n 1, 1) := by decide +kernel
theorem dX6_how_1 : decode cX6_how 1 = .ok (.iconst 1, 1) := by decide +kernel
theorem dX6_how_2 : decode cX6_how 2 = .ok (.bipush 104, 2) := by decide +kernel
theorem dX6_how_4 : decode cX6_how 4 = .ok (.invokestatic 161, 3) := by decide +kernel
theorem dX6_how_7 : decode cX6_how 7 = .ok (.ifCond .ne 10, 3) := by decide +kernel
theorem dX6_how_10 : decode cX6_how 10 = .ok (.aload_n 0, 1) := by decide +kernel
theorem dX6_how_11 : decode cX6_how 11 = .ok (.ldc 45, 2) := by decide +kernel
theorem dX6_how_13 : decode cX6_how 13 = .ok (.invokevirtual 64, 3) := by decide +kernel
theorem dX6_how_16 : decode cX6_how 16 = .ok (.ireturn, 1) := by decide +kernel
theorem dX6_how_17 : decode cX6_how 17 = .ok (.aload_n 0, 1) := by decide +kernel
theorem dX6_how_18 : decode cX6_how 18 = .ok (.iconst 5, 1) := by decide +kernel
theorem dX6_how_19 : decode cX6_how 19 = .ok (.iconst 0, 1) := by decide +kernel
theorem dX6_how_20 : decode cX6_how 20 = .ok (.invokevirtual 61, 3) := by decide +kernel
theorem dX6_how_23 : decode cX6_how 23 = .ok (.istore_n 2, 1) := by decide +kernel
theorem dX6_how_24 : decode cX6_how 24 = .ok (.aload_n 0, 1) := by decide +kernel
theorem dX6_how_25 : decode cX6_how 25 = .ok (.iload_n 1, 1) := by decide +kernel
theorem dX6_how_26 : decode cX6_how 26 = .ok (.invokevirtual 171, 3) := by decide +kernel
theorem dX6_how_29 : decode cX6_how 29 = .ok (.istore_n 3, 1) := by decide +kernel
theorem dX6_how_30 : decode cX6_how 30 = .ok (.aload_n 0, 1) := by decide +kernel
theorem dX6_how_31 : decode cX6_how 31 = .ok (.getfield 7, 3) := by decide +kernel
theorem dX6_how_34 : decode cX6_how 34 = .ok (.iconst 5, 1) := by decide +kernel
theorem dX6_how_35 : decode cX6_how 35 = .ok (.iconst 1, 1) := by decide +kernel
theorem dX6_how_36 : decode cX6_how 36 = .ok (.iastore, 1) := by decide +kernel
theorem dX6_how_37 : decode cX6_how 37 = .ok (.aload_n 0, 1) := by decide +kernel
theorem dX6_how_38 : decode cX6_how 38 = .ok (.iload_n 1, 1) := by decide +kernel
theorem dX6_how_39 : decode cX6_how 39 = .ok (.invokevirtual 171, 3) := by decide +kernel
theorem dX6_how_42 : decode cX6_how 42 = .ok (.istore 4, 2) := by decide +kernel
theorem dX6_how_44 : decode cX6_how 44 = .ok (.aload_n 0, 1) := by decide +kernel
theorem dX6_how_45 : decode cX6_how 45 = .ok (.getfield 7, 3) := by decide +kernel
theorem dX6_how_48 : decode cX6_how 48 = .ok (.iconst 5, 1) := by decide +kernel
theorem dX6_how_49 : decode cX6_how 49 = .ok (.iload_n 2, 1) := by decide +kernel
theorem dX6_how_50 : decode cX6_how 50 = .ok (.iastore, 1) := by decide +kernel
theorem dX6_how_51 : decode cX6_how 51 = .ok (.iload 4, 2) := by decide +kernel
theorem dX6_how_53 : decode cX6_how 53 = .ok (.iload_n 3, 1) := by decide +kernel
theorem dX6_how_54 : decode cX6_how 54 = .ok (.if_icmp .ge 7, 3) := by decide +kernel
theorem dX6_how_57 : decode cX6_how 57 = .ok (.iconst 1, 1) := by decide +kernel
theorem dX6_how_58 : decode cX6_how 58 = .ok (.goto 4, 3) := by decide +kernel
theorem dX6_how_61 : decode cX6_how 61 = .ok (.iconst 0, 1) := by decide +kernel
theorem dX6_how_62 : decode cX6_how 62 = .ok (.ireturn, 1) := by decide +kernel
theorem dX6_ring_0 : decode cX6_ring 0 = .ok (.iload_n 1, 1) := by decide +kernel
theorem dX6_ring_1 : decode cX6_ring 1 = .ok (.iconst 1, 1) := by decide +kernel
theorem dX6_ring_2 : decode cX6_ring 2 = .ok (.bipush 52, 2) := by decide +kernel
theorem dX6_ring_4 : decode cX6_ring 4 = .ok (.invokestatic 161, 3) := by decide +kernel
theorem dX6_ring_7 : decode cX6_ring 7 = .ok (.ifCond .ne 10, 3) := by decide +kernel
theorem dX6_ring_10 : decode cX6_ring 10 = .ok (.aload_n 0, 1) := by decide +kernel
theorem dX6_ring_11 : decode cX6_ring 11 = .ok (.ldc 45, 2) := by decide +kernel
theorem dX6_ring_13 : decode cX6_ring 13 = .ok (.invokevirtual 64, 3) := by decide +kernel
theorem dX6_ring_16 : decode cX6_ring 16 = .ok (.ireturn, 1) := by decide +kernel
theorem dX6_ring_17 : decode cX6_ring 17 = .ok (.iconst (-1), 1) := by decide +kernel
theorem dX6_ring_18 : decode cX6_ring 18 = .ok (.istore_n 2, 1) := by decide +kernel
theorem dX6_ring_19 : decode cX6_ring 19 = .ok (.iconst 0, 1) := by decide +kernel
theorem dX6_ring_20 : decode cX6_ring 20 = .ok (.istore_n 3, 1) := by decide +kernel
theorem dX6_ring_21 : decode cX6_ring 21 = .ok (.iconst 0, 1) := by decide +kernel
theorem dX6_ring_22 : decode cX6_ring 22 = .ok (.istore 4, 2) := by decide +kernel
theorem dX6_ring_24 : decode cX6_ring 24 = .ok (.iload 4, 2) := by decide +kernel
theorem dX6_ring_26 : decode cX6_ring 26 = .ok (.aload_n 0, 1) := by decide +kernel
theorem dX6_ring_27 : decode cX6_ring 27 = .ok (.getfield 7, 3) := by decide +kernel
theorem dX6_ring_30 : decode cX6_ring 30 = .ok (.iconst 0, 1) := by decide +kernel
theorem dX6_ring_31 : decode cX6_ring 31 = .ok (.iaload, 1) := by decide +kernel
theorem dX6_ring_32 : decode cX6_ring 32 = .ok (.if_icmp .ge 91, 3) := by decide +kernel
theorem dX6_ring_35 : decode cX6_ring 35 = .ok (.aload_n 0, 1) := by decide +kernel
theorem dX6_ring_36 : decode cX6_ring 36 = .ok (.iload 4, 2) := by decide +kernel
theorem dX6_ring_38 : decode cX6_ring 38 = .ok (.iconst 5, 1) := by decide +kernel
theorem dX6_ring_39 : decode cX6_ring 39 = .ok (.invokevirtual 74, 3) := by decide +kernel
theorem dX6_ring_42 : decode cX6_ring 42 = .ok (.ifCond .ne 75, 3) := by decide +kernel
theorem dX6_ring_45 : decode cX6_ring 45 = .ok (.aload_n 0, 1) := by decide +kernel
theorem dX6_ring_46 : decode cX6_ring 46 = .ok (.getfield 7, 3) := by decide +kernel
theorem dX6_ring_49 : decode cX6_ring 49 = .ok (.iload 4, 2) := by decide +kernel
theorem dX6_ring_51 : decode cX6_ring 51 = .ok (.iconst 5, 1) := by decide +kernel
theorem dX6_ring_52 : decode cX6_ring 52 = .ok (.invokestatic 52, 3) := by decide +kernel
theorem dX6_ring_55 : decode cX6_ring 55 = .ok (.iconst 1, 1) := by decide +kernel
theorem dX6_ring_56 : decode cX6_ring 56 = .ok (.iastore, 1) := by decide +kernel
theorem dX6_ring_57 : decode cX6_ring 57 = .ok (.aload_n 0, 1) := by decide +kernel
theorem dX6_ring_58 : decode cX6_ring 58 = .ok (.iload_n 1, 1) := by decide +kernel
theorem dX6_ring_59 : decode cX6_ring 59 = .ok (.invokevirtual 171, 3) := by decide +kernel
theorem dX6_ring_62 : decode cX6_ring 62 = .ok (.istore 5, 2) := by decide +kernel
theorem dX6_ring_64 : decode cX6_ring 64 = .ok (.aload_n 0, 1) := by decide +kernel
theorem dX6_ring_65 : decode cX6_ring 65 = .ok (.getfield 7, 3) := by decide +kernel
theorem dX6_ring_68 : decode cX6_ring 68 = .ok (.iload 4, 2) := by decide +kernel
theorem dX6_ring_70 : decode cX6_ring 70 = .ok (.iconst 5, 1) := by decide +kernel
theorem dX6_ring_71 : decode cX6_ring 71 = .ok (.invokestatic 52, 3) := by decide +kernel
theorem dX6_ring_74 : decode cX6_ring 74 = .ok (.iconst 0, 1) := by decide +kernel
theorem dX6_ring_75 : decode cX6_ring 75 = .ok (.iastore, 1) := by decide +kernel
theorem dX6_ring_76 : decode cX6_ring 76 = .ok (.iload_n 2, 1) := by decide +kernel
theorem dX6_ring_77 : decode cX6_ring 77 = .ok (.ifCond .lt 9, 3) := by decide +kernel
theorem dX6_ring_80 : decode cX6_ring 80 = .ok (.iload 5, 2) := by decide +kernel
theorem dX6_ring_82 : decode cX6_ring 82 = .ok (.iload_n 3, 1) := by decide +kernel
theorem dX6_ring_83 : decode cX6_ring 83 = .ok (.if_icmp .ge 7, 3) := by decide +kernel
theorem dX6_ring_86 : decode cX6_ring 86 = .ok (.iconst 1, 1) := by decide +kernel
theorem dX6_ring_87 : decode cX6_ring 87 = .ok (.goto 4, 3) := by decide +kernel
theorem dX6_ring_90 : decode cX6_ring 90 = .ok (.iconst 0, 1) := by decide +kernel
theorem dX6_ring_91 : decode cX6_ring 91 = .ok (.istore 6, 2) := by decide +kernel
theorem dX6_ring_93 : decode cX6_ring 93 = .ok (.iload 6, 2) := by decide +kernel
theorem dX6_ring_95 : decode cX6_ring 95 = .ok (.ifCond .eq 8, 3) := by decide +kernel
theorem dX6_ring_98 : decode cX6_ring 98 = .ok (.iload 4, 2) := by decide +kernel
theorem dX6_ring_100 : decode cX6_ring 100 = .ok (.goto 4, 3) := by decide +kernel
theorem dX6_ring_103 : decode cX6_ring 103 = .ok (.iload_n 2, 1) := by decide +kernel
theorem dX6_ring_104 : decode cX6_ring 104 = .ok (.istore_n 2, 1) := by decide +kernel
theorem dX6_ring_105 : decode cX6_ring 105 = .ok (.iload 6, 2) := by decide +kernel
theorem dX6_ring_107 : decode cX6_ring 107 = .ok (.ifCond .eq 8, 3) := by decide +kernel
theorem dX6_ring_110 : decode cX6_ring 110 = .ok (.iload 5, 2) := by decide +kernel
theorem dX6_ring_112 : decode cX6_ring 112 = .ok (.goto 4, 3) := by decide +kernel
theorem dX6_ring_115 : decode cX6_ring 115 = .ok (.iload_n 3, 1) := by decide +kernel
theorem dX6_ring_116 : decode cX6_ring 116 = .ok (.istore_n 3, 1) := by decide +kernel
theorem dX6_ring_117 : decode cX6_ring 117 = .ok (.iinc 4 1, 3) := by decide +kernel
theorem dX6_ring_120 : decode cX6_ring 120 = .ok (.goto (-96), 3) := by decide +kernel
theorem dX6_ring_123 : decode cX6_ring 123 = .ok (.iload_n 2, 1) := by decide +kernel
theorem dX6_ring_124 : decode cX6_ring 124 = .ok (.ifCond .ge 12, 3) := by decide +kernel
theorem dX6_ring_127 : decode cX6_ring 127 = .ok (.aload_n 0, 1) := by decide +kernel
theorem dX6_ring_128 : decode cX6_ring 128 = .ok (.ldc 142, 2) := by decide +kernel
theorem dX6_ring_130 : decode cX6_ring 130 = .ok (.invokevirtual 64, 3) := by decide +kernel
theorem dX6_ring_133 : decode cX6_ring 133 = .ok (.goto 4, 3) := by decide +kernel
theorem dX6_ring_136 : decode cX6_ring 136 = .ok (.iload_n 2, 1) := by decide +kernel
theorem dX6_ring_137 : decode cX6_ring 137 = .ok (.ireturn, 1) := by decide +kernel
theorem dX6_leastBy_0 : decode cX6_leastBy 0 = .ok (.aload_n 0, 1) := by decide +kernel
theorem dX6_leastBy_1 : decode cX6_leastBy 1 = .ok (.getfield 7, 3) := by decide +kernel
theorem dX6_leastBy_4 : decode cX6_leastBy 4 = .ok (.iload_n 1, 1) := by decide +kernel
theorem dX6_leastBy_5 : decode cX6_leastBy 5 = .ok (.iaload, 1) := by decide +kernel
theorem dX6_leastBy_6 : decode cX6_leastBy 6 = .ok (.istore 5, 2) := by decide +kernel
theorem dX6_leastBy_8 : decode cX6_leastBy 8 = .ok (.iconst (-1), 1) := by decide +kernel
theorem dX6_leastBy_9 : decode cX6_leastBy 9 = .ok (.istore 6, 2) := by decide +kernel
theorem dX6_leastBy_11 : decode cX6_leastBy 11 = .ok (.iconst 0, 1) := by decide +kernel
theorem dX6_leastBy_12 : decode cX6_leastBy 12 = .ok (.istore 7, 2) := by decide +kernel
theorem dX6_leastBy_14 : decode cX6_leastBy 14 = .ok (.iload 7, 2) := by decide +kernel
theorem dX6_leastBy_16 : decode cX6_leastBy 16 = .ok (.iload_n 2, 1) := by decide +kernel
theorem dX6_leastBy_17 : decode cX6_leastBy 17 = .ok (.if_icmp .gt 40, 3) := by decide +kernel
theorem dX6_leastBy_20 : decode cX6_leastBy 20 = .ok (.iload 6, 2) := by decide +kernel
theorem dX6_leastBy_22 : decode cX6_leastBy 22 = .ok (.ifCond .ge 35, 3) := by decide +kernel
theorem dX6_leastBy_25 : decode cX6_leastBy 25 = .ok (.aload_n 0, 1) := by decide +kernel
theorem dX6_leastBy_26 : decode cX6_leastBy 26 = .ok (.getfield 7, 3) := by decide +kernel
theorem dX6_leastBy_29 : decode cX6_leastBy 29 = .ok (.iload_n 1, 1) := by decide +kernel
theorem dX6_leastBy_30 : decode cX6_leastBy 30 = .ok (.iload 7, 2) := by decide +kernel
theorem dX6_leastBy_32 : decode cX6_leastBy 32 = .ok (.iastore, 1) := by decide +kernel
theorem dX6_leastBy_33 : decode cX6_leastBy 33 = .ok (.aload_n 0, 1) := by decide +kernel
theorem dX6_leastBy_34 : decode cX6_leastBy 34 = .ok (.iload_n 3, 1) := by decide +kernel
theorem dX6_leastBy_35 : decode cX6_leastBy 35 = .ok (.invokevirtual 171, 3) := by decide +kernel
theorem dX6_leastBy_38 : decode cX6_leastBy 38 = .ok (.iload 4, 2) := by decide +kernel
theorem dX6_leastBy_40 : decode cX6_leastBy 40 = .ok (.if_icmp .gt 8, 3) := by decide +kernel
theorem dX6_leastBy_43 : decode cX6_leastBy 43 = .ok (.iload 7, 2) := by decide +kernel
theorem dX6_leastBy_45 : decode cX6_leastBy 45 = .ok (.goto 4, 3) := by decide +kernel
theorem dX6_leastBy_48 : decode cX6_leastBy 48 = .ok (.iconst (-1), 1) := by decide +kernel
theorem dX6_leastBy_49 : decode cX6_leastBy 49 = .ok (.istore 6, 2) := by decide +kernel
theorem dX6_leastBy_51 : decode cX6_leastBy 51 = .ok (.iinc 7 1, 3) := by decide +kernel
theorem dX6_leastBy_54 : decode cX6_leastBy 54 = .ok (.goto (-40), 3) := by decide +kernel
theorem dX6_leastBy_57 : decode cX6_leastBy 57 = .ok (.aload_n 0, 1) := by decide +kernel
theorem dX6_leastBy_58 : decode cX6_leastBy 58 = .ok (.getfield 7, 3) := by decide +kernel
theorem dX6_leastBy_61 : decode cX6_leastBy 61 = .ok (.iload_n 1, 1) := by decide +kernel
theorem dX6_leastBy_62 : decode cX6_leastBy 62 = .ok (.iload 5, 2) := by decide +kernel
theorem dX6_leastBy_64 : decode cX6_leastBy 64 = .ok (.iastore, 1) := by decide +kernel
theorem dX6_leastBy_65 : decode cX6_leastBy 65 = .ok (.iload 6, 2) := by decide +kernel
theorem dX6_leastBy_67 : decode cX6_leastBy 67 = .ok (.ifCond .ge 12, 3) := by decide +kernel
theorem dX6_leastBy_70 : decode cX6_leastBy 70 = .ok (.aload_n 0, 1) := by decide +kernel
theorem dX6_leastBy_71 : decode cX6_leastBy 71 = .ok (.ldc 142, 2) := by decide +kernel
theorem dX6_leastBy_73 : decode cX6_leastBy 73 = .ok (.invokevirtual 64, 3) := by decide +kernel
theorem dX6_leastBy_76 : decode cX6_leastBy 76 = .ok (.goto 5, 3) := by decide +kernel
theorem dX6_leastBy_79 : decode cX6_leastBy 79 = .ok (.iload 6, 2) := by decide +kernel
theorem dX6_leastBy_81 : decode cX6_leastBy 81 = .ok (.ireturn, 1) := by decide +kernel
theorem dX6_men_0 : decode cX6_men 0 = .ok (.iload_n 1, 1) := by decide +kernel
theorem dX6_men_1 : decode cX6_men 1 = .ok (.iconst 1, 1) := by decide +kernel
theorem dX6_men_2 : decode cX6_men 2 = .ok (.bipush 52, 2) := by decide +kernel
theorem dX6_men_4 : decode cX6_men 4 = .ok (.invokestatic 161, 3) := by decide +kernel
theorem dX6_men_7 : decode cX6_men 7 = .ok (.ifCond .eq 27, 3) := by decide +kernel
theorem dX6_men_10 : decode cX6_men 10 = .ok (.iload_n 2, 1) := by decide +kernel
theorem dX6_men_11 : decode cX6_men 11 = .ok (.i2l, 1) := by decide +kernel
theorem dX6_men_12 : decode cX6_men 12 = .ok (.lconst 0, 1) := by decide +kernel
theorem dX6_men_13 : decode cX6_men 13 = .ok (.ldc2_w 112, 3) := by decide +kernel
theorem dX6_men_16 : decode cX6_men 16 = .ok (.invokestatic 48, 3) := by decide +kernel
theorem dX6_men_19 : decode cX6_men 19 = .ok (.ifCond .eq 15, 3) := by decide +kernel
theorem dX6_men_22 : decode cX6_men 22 = .ok (.aload_n 0, 1) := by decide +kernel
theorem dX6_men_23 : decode cX6_men 23 = .ok (.iconst 4, 1) := by decide +kernel
theorem dX6_men_24 : decode cX6_men 24 = .ok (.bipush 6, 2) := by decide +kernel
theorem dX6_men_26 : decode cX6_men 26 = .ok (.iload_n 1, 1) := by decide +kernel
theorem dX6_men_27 : decode cX6_men 27 = .ok (.iload_n 2, 1) := by decide +kernel
theorem dX6_men_28 : decode cX6_men 28 = .ok (.invokevirtual 177, 3) := by decide +kernel
theorem dX6_men_31 : decode cX6_men 31 = .ok (.goto 9, 3) := by decide +kernel
theorem dX6_men_34 : decode cX6_men 34 = .ok (.aload_n 0, 1) := by decide +kernel
theorem dX6_men_35 : decode cX6_men 35 = .ok (.ldc 45, 2) := by decide +kernel
theorem dX6_men_37 : decode cX6_men 37 = .ok (.invokevirtual 64, 3) := by decide +kernel
theorem dX6_men_40 : decode cX6_men 40 = .ok (.ireturn, 1) := by decide +kernel
theorem dX6_budget_0 : decode cX6_budget 0 = .ok (.iload_n 1, 1) := by decide +kernel
theorem dX6_budget_1 : decode cX6_budget 1 = .ok (.iconst 1, 1) := by decide +kernel
theorem dX6_budget_2 : decode cX6_budget 2 = .ok (.bipush 20, 2) := by decide +kernel
theorem dX6_budget_4 : decode cX6_budget 4 = .ok (.invokestatic 161, 3) := by decide +kernel
theorem dX6_budget_7 : decode cX6_budget 7 = .ok (.ifCond .eq 28, 3) := by decide +kernel
theorem dX6_budget_10 : decode cX6_budget 10 = .ok (.iload_n 2, 1) := by decide +kernel
theorem dX6_budget_11 : decode cX6_budget 11 = .ok (.i2l, 1) := by decide +kernel
theorem dX6_budget_12 : decode cX6_budget 12 = .ok (.lconst 0, 1) := by decide +kernel
theorem dX6_budget_13 : decode cX6_budget 13 = .ok (.ldc2_w 112, 3) := by decide +kernel
theorem dX6_budget_16 : decode cX6_budget 16 = .ok (.invokestatic 48, 3) := by decide +kernel
theorem dX6_budget_19 : decode cX6_budget 19 = .ok (.ifCond .eq 16, 3) := by decide +kernel
theorem dX6_budget_22 : decode cX6_budget 22 = .ok (.aload_n 0, 1) := by decide +kernel
theorem dX6_budget_23 : decode cX6_budget 23 = .ok (.iconst 2, 1) := by decide +kernel
theorem dX6_budget_24 : decode cX6_budget 24 = .ok (.sipush 999, 3) := by decide +kernel
theorem dX6_budget_27 : decode cX6_budget 27 = .ok (.iload_n 1, 1) := by decide +kernel
theorem dX6_budget_28 : decode cX6_budget 28 = .ok (.iload_n 2, 1) := by decide +kernel
theorem dX6_budget_29 : decode cX6_budget 29 = .ok (.invokevirtual 177, 3) := by decide +kernel
theorem dX6_budget_32 : decode cX6_budget 32 = .ok (.goto 9, 3) := by decide +kernel
theorem dX6_budget_35 : decode cX6_budget 35 = .ok (.aload_n 0, 1) := by decide +kernel
theorem dX6_budget_36 : decode cX6_budget 36 = .ok (.ldc 45, 2) := by decide +kernel
theorem dX6_budget_38 : decode cX6_budget 38 = .ok (.invokevirtual 64, 3) := by decide +kernel
theorem dX6_budget_41 : decode cX6_budget 41 = .ok (.ireturn, 1) := by decide +kernel
theorem dX6_kind_0 : decode cX6_kind 0 = .ok (.aload_n 0, 1) := by decide +kernel
theorem dX6_kind_1 : decode cX6_kind 1 = .ok (.iload_n 1, 1) := by decide +kernel
theorem dX6_kind_2 : decode cX6_kind 2 = .ok (.invokevirtual 98, 3) := by decide +kernel
theorem dX6_kind_5 : decode cX6_kind 5 = .ok (.ifCond .eq 13, 3) := by decide +kernel
theorem dX6_kind_8 : decode cX6_kind 8 = .ok (.iload_n 2, 1) := by decide +kernel
theorem dX6_kind_9 : decode cX6_kind 9 = .ok (.iconst 1, 1) := by decide +kernel
theorem dX6_kind_10 : decode cX6_kind 10 = .ok (.bipush 52, 2) := by decide +kernel
theorem dX6_kind_12 : decode cX6_kind 12 = .ok (.invokestatic 161, 3) := by decide +kernel
theorem dX6_kind_15 : decode cX6_kind 15 = .ok (.ifCond .ne 10, 3) := by decide +kernel
theorem dX6_kind_18 : decode cX6_kind 18 = .ok (.aload_n 0, 1) := by decide +kernel
theorem dX6_kind_19 : decode cX6_kind 19 = .ok (.ldc 45, 2) := by decide +kernel
theorem dX6_kind_21 : decode cX6_kind 21 = .ok (.invokevirtual 64, 3) := by decide +kernel
theorem dX6_kind_24 : decode cX6_kind 24 = .ok (.ireturn, 1) := by decide +kernel
theorem dX6_kind_25 : decode cX6_kind 25 = .ok (.iconst 0, 1) := by decide +kernel
theorem dX6_kind_26 : decode cX6_kind 26 = .ok (.istore_n 3, 1) := by decide +kernel
theorem dX6_kind_27 : decode cX6_kind 27 = .ok (.bipush 100, 2) := by decide +kernel
theorem dX6_kind_29 : decode cX6_kind 29 = .ok (.istore 4, 2) := by decide +kernel
theorem dX6_kind_31 : decode cX6_kind 31 = .ok (.aload_n 0, 1) := by decide +kernel
theorem dX6_kind_32 : decode cX6_kind 32 = .ok (.invokevirtual 165, 3) := by decide +kernel
theorem dX6_kind_35 : decode cX6_kind 35 = .ok (.iconst 0, 1) := by decide +kernel
theorem dX6_kind_36 : decode cX6_kind 36 = .ok (.istore 5, 2) := by decide +kernel
theorem dX6_kind_38 : decode cX6_kind 38 = .ok (.iload 5, 2) := by decide +kernel
theorem dX6_kind_40 : decode cX6_kind 40 = .ok (.iconst 5, 1) := by decide +kernel
theorem dX6_kind_41 : decode cX6_kind 41 = .ok (.if_icmp .gt 68, 3) := by decide +kernel
theorem dX6_kind_44 : decode cX6_kind 44 = .ok (.aload_n 0, 1) := by decide +kernel
theorem dX6_kind_45 : decode cX6_kind 45 = .ok (.getfield 7, 3) := by decide +kernel
theorem dX6_kind_48 : decode cX6_kind 48 = .ok (.iload_n 1, 1) := by decide +kernel
theorem dX6_kind_49 : decode cX6_kind 49 = .ok (.iconst 0, 1) := by decide +kernel
theorem dX6_kind_50 : decode cX6_kind 50 = .ok (.invokestatic 52, 3) := by decide +kernel
theorem dX6_kind_53 : decode cX6_kind 53 = .ok (.iload 5, 2) := by decide +kernel
theorem dX6_kind_55 : decode cX6_kind 55 = .ok (.iastore, 1) := by decide +kernel
theorem dX6_kind_56 : decode cX6_kind 56 = .ok (.aload_n 0, 1) := by decide +kernel
theorem dX6_kind_57 : decode cX6_kind 57 = .ok (.iload_n 2, 1) := by decide +kernel
theorem dX6_kind_58 : decode cX6_kind 58 = .ok (.invokevirtual 152, 3) := by decide +kernel
theorem dX6_kind_61 : decode cX6_kind 61 = .ok (.aload_n 0, 1) := by decide +kernel
theorem dX6_kind_62 : decode cX6_kind 62 = .ok (.aload_n 0, 1) := by decide +kernel
theorem dX6_kind_63 : decode cX6_kind 63 = .ok (.iload_n 1, 1) := by decide +kernel
theorem dX6_kind_64 : decode cX6_kind 64 = .ok (.iconst 2, 1) := by decide +kernel
theorem dX6_kind_65 : decode cX6_kind 65 = .ok (.invokevirtual 74, 3) := by decide +kernel
theorem dX6_kind_68 : decode cX6_kind 68 = .ok (.invokevirtual 168, 3) := by decide +kernel
theorem dX6_kind_71 : decode cX6_kind 71 = .ok (.istore 6, 2) := by decide +kernel
theorem dX6_kind_73 : decode cX6_kind 73 = .ok (.iload 6, 2) := by decide +kernel
theorem dX6_kind_75 : decode cX6_kind 75 = .ok (.iload 4, 2) := by decide +kernel
theorem dX6_kind_77 : decode cX6_kind 77 = .ok (.if_icmp .ge 8, 3) := by decide +kernel
theorem dX6_kind_80 : decode cX6_kind 80 = .ok (.iload 5, 2) := by decide +kernel
theorem dX6_kind_82 : decode cX6_kind 82 = .ok (.goto 4, 3) := by decide +kernel
theorem dX6_kind_85 : decode cX6_kind 85 = .ok (.iload_n 3, 1) := by decide +kernel
theorem dX6_kind_86 : decode cX6_kind 86 = .ok (.istore_n 3, 1) := by decide +kernel
theorem dX6_kind_87 : decode cX6_kind 87 = .ok (.iload 6, 2) := by decide +kernel
theorem dX6_kind_89 : decode cX6_kind 89 = .ok (.iload 4, 2) := by decide +kernel
theorem dX6_kind_91 : decode cX6_kind 91 = .ok (.if_icmp .ge 8, 3) := by decide +kernel
theorem dX6_kind_94 : decode cX6_kind 94 = .ok (.iload 6, 2) := by decide +kernel
theorem dX6_kind_96 : decode cX6_kind 96 = .ok (.goto 5, 3) := by decide +kernel
theorem dX6_kind_99 : decode cX6_kind 99 = .ok (.iload 4, 2) := by decide +kernel
theorem dX6_kind_101 : decode cX6_kind 101 = .ok (.istore 4, 2) := by decide +kernel
theorem dX6_kind_103 : decode cX6_kind 103 = .ok (.iinc 5 1, 3) := by decide +kernel
theorem dX6_kind_106 : decode cX6_kind 106 = .ok (.goto (-68), 3) := by decide +kernel
theorem dX6_kind_109 : decode cX6_kind 109 = .ok (.iload_n 3, 1) := by decide +kernel
theorem dX6_kind_110 : decode cX6_kind 110 = .ok (.ireturn, 1) := by decide +kernel
theorem dX6_let_0 : decode cX6_let 0 = .ok (.iload_n 1, 1) := by decide +kernel
theorem dX6_let_1 : decode cX6_let 1 = .ok (.iconst 1, 1) := by decide +kernel
theorem dX6_let_2 : decode cX6_let 2 = .ok (.bipush 26, 2) := by decide +kernel
theorem dX6_let_4 : decode cX6_let 4 = .ok (.invokestatic 161, 3) := by decide +kernel
theorem dX6_let_7 : decode cX6_let 7 = .ok (.ifCond .ne 10, 3) := by decide +kernel
theorem dX6_let_10 : decode cX6_let 10 = .ok (.aload_n 0, 1) := by decide +kernel
theorem dX6_let_11 : decode cX6_let 11 = .ok (.ldc 45, 2) := by decide +kernel
theorem dX6_let_13 : decode cX6_let 13 = .ok (.invokevirtual 64, 3) := by decide +kernel
theorem dX6_let_16 : decode cX6_let 16 = .ok (.ireturn, 1) := by decide +kernel
theorem dX6_let_17 : decode cX6_let 17 = .ok (.iconst 0, 1) := by decide +kernel
theorem dX6_let_18 : decode cX6_let 18 = .ok (.istore_n 2, 1) := by decide +kernel
theorem dX6_let_19 : decode cX6_let 19 = .ok (.sipush 999, 3) := by decide +kernel
theorem dX6_let_22 : decode cX6_let 22 = .ok (.istore_n 3, 1) := by decide +kernel
theorem dX6_let_23 : decode cX6_let 23 = .ok (.aload_n 0, 1) := by decide +kernel
theorem dX6_let_24 : decode cX6_let 24 = .ok (.invokevirtual 165, 3) := by decide +kernel
theorem dX6_let_27 : decode cX6_let 27 = .ok (.iconst 0, 1) := by decide +kernel
theorem dX6_let_28 : decode cX6_let 28 = .ok (.istore 4, 2) := by decide +kernel
theorem dX6_let_30 : decode cX6_let 30 = .ok (.iload 4, 2) := by decide +kernel
theorem dX6_let_32 : decode cX6_let 32 = .ok (.bipush 64, 2) := by decide +kernel
theorem dX6_let_34 : decode cX6_let 34 = .ok (.if_icmp .ge 84, 3) := by decide +kernel
theorem dX6_let_37 : decode cX6_let 37 = .ok (.iconst 0, 1) := by decide +kernel
theorem dX6_let_38 : decode cX6_let 38 = .ok (.istore 5, 2) := by decide +kernel
theorem dX6_let_40 : decode cX6_let 40 = .ok (.iload 5, 2) := by decide +kernel
theorem dX6_let_42 : decode cX6_let 42 = .ok (.bipush 6, 2) := by decide +kernel
theorem dX6_let_44 : decode cX6_let 44 = .ok (.if_icmp .ge 27, 3) := by decide +kernel
theorem dX6_let_47 : decode cX6_let 47 = .ok (.aload_n 0, 1) := by decide +kernel
theorem dX6_let_48 : decode cX6_let 48 = .ok (.getfield 7, 3) := by decide +kernel
theorem dX6_let_51 : decode cX6_let 51 = .ok (.iload 5, 2) := by decide +kernel
theorem dX6_let_53 : decode cX6_let 53 = .ok (.iconst 1, 1) := by decide +kernel
theorem dX6_let_54 : decode cX6_let 54 = .ok (.invokestatic 41, 3) := by decide +kernel
theorem dX6_let_57 : decode cX6_let 57 = .ok (.iload 4, 2) := by decide +kernel
theorem dX6_let_59 : decode cX6_let 59 = .ok (.iload 5, 2) := by decide +kernel
theorem dX6_let_61 : decode cX6_let 61 = .ok (.ishr, 1) := by decide +kernel
theorem dX6_let_62 : decode cX6_let 62 = .ok (.iconst 1, 1) := by decide +kernel
theorem dX6_let_63 : decode cX6_let 63 = .ok (.iand, 1) := by decide +kernel
theorem dX6_let_64 : decode cX6_let 64 = .ok (.iastore, 1) := by decide +kernel
theorem dX6_let_65 : decode cX6_let 65 = .ok (.iinc 5 1, 3) := by decide +kernel
theorem dX6_let_68 : decode cX6_let 68 = .ok (.goto (-28), 3) := by decide +kernel
theorem dX6_let_71 : decode cX6_let 71 = .ok (.aload_n 0, 1) := by decide +kernel
theorem dX6_let_72 : decode cX6_let 72 = .ok (.iload_n 1, 1) := by decide +kernel
theorem dX6_let_73 : decode cX6_let 73 = .ok (.invokevirtual 152, 3) := by decide +kernel
theorem dX6_let_76 : decode cX6_let 76 = .ok (.aload_n 0, 1) := by decide +kernel
theorem dX6_let_77 : decode cX6_let 77 = .ok (.aload_n 0, 1) := by decide +kernel
theorem dX6_let_78 : decode cX6_let 78 = .ok (.invokevirtual 158, 3) := by decide +kernel
theorem dX6_let_81 : decode cX6_let 81 = .ok (.invokevirtual 168, 3) := by decide +kernel
theorem dX6_let_84 : decode cX6_let 84 = .ok (.istore 5, 2) := by decide +kernel
theorem dX6_let_86 : decode cX6_let 86 = .ok (.iload 5, 2) := by decide +kernel
theorem dX6_let_88 : decode cX6_let 88 = .ok (.iload_n 3, 1) := by decide +kernel
theorem dX6_let_89 : decode cX6_let 89 = .ok (.if_icmp .ge 8, 3) := by decide +kernel
theorem dX6_let_92 : decode cX6_let 92 = .ok (.iload 4, 2) := by decide +kernel
theorem dX6_let_94 : decode cX6_let 94 = .ok (.goto 4, 3) := by decide +kernel
theorem dX6_let_97 : decode cX6_let 97 = .ok (.iload_n 2, 1) := by decide +kernel
theorem dX6_let_98 : decode cX6_let 98 = .ok (.istore_n 2, 1) := by decide +kernel
theorem dX6_let_99 : decode cX6_let 99 = .ok (.iload 5, 2) := by decide +kernel
theorem dX6_let_101 : decode cX6_let 101 = .ok (.iload_n 3, 1) := by decide +kernel
theorem dX6_let_102 : decode cX6_let 102 = .ok (.if_icmp .ge 8, 3) := by decide +kernel
theorem dX6_let_105 : decode cX6_let 105 = .ok (.iload 5, 2) := by decide +kernel
theorem dX6_let_107 : decode cX6_let 107 = .ok (.goto 4, 3) := by decide +kernel
theorem dX6_let_110 : decode cX6_let 110 = .ok (.iload_n 3, 1) := by decide +kernel
theorem dX6_let_111 : decode cX6_let 111 = .ok (.istore_n 3, 1) := by decide +kernel
theorem dX6_let_112 : decode cX6_let 112 = .ok (.iinc 4 1, 3) := by decide +kernel
theorem dX6_let_115 : decode cX6_let 115 = .ok (.goto (-85), 3) := by decide +kernel
theorem dX6_let_118 : decode cX6_let 118 = .ok (.iload_n 2, 1) := by decide +kernel
theorem dX6_let_119 : decode cX6_let 119 = .ok (.ireturn, 1) := by decide +kernel
theorem dX6_worst_0 : decode cX6_worst 0 = .ok (.iload_n 1, 1) := by decide +kernel
theorem dX6_worst_1 : decode cX6_worst 1 = .ok (.iconst 0, 1) := by decide +kernel
theorem dX6_worst_2 : decode cX6_worst 2 = .ok (.bipush 104, 2) := by decide +kernel
theorem dX6_worst_4 : decode cX6_worst 4 = .ok (.invokestatic 161, 3) := by decide +kernel
theorem dX6_worst_7 : decode cX6_worst 7 = .ok (.ifCond .ne 10, 3) := by decide +kernel
theorem dX6_worst_10 : decode cX6_worst 10 = .ok (.aload_n 0, 1) := by decide +kernel
theorem dX6_worst_11 : decode cX6_worst 11 = .ok (.ldc 45, 2) := by decide +kernel
theorem dX6_worst_13 : decode cX6_worst 13 = .ok (.invokevirtual 64, 3) := by decide +kernel
theorem dX6_worst_16 : decode cX6_worst 16 = .ok (.ireturn, 1) := by decide +kernel
theorem dX6_worst_17 : decode cX6_worst 17 = .ok (.aload_n 0, 1) := by decide +kernel
theorem dX6_worst_18 : decode cX6_worst 18 = .ok (.invokevirtual 165, 3) := by decide +kernel
theorem dX6_worst_21 : decode cX6_worst 21 = .ok (.aload_n 0, 1) := by decide +kernel
theorem dX6_worst_22 : decode cX6_worst 22 = .ok (.iload_n 1, 1) := by decide +kernel
theorem dX6_worst_23 : decode cX6_worst 23 = .ok (.invokevirtual 152, 3) := by decide +kernel
theorem dX6_worst_26 : decode cX6_worst 26 = .ok (.aload_n 0, 1) := by decide +kernel
theorem dX6_worst_27 : decode cX6_worst 27 = .ok (.iconst 3, 1) := by decide +kernel
theorem dX6_worst_28 : decode cX6_worst 28 = .ok (.iconst 0, 1) := by decide +kernel
theorem dX6_worst_29 : decode cX6_worst 29 = .ok (.invokevirtual 77, 3) := by decide +kernel
theorem dX6_worst_32 : decode cX6_worst 32 = .ok (.istore_n 2, 1) := by decide +kernel
theorem dX6_worst_33 : decode cX6_worst 33 = .ok (.iconst 0, 1) := by decide +kernel
theorem dX6_worst_34 : decode cX6_worst 34 = .ok (.istore_n 3, 1) := by decide +kernel
theorem dX6_worst_35 : decode cX6_worst 35 = .ok (.iconst 1, 1) := by decide +kernel
theorem dX6_worst_36 : decode cX6_worst 36 = .ok (.istore 4, 2) := by decide +kernel
theorem dX6_worst_38 : decode cX6_worst 38 = .ok (.iload 4, 2) := by decide +kernel
theorem dX6_worst_40 : decode cX6_worst 40 = .ok (.bipush 6, 2) := by decide +kernel
theorem dX6_worst_42 : decode cX6_worst 42 = .ok (.if_icmp .ge 44, 3) := by decide +kernel
theorem dX6_worst_45 : decode cX6_worst 45 = .ok (.aload_n 0, 1) := by decide +kernel
theorem dX6_worst_46 : decode cX6_worst 46 = .ok (.iload_n 2, 1) := by decide +kernel
theorem dX6_worst_47 : decode cX6_worst 47 = .ok (.aload_n 0, 1) := by decide +kernel
theorem dX6_worst_48 : decode cX6_worst 48 = .ok (.iconst 1, 1) := by decide +kernel
theorem dX6_worst_49 : decode cX6_worst 49 = .ok (.iload 4, 2) := by decide +kernel
theorem dX6_worst_51 : decode cX6_worst 51 = .ok (.invokevirtual 77, 3) := by decide +kernel
theorem dX6_worst_54 : decode cX6_worst 54 = .ok (.iand, 1) := by decide +kernel
theorem dX6_worst_55 : decode cX6_worst 55 = .ok (.invokevirtual 155, 3) := by decide +kernel
theorem dX6_worst_58 : decode cX6_worst 58 = .ok (.aload_n 0, 1) := by decide +kernel
theorem dX6_worst_59 : decode cX6_worst 59 = .ok (.iload_n 2, 1) := by decide +kernel
theorem dX6_worst_60 : decode cX6_worst 60 = .ok (.aload_n 0, 1) := by decide +kernel
theorem dX6_worst_61 : decode cX6_worst 61 = .ok (.iconst 1, 1) := by decide +kernel
theorem dX6_worst_62 : decode cX6_worst 62 = .ok (.iload_n 3, 1) := by decide +kernel
theorem dX6_worst_63 : decode cX6_worst 63 = .ok (.invokevirtual 77, 3) := by decide +kernel
theorem dX6_worst_66 : decode cX6_worst 66 = .ok (.iand, 1) := by decide +kernel
theorem dX6_worst_67 : decode cX6_worst 67 = .ok (.invokevirtual 155, 3) := by decide +kernel
theorem dX6_worst_70 : decode cX6_worst 70 = .ok (.if_icmp .le 8, 3) := by decide +kernel
theorem dX6_worst_73 : decode cX6_worst 73 = .ok (.iload 4, 2) := by decide +kernel
theorem dX6_worst_75 : decode cX6_worst 75 = .ok (.goto 4, 3) := by decide +kernel
theorem dX6_worst_78 : decode cX6_worst 78 = .ok (.iload_n 3, 1) := by decide +kernel
theorem dX6_worst_79 : decode cX6_worst 79 = .ok (.istore_n 3, 1) := by decide +kernel
theorem dX6_worst_80 : decode cX6_worst 80 = .ok (.iinc 4 1, 3) := by decide +kernel
theorem dX6_worst_83 : decode cX6_worst 83 = .ok (.goto (-45), 3) := by decide +kernel
theorem dX6_worst_86 : decode cX6_worst 86 = .ok (.aload_n 0, 1) := by decide +kernel
theorem dX6_worst_87 : decode cX6_worst 87 = .ok (.iload_n 3, 1) := by decide +kernel
theorem dX6_worst_88 : decode cX6_worst 88 = .ok (.invokevirtual 168, 3) := by decide +kernel
theorem dX6_worst_91 : decode cX6_worst 91 = .ok (.ireturn, 1) := by decide +kernel
theorem dX6_feed_0 : decode cX6_feed 0 = .ok (.iload_n 2, 1) := by decide +kernel
theorem dX6_feed_1 : decode cX6_feed 1 = .ok (.i2l, 1) := by decide +kernel
theorem dX6_feed_2 : decode cX6_feed 2 = .ok (.lconst 1, 1) := by decide +kernel
theorem dX6_feed_3 : decode cX6_feed 3 = .ok (.ldc2_w 181, 3) := by decide +kernel
theorem dX6_feed_6 : decode cX6_feed 6 = .ok (.invokestatic 48, 3) := by decide +kernel
theorem dX6_feed_9 : decode cX6_feed 9 = .ok (.ifCond .ne 10, 3) := by decide +kernel
theorem dX6_feed_12 : decode cX6_feed 12 = .ok (.aload_n 0, 1) := by decide +kernel
theorem dX6_feed_13 : decode cX6_feed 13 = .ok (.ldc 45, 2) := by decide +kernel
theorem dX6_feed_15 : decode cX6_feed 15 = .ok (.invokevirtual 64, 3) := by decide +kernel
theorem dX6_feed_18 : decode cX6_feed 18 = .ok (.ireturn, 1) := by decide +kernel
theorem dX6_feed_19 : decode cX6_feed 19 = .ok (.aload_n 0, 1) := by decide +kernel
theorem dX6_feed_20 : decode cX6_feed 20 = .ok (.getfield 183, 3) := by decide +kernel
theorem dX6_feed_23 : decode cX6_feed 23 = .ok (.iload_n 2, 1) := by decide +kernel
theorem dX6_feed_24 : decode cX6_feed 24 = .ok (.iadd, 1) := by decide +kernel
theorem dX6_feed_25 : decode cX6_feed 25 = .ok (.bipush 120, 2) := by decide +kernel
theorem dX6_feed_27 : decode cX6_feed 27 = .ok (.if_icmp .le 10, 3) := by decide +kernel
theorem dX6_feed_30 : decode cX6_feed 30 = .ok (.aload_n 0, 1) := by decide +kernel
theorem dX6_feed_31 : decode cX6_feed 31 = .ok (.ldc 83, 2) := by decide +kernel
theorem dX6_feed_33 : decode cX6_feed 33 = .ok (.invokevirtual 64, 3) := by decide +kernel
theorem dX6_feed_36 : decode cX6_feed 36 = .ok (.ireturn, 1) := by decide +kernel
theorem dX6_feed_37 : decode cX6_feed 37 = .ok (.iload_n 2, 1) := by decide +kernel
theorem dX6_feed_38 : decode cX6_feed 38 = .ok (.iconst 1, 1) := by decide +kernel
theorem dX6_feed_39 : decode cX6_feed 39 = .ok (.isub, 1) := by decide +kernel
theorem dX6_feed_40 : decode cX6_feed 40 = .ok (.istore_n 3, 1) := by decide +kernel
theorem dX6_feed_41 : decode cX6_feed 41 = .ok (.iload_n 3, 1) := by decide +kernel
theorem dX6_feed_42 : decode cX6_feed 42 = .ok (.ifCond .lt 38, 3) := by decide +kernel
theorem dX6_feed_45 : decode cX6_feed 45 = .ok (.aload_n 0, 1) := by decide +kernel
theorem dX6_feed_46 : decode cX6_feed 46 = .ok (.getfield 25, 3) := by decide +kernel
theorem dX6_feed_49 : decode cX6_feed 49 = .ok (.aload_n 0, 1) := by decide +kernel
theorem dX6_feed_50 : decode cX6_feed 50 = .ok (.getfield 183, 3) := by decide +kernel
theorem dX6_feed_53 : decode cX6_feed 53 = .ok (.iload_n 1, 1) := by decide +kernel
theorem dX6_feed_54 : decode cX6_feed 54 = .ok (.bipush 8, 2) := by decide +kernel
theorem dX6_feed_56 : decode cX6_feed 56 = .ok (.iload_n 3, 1) := by decide +kernel
theorem dX6_feed_57 : decode cX6_feed 57 = .ok (.imul, 1) := by decide +kernel
theorem dX6_feed_58 : decode cX6_feed 58 = .ok (.ishr, 1) := by decide +kernel
theorem dX6_feed_59 : decode cX6_feed 59 = .ok (.sipush 255, 3) := by decide +kernel
theorem dX6_feed_62 : decode cX6_feed 62 = .ok (.iand, 1) := by decide +kernel
theorem dX6_feed_63 : decode cX6_feed 63 = .ok (.iastore, 1) := by decide +kernel
theorem dX6_feed_64 : decode cX6_feed 64 = .ok (.aload_n 0, 1) := by decide +kernel
theorem dX6_feed_65 : decode cX6_feed 65 = .ok (.dup, 1) := by decide +kernel
theorem dX6_feed_66 : decode cX6_feed 66 = .ok (.getfield 183, 3) := by decide +kernel
theorem dX6_feed_69 : decode cX6_feed 69 = .ok (.iconst 1, 1) := by decide +kernel
theorem dX6_feed_70 : decode cX6_feed 70 = .ok (.iadd, 1) := by decide +kernel
theorem dX6_feed_71 : decode cX6_feed 71 = .ok (.putfield 183, 3) := by decide +kernel
theorem dX6_feed_74 : decode cX6_feed 74 = .ok (.iinc 3 (-1), 3) := by decide +kernel
theorem dX6_feed_77 : decode cX6_feed 77 = .ok (.goto (-36), 3) := by decide +kernel
theorem dX6_feed_80 : decode cX6_feed 80 = .ok (.aload_n 0, 1) := by decide +kernel
theorem dX6_feed_81 : decode cX6_feed 81 = .ok (.getfield 183, 3) := by decide +kernel
theorem dX6_feed_84 : decode cX6_feed 84 = .ok (.ireturn, 1) := by decide +kernel
theorem dX6_wipe_0 : decode cX6_wipe 0 = .ok (.aload_n 0, 1) := by decide +kernel
theorem dX6_wipe_1 : decode cX6_wipe 1 = .ok (.getfield 183, 3) := by decide +kernel
theorem dX6_wipe_4 : decode cX6_wipe 4 = .ok (.istore_n 1, 1) := by decide +kernel
theorem dX6_wipe_5 : decode cX6_wipe 5 = .ok (.aload_n 0, 1) := by decide +kernel
theorem dX6_wipe_6 : decode cX6_wipe 6 = .ok (.iconst 0, 1) := by decide +kernel
theorem dX6_wipe_7 : decode cX6_wipe 7 = .ok (.putfield 183, 3) := by decide +kernel
theorem dX6_wipe_10 : decode cX6_wipe 10 = .ok (.iload_n 1, 1) := by decide +kernel
theorem dX6_wipe_11 : decode cX6_wipe 11 = .ok (.ireturn, 1) := by decide +kernel
theorem dX6_byteAt_0 : decode cX6_byteAt 0 = .ok (.iload_n 1, 1) := by decide +kernel
theorem dX6_byteAt_1 : decode cX6_byteAt 1 = .ok (.aload_n 0, 1) := by decide +kernel
theorem dX6_byteAt_2 : decode cX6_byteAt 2 = .ok (.getfield 183, 3) := by decide +kernel
theorem dX6_byteAt_5 : decode cX6_byteAt 5 = .ok (.if_icmp .ge 12, 3) := by decide +kernel
theorem dX6_byteAt_8 : decode cX6_byteAt 8 = .ok (.aload_n 0, 1) := by decide +kernel
theorem dX6_byteAt_9 : decode cX6_byteAt 9 = .ok (.getfield 25, 3) := by decide +kernel
theorem dX6_byteAt_12 : decode cX6_byteAt 12 = .ok (.iload_n 1, 1) := by decide +kernel
theorem dX6_byteAt_13 : decode cX6_byteAt 13 = .ok (.iaload, 1) := by decide +kernel
theorem dX6_byteAt_14 : decode cX6_byteAt 14 = .ok (.goto 4, 3) := by decide +kernel
theorem dX6_byteAt_17 : decode cX6_byteAt 17 = .ok (.iconst (-1), 1) := by decide +kernel
theorem dX6_byteAt_18 : decode cX6_byteAt 18 = .ok (.ireturn, 1) := by decide +kernel
theorem dX6_isLetter_0 : decode cX6_isLetter 0 = .ok (.iload_n 0, 1) := by decide +kernel
theorem dX6_isLetter_1 : decode cX6_isLetter 1 = .ok (.i2l, 1) := by decide +kernel
theorem dX6_isLetter_2 : decode cX6_isLetter 2 = .ok (.ldc2_w 187, 3) := by decide +kernel
theorem dX6_isLetter_5 : decode cX6_isLetter 5 = .ok (.ldc2_w 189, 3) := by decide +kernel
theorem dX6_isLetter_8 : decode cX6_isLetter 8 = .ok (.invokestatic 48, 3) := by decide +kernel
theorem dX6_isLetter_11 : decode cX6_isLetter 11 = .ok (.ireturn, 1) := by decide +kernel
theorem dX6_isDigit_0 : decode cX6_isDigit 0 = .ok (.iload_n 0, 1) := by decide +kernel
theorem dX6_isDigit_1 : decode cX6_isDigit 1 = .ok (.i2l, 1) := by decide +kernel
theorem dX6_isDigit_2 : decode cX6_isDigit 2 = .ok (.ldc2_w 191, 3) := by decide +kernel
theorem dX6_isDigit_5 : decode cX6_isDigit 5 = .ok (.ldc2_w 193, 3) := by decide +kernel
theorem dX6_isDigit_8 : decode cX6_isDigit 8 = .ok (.invokestatic 48, 3) := by decide +kernel
theorem dX6_isDigit_11 : decode cX6_isDigit 11 = .ok (.ireturn, 1) := by decide +kernel
theorem dX6_token_0 : decode cX6_token 0 = .ok (.aload_n 0, 1) := by decide +kernel
theorem dX6_token_1 : decode cX6_token 1 = .ok (.aload_n 0, 1) := by decide +kernel
theorem dX6_token_2 : decode cX6_token 2 = .ok (.getfield 195, 3) := by decide +kernel
theorem dX6_token_5 : decode cX6_token 5 = .ok (.putfield 198, 3) := by decide +kernel
theorem dX6_token_8 : decode cX6_token 8 = .ok (.aload_n 0, 1) := by decide +kernel
theorem dX6_token_9 : decode cX6_token 9 = .ok (.aload_n 0, 1) := by decide +kernel
theorem dX6_token_10 : decode cX6_token 10 = .ok (.getfield 198, 3) := by decide +kernel
theorem dX6_token_13 : decode cX6_token 13 = .ok (.invokevirtual 201, 3) := by decide +kernel
theorem dX6_token_16 : decode cX6_token 16 = .ok (.bipush 32, 2) := by decide +kernel
theorem dX6_token_18 : decode cX6_token 18 = .ok (.if_icmp .ne 16, 3) := by decide +kernel
theorem dX6_token_21 : decode cX6_token 21 = .ok (.aload_n 0, 1) := by decide +kernel
theorem dX6_token_22 : decode cX6_token 22 = .ok (.dup, 1) := by decide +kernel
theorem dX6_token_23 : decode cX6_token 23 = .ok (.getfield 198, 3) := by decide +kernel
theorem dX6_token_26 : decode cX6_token 26 = .ok (.iconst 1, 1) := by decide +kernel
theorem dX6_token_27 : decode cX6_token 27 = .ok (.iadd, 1) := by decide +kernel
theorem dX6_token_28 : decode cX6_token 28 = .ok (.putfield 198, 3) := by decide +kernel
theorem dX6_token_31 : decode cX6_token 31 = .ok (.goto (-23), 3) := by decide +kernel
theorem dX6_token_34 : decode cX6_token 34 = .ok (.aload_n 0, 1) := by decide +kernel
theorem dX6_token_35 : decode cX6_token 35 = .ok (.aload_n 0, 1) := by decide +kernel
theorem dX6_token_36 : decode cX6_token 36 = .ok (.getfield 198, 3) := by decide +kernel
theorem dX6_token_39 : decode cX6_token 39 = .ok (.invokevirtual 201, 3) := by decide +kernel
theorem dX6_token_42 : decode cX6_token 42 = .ok (.invokestatic 204, 3) := by decide +kernel
theorem dX6_token_45 : decode cX6_token 45 = .ok (.istore_n 1, 1) := by decide +kernel
theorem dX6_token_46 : decode cX6_token 46 = .ok (.aload_n 0, 1) := by decide +kernel
theorem dX6_token_47 : decode cX6_token 47 = .ok (.aload_n 0, 1) := by decide +kernel
theorem dX6_token_48 : decode cX6_token 48 = .ok (.getfield 198, 3) := by decide +kernel
theorem dX6_token_51 : decode cX6_token 51 = .ok (.invokevirtual 201, 3) := by decide +kernel
theorem dX6_token_54 : decode cX6_token 54 = .ok (.invokestatic 207, 3) := by decide +kernel
theorem dX6_token_57 : decode cX6_token 57 = .ok (.istore_n 2, 1) := by decide +kernel
theorem dX6_token_58 : decode cX6_token 58 = .ok (.aload_n 0, 1) := by decide +kernel
theorem dX6_token_59 : decode cX6_token 59 = .ok (.aload_n 0, 1) := by decide +kernel
theorem dX6_token_60 : decode cX6_token 60 = .ok (.getfield 198, 3) := by decide +kernel
theorem dX6_token_63 : decode cX6_token 63 = .ok (.aload_n 0, 1) := by decide +kernel
theorem dX6_token_64 : decode cX6_token 64 = .ok (.getfield 183, 3) := by decide +kernel
theorem dX6_token_67 : decode cX6_token 67 = .ok (.if_icmp .ge 12, 3) := by decide +kernel
theorem dX6_token_70 : decode cX6_token 70 = .ok (.aload_n 0, 1) := by decide +kernel
theorem dX6_token_71 : decode cX6_token 71 = .ok (.getfield 198, 3) := by decide +kernel
theorem dX6_token_74 : decode cX6_token 74 = .ok (.iconst 1, 1) := by decide +kernel
theorem dX6_token_75 : decode cX6_token 75 = .ok (.iadd, 1) := by decide +kernel
theorem dX6_token_76 : decode cX6_token 76 = .ok (.goto 7, 3) := by decide +kernel
theorem dX6_token_79 : decode cX6_token 79 = .ok (.aload_n 0, 1) := by decide +kernel
theorem dX6_token_80 : decode cX6_token 80 = .ok (.getfield 198, 3) := by decide +kernel
theorem dX6_token_83 : decode cX6_token 83 = .ok (.putfield 195, 3) := by decide +kernel
theorem dX6_token_86 : decode cX6_token 86 = .ok (.iload_n 1, 1) := by decide +kernel
theorem dX6_token_87 : decode cX6_token 87 = .ok (.ifCond .eq 17, 3) := by decide +kernel
theorem dX6_token_90 : decode cX6_token 90 = .ok (.aload_n 0, 1) := by decide +kernel
theorem dX6_token_91 : decode cX6_token 91 = .ok (.aload_n 0, 1) := by decide +kernel
theorem dX6_token_92 : decode cX6_token 92 = .ok (.getfield 195, 3) := by decide +kernel
theorem dX6_token_95 : decode cX6_token 95 = .ok (.invokevirtual 201, 3) := by decide +kernel
theorem dX6_token_98 : decode cX6_token 98 = .ok (.invokestatic 204, 3) := by decide +kernel
theorem dX6_token_101 : decode cX6_token 101 = .ok (.ifCond .ne 21, 3) := by decide +kernel
theorem dX6_token_104 : decode cX6_token 104 = .ok (.iload_n 2, 1) := by decide +kernel
theorem dX6_token_105 : decode cX6_token 105 = .ok (.ifCond .eq 30, 3) := by decide +kernel
theorem dX6_token_108 : decode cX6_token 108 = .ok (.aload_n 0, 1) := by decide +kernel
theorem dX6_token_109 : decode cX6_token 109 = .ok (.aload_n 0, 1) := by decide +kernel
theorem dX6_token_110 : decode cX6_token 110 = .ok (.getfield 195, 3) := by decide +kernel
theorem dX6_token_113 : decode cX6_token 113 = .ok (.invokevirtual 201, 3) := by decide +kernel
theorem dX6_token_116 : decode cX6_token 116 = .ok (.invokestatic 207, 3) := by decide +kernel
theorem dX6_token_119 : decode cX6_token 119 = .ok (.ifCond .eq 16, 3) := by decide +kernel
theorem dX6_token_122 : decode cX6_token 122 = .ok (.aload_n 0, 1) := by decide +kernel
theorem dX6_token_123 : decode cX6_token 123 = .ok (.dup, 1) := by decide +kernel
theorem dX6_token_124 : decode cX6_token 124 = .ok (.getfield 195, 3) := by decide +kernel
theorem dX6_token_127 : decode cX6_token 127 = .ok (.iconst 1, 1) := by decide +kernel
theorem dX6_token_128 : decode cX6_token 128 = .ok (.iadd, 1) := by decide +kernel
theorem dX6_token_129 : decode cX6_token 129 = .ok (.putfield 195, 3) := by decide +kernel
theorem dX6_token_132 : decode cX6_token 132 = .ok (.goto (-46), 3) := by decide +kernel
theorem dX6_token_135 : decode cX6_token 135 = .ok (.return_, 1) := by decide +kernel
theorem dX6_must_0 : decode cX6_must 0 = .ok (.aload_n 0, 1) := by decide +kernel
theorem dX6_must_1 : decode cX6_must 1 = .ok (.aload_n 0, 1) := by decide +kernel
theorem dX6_must_2 : decode cX6_must 2 = .ok (.getfield 210, 3) := by decide +kernel
theorem dX6_must_5 : decode cX6_must 5 = .ok (.ifCond .ne 7, 3) := by decide +kernel
theorem dX6_must_8 : decode cX6_must 8 = .ok (.iload_n 1, 1) := by decide +kernel
theorem dX6_must_9 : decode cX6_must 9 = .ok (.ifCond .ne 7, 3) := by decide +kernel
theorem dX6_must_12 : decode cX6_must 12 = .ok (.iconst 1, 1) := by decide +kernel
theorem dX6_must_13 : decode cX6_must 13 = .ok (.goto 4, 3) := by decide +kernel
theorem dX6_must_16 : decode cX6_must 16 = .ok (.iconst 0, 1) := by decide +kernel
theorem dX6_must_17 : decode cX6_must 17 = .ok (.putfield 210, 3) := by decide +kernel
theorem dX6_must_20 : decode cX6_must 20 = .ok (.aload_n 0, 1) := by decide +kernel
theorem dX6_must_21 : decode cX6_must 21 = .ok (.getfield 210, 3) := by decide +kernel
theorem dX6_must_24 : decode cX6_must 24 = .ok (.ifCond .ne 7, 3) := by decide +kernel
theorem dX6_must_27 : decode cX6_must 27 = .ok (.aload_n 0, 1) := by decide +kernel
theorem dX6_must_28 : decode cX6_must 28 = .ok (.invokevirtual 214, 3) := by decide +kernel
theorem dX6_must_31 : decode cX6_must 31 = .ok (.return_, 1) := by decide +kernel
theorem dX6_word_0 : decode cX6_word 0 = .ok (.lconst 0, 1) := by decide +kernel
theorem dX6_word_1 : decode cX6_word 1 = .ok (.lstore_n 1, 1) := by decide +kernel
theorem dX6_word_2 : decode cX6_word 2 = .ok (.aload_n 0, 1) := by decide +kernel
theorem dX6_word_3 : decode cX6_word 3 = .ok (.getfield 198, 3) := by decide +kernel
theorem dX6_word_6 : decode cX6_word 6 = .ok (.istore_n 3, 1) := by decide +kernel
theorem dX6_word_7 : decode cX6_word 7 = .ok (.iload_n 3, 1) := by decide +kernel
theorem dX6_word_8 : decode cX6_word 8 = .ok (.aload_n 0, 1) := by decide +kernel
theorem dX6_word_9 : decode cX6_word 9 = .ok (.getfield 195, 3) := by decide +kernel
theorem dX6_word_12 : decode cX6_word 12 = .ok (.if_icmp .ge 38, 3) := by decide +kernel
theorem dX6_word_15 : decode cX6_word 15 = .ok (.lload_n 1, 1) := by decide +kernel
theorem dX6_word_16 : decode cX6_word 16 = .ok (.ldc2_w 217, 3) := by decide +kernel
theorem dX6_word_19 : decode cX6_word 19 = .ok (.lcmp, 1) := by decide +kernel
theorem dX6_word_20 : decode cX6_word 20 = .ok (.ifCond .le 7, 3) := by decide +kernel
theorem dX6_word_23 : decode cX6_word 23 = .ok (.lload_n 1, 1) := by decide +kernel
theorem dX6_word_24 : decode cX6_word 24 = .ok (.goto 19, 3) := by decide +kernel
theorem dX6_word_27 : decode cX6_word 27 = .ok (.ldc2_w 219, 3) := by decide +kernel
theorem dX6_word_30 : decode cX6_word 30 = .ok (.lload_n 1, 1) := by decide +kernel
theorem dX6_word_31 : decode cX6_word 31 = .ok (.lmul, 1) := by decide +kernel
theorem dX6_word_32 : decode cX6_word 32 = .ok (.aload_n 0, 1) := by decide +kernel
theorem dX6_word_33 : decode cX6_word 33 = .ok (.getfield 25, 3) := by decide +kernel
theorem dX6_word_36 : decode cX6_word 36 = .ok (.iload_n 3, 1) := by decide +kernel
theorem dX6_word_37 : decode cX6_word 37 = .ok (.iaload, 1) := by decide +kernel
theorem dX6_word_38 : decode cX6_word 38 = .ok (.bipush 96, 2) := by decide +kernel
theorem dX6_word_40 : decode cX6_word 40 = .ok (.isub, 1) := by decide +kernel
theorem dX6_word_41 : decode cX6_word 41 = .ok (.i2l, 1) := by decide +kernel
theorem dX6_word_42 : decode cX6_word 42 = .ok (.ladd, 1) := by decide +kernel
theorem dX6_word_43 : decode cX6_word 43 = .ok (.lstore_n 1, 1) := by decide +kernel
theorem dX6_word_44 : decode cX6_word 44 = .ok (.iinc 3 1, 3) := by decide +kernel
theorem dX6_word_47 : decode cX6_word 47 = .ok (.goto (-40), 3) := by decide +kernel
theorem dX6_word_50 : decode cX6_word 50 = .ok (.aload_n 0, 1) := by decide +kernel
theorem dX6_word_51 : decode cX6_word 51 = .ok (.getfield 210, 3) := by decide +kernel
theorem dX6_word_54 : decode cX6_word 54 = .ok (.ifCond .ne 17, 3) := by decide +kernel
theorem dX6_word_57 : decode cX6_word 57 = .ok (.aload_n 0, 1) := by decide +kernel
theorem dX6_word_58 : decode cX6_word 58 = .ok (.aload_n 0, 1) := by decide +kernel
theorem dX6_word_59 : decode cX6_word 59 = .ok (.getfield 198, 3) := by decide +kernel
theorem dX6_word_62 : decode cX6_word 62 = .ok (.invokevirtual 201, 3) := by decide +kernel
theorem dX6_word_65 : decode cX6_word 65 = .ok (.invokestatic 204, 3) := by decide +kernel
theorem dX6_word_68 : decode cX6_word 68 = .ok (.ifCond .ne 7, 3) := by decide +kernel
theorem dX6_word_71 : decode cX6_word 71 = .ok (.lconst 0, 1) := by decide +kernel
theorem dX6_word_72 : decode cX6_word 72 = .ok (.goto 4, 3) := by decide +kernel
theorem dX6_word_75 : decode cX6_word 75 = .ok (.lload_n 1, 1) := by decide +kernel
theorem dX6_word_76 : decode cX6_word 76 = .ok (.lreturn, 1) := by decide +kernel
theorem dX6_number_0 : decode cX6_number 0 = .ok (.aload_n 0, 1) := by decide +kernel
theorem dX6_number_1 : decode cX6_number 1 = .ok (.getfield 210, 3) := by decide +kernel
theorem dX6_number_4 : decode cX6_number 4 = .ok (.ifCond .eq 4, 3) := by decide +kernel
theorem dX6_number_7 : decode cX6_number 7 = .ok (.return_, 1) := by decide +kernel
theorem dX6_number_8 : decode cX6_number 8 = .ok (.aload_n 0, 1) := by decide +kernel
theorem dX6_number_9 : decode cX6_number 9 = .ok (.aload_n 0, 1) := by decide +kernel
theorem dX6_number_10 : decode cX6_number 10 = .ok (.getfield 198, 3) := by decide +kernel
theorem dX6_number_13 : decode cX6_number 13 = .ok (.invokevirtual 201, 3) := by decide +kernel
theorem dX6_number_16 : decode cX6_number 16 = .ok (.invokestatic 207, 3) := by decide +kernel
theorem dX6_number_19 : decode cX6_number 19 = .ok (.istore_n 3, 1) := by decide +kernel
theorem dX6_number_20 : decode cX6_number 20 = .ok (.iconst 0, 1) := by decide +kernel
theorem dX6_number_21 : decode cX6_number 21 = .ok (.istore 4, 2) := by decide +kernel
theorem dX6_number_23 : decode cX6_number 23 = .ok (.aload_n 0, 1) := by decide +kernel
theorem dX6_number_24 : decode cX6_number 24 = .ok (.getfield 198, 3) := by decide +kernel
theorem dX6_number_27 : decode cX6_number 27 = .ok (.istore 5, 2) := by decide +kernel
theorem dX6_number_29 : decode cX6_number 29 = .ok (.iload 5, 2) := by decide +kernel
theorem dX6_number_31 : decode cX6_number 31 = .ok (.aload_n 0, 1) := by decide +kernel
theorem dX6_number_32 : decode cX6_number 32 = .ok (.getfield 195, 3) := by decide +kernel
theorem dX6_number_35 : decode cX6_number 35 = .ok (.if_icmp .ge 44, 3) := by decide +kernel
theorem dX6_number_38 : decode cX6_number 38 = .ok (.iload_n 3, 1) := by decide +kernel
theorem dX6_number_39 : decode cX6_number 39 = .ok (.ifCond .eq 40, 3) := by decide +kernel
theorem dX6_number_42 : decode cX6_number 42 = .ok (.iload 4, 2) := by decide +kernel
theorem dX6_number_44 : decode cX6_number 44 = .ok (.sipush 9999, 3) := by decide +kernel
theorem dX6_number_47 : decode cX6_number 47 = .ok (.if_icmp .le 8, 3) := by decide +kernel
theorem dX6_number_50 : decode cX6_number 50 = .ok (.iload 4, 2) := by decide +kernel
theorem dX6_number_52 : decode cX6_number 52 = .ok (.goto 19, 3) := by decide +kernel
theorem dX6_number_55 : decode cX6_number 55 = .ok (.bipush 10, 2) := by decide +kernel
theorem dX6_number_57 : decode cX6_number 57 = .ok (.iload 4, 2) := by decide +kernel
theorem dX6_number_59 : decode cX6_number 59 = .ok (.imul, 1) := by decide +kernel
theorem dX6_number_60 : decode cX6_number 60 = .ok (.aload_n 0, 1) := by decide +kernel
theorem dX6_number_61 : decode cX6_number 61 = .ok (.getfield 25, 3) := by decide +kernel
theorem dX6_number_64 : decode cX6_number 64 = .ok (.iload 5, 2) := by decide +kernel
theorem dX6_number_66 : decode cX6_number 66 = .ok (.iaload, 1) := by decide +kernel
theorem dX6_number_67 : decode cX6_number 67 = .ok (.iadd, 1) := by decide +kernel
theorem dX6_number_68 : decode cX6_number 68 = .ok (.bipush 48, 2) := by decide +kernel
theorem dX6_number_70 : decode cX6_number 70 = .ok (.isub, 1) := by decide +kernel
theorem dX6_number_71 : decode cX6_number 71 = .ok (.istore 4, 2) := by decide +kernel
theorem dX6_number_73 : decode cX6_number 73 = .ok (.iinc 5 1, 3) := by decide +kernel
theorem dX6_number_76 : decode cX6_number 76 = .ok (.goto (-47), 3) := by decide +kernel
theorem dX6_number_79 : decode cX6_number 79 = .ok (.aload_n 0, 1) := by decide +kernel
theorem dX6_number_80 : decode cX6_number 80 = .ok (.iload 4, 2) := by decide +kernel
theorem dX6_number_82 : decode cX6_number 82 = .ok (.putfield 221, 3) := by decide +kernel
end
section
theorem dX6_number_85 : decode cX6_number 85 = .ok (.aload_n 0, 1) := by decide +kernel
theorem dX6_number_86 : decode cX6_number 86 = .ok (.iload_n 3, 1) := by decide +kernel
theorem dX6_number_87 : decode cX6_number 87 = .ok (.ifCond .eq 20, 3) := by decide +kernel
theorem dX6_number_90 : decode cX6_number 90 = .ok (.iload 4, 2) := by decide +kernel
theorem dX6_number_92 : decode cX6_number 92 = .ok (.i2l, 1) := by decide +kernel
theorem dX6_number_93 : decode cX6_number 93 = .ok (.iload_n 1, 1) := by decide +kernel
theorem dX6_number_94 : decode cX6_number 94 = .ok (.i2l, 1) := by decide +kernel
theorem dX6_number_95 : decode cX6_number 95 = .ok (.iload_n 2, 1) := by decide +kernel
theorem dX6_number_96 : decode cX6_number 96 = .ok (.i2l, 1) := by decide +kernel
theorem dX6_number_97 : decode cX6_number 97 = .ok (.invokestatic 48, 3) := by decide +kernel
theorem dX6_number_100 : decode cX6_number 100 = .ok (.ifCond .eq 7, 3) := by decide +kernel
theorem dX6_number_103 : decode cX6_number 103 = .ok (.iconst 1, 1) := by decide +kernel
theorem dX6_number_104 : decode cX6_number 104 = .ok (.goto 4, 3) := by decide +kernel
theorem dX6_number_107 : decode cX6_number 107 = .ok (.iconst 0, 1) := by decide +kernel
theorem dX6_number_108 : decode cX6_number 108 = .ok (.invokevirtual 224, 3) := by decide +kernel
theorem dX6_number_111 : decode cX6_number 111 = .ok (.return_, 1) := by decide +kernel
theorem dX6_kindHere_0 : decode cX6_kindHere 0 = .ok (.aload_n 0, 1) := by decide +kernel
theorem dX6_kindHere_1 : decode cX6_kindHere 1 = .ok (.invokevirtual 228, 3) := by decide +kernel
theorem dX6_kindHere_4 : decode cX6_kindHere 4 = .ok (.lstore_n 1, 1) := by decide +kernel
theorem dX6_kindHere_5 : decode cX6_kindHere 5 = .ok (.lload_n 1, 1) := by decide +kernel
theorem dX6_kindHere_6 : decode cX6_kindHere 6 = .ok (.ldc2_w 232, 3) := by decide +kernel
theorem dX6_kindHere_9 : decode cX6_kindHere 9 = .ok (.lcmp, 1) := by decide +kernel
theorem dX6_kindHere_10 : decode cX6_kindHere 10 = .ok (.ifCond .ne 7, 3) := by decide +kernel
theorem dX6_kindHere_13 : decode cX6_kindHere 13 = .ok (.iconst 0, 1) := by decide +kernel
theorem dX6_kindHere_14 : decode cX6_kindHere 14 = .ok (.goto 64, 3) := by decide +kernel
theorem dX6_kindHere_17 : decode cX6_kindHere 17 = .ok (.lload_n 1, 1) := by decide +kernel
theorem dX6_kindHere_18 : decode cX6_kindHere 18 = .ok (.ldc2_w 234, 3) := by decide +kernel
theorem dX6_kindHere_21 : decode cX6_kindHere 21 = .ok (.lcmp, 1) := by decide +kernel
theorem dX6_kindHere_22 : decode cX6_kindHere 22 = .ok (.ifCond .ne 7, 3) := by decide +kernel
theorem dX6_kindHere_25 : decode cX6_kindHere 25 = .ok (.iconst 1, 1) := by decide +kernel
theorem dX6_kindHere_26 : decode cX6_kindHere 26 = .ok (.goto 52, 3) := by decide +kernel
theorem dX6_kindHere_29 : decode cX6_kindHere 29 = .ok (.lload_n 1, 1) := by decide +kernel
theorem dX6_kindHere_30 : decode cX6_kindHere 30 = .ok (.ldc2_w 236, 3) := by decide +kernel
theorem dX6_kindHere_33 : decode cX6_kindHere 33 = .ok (.lcmp, 1) := by decide +kernel
theorem dX6_kindHere_34 : decode cX6_kindHere 34 = .ok (.ifCond .ne 7, 3) := by decide +kernel
theorem dX6_kindHere_37 : decode cX6_kindHere 37 = .ok (.iconst 2, 1) := by decide +kernel
theorem dX6_kindHere_38 : decode cX6_kindHere 38 = .ok (.goto 40, 3) := by decide +kernel
theorem dX6_kindHere_41 : decode cX6_kindHere 41 = .ok (.lload_n 1, 1) := by decide +kernel
theorem dX6_kindHere_42 : decode cX6_kindHere 42 = .ok (.ldc2_w 238, 3) := by decide +kernel
theorem dX6_kindHere_45 : decode cX6_kindHere 45 = .ok (.lcmp, 1) := by decide +kernel
theorem dX6_kindHere_46 : decode cX6_kindHere 46 = .ok (.ifCond .ne 7, 3) := by decide +kernel
theorem dX6_kindHere_49 : decode cX6_kindHere 49 = .ok (.iconst 3, 1) := by decide +kernel
theorem dX6_kindHere_50 : decode cX6_kindHere 50 = .ok (.goto 28, 3) := by decide +kernel
theorem dX6_kindHere_53 : decode cX6_kindHere 53 = .ok (.lload_n 1, 1) := by decide +kernel
theorem dX6_kindHere_54 : decode cX6_kindHere 54 = .ok (.ldc2_w 240, 3) := by decide +kernel
theorem dX6_kindHere_57 : decode cX6_kindHere 57 = .ok (.lcmp, 1) := by decide +kernel
theorem dX6_kindHere_58 : decode cX6_kindHere 58 = .ok (.ifCond .ne 7, 3) := by decide +kernel
theorem dX6_kindHere_61 : decode cX6_kindHere 61 = .ok (.iconst 4, 1) := by decide +kernel
theorem dX6_kindHere_62 : decode cX6_kindHere 62 = .ok (.goto 16, 3) := by decide +kernel
theorem dX6_kindHere_65 : decode cX6_kindHere 65 = .ok (.lload_n 1, 1) := by decide +kernel
theorem dX6_kindHere_66 : decode cX6_kindHere 66 = .ok (.ldc2_w 242, 3) := by decide +kernel
theorem dX6_kindHere_69 : decode cX6_kindHere 69 = .ok (.lcmp, 1) := by decide +kernel
theorem dX6_kindHere_70 : decode cX6_kindHere 70 = .ok (.ifCond .ne 7, 3) := by decide +kernel
theorem dX6_kindHere_73 : decode cX6_kindHere 73 = .ok (.iconst 5, 1) := by decide +kernel
theorem dX6_kindHere_74 : decode cX6_kindHere 74 = .ok (.goto 4, 3) := by decide +kernel
theorem dX6_kindHere_77 : decode cX6_kindHere 77 = .ok (.iconst (-1), 1) := by decide +kernel
theorem dX6_kindHere_78 : decode cX6_kindHere 78 = .ok (.ireturn, 1) := by decide +kernel
theorem dX6_partItem_0 : decode cX6_partItem 0 = .ok (.aload_n 0, 1) := by decide +kernel
theorem dX6_partItem_1 : decode cX6_partItem 1 = .ok (.invokevirtual 228, 3) := by decide +kernel
theorem dX6_partItem_4 : decode cX6_partItem 4 = .ok (.lload_n 1, 1) := by decide +kernel
theorem dX6_partItem_5 : decode cX6_partItem 5 = .ok (.lcmp, 1) := by decide +kernel
theorem dX6_partItem_6 : decode cX6_partItem 6 = .ok (.ifCond .ne 41, 3) := by decide +kernel
theorem dX6_partItem_9 : decode cX6_partItem 9 = .ok (.aload_n 0, 1) := by decide +kernel
theorem dX6_partItem_10 : decode cX6_partItem 10 = .ok (.iconst 1, 1) := by decide +kernel
theorem dX6_partItem_11 : decode cX6_partItem 11 = .ok (.invokevirtual 224, 3) := by decide +kernel
theorem dX6_partItem_14 : decode cX6_partItem 14 = .ok (.aload_n 0, 1) := by decide +kernel
theorem dX6_partItem_15 : decode cX6_partItem 15 = .ok (.iconst 0, 1) := by decide +kernel
theorem dX6_partItem_16 : decode cX6_partItem 16 = .ok (.iload 4, 2) := by decide +kernel
theorem dX6_partItem_18 : decode cX6_partItem 18 = .ok (.invokevirtual 244, 3) := by decide +kernel
theorem dX6_partItem_21 : decode cX6_partItem 21 = .ok (.aload_n 0, 1) := by decide +kernel
theorem dX6_partItem_22 : decode cX6_partItem 22 = .ok (.getfield 7, 3) := by decide +kernel
theorem dX6_partItem_25 : decode cX6_partItem 25 = .ok (.iload_n 3, 1) := by decide +kernel
theorem dX6_partItem_26 : decode cX6_partItem 26 = .ok (.aload_n 0, 1) := by decide +kernel
theorem dX6_partItem_27 : decode cX6_partItem 27 = .ok (.getfield 210, 3) := by decide +kernel
theorem dX6_partItem_30 : decode cX6_partItem 30 = .ok (.ifCond .eq 12, 3) := by decide +kernel
theorem dX6_partItem_33 : decode cX6_partItem 33 = .ok (.aload_n 0, 1) := by decide +kernel
theorem dX6_partItem_34 : decode cX6_partItem 34 = .ok (.getfield 7, 3) := by decide +kernel
theorem dX6_partItem_37 : decode cX6_partItem 37 = .ok (.iload_n 3, 1) := by decide +kernel
theorem dX6_partItem_38 : decode cX6_partItem 38 = .ok (.iaload, 1) := by decide +kernel
theorem dX6_partItem_39 : decode cX6_partItem 39 = .ok (.goto 7, 3) := by decide +kernel
theorem dX6_partItem_42 : decode cX6_partItem 42 = .ok (.aload_n 0, 1) := by decide +kernel
theorem dX6_partItem_43 : decode cX6_partItem 43 = .ok (.getfield 221, 3) := by decide +kernel
theorem dX6_partItem_46 : decode cX6_partItem 46 = .ok (.iastore, 1) := by decide +kernel
theorem dX6_partItem_47 : decode cX6_partItem 47 = .ok (.return_, 1) := by decide +kernel
theorem dX6_wordItem_0 : decode cX6_wordItem 0 = .ok (.aload_n 0, 1) := by decide +kernel
theorem dX6_wordItem_1 : decode cX6_wordItem 1 = .ok (.getfield 210, 3) := by decide +kernel
theorem dX6_wordItem_4 : decode cX6_wordItem 4 = .ok (.ifCond .ne 25, 3) := by decide +kernel
theorem dX6_wordItem_7 : decode cX6_wordItem 7 = .ok (.aload_n 0, 1) := by decide +kernel
theorem dX6_wordItem_8 : decode cX6_wordItem 8 = .ok (.invokevirtual 228, 3) := by decide +kernel
theorem dX6_wordItem_11 : decode cX6_wordItem 11 = .ok (.lload_n 1, 1) := by decide +kernel
theorem dX6_wordItem_12 : decode cX6_wordItem 12 = .ok (.lcmp, 1) := by decide +kernel
theorem dX6_wordItem_13 : decode cX6_wordItem 13 = .ok (.ifCond .ne 16, 3) := by decide +kernel
theorem dX6_wordItem_16 : decode cX6_wordItem 16 = .ok (.aload_n 0, 1) := by decide +kernel
theorem dX6_wordItem_17 : decode cX6_wordItem 17 = .ok (.iconst 1, 1) := by decide +kernel
theorem dX6_wordItem_18 : decode cX6_wordItem 18 = .ok (.invokevirtual 224, 3) := by decide +kernel
theorem dX6_wordItem_21 : decode cX6_wordItem 21 = .ok (.aload_n 0, 1) := by decide +kernel
theorem dX6_wordItem_22 : decode cX6_wordItem 22 = .ok (.getfield 7, 3) := by decide +kernel
theorem dX6_wordItem_25 : decode cX6_wordItem 25 = .ok (.iload_n 3, 1) := by decide +kernel
theorem dX6_wordItem_26 : decode cX6_wordItem 26 = .ok (.iload 4, 2) := by decide +kernel
theorem dX6_wordItem_28 : decode cX6_wordItem 28 = .ok (.iastore, 1) := by decide +kernel
theorem dX6_wordItem_29 : decode cX6_wordItem 29 = .ok (.return_, 1) := by decide +kernel
theorem dX6_holeItem_0 : decode cX6_holeItem 0 = .ok (.aload_n 0, 1) := by decide +kernel
theorem dX6_holeItem_1 : decode cX6_holeItem 1 = .ok (.aload_n 0, 1) := by decide +kernel
theorem dX6_holeItem_2 : decode cX6_holeItem 2 = .ok (.getfield 7, 3) := by decide +kernel
theorem dX6_holeItem_5 : decode cX6_holeItem 5 = .ok (.iconst 0, 1) := by decide +kernel
theorem dX6_holeItem_6 : decode cX6_holeItem 6 = .ok (.iaload, 1) := by decide +kernel
theorem dX6_holeItem_7 : decode cX6_holeItem 7 = .ok (.bipush 8, 2) := by decide +kernel
theorem dX6_holeItem_9 : decode cX6_holeItem 9 = .ok (.if_icmp .ge 7, 3) := by decide +kernel
theorem dX6_holeItem_12 : decode cX6_holeItem 12 = .ok (.iconst 1, 1) := by decide +kernel
theorem dX6_holeItem_13 : decode cX6_holeItem 13 = .ok (.goto 4, 3) := by decide +kernel
theorem dX6_holeItem_16 : decode cX6_holeItem 16 = .ok (.iconst 0, 1) := by decide +kernel
theorem dX6_holeItem_17 : decode cX6_holeItem 17 = .ok (.invokevirtual 224, 3) := by decide +kernel
theorem dX6_holeItem_20 : decode cX6_holeItem 20 = .ok (.aload_n 0, 1) := by decide +kernel
theorem dX6_holeItem_21 : decode cX6_holeItem 21 = .ok (.getfield 210, 3) := by decide +kernel
theorem dX6_holeItem_24 : decode cX6_holeItem 24 = .ok (.ifCond .eq 4, 3) := by decide +kernel
theorem dX6_holeItem_27 : decode cX6_holeItem 27 = .ok (.return_, 1) := by decide +kernel
theorem dX6_holeItem_28 : decode cX6_holeItem 28 = .ok (.aload_n 0, 1) := by decide +kernel
theorem dX6_holeItem_29 : decode cX6_holeItem 29 = .ok (.iload_n 1, 1) := by decide +kernel
theorem dX6_holeItem_30 : decode cX6_holeItem 30 = .ok (.iconst 0, 1) := by decide +kernel
theorem dX6_holeItem_31 : decode cX6_holeItem 31 = .ok (.invokevirtual 84, 3) := by decide +kernel
theorem dX6_holeItem_34 : decode cX6_holeItem 34 = .ok (.istore_n 2, 1) := by decide +kernel
theorem dX6_holeItem_35 : decode cX6_holeItem 35 = .ok (.aload_n 0, 1) := by decide +kernel
theorem dX6_holeItem_36 : decode cX6_holeItem 36 = .ok (.ldc2_w 248, 3) := by decide +kernel
theorem dX6_holeItem_39 : decode cX6_holeItem 39 = .ok (.iload_n 2, 1) := by decide +kernel
theorem dX6_holeItem_40 : decode cX6_holeItem 40 = .ok (.iconst 1, 1) := by decide +kernel
theorem dX6_holeItem_41 : decode cX6_holeItem 41 = .ok (.invokestatic 52, 3) := by decide +kernel
theorem dX6_holeItem_44 : decode cX6_holeItem 44 = .ok (.iconst 5, 1) := by decide +kernel
theorem dX6_holeItem_45 : decode cX6_holeItem 45 = .ok (.invokevirtual 250, 3) := by decide +kernel
theorem dX6_holeItem_48 : decode cX6_holeItem 48 = .ok (.aload_n 0, 1) := by decide +kernel
theorem dX6_holeItem_49 : decode cX6_holeItem 49 = .ok (.ldc2_w 254, 3) := by decide +kernel
theorem dX6_holeItem_52 : decode cX6_holeItem 52 = .ok (.iload_n 2, 1) := by decide +kernel
theorem dX6_holeItem_53 : decode cX6_holeItem 53 = .ok (.iconst 2, 1) := by decide +kernel
theorem dX6_holeItem_54 : decode cX6_holeItem 54 = .ok (.invokestatic 52, 3) := by decide +kernel
theorem dX6_holeItem_57 : decode cX6_holeItem 57 = .ok (.bipush 99, 2) := by decide +kernel
theorem dX6_holeItem_59 : decode cX6_holeItem 59 = .ok (.invokevirtual 250, 3) := by decide +kernel
theorem dX6_holeItem_62 : decode cX6_holeItem 62 = .ok (.aload_n 0, 1) := by decide +kernel
theorem dX6_holeItem_63 : decode cX6_holeItem 63 = .ok (.ldc2_w 256, 3) := by decide +kernel
theorem dX6_holeItem_66 : decode cX6_holeItem 66 = .ok (.iload_n 2, 1) := by decide +kernel
theorem dX6_holeItem_67 : decode cX6_holeItem 67 = .ok (.iconst 3, 1) := by decide +kernel
theorem dX6_holeItem_68 : decode cX6_holeItem 68 = .ok (.invokestatic 52, 3) := by decide +kernel
theorem dX6_holeItem_71 : decode cX6_holeItem 71 = .ok (.iconst 1, 1) := by decide +kernel
theorem dX6_holeItem_72 : decode cX6_holeItem 72 = .ok (.invokevirtual 258, 3) := by decide +kernel
theorem dX6_holeItem_75 : decode cX6_holeItem 75 = .ok (.aload_n 0, 1) := by decide +kernel
theorem dX6_holeItem_76 : decode cX6_holeItem 76 = .ok (.iload_n 2, 1) := by decide +kernel
theorem dX6_holeItem_77 : decode cX6_holeItem 77 = .ok (.iconst 3, 1) := by decide +kernel
theorem dX6_holeItem_78 : decode cX6_holeItem 78 = .ok (.invokevirtual 74, 3) := by decide +kernel
theorem dX6_holeItem_81 : decode cX6_holeItem 81 = .ok (.ifCond .ne 16, 3) := by decide +kernel
theorem dX6_holeItem_84 : decode cX6_holeItem 84 = .ok (.aload_n 0, 1) := by decide +kernel
theorem dX6_holeItem_85 : decode cX6_holeItem 85 = .ok (.ldc2_w 261, 3) := by decide +kernel
theorem dX6_holeItem_88 : decode cX6_holeItem 88 = .ok (.iload_n 2, 1) := by decide +kernel
theorem dX6_holeItem_89 : decode cX6_holeItem 89 = .ok (.iconst 3, 1) := by decide +kernel
theorem dX6_holeItem_90 : decode cX6_holeItem 90 = .ok (.invokestatic 52, 3) := by decide +kernel
theorem dX6_holeItem_93 : decode cX6_holeItem 93 = .ok (.iconst 2, 1) := by decide +kernel
theorem dX6_holeItem_94 : decode cX6_holeItem 94 = .ok (.invokevirtual 258, 3) := by decide +kernel
theorem dX6_holeItem_97 : decode cX6_holeItem 97 = .ok (.aload_n 0, 1) := by decide +kernel
theorem dX6_holeItem_98 : decode cX6_holeItem 98 = .ok (.ldc2_w 263, 3) := by decide +kernel
theorem dX6_holeItem_101 : decode cX6_holeItem 101 = .ok (.iload_n 2, 1) := by decide +kernel
theorem dX6_holeItem_102 : decode cX6_holeItem 102 = .ok (.iconst 5, 1) := by decide +kernel
theorem dX6_holeItem_103 : decode cX6_holeItem 103 = .ok (.invokestatic 52, 3) := by decide +kernel
theorem dX6_holeItem_106 : decode cX6_holeItem 106 = .ok (.iconst 1, 1) := by decide +kernel
theorem dX6_holeItem_107 : decode cX6_holeItem 107 = .ok (.invokevirtual 258, 3) := by decide +kernel
theorem dX6_holeItem_110 : decode cX6_holeItem 110 = .ok (.return_, 1) := by decide +kernel
theorem dX6_streetItem_0 : decode cX6_streetItem 0 = .ok (.aload_n 0, 1) := by decide +kernel
theorem dX6_streetItem_1 : decode cX6_streetItem 1 = .ok (.iconst 1, 1) := by decide +kernel
theorem dX6_streetItem_2 : decode cX6_streetItem 2 = .ok (.invokevirtual 224, 3) := by decide +kernel
theorem dX6_streetItem_5 : decode cX6_streetItem 5 = .ok (.aload_n 0, 1) := by decide +kernel
theorem dX6_streetItem_6 : decode cX6_streetItem 6 = .ok (.iconst 0, 1) := by decide +kernel
theorem dX6_streetItem_7 : decode cX6_streetItem 7 = .ok (.iconst 5, 1) := by decide +kernel
theorem dX6_streetItem_8 : decode cX6_streetItem 8 = .ok (.invokevirtual 244, 3) := by decide +kernel
theorem dX6_streetItem_11 : decode cX6_streetItem 11 = .ok (.aload_n 0, 1) := by decide +kernel
theorem dX6_streetItem_12 : decode cX6_streetItem 12 = .ok (.getfield 210, 3) := by decide +kernel
theorem dX6_streetItem_15 : decode cX6_streetItem 15 = .ok (.ifCond .eq 4, 3) := by decide +kernel
theorem dX6_streetItem_18 : decode cX6_streetItem 18 = .ok (.return_, 1) := by decide +kernel
theorem dX6_streetItem_19 : decode cX6_streetItem 19 = .ok (.aload_n 0, 1) := by decide +kernel
theorem dX6_streetItem_20 : decode cX6_streetItem 20 = .ok (.getfield 221, 3) := by decide +kernel
theorem dX6_streetItem_23 : decode cX6_streetItem 23 = .ok (.istore_n 1, 1) := by decide +kernel
theorem dX6_streetItem_24 : decode cX6_streetItem 24 = .ok (.aload_n 0, 1) := by decide +kernel
theorem dX6_streetItem_25 : decode cX6_streetItem 25 = .ok (.ldc2_w 265, 3) := by decide +kernel
theorem dX6_streetItem_28 : decode cX6_streetItem 28 = .ok (.iload_n 1, 1) := by decide +kernel
theorem dX6_streetItem_29 : decode cX6_streetItem 29 = .ok (.iconst 0, 1) := by decide +kernel
theorem dX6_streetItem_30 : decode cX6_streetItem 30 = .ok (.invokestatic 41, 3) := by decide +kernel
theorem dX6_streetItem_33 : decode cX6_streetItem 33 = .ok (.bipush 99, 2) := by decide +kernel
theorem dX6_streetItem_35 : decode cX6_streetItem 35 = .ok (.invokevirtual 250, 3) := by decide +kernel
theorem dX6_streetItem_38 : decode cX6_streetItem 38 = .ok (.aload_n 0, 1) := by decide +kernel
theorem dX6_streetItem_39 : decode cX6_streetItem 39 = .ok (.getfield 7, 3) := by decide +kernel
theorem dX6_streetItem_42 : decode cX6_streetItem 42 = .ok (.iload_n 1, 1) := by decide +kernel
theorem dX6_streetItem_43 : decode cX6_streetItem 43 = .ok (.iconst 1, 1) := by decide +kernel
theorem dX6_streetItem_44 : decode cX6_streetItem 44 = .ok (.invokestatic 41, 3) := by decide +kernel
theorem dX6_streetItem_47 : decode cX6_streetItem 47 = .ok (.iconst 0, 1) := by decide +kernel
theorem dX6_streetItem_48 : decode cX6_streetItem 48 = .ok (.iastore, 1) := by decide +kernel
theorem dX6_streetItem_49 : decode cX6_streetItem 49 = .ok (.aload_n 0, 1) := by decide +kernel
theorem dX6_streetItem_50 : decode cX6_streetItem 50 = .ok (.ldc2_w 267, 3) := by decide +kernel
theorem dX6_streetItem_53 : decode cX6_streetItem 53 = .ok (.iload_n 1, 1) := by decide +kernel
theorem dX6_streetItem_54 : decode cX6_streetItem 54 = .ok (.iconst 1, 1) := by decide +kernel
theorem dX6_streetItem_55 : decode cX6_streetItem 55 = .ok (.invokestatic 41, 3) := by decide +kernel
theorem dX6_streetItem_58 : decode cX6_streetItem 58 = .ok (.iconst 1, 1) := by decide +kernel
theorem dX6_streetItem_59 : decode cX6_streetItem 59 = .ok (.invokevirtual 258, 3) := by decide +kernel
theorem dX6_streetItem_62 : decode cX6_streetItem 62 = .ok (.return_, 1) := by decide +kernel
theorem dX6_item_0 : decode cX6_item 0 = .ok (.aload_n 0, 1) := by decide +kernel
theorem dX6_item_1 : decode cX6_item 1 = .ok (.invokevirtual 269, 3) := by decide +kernel
theorem dX6_item_4 : decode cX6_item 4 = .ok (.istore_n 1, 1) := by decide +kernel
theorem dX6_item_5 : decode cX6_item 5 = .ok (.aload_n 0, 1) := by decide +kernel
theorem dX6_item_6 : decode cX6_item 6 = .ok (.invokevirtual 228, 3) := by decide +kernel
theorem dX6_item_9 : decode cX6_item 9 = .ok (.lstore_n 2, 1) := by decide +kernel
theorem dX6_item_10 : decode cX6_item 10 = .ok (.lload_n 2, 1) := by decide +kernel
theorem dX6_item_11 : decode cX6_item 11 = .ok (.ldc2_w 272, 3) := by decide +kernel
theorem dX6_item_14 : decode cX6_item 14 = .ok (.lcmp, 1) := by decide +kernel
theorem dX6_item_15 : decode cX6_item 15 = .ok (.ifCond .ne 7, 3) := by decide +kernel
theorem dX6_item_18 : decode cX6_item 18 = .ok (.iconst 1, 1) := by decide +kernel
theorem dX6_item_19 : decode cX6_item 19 = .ok (.goto 4, 3) := by decide +kernel
theorem dX6_item_22 : decode cX6_item 22 = .ok (.iconst 0, 1) := by decide +kernel
theorem dX6_item_23 : decode cX6_item 23 = .ok (.istore 4, 2) := by decide +kernel
theorem dX6_item_25 : decode cX6_item 25 = .ok (.iload_n 1, 1) := by decide +kernel
theorem dX6_item_26 : decode cX6_item 26 = .ok (.ifCond .lt 11, 3) := by decide +kernel
theorem dX6_item_29 : decode cX6_item 29 = .ok (.aload_n 0, 1) := by decide +kernel
theorem dX6_item_30 : decode cX6_item 30 = .ok (.iload_n 1, 1) := by decide +kernel
theorem dX6_item_31 : decode cX6_item 31 = .ok (.invokevirtual 274, 3) := by decide +kernel
theorem dX6_item_34 : decode cX6_item 34 = .ok (.goto 98, 3) := by decide +kernel
theorem dX6_item_37 : decode cX6_item 37 = .ok (.lload_n 2, 1) := by decide +kernel
theorem dX6_item_38 : decode cX6_item 38 = .ok (.ldc2_w 277, 3) := by decide +kernel
theorem dX6_item_41 : decode cX6_item 41 = .ok (.lcmp, 1) := by decide +kernel
theorem dX6_item_42 : decode cX6_item 42 = .ok (.ifCond .ne 10, 3) := by decide +kernel
theorem dX6_item_45 : decode cX6_item 45 = .ok (.aload_n 0, 1) := by decide +kernel
theorem dX6_item_46 : decode cX6_item 46 = .ok (.invokevirtual 279, 3) := by decide +kernel
theorem dX6_item_49 : decode cX6_item 49 = .ok (.goto 83, 3) := by decide +kernel
theorem dX6_item_52 : decode cX6_item 52 = .ok (.aload_n 0, 1) := by decide +kernel
theorem dX6_item_53 : decode cX6_item 53 = .ok (.iload 4, 2) := by decide +kernel
theorem dX6_item_55 : decode cX6_item 55 = .ok (.ifCond .ne 11, 3) := by decide +kernel
theorem dX6_item_58 : decode cX6_item 58 = .ok (.lload_n 2, 1) := by decide +kernel
theorem dX6_item_59 : decode cX6_item 59 = .ok (.ldc2_w 282, 3) := by decide +kernel
theorem dX6_item_62 : decode cX6_item 62 = .ok (.lcmp, 1) := by decide +kernel
theorem dX6_item_63 : decode cX6_item 63 = .ok (.ifCond .ne 7, 3) := by decide +kernel
theorem dX6_item_66 : decode cX6_item 66 = .ok (.iconst 1, 1) := by decide +kernel
theorem dX6_item_67 : decode cX6_item 67 = .ok (.goto 4, 3) := by decide +kernel
theorem dX6_item_70 : decode cX6_item 70 = .ok (.iconst 0, 1) := by decide +kernel
theorem dX6_item_71 : decode cX6_item 71 = .ok (.invokevirtual 224, 3) := by decide +kernel
theorem dX6_item_74 : decode cX6_item 74 = .ok (.aload_n 0, 1) := by decide +kernel
theorem dX6_item_75 : decode cX6_item 75 = .ok (.iconst 0, 1) := by decide +kernel
theorem dX6_item_76 : decode cX6_item 76 = .ok (.iload 4, 2) := by decide +kernel
theorem dX6_item_78 : decode cX6_item 78 = .ok (.ifCond .eq 9, 3) := by decide +kernel
theorem dX6_item_81 : decode cX6_item 81 = .ok (.sipush 9999, 3) := by decide +kernel
theorem dX6_item_84 : decode cX6_item 84 = .ok (.goto 5, 3) := by decide +kernel
theorem dX6_item_87 : decode cX6_item 87 = .ok (.bipush 6, 2) := by decide +kernel
theorem dX6_item_89 : decode cX6_item 89 = .ok (.invokevirtual 244, 3) := by decide +kernel
theorem dX6_item_92 : decode cX6_item 92 = .ok (.iload 4, 2) := by decide +kernel
theorem dX6_item_94 : decode cX6_item 94 = .ok (.ifCond .eq 7, 3) := by decide +kernel
theorem dX6_item_97 : decode cX6_item 97 = .ok (.iconst 2, 1) := by decide +kernel
theorem dX6_item_98 : decode cX6_item 98 = .ok (.goto 4, 3) := by decide +kernel
theorem dX6_item_101 : decode cX6_item 101 = .ok (.iconst 4, 1) := by decide +kernel
theorem dX6_item_102 : decode cX6_item 102 = .ok (.istore 5, 2) := by decide +kernel
theorem dX6_item_104 : decode cX6_item 104 = .ok (.aload_n 0, 1) := by decide +kernel
theorem dX6_item_105 : decode cX6_item 105 = .ok (.getfield 7, 3) := by decide +kernel
theorem dX6_item_108 : decode cX6_item 108 = .ok (.iload 5, 2) := by decide +kernel
theorem dX6_item_110 : decode cX6_item 110 = .ok (.aload_n 0, 1) := by decide +kernel
theorem dX6_item_111 : decode cX6_item 111 = .ok (.getfield 210, 3) := by decide +kernel
theorem dX6_item_114 : decode cX6_item 114 = .ok (.ifCond .eq 13, 3) := by decide +kernel
theorem dX6_item_117 : decode cX6_item 117 = .ok (.aload_n 0, 1) := by decide +kernel
theorem dX6_item_118 : decode cX6_item 118 = .ok (.getfield 7, 3) := by decide +kernel
theorem dX6_item_121 : decode cX6_item 121 = .ok (.iload 5, 2) := by decide +kernel
theorem dX6_item_123 : decode cX6_item 123 = .ok (.iaload, 1) := by decide +kernel
theorem dX6_item_124 : decode cX6_item 124 = .ok (.goto 7, 3) := by decide +kernel
theorem dX6_item_127 : decode cX6_item 127 = .ok (.aload_n 0, 1) := by decide +kernel
theorem dX6_item_128 : decode cX6_item 128 = .ok (.getfield 221, 3) := by decide +kernel
theorem dX6_item_131 : decode cX6_item 131 = .ok (.iastore, 1) := by decide +kernel
theorem dX6_item_132 : decode cX6_item 132 = .ok (.return_, 1) := by decide +kernel
theorem dX6_text_0 : decode cX6_text 0 = .ok (.aload_n 0, 1) := by decide +kernel
theorem dX6_text_1 : decode cX6_text 1 = .ok (.invokevirtual 284, 3) := by decide +kernel
theorem dX6_text_4 : decode cX6_text 4 = .ok (.aload_n 0, 1) := by decide +kernel
theorem dX6_text_5 : decode cX6_text 5 = .ok (.iconst 0, 1) := by decide +kernel
theorem dX6_text_6 : decode cX6_text 6 = .ok (.putfield 210, 3) := by decide +kernel
theorem dX6_text_9 : decode cX6_text 9 = .ok (.aload_n 0, 1) := by decide +kernel
theorem dX6_text_10 : decode cX6_text 10 = .ok (.iconst 0, 1) := by decide +kernel
theorem dX6_text_11 : decode cX6_text 11 = .ok (.putfield 195, 3) := by decide +kernel
theorem dX6_text_14 : decode cX6_text 14 = .ok (.aload_n 0, 1) := by decide +kernel
theorem dX6_text_15 : decode cX6_text 15 = .ok (.invokevirtual 214, 3) := by decide +kernel
theorem dX6_text_18 : decode cX6_text 18 = .ok (.iconst 1, 1) := by decide +kernel
theorem dX6_text_19 : decode cX6_text 19 = .ok (.istore_n 1, 1) := by decide +kernel
theorem dX6_text_20 : decode cX6_text 20 = .ok (.aload_n 0, 1) := by decide +kernel
theorem dX6_text_21 : decode cX6_text 21 = .ok (.invokevirtual 287, 3) := by decide +kernel
theorem dX6_text_24 : decode cX6_text 24 = .ok (.aload_n 0, 1) := by decide +kernel
theorem dX6_text_25 : decode cX6_text 25 = .ok (.getfield 210, 3) := by decide +kernel
theorem dX6_text_28 : decode cX6_text 28 = .ok (.ifCond .ne 31, 3) := by decide +kernel
theorem dX6_text_31 : decode cX6_text 31 = .ok (.aload_n 0, 1) := by decide +kernel
theorem dX6_text_32 : decode cX6_text 32 = .ok (.aload_n 0, 1) := by decide +kernel
theorem dX6_text_33 : decode cX6_text 33 = .ok (.getfield 198, 3) := by decide +kernel
theorem dX6_text_36 : decode cX6_text 36 = .ok (.invokevirtual 201, 3) := by decide +kernel
theorem dX6_text_39 : decode cX6_text 39 = .ok (.bipush 59, 2) := by decide +kernel
theorem dX6_text_41 : decode cX6_text 41 = .ok (.if_icmp .ne 18, 3) := by decide +kernel
theorem dX6_text_44 : decode cX6_text 44 = .ok (.aload_n 0, 1) := by decide +kernel
theorem dX6_text_45 : decode cX6_text 45 = .ok (.iconst 1, 1) := by decide +kernel
theorem dX6_text_46 : decode cX6_text 46 = .ok (.invokevirtual 224, 3) := by decide +kernel
theorem dX6_text_49 : decode cX6_text 49 = .ok (.aload_n 0, 1) := by decide +kernel
theorem dX6_text_50 : decode cX6_text 50 = .ok (.invokevirtual 287, 3) := by decide +kernel
theorem dX6_text_53 : decode cX6_text 53 = .ok (.iinc 1 1, 3) := by decide +kernel
theorem dX6_text_56 : decode cX6_text 56 = .ok (.goto (-32), 3) := by decide +kernel
theorem dX6_text_59 : decode cX6_text 59 = .ok (.aload_n 0, 1) := by decide +kernel
theorem dX6_text_60 : decode cX6_text 60 = .ok (.aload_n 0, 1) := by decide +kernel
theorem dX6_text_61 : decode cX6_text 61 = .ok (.getfield 210, 3) := by decide +kernel
theorem dX6_text_64 : decode cX6_text 64 = .ok (.ifCond .ne 14, 3) := by decide +kernel
theorem dX6_text_67 : decode cX6_text 67 = .ok (.aload_n 0, 1) := by decide +kernel
theorem dX6_text_68 : decode cX6_text 68 = .ok (.getfield 198, 3) := by decide +kernel
theorem dX6_text_71 : decode cX6_text 71 = .ok (.aload_n 0, 1) := by decide +kernel
theorem dX6_text_72 : decode cX6_text 72 = .ok (.getfield 183, 3) := by decide +kernel
theorem dX6_text_75 : decode cX6_text 75 = .ok (.if_icmp .ge 7, 3) := by decide +kernel
theorem dX6_text_78 : decode cX6_text 78 = .ok (.iconst 1, 1) := by decide +kernel
theorem dX6_text_79 : decode cX6_text 79 = .ok (.goto 4, 3) := by decide +kernel
theorem dX6_text_82 : decode cX6_text 82 = .ok (.iconst 0, 1) := by decide +kernel
theorem dX6_text_83 : decode cX6_text 83 = .ok (.putfield 210, 3) := by decide +kernel
theorem dX6_text_86 : decode cX6_text 86 = .ok (.aload_n 0, 1) := by decide +kernel
theorem dX6_text_87 : decode cX6_text 87 = .ok (.getfield 210, 3) := by decide +kernel
theorem dX6_text_90 : decode cX6_text 90 = .ok (.ifCond .eq 7, 3) := by decide +kernel
theorem dX6_text_93 : decode cX6_text 93 = .ok (.aload_n 0, 1) := by decide +kernel
theorem dX6_text_94 : decode cX6_text 94 = .ok (.invokevirtual 290, 3) := by decide +kernel
theorem dX6_text_97 : decode cX6_text 97 = .ok (.aload_n 0, 1) := by decide +kernel
theorem dX6_text_98 : decode cX6_text 98 = .ok (.iconst 0, 1) := by decide +kernel
theorem dX6_text_99 : decode cX6_text 99 = .ok (.putfield 183, 3) := by decide +kernel
theorem dX6_text_102 : decode cX6_text 102 = .ok (.aload_n 0, 1) := by decide +kernel
theorem dX6_text_103 : decode cX6_text 103 = .ok (.getfield 210, 3) := by decide +kernel
theorem dX6_text_106 : decode cX6_text 106 = .ok (.ifCond .eq 12, 3) := by decide +kernel
theorem dX6_text_109 : decode cX6_text 109 = .ok (.iconst (-1), 1) := by decide +kernel
theorem dX6_text_110 : decode cX6_text 110 = .ok (.aload_n 0, 1) := by decide +kernel
theorem dX6_text_111 : decode cX6_text 111 = .ok (.getfield 198, 3) := by decide +kernel
theorem dX6_text_114 : decode cX6_text 114 = .ok (.isub, 1) := by decide +kernel
theorem dX6_text_115 : decode cX6_text 115 = .ok (.goto 4, 3) := by decide +kernel
theorem dX6_text_118 : decode cX6_text 118 = .ok (.iload_n 1, 1) := by decide +kernel
theorem dX6_text_119 : decode cX6_text 119 = .ok (.ireturn, 1) := by decide +kernel
theorem dX6_isOne_0 : decode cX6_isOne 0 = .ok (.iload_n 0, 1) := by decide +kernel
theorem dX6_isOne_1 : decode cX6_isOne 1 = .ok (.i2l, 1) := by decide +kernel
theorem dX6_isOne_2 : decode cX6_isOne 2 = .ok (.lconst 0, 1) := by decide +kernel
theorem dX6_isOne_3 : decode cX6_isOne 3 = .ok (.ldc2_w 55, 3) := by decide +kernel
theorem dX6_isOne_6 : decode cX6_isOne 6 = .ok (.invokestatic 48, 3) := by decide +kernel
theorem dX6_isOne_9 : decode cX6_isOne 9 = .ok (.ireturn, 1) := by decide +kernel
theorem dX6_sheet_0 : decode cX6_sheet 0 = .ok (.iload_n 1, 1) := by decide +kernel
theorem dX6_sheet_1 : decode cX6_sheet 1 = .ok (.invokestatic 293, 3) := by decide +kernel
theorem dX6_sheet_4 : decode cX6_sheet 4 = .ok (.ifCond .eq 25, 3) := by decide +kernel
theorem dX6_sheet_7 : decode cX6_sheet 7 = .ok (.iload_n 2, 1) := by decide +kernel
theorem dX6_sheet_8 : decode cX6_sheet 8 = .ok (.ifCond .eq 28, 3) := by decide +kernel
theorem dX6_sheet_11 : decode cX6_sheet 11 = .ok (.iload_n 2, 1) := by decide +kernel
theorem dX6_sheet_12 : decode cX6_sheet 12 = .ok (.bipush 8, 2) := by decide +kernel
theorem dX6_sheet_14 : decode cX6_sheet 14 = .ok (.if_icmp .eq 22, 3) := by decide +kernel
theorem dX6_sheet_17 : decode cX6_sheet 17 = .ok (.iload_n 2, 1) := by decide +kernel
theorem dX6_sheet_18 : decode cX6_sheet 18 = .ok (.bipush 16, 2) := by decide +kernel
theorem dX6_sheet_20 : decode cX6_sheet 20 = .ok (.if_icmp .eq 16, 3) := by decide +kernel
theorem dX6_sheet_23 : decode cX6_sheet 23 = .ok (.iload_n 2, 1) := by decide +kernel
theorem dX6_sheet_24 : decode cX6_sheet 24 = .ok (.bipush 64, 2) := by decide +kernel
theorem dX6_sheet_26 : decode cX6_sheet 26 = .ok (.if_icmp .eq 10, 3) := by decide +kernel
theorem dX6_sheet_29 : decode cX6_sheet 29 = .ok (.aload_n 0, 1) := by decide +kernel
theorem dX6_sheet_30 : decode cX6_sheet 30 = .ok (.ldc 45, 2) := by decide +kernel
theorem dX6_sheet_32 : decode cX6_sheet 32 = .ok (.invokevirtual 64, 3) := by decide +kernel
theorem dX6_sheet_35 : decode cX6_sheet 35 = .ok (.ireturn, 1) := by decide +kernel
theorem dX6_sheet_36 : decode cX6_sheet 36 = .ok (.iload_n 3, 1) := by decide +kernel
theorem dX6_sheet_37 : decode cX6_sheet 37 = .ok (.ifCond .ge 11, 3) := by decide +kernel
theorem dX6_sheet_40 : decode cX6_sheet 40 = .ok (.aload_n 0, 1) := by decide +kernel
theorem dX6_sheet_41 : decode cX6_sheet 41 = .ok (.ldc_w 296, 3) := by decide +kernel
theorem dX6_sheet_44 : decode cX6_sheet 44 = .ok (.invokevirtual 64, 3) := by decide +kernel
theorem dX6_sheet_47 : decode cX6_sheet 47 = .ok (.ireturn, 1) := by decide +kernel
theorem dX6_sheet_48 : decode cX6_sheet 48 = .ok (.iload_n 3, 1) := by decide +kernel
theorem dX6_sheet_49 : decode cX6_sheet 49 = .ok (.bipush 40, 2) := by decide +kernel
theorem dX6_sheet_51 : decode cX6_sheet 51 = .ok (.if_icmp .le 10, 3) := by decide +kernel
theorem dX6_sheet_54 : decode cX6_sheet 54 = .ok (.aload_n 0, 1) := by decide +kernel
theorem dX6_sheet_55 : decode cX6_sheet 55 = .ok (.ldc 45, 2) := by decide +kernel
theorem dX6_sheet_57 : decode cX6_sheet 57 = .ok (.invokevirtual 64, 3) := by decide +kernel
theorem dX6_sheet_60 : decode cX6_sheet 60 = .ok (.ireturn, 1) := by decide +kernel
theorem dX6_sheet_61 : decode cX6_sheet 61 = .ok (.aload_n 0, 1) := by decide +kernel
theorem dX6_sheet_62 : decode cX6_sheet 62 = .ok (.getfield 28, 3) := by decide +kernel
theorem dX6_sheet_65 : decode cX6_sheet 65 = .ok (.iload_n 1, 1) := by decide +kernel
theorem dX6_sheet_66 : decode cX6_sheet 66 = .ok (.iload_n 2, 1) := by decide +kernel
theorem dX6_sheet_67 : decode cX6_sheet 67 = .ok (.iastore, 1) := by decide +kernel
theorem dX6_sheet_68 : decode cX6_sheet 68 = .ok (.aload_n 0, 1) := by decide +kernel
theorem dX6_sheet_69 : decode cX6_sheet 69 = .ok (.getfield 31, 3) := by decide +kernel
theorem dX6_sheet_72 : decode cX6_sheet 72 = .ok (.iload_n 1, 1) := by decide +kernel
theorem dX6_sheet_73 : decode cX6_sheet 73 = .ok (.iload_n 2, 1) := by decide +kernel
theorem dX6_sheet_74 : decode cX6_sheet 74 = .ok (.ifCond .ne 7, 3) := by decide +kernel
theorem dX6_sheet_77 : decode cX6_sheet 77 = .ok (.iconst 0, 1) := by decide +kernel
theorem dX6_sheet_78 : decode cX6_sheet 78 = .ok (.goto 4, 3) := by decide +kernel
theorem dX6_sheet_81 : decode cX6_sheet 81 = .ok (.iload_n 3, 1) := by decide +kernel
theorem dX6_sheet_82 : decode cX6_sheet 82 = .ok (.iastore, 1) := by decide +kernel
theorem dX6_sheet_83 : decode cX6_sheet 83 = .ok (.iconst 0, 1) := by decide +kernel
theorem dX6_sheet_84 : decode cX6_sheet 84 = .ok (.istore 4, 2) := by decide +kernel
theorem dX6_sheet_86 : decode cX6_sheet 86 = .ok (.iload 4, 2) := by decide +kernel
theorem dX6_sheet_88 : decode cX6_sheet 88 = .ok (.bipush 40, 2) := by decide +kernel
theorem dX6_sheet_90 : decode cX6_sheet 90 = .ok (.if_icmp .ge 22, 3) := by decide +kernel
theorem dX6_sheet_93 : decode cX6_sheet 93 = .ok (.aload_n 0, 1) := by decide +kernel
theorem dX6_sheet_94 : decode cX6_sheet 94 = .ok (.getfield 34, 3) := by decide +kernel
theorem dX6_sheet_97 : decode cX6_sheet 97 = .ok (.bipush 40, 2) := by decide +kernel
theorem dX6_sheet_99 : decode cX6_sheet 99 = .ok (.iload_n 1, 1) := by decide +kernel
theorem dX6_sheet_100 : decode cX6_sheet 100 = .ok (.imul, 1) := by decide +kernel
theorem dX6_sheet_101 : decode cX6_sheet 101 = .ok (.iload 4, 2) := by decide +kernel
theorem dX6_sheet_103 : decode cX6_sheet 103 = .ok (.iadd, 1) := by decide +kernel
theorem dX6_sheet_104 : decode cX6_sheet 104 = .ok (.lconst 0, 1) := by decide +kernel
theorem dX6_sheet_105 : decode cX6_sheet 105 = .ok (.lastore, 1) := by decide +kernel
theorem dX6_sheet_106 : decode cX6_sheet 106 = .ok (.iinc 4 1, 3) := by decide +kernel
theorem dX6_sheet_109 : decode cX6_sheet 109 = .ok (.goto (-23), 3) := by decide +kernel
theorem dX6_sheet_112 : decode cX6_sheet 112 = .ok (.aload_n 0, 1) := by decide +kernel
theorem dX6_sheet_113 : decode cX6_sheet 113 = .ok (.getfield 31, 3) := by decide +kernel
theorem dX6_sheet_116 : decode cX6_sheet 116 = .ok (.iload_n 1, 1) := by decide +kernel
theorem dX6_sheet_117 : decode cX6_sheet 117 = .ok (.iaload, 1) := by decide +kernel
theorem dX6_sheet_118 : decode cX6_sheet 118 = .ok (.ireturn, 1) := by decide +kernel
theorem dX6_narrowed_0 : decode cX6_narrowed 0 = .ok (.iload_n 0, 1) := by decide +kernel
theorem dX6_narrowed_1 : decode cX6_narrowed 1 = .ok (.bipush 8, 2) := by decide +kernel
theorem dX6_narrowed_3 : decode cX6_narrowed 3 = .ok (.if_icmp .ne 10, 3) := by decide +kernel
theorem dX6_narrowed_6 : decode cX6_narrowed 6 = .ok (.lload_n 1, 1) := by decide +kernel
theorem dX6_narrowed_7 : decode cX6_narrowed 7 = .ok (.l2i, 1) := by decide +kernel
theorem dX6_narrowed_8 : decode cX6_narrowed 8 = .ok (.i2b, 1) := by decide +kernel
theorem dX6_narrowed_9 : decode cX6_narrowed 9 = .ok (.i2l, 1) := by decide +kernel
theorem dX6_narrowed_10 : decode cX6_narrowed 10 = .ok (.goto 17, 3) := by decide +kernel
theorem dX6_narrowed_13 : decode cX6_narrowed 13 = .ok (.iload_n 0, 1) := by decide +kernel
theorem dX6_narrowed_14 : decode cX6_narrowed 14 = .ok (.bipush 16, 2) := by decide +kernel
theorem dX6_narrowed_16 : decode cX6_narrowed 16 = .ok (.if_icmp .ne 10, 3) := by decide +kernel
theorem dX6_narrowed_19 : decode cX6_narrowed 19 = .ok (.lload_n 1, 1) := by decide +kernel
theorem dX6_narrowed_20 : decode cX6_narrowed 20 = .ok (.l2i, 1) := by decide +kernel
theorem dX6_narrowed_21 : decode cX6_narrowed 21 = .ok (.i2s, 1) := by decide +kernel
theorem dX6_narrowed_22 : decode cX6_narrowed 22 = .ok (.i2l, 1) := by decide +kernel
theorem dX6_narrowed_23 : decode cX6_narrowed 23 = .ok (.goto 4, 3) := by decide +kernel
theorem dX6_narrowed_26 : decode cX6_narrowed 26 = .ok (.lload_n 1, 1) := by decide +kernel
theorem dX6_narrowed_27 : decode cX6_narrowed 27 = .ok (.lreturn, 1) := by decide +kernel
theorem dX6_wrongSheet_0 : decode cX6_wrongSheet 0 = .ok (.iload_n 1, 1) := by decide +kernel
theorem dX6_wrongSheet_1 : decode cX6_wrongSheet 1 = .ok (.invokestatic 293, 3) := by decide +kernel
theorem dX6_wrongSheet_4 : decode cX6_wrongSheet 4 = .ok (.ifCond .ne 8, 3) := by decide +kernel
theorem dX6_wrongSheet_7 : decode cX6_wrongSheet 7 = .ok (.ldc 45, 2) := by decide +kernel
theorem dX6_wrongSheet_9 : decode cX6_wrongSheet 9 = .ok (.goto 19, 3) := by decide +kernel
theorem dX6_wrongSheet_12 : decode cX6_wrongSheet 12 = .ok (.aload_n 0, 1) := by decide +kernel
theorem dX6_wrongSheet_13 : decode cX6_wrongSheet 13 = .ok (.getfield 28, 3) := by decide +kernel
theorem dX6_wrongSheet_16 : decode cX6_wrongSheet 16 = .ok (.iload_n 1, 1) := by decide +kernel
theorem dX6_wrongSheet_17 : decode cX6_wrongSheet 17 = .ok (.iaload, 1) := by decide +kernel
theorem dX6_wrongSheet_18 : decode cX6_wrongSheet 18 = .ok (.ifCond .ne 9, 3) := by decide +kernel
theorem dX6_wrongSheet_21 : decode cX6_wrongSheet 21 = .ok (.ldc_w 297, 3) := by decide +kernel
theorem dX6_wrongSheet_24 : decode cX6_wrongSheet 24 = .ok (.goto 4, 3) := by decide +kernel
theorem dX6_wrongSheet_27 : decode cX6_wrongSheet 27 = .ok (.iconst 0, 1) := by decide +kernel
theorem dX6_wrongSheet_28 : decode cX6_wrongSheet 28 = .ok (.ireturn, 1) := by decide +kernel
theorem dX6_write_0 : decode cX6_write 0 = .ok (.aload_n 0, 1) := by decide +kernel
theorem dX6_write_1 : decode cX6_write 1 = .ok (.iload_n 1, 1) := by decide +kernel
theorem dX6_write_2 : decode cX6_write 2 = .ok (.invokevirtual 298, 3) := by decide +kernel
theorem dX6_write_5 : decode cX6_write 5 = .ok (.istore 5, 2) := by decide +kernel
theorem dX6_write_7 : decode cX6_write 7 = .ok (.iload 5, 2) := by decide +kernel
theorem dX6_write_9 : decode cX6_write 9 = .ok (.ifCond .eq 11, 3) := by decide +kernel
theorem dX6_write_12 : decode cX6_write 12 = .ok (.aload_n 0, 1) := by decide +kernel
theorem dX6_write_13 : decode cX6_write 13 = .ok (.iload 5, 2) := by decide +kernel
theorem dX6_write_15 : decode cX6_write 15 = .ok (.invokevirtual 64, 3) := by decide +kernel
theorem dX6_write_18 : decode cX6_write 18 = .ok (.i2l, 1) := by decide +kernel
theorem dX6_write_19 : decode cX6_write 19 = .ok (.lreturn, 1) := by decide +kernel
theorem dX6_write_20 : decode cX6_write 20 = .ok (.iload_n 2, 1) := by decide +kernel
theorem dX6_write_21 : decode cX6_write 21 = .ok (.i2l, 1) := by decide +kernel
theorem dX6_write_22 : decode cX6_write 22 = .ok (.lconst 0, 1) := by decide +kernel
theorem dX6_write_23 : decode cX6_write 23 = .ok (.aload_n 0, 1) := by decide +kernel
theorem dX6_write_24 : decode cX6_write 24 = .ok (.getfield 31, 3) := by decide +kernel
theorem dX6_write_27 : decode cX6_write 27 = .ok (.iload_n 1, 1) := by decide +kernel
theorem dX6_write_28 : decode cX6_write 28 = .ok (.iaload, 1) := by decide +kernel
theorem dX6_write_29 : decode cX6_write 29 = .ok (.iconst 1, 1) := by decide +kernel
theorem dX6_write_30 : decode cX6_write 30 = .ok (.isub, 1) := by decide +kernel
theorem dX6_write_31 : decode cX6_write 31 = .ok (.i2l, 1) := by decide +kernel
theorem dX6_write_32 : decode cX6_write 32 = .ok (.invokestatic 48, 3) := by decide +kernel
theorem dX6_write_35 : decode cX6_write 35 = .ok (.ifCond .ne 11, 3) := by decide +kernel
theorem dX6_write_38 : decode cX6_write 38 = .ok (.aload_n 0, 1) := by decide +kernel
theorem dX6_write_39 : decode cX6_write 39 = .ok (.ldc 45, 2) := by decide +kernel
theorem dX6_write_41 : decode cX6_write 41 = .ok (.invokevirtual 64, 3) := by decide +kernel
theorem dX6_write_44 : decode cX6_write 44 = .ok (.i2l, 1) := by decide +kernel
theorem dX6_write_45 : decode cX6_write 45 = .ok (.lreturn, 1) := by decide +kernel
theorem dX6_write_46 : decode cX6_write 46 = .ok (.aload_n 0, 1) := by decide +kernel
theorem dX6_write_47 : decode cX6_write 47 = .ok (.getfield 34, 3) := by decide +kernel
theorem dX6_write_50 : decode cX6_write 50 = .ok (.bipush 40, 2) := by decide +kernel
theorem dX6_write_52 : decode cX6_write 52 = .ok (.iload_n 1, 1) := by decide +kernel
theorem dX6_write_53 : decode cX6_write 53 = .ok (.imul, 1) := by decide +kernel
theorem dX6_write_54 : decode cX6_write 54 = .ok (.iload_n 2, 1) := by decide +kernel
theorem dX6_write_55 : decode cX6_write 55 = .ok (.iadd, 1) := by decide +kernel
theorem dX6_write_56 : decode cX6_write 56 = .ok (.laload, 1) := by decide +kernel
theorem dX6_write_57 : decode cX6_write 57 = .ok (.lstore 6, 2) := by decide +kernel
theorem dX6_write_59 : decode cX6_write 59 = .ok (.aload_n 0, 1) := by decide +kernel
theorem dX6_write_60 : decode cX6_write 60 = .ok (.getfield 34, 3) := by decide +kernel
theorem dX6_write_63 : decode cX6_write 63 = .ok (.bipush 40, 2) := by decide +kernel
theorem dX6_write_65 : decode cX6_write 65 = .ok (.iload_n 1, 1) := by decide +kernel
theorem dX6_write_66 : decode cX6_write 66 = .ok (.imul, 1) := by decide +kernel
theorem dX6_write_67 : decode cX6_write 67 = .ok (.iload_n 2, 1) := by decide +kernel
theorem dX6_write_68 : decode cX6_write 68 = .ok (.iadd, 1) := by decide +kernel
theorem dX6_write_69 : decode cX6_write 69 = .ok (.aload_n 0, 1) := by decide +kernel
theorem dX6_write_70 : decode cX6_write 70 = .ok (.getfield 28, 3) := by decide +kernel
theorem dX6_write_73 : decode cX6_write 73 = .ok (.iload_n 1, 1) := by decide +kernel
theorem dX6_write_74 : decode cX6_write 74 = .ok (.iaload, 1) := by decide +kernel
theorem dX6_write_75 : decode cX6_write 75 = .ok (.lload_n 3, 1) := by decide +kernel
theorem dX6_write_76 : decode cX6_write 76 = .ok (.invokestatic 301, 3) := by decide +kernel
theorem dX6_write_79 : decode cX6_write 79 = .ok (.lastore, 1) := by decide +kernel
theorem dX6_write_80 : decode cX6_write 80 = .ok (.lload 6, 2) := by decide +kernel
theorem dX6_write_82 : decode cX6_write 82 = .ok (.lreturn, 1) := by decide +kernel
theorem dX6_copy_0 : decode cX6_copy 0 = .ok (.iload_n 1, 1) := by decide +kernel
theorem dX6_copy_1 : decode cX6_copy 1 = .ok (.invokestatic 293, 3) := by decide +kernel
theorem dX6_copy_4 : decode cX6_copy 4 = .ok (.ifCond .eq 10, 3) := by decide +kernel
theorem dX6_copy_7 : decode cX6_copy 7 = .ok (.iload_n 3, 1) := by decide +kernel
theorem dX6_copy_8 : decode cX6_copy 8 = .ok (.invokestatic 293, 3) := by decide +kernel
theorem dX6_copy_11 : decode cX6_copy 11 = .ok (.ifCond .ne 10, 3) := by decide +kernel
theorem dX6_copy_14 : decode cX6_copy 14 = .ok (.aload_n 0, 1) := by decide +kernel
theorem dX6_copy_15 : decode cX6_copy 15 = .ok (.ldc 45, 2) := by decide +kernel
theorem dX6_copy_17 : decode cX6_copy 17 = .ok (.invokevirtual 64, 3) := by decide +kernel
theorem dX6_copy_20 : decode cX6_copy 20 = .ok (.ireturn, 1) := by decide +kernel
theorem dX6_copy_21 : decode cX6_copy 21 = .ok (.aload_n 0, 1) := by decide +kernel
theorem dX6_copy_22 : decode cX6_copy 22 = .ok (.getfield 28, 3) := by decide +kernel
theorem dX6_copy_25 : decode cX6_copy 25 = .ok (.iload_n 1, 1) := by decide +kernel
theorem dX6_copy_26 : decode cX6_copy 26 = .ok (.iaload, 1) := by decide +kernel
theorem dX6_copy_27 : decode cX6_copy 27 = .ok (.ifCond .eq 12, 3) := by decide +kernel
theorem dX6_copy_30 : decode cX6_copy 30 = .ok (.aload_n 0, 1) := by decide +kernel
theorem dX6_copy_31 : decode cX6_copy 31 = .ok (.getfield 28, 3) := by decide +kernel
theorem dX6_copy_34 : decode cX6_copy 34 = .ok (.iload_n 3, 1) := by decide +kernel
theorem dX6_copy_35 : decode cX6_copy 35 = .ok (.iaload, 1) := by decide +kernel
theorem dX6_copy_36 : decode cX6_copy 36 = .ok (.ifCond .ne 11, 3) := by decide +kernel
theorem dX6_copy_39 : decode cX6_copy 39 = .ok (.aload_n 0, 1) := by decide +kernel
theorem dX6_copy_40 : decode cX6_copy 40 = .ok (.ldc_w 297, 3) := by decide +kernel
theorem dX6_copy_43 : decode cX6_copy 43 = .ok (.invokevirtual 64, 3) := by decide +kernel
theorem dX6_copy_46 : decode cX6_copy 46 = .ok (.ireturn, 1) := by decide +kernel
theorem dX6_copy_47 : decode cX6_copy 47 = .ok (.aload_n 0, 1) := by decide +kernel
theorem dX6_copy_48 : decode cX6_copy 48 = .ok (.getfield 28, 3) := by decide +kernel
theorem dX6_copy_51 : decode cX6_copy 51 = .ok (.iload_n 1, 1) := by decide +kernel
theorem dX6_copy_52 : decode cX6_copy 52 = .ok (.iaload, 1) := by decide +kernel
theorem dX6_copy_53 : decode cX6_copy 53 = .ok (.aload_n 0, 1) := by decide +kernel
theorem dX6_copy_54 : decode cX6_copy 54 = .ok (.getfield 28, 3) := by decide +kernel
theorem dX6_copy_57 : decode cX6_copy 57 = .ok (.iload_n 3, 1) := by decide +kernel
theorem dX6_copy_58 : decode cX6_copy 58 = .ok (.iaload, 1) := by decide +kernel
theorem dX6_copy_59 : decode cX6_copy 59 = .ok (.if_icmp .eq 10, 3) := by decide +kernel
theorem dX6_copy_62 : decode cX6_copy 62 = .ok (.aload_n 0, 1) := by decide +kernel
theorem dX6_copy_63 : decode cX6_copy 63 = .ok (.ldc 121, 2) := by decide +kernel
theorem dX6_copy_65 : decode cX6_copy 65 = .ok (.invokevirtual 64, 3) := by decide +kernel
theorem dX6_copy_68 : decode cX6_copy 68 = .ok (.ireturn, 1) := by decide +kernel
theorem dX6_copy_69 : decode cX6_copy 69 = .ok (.iload_n 2, 1) := by decide +kernel
theorem dX6_copy_70 : decode cX6_copy 70 = .ok (.ifCond .lt 40, 3) := by decide +kernel
theorem dX6_copy_73 : decode cX6_copy 73 = .ok (.iload 4, 2) := by decide +kernel
theorem dX6_copy_75 : decode cX6_copy 75 = .ok (.ifCond .lt 35, 3) := by decide +kernel
theorem dX6_copy_78 : decode cX6_copy 78 = .ok (.iload 5, 2) := by decide +kernel
theorem dX6_copy_80 : decode cX6_copy 80 = .ok (.ifCond .lt 30, 3) := by decide +kernel
theorem dX6_copy_83 : decode cX6_copy 83 = .ok (.iload 5, 2) := by decide +kernel
theorem dX6_copy_85 : decode cX6_copy 85 = .ok (.aload_n 0, 1) := by decide +kernel
theorem dX6_copy_86 : decode cX6_copy 86 = .ok (.getfield 31, 3) := by decide +kernel
theorem dX6_copy_89 : decode cX6_copy 89 = .ok (.iload_n 1, 1) := by decide +kernel
theorem dX6_copy_90 : decode cX6_copy 90 = .ok (.iaload, 1) := by decide +kernel
theorem dX6_copy_91 : decode cX6_copy 91 = .ok (.iload_n 2, 1) := by decide +kernel
theorem dX6_copy_92 : decode cX6_copy 92 = .ok (.isub, 1) := by decide +kernel
theorem dX6_copy_93 : decode cX6_copy 93 = .ok (.if_icmp .gt 17, 3) := by decide +kernel
theorem dX6_copy_96 : decode cX6_copy 96 = .ok (.iload 5, 2) := by decide +kernel
theorem dX6_copy_98 : decode cX6_copy 98 = .ok (.aload_n 0, 1) := by decide +kernel
theorem dX6_copy_99 : decode cX6_copy 99 = .ok (.getfield 31, 3) := by decide +kernel
theorem dX6_copy_102 : decode cX6_copy 102 = .ok (.iload_n 3, 1) := by decide +kernel
theorem dX6_copy_103 : decode cX6_copy 103 = .ok (.iaload, 1) := by decide +kernel
theorem dX6_copy_104 : decode cX6_copy 104 = .ok (.iload 4, 2) := by decide +kernel
theorem dX6_copy_106 : decode cX6_copy 106 = .ok (.isub, 1) := by decide +kernel
theorem dX6_copy_107 : decode cX6_copy 107 = .ok (.if_icmp .le 10, 3) := by decide +kernel
theorem dX6_copy_110 : decode cX6_copy 110 = .ok (.aload_n 0, 1) := by decide +kernel
theorem dX6_copy_111 : decode cX6_copy 111 = .ok (.ldc 45, 2) := by decide +kernel
theorem dX6_copy_113 : decode cX6_copy 113 = .ok (.invokevirtual 64, 3) := by decide +kernel
theorem dX6_copy_116 : decode cX6_copy 116 = .ok (.ireturn, 1) := by decide +kernel
theorem dX6_copy_117 : decode cX6_copy 117 = .ok (.iconst 0, 1) := by decide +kernel
theorem dX6_copy_118 : decode cX6_copy 118 = .ok (.istore 6, 2) := by decide +kernel
theorem dX6_copy_120 : decode cX6_copy 120 = .ok (.iload 6, 2) := by decide +kernel
theorem dX6_copy_122 : decode cX6_copy 122 = .ok (.iload 5, 2) := by decide +kernel
theorem dX6_copy_124 : decode cX6_copy 124 = .ok (.if_icmp .ge 30, 3) := by decide +kernel
theorem dX6_copy_127 : decode cX6_copy 127 = .ok (.aload_n 0, 1) := by decide +kernel
theorem dX6_copy_128 : decode cX6_copy 128 = .ok (.getfield 38, 3) := by decide +kernel
theorem dX6_copy_131 : decode cX6_copy 131 = .ok (.iload 6, 2) := by decide +kernel
theorem dX6_copy_133 : decode cX6_copy 133 = .ok (.aload_n 0, 1) := by decide +kernel
theorem dX6_copy_134 : decode cX6_copy 134 = .ok (.getfield 34, 3) := by decide +kernel
theorem dX6_copy_137 : decode cX6_copy 137 = .ok (.bipush 40, 2) := by decide +kernel
theorem dX6_copy_139 : decode cX6_copy 139 = .ok (.iload_n 1, 1) := by decide +kernel
theorem dX6_copy_140 : decode cX6_copy 140 = .ok (.imul, 1) := by decide +kernel
theorem dX6_copy_141 : decode cX6_copy 141 = .ok (.iload_n 2, 1) := by decide +kernel
theorem dX6_copy_142 : decode cX6_copy 142 = .ok (.iadd, 1) := by decide +kernel
theorem dX6_copy_143 : decode cX6_copy 143 = .ok (.iload 6, 2) := by decide +kernel
theorem dX6_copy_145 : decode cX6_copy 145 = .ok (.iadd, 1) := by decide +kernel
theorem dX6_copy_146 : decode cX6_copy 146 = .ok (.laload, 1) := by decide +kernel
theorem dX6_copy_147 : decode cX6_copy 147 = .ok (.lastore, 1) := by decide +kernel
theorem dX6_copy_148 : decode cX6_copy 148 = .ok (.iinc 6 1, 3) := by decide +kernel
theorem dX6_copy_151 : decode cX6_copy 151 = .ok (.goto (-31), 3) := by decide +kernel
theorem dX6_copy_154 : decode cX6_copy 154 = .ok (.iconst 0, 1) := by decide +kernel
theorem dX6_copy_155 : decode cX6_copy 155 = .ok (.istore 6, 2) := by decide +kernel
theorem dX6_copy_157 : decode cX6_copy 157 = .ok (.iload 6, 2) := by decide +kernel
theorem dX6_copy_159 : decode cX6_copy 159 = .ok (.iload 5, 2) := by decide +kernel
theorem dX6_copy_161 : decode cX6_copy 161 = .ok (.if_icmp .ge 31, 3) := by decide +kernel
theorem dX6_copy_164 : decode cX6_copy 164 = .ok (.aload_n 0, 1) := by decide +kernel
theorem dX6_copy_165 : decode cX6_copy 165 = .ok (.getfield 34, 3) := by decide +kernel
theorem dX6_copy_168 : decode cX6_copy 168 = .ok (.bipush 40, 2) := by decide +kernel
theorem dX6_copy_170 : decode cX6_copy 170 = .ok (.iload_n 3, 1) := by decide +kernel
theorem dX6_copy_171 : decode cX6_copy 171 = .ok (.imul, 1) := by decide +kernel
theorem dX6_copy_172 : decode cX6_copy 172 = .ok (.iload 4, 2) := by decide +kernel
theorem dX6_copy_174 : decode cX6_copy 174 = .ok (.iadd, 1) := by decide +kernel
theorem dX6_copy_175 : decode cX6_copy 175 = .ok (.iload 6, 2) := by decide +kernel
theorem dX6_copy_177 : decode cX6_copy 177 = .ok (.iadd, 1) := by decide +kernel
theorem dX6_copy_178 : decode cX6_copy 178 = .ok (.aload_n 0, 1) := by decide +kernel
theorem dX6_copy_179 : decode cX6_copy 179 = .ok (.getfield 38, 3) := by decide +kernel
theorem dX6_copy_182 : decode cX6_copy 182 = .ok (.iload 6, 2) := by decide +kernel
theorem dX6_copy_184 : decode cX6_copy 184 = .ok (.laload, 1) := by decide +kernel
theorem dX6_copy_185 : decode cX6_copy 185 = .ok (.lastore, 1) := by decide +kernel
theorem dX6_copy_186 : decode cX6_copy 186 = .ok (.iinc 6 1, 3) := by decide +kernel
theorem dX6_copy_189 : decode cX6_copy 189 = .ok (.goto (-32), 3) := by decide +kernel
theorem dX6_copy_192 : decode cX6_copy 192 = .ok (.iload 5, 2) := by decide +kernel
theorem dX6_copy_194 : decode cX6_copy 194 = .ok (.ireturn, 1) := by decide +kernel
theorem dX6_lays_0 : decode cX6_lays 0 = .ok (.aload_n 0, 1) := by decide +kernel
theorem dX6_lays_1 : decode cX6_lays 1 = .ok (.iload_n 1, 1) := by decide +kernel
theorem dX6_lays_2 : decode cX6_lays 2 = .ok (.invokevirtual 298, 3) := by decide +kernel
theorem dX6_lays_5 : decode cX6_lays 5 = .ok (.istore_n 2, 1) := by decide +kernel
theorem dX6_lays_6 : decode cX6_lays 6 = .ok (.iload_n 2, 1) := by decide +kernel
theorem dX6_lays_7 : decode cX6_lays 7 = .ok (.ifCond .eq 9, 3) := by decide +kernel
theorem dX6_lays_10 : decode cX6_lays 10 = .ok (.aload_n 0, 1) := by decide +kernel
theorem dX6_lays_11 : decode cX6_lays 11 = .ok (.iload_n 2, 1) := by decide +kernel
theorem dX6_lays_12 : decode cX6_lays 12 = .ok (.invokevirtual 64, 3) := by decide +kernel
theorem dX6_lays_15 : decode cX6_lays 15 = .ok (.ireturn, 1) := by decide +kernel
theorem dX6_lays_16 : decode cX6_lays 16 = .ok (.iconst 0, 1) := by decide +kernel
theorem dX6_lays_17 : decode cX6_lays 17 = .ok (.istore_n 3, 1) := by decide +kernel
theorem dX6_lays_18 : decode cX6_lays 18 = .ok (.iconst 0, 1) := by decide +kernel
theorem dX6_lays_19 : decode cX6_lays 19 = .ok (.istore 4, 2) := by decide +kernel
theorem dX6_lays_21 : decode cX6_lays 21 = .ok (.iload 4, 2) := by decide +kernel
theorem dX6_lays_23 : decode cX6_lays 23 = .ok (.aload_n 0, 1) := by decide +kernel
theorem dX6_lays_24 : decode cX6_lays 24 = .ok (.getfield 31, 3) := by decide +kernel
theorem dX6_lays_27 : decode cX6_lays 27 = .ok (.iload_n 1, 1) := by decide +kernel
theorem dX6_lays_28 : decode cX6_lays 28 = .ok (.iaload, 1) := by decide +kernel
theorem dX6_lays_29 : decode cX6_lays 29 = .ok (.if_icmp .ge 93, 3) := by decide +kernel
theorem dX6_lays_32 : decode cX6_lays 32 = .ok (.iload 4, 2) := by decide +kernel
theorem dX6_lays_34 : decode cX6_lays 34 = .ok (.bipush 6, 2) := by decide +kernel
theorem dX6_lays_36 : decode cX6_lays 36 = .ok (.if_icmp .ge 86, 3) := by decide +kernel
theorem dX6_lays_39 : decode cX6_lays 39 = .ok (.aload_n 0, 1) := by decide +kernel
theorem dX6_lays_40 : decode cX6_lays 40 = .ok (.getfield 34, 3) := by decide +kernel
theorem dX6_lays_43 : decode cX6_lays 43 = .ok (.bipush 40, 2) := by decide +kernel
theorem dX6_lays_45 : decode cX6_lays 45 = .ok (.iload_n 1, 1) := by decide +kernel
theorem dX6_lays_46 : decode cX6_lays 46 = .ok (.imul, 1) := by decide +kernel
theorem dX6_lays_47 : decode cX6_lays 47 = .ok (.iload 4, 2) := by decide +kernel
theorem dX6_lays_49 : decode cX6_lays 49 = .ok (.iadd, 1) := by decide +kernel
theorem dX6_lays_50 : decode cX6_lays 50 = .ok (.laload, 1) := by decide +kernel
theorem dX6_lays_51 : decode cX6_lays 51 = .ok (.lconst 0, 1) := by decide +kernel
theorem dX6_lays_52 : decode cX6_lays 52 = .ok (.ldc2_w 68, 3) := by decide +kernel
theorem dX6_lays_55 : decode cX6_lays 55 = .ok (.invokestatic 48, 3) := by decide +kernel
theorem dX6_lays_58 : decode cX6_lays 58 = .ok (.istore 5, 2) := by decide +kernel
theorem dX6_lays_60 : decode cX6_lays 60 = .ok (.aload_n 0, 1) := by decide +kernel
theorem dX6_lays_61 : decode cX6_lays 61 = .ok (.getfield 7, 3) := by decide +kernel
theorem dX6_lays_64 : decode cX6_lays 64 = .ok (.iload 4, 2) := by decide +kernel
theorem dX6_lays_66 : decode cX6_lays 66 = .ok (.iconst 0, 1) := by decide +kernel
theorem dX6_lays_67 : decode cX6_lays 67 = .ok (.invokestatic 41, 3) := by decide +kernel
theorem dX6_lays_70 : decode cX6_lays 70 = .ok (.iload 5, 2) := by decide +kernel
theorem dX6_lays_72 : decode cX6_lays 72 = .ok (.ifCond .eq 19, 3) := by decide +kernel
theorem dX6_lays_75 : decode cX6_lays 75 = .ok (.aload_n 0, 1) := by decide +kernel
theorem dX6_lays_76 : decode cX6_lays 76 = .ok (.getfield 34, 3) := by decide +kernel
theorem dX6_lays_79 : decode cX6_lays 79 = .ok (.bipush 40, 2) := by decide +kernel
theorem dX6_lays_81 : decode cX6_lays 81 = .ok (.iload_n 1, 1) := by decide +kernel
theorem dX6_lays_82 : decode cX6_lays 82 = .ok (.imul, 1) := by decide +kernel
theorem dX6_lays_83 : decode cX6_lays 83 = .ok (.iload 4, 2) := by decide +kernel
theorem dX6_lays_85 : decode cX6_lays 85 = .ok (.iadd, 1) := by decide +kernel
theorem dX6_lays_86 : decode cX6_lays 86 = .ok (.laload, 1) := by decide +kernel
theorem dX6_lays_87 : decode cX6_lays 87 = .ok (.l2i, 1) := by decide +kernel
theorem dX6_lays_88 : decode cX6_lays 88 = .ok (.goto 14, 3) := by decide +kernel
theorem dX6_lays_91 : decode cX6_lays 91 = .ok (.aload_n 0, 1) := by decide +kernel
theorem dX6_lays_92 : decode cX6_lays 92 = .ok (.getfield 7, 3) := by decide +kernel
theorem dX6_lays_95 : decode cX6_lays 95 = .ok (.iload 4, 2) := by decide +kernel
theorem dX6_lays_97 : decode cX6_lays 97 = .ok (.iconst 0, 1) := by decide +kernel
theorem dX6_lays_98 : decode cX6_lays 98 = .ok (.invokestatic 41, 3) := by decide +kernel
theorem dX6_lays_101 : decode cX6_lays 101 = .ok (.iaload, 1) := by decide +kernel
theorem dX6_lays_102 : decode cX6_lays 102 = .ok (.iastore, 1) := by decide +kernel
theorem dX6_lays_103 : decode cX6_lays 103 = .ok (.iload_n 3, 1) := by decide +kernel
theorem dX6_lays_104 : decode cX6_lays 104 = .ok (.iload 5, 2) := by decide +kernel
theorem dX6_lays_106 : decode cX6_lays 106 = .ok (.ifCond .eq 7, 3) := by decide +kernel
theorem dX6_lays_109 : decode cX6_lays 109 = .ok (.iconst 1, 1) := by decide +kernel
theorem dX6_lays_110 : decode cX6_lays 110 = .ok (.goto 4, 3) := by decide +kernel
theorem dX6_lays_113 : decode cX6_lays 113 = .ok (.iconst 0, 1) := by decide +kernel
theorem dX6_lays_114 : decode cX6_lays 114 = .ok (.iadd, 1) := by decide +kernel
theorem dX6_lays_115 : decode cX6_lays 115 = .ok (.istore_n 3, 1) := by decide +kernel
theorem dX6_lays_116 : decode cX6_lays 116 = .ok (.iinc 4 1, 3) := by decide +kernel
theorem dX6_lays_119 : decode cX6_lays 119 = .ok (.goto (-98), 3) := by decide +kernel
theorem dX6_lays_122 : decode cX6_lays 122 = .ok (.iload_n 3, 1) := by decide +kernel
theorem dX6_lays_123 : decode cX6_lays 123 = .ok (.ireturn, 1) := by decide +kernel
theorem dX6_wrongBook_0 : decode cX6_wrongBook 0 = .ok (.aload_n 0, 1) := by decide +kernel
theorem dX6_wrongBook_1 : decode cX6_wrongBook 1 = .ok (.iload_n 1, 1) := by decide +kernel
theorem dX6_wrongBook_2 : decode cX6_wrongBook 2 = .ok (.invokevirtual 298, 3) := by decide +kernel
theorem dX6_wrongBook_5 : decode cX6_wrongBook 5 = .ok (.istore_n 3, 1) := by decide +kernel
theorem dX6_wrongBook_6 : decode cX6_wrongBook 6 = .ok (.iload_n 3, 1) := by decide +kernel
theorem dX6_wrongBook_7 : decode cX6_wrongBook 7 = .ok (.ifCond .eq 7, 3) := by decide +kernel
theorem dX6_wrongBook_10 : decode cX6_wrongBook 10 = .ok (.iload_n 3, 1) := by decide +kernel
theorem dX6_wrongBook_11 : decode cX6_wrongBook 11 = .ok (.goto 17, 3) := by decide +kernel
theorem dX6_wrongBook_14 : decode cX6_wrongBook 14 = .ok (.aload_n 0, 1) := by decide +kernel
theorem dX6_wrongBook_15 : decode cX6_wrongBook 15 = .ok (.iload_n 2, 1) := by decide +kernel
theorem dX6_wrongBook_16 : decode cX6_wrongBook 16 = .ok (.invokevirtual 98, 3) := by decide +kernel
theorem dX6_wrongBook_19 : decode cX6_wrongBook 19 = .ok (.ifCond .eq 7, 3) := by decide +kernel
theorem dX6_wrongBook_22 : decode cX6_wrongBook 22 = .ok (.iconst 0, 1) := by decide +kernel
theorem dX6_wrongBook_23 : decode cX6_wrongBook 23 = .ok (.goto 5, 3) := by decide +kernel
theorem dX6_wrongBook_26 : decode cX6_wrongBook 26 = .ok (.ldc 45, 2) := by decide +kernel
theorem dX6_wrongBook_28 : decode cX6_wrongBook 28 = .ok (.ireturn, 1) := by decide +kernel
theorem dX6_book_0 : decode cX6_book 0 = .ok (.aload_n 0, 1) := by decide +kernel
theorem dX6_book_1 : decode cX6_book 1 = .ok (.iload_n 1, 1) := by decide +kernel
theorem dX6_book_2 : decode cX6_book 2 = .ok (.iload_n 2, 1) := by decide +kernel
theorem dX6_book_3 : decode cX6_book 3 = .ok (.invokevirtual 305, 3) := by decide +kernel
theorem dX6_book_6 : decode cX6_book 6 = .ok (.istore_n 3, 1) := by decide +kernel
theorem dX6_book_7 : decode cX6_book 7 = .ok (.iload_n 3, 1) := by decide +kernel
theorem dX6_book_8 : decode cX6_book 8 = .ok (.ifCond .eq 9, 3) := by decide +kernel
theorem dX6_book_11 : decode cX6_book 11 = .ok (.aload_n 0, 1) := by decide +kernel
theorem dX6_book_12 : decode cX6_book 12 = .ok (.iload_n 3, 1) := by decide +kernel
theorem dX6_book_13 : decode cX6_book 13 = .ok (.invokevirtual 64, 3) := by decide +kernel
theorem dX6_book_16 : decode cX6_book 16 = .ok (.ireturn, 1) := by decide +kernel
theorem dX6_book_17 : decode cX6_book 17 = .ok (.aload_n 0, 1) := by decide +kernel
theorem dX6_book_18 : decode cX6_book 18 = .ok (.invokevirtual 165, 3) := by decide +kernel
theorem dX6_book_21 : decode cX6_book 21 = .ok (.iconst 0, 1) := by decide +kernel
theorem dX6_book_22 : decode cX6_book 22 = .ok (.istore 4, 2) := by decide +kernel
theorem dX6_book_24 : decode cX6_book 24 = .ok (.iload 4, 2) := by decide +kernel
theorem dX6_book_26 : decode cX6_book 26 = .ok (.aload_n 0, 1) := by decide +kernel
theorem dX6_book_27 : decode cX6_book 27 = .ok (.getfield 31, 3) := by decide +kernel
theorem dX6_book_30 : decode cX6_book 30 = .ok (.iload_n 1, 1) := by decide +kernel
theorem dX6_book_31 : decode cX6_book 31 = .ok (.iaload, 1) := by decide +kernel
theorem dX6_book_32 : decode cX6_book 32 = .ok (.if_icmp .ge 41, 3) := by decide +kernel
theorem dX6_book_35 : decode cX6_book 35 = .ok (.aload_n 0, 1) := by decide +kernel
theorem dX6_book_36 : decode cX6_book 36 = .ok (.getfield 34, 3) := by decide +kernel
theorem dX6_book_39 : decode cX6_book 39 = .ok (.bipush 40, 2) := by decide +kernel
theorem dX6_book_41 : decode cX6_book 41 = .ok (.iload_n 1, 1) := by decide +kernel
theorem dX6_book_42 : decode cX6_book 42 = .ok (.imul, 1) := by decide +kernel
theorem dX6_book_43 : decode cX6_book 43 = .ok (.iload 4, 2) := by decide +kernel
theorem dX6_book_45 : decode cX6_book 45 = .ok (.iadd, 1) := by decide +kernel
theorem dX6_book_46 : decode cX6_book 46 = .ok (.aload_n 0, 1) := by decide +kernel
theorem dX6_book_47 : decode cX6_book 47 = .ok (.getfield 28, 3) := by decide +kernel
theorem dX6_book_50 : decode cX6_book 50 = .ok (.iload_n 1, 1) := by decide +kernel
theorem dX6_book_51 : decode cX6_book 51 = .ok (.iaload, 1) := by decide +kernel
theorem dX6_book_52 : decode cX6_book 52 = .ok (.aload_n 0, 1) := by decide +kernel
theorem dX6_book_53 : decode cX6_book 53 = .ok (.iload_n 2, 1) := by decide +kernel
theorem dX6_book_54 : decode cX6_book 54 = .ok (.iconst 2, 1) := by decide +kernel
theorem dX6_book_55 : decode cX6_book 55 = .ok (.invokevirtual 74, 3) := by decide +kernel
theorem dX6_book_58 : decode cX6_book 58 = .ok (.i2l, 1) := by decide +kernel
theorem dX6_book_59 : decode cX6_book 59 = .ok (.invokestatic 301, 3) := by decide +kernel
theorem dX6_book_62 : decode cX6_book 62 = .ok (.lastore, 1) := by decide +kernel
theorem dX6_book_63 : decode cX6_book 63 = .ok (.aload_n 0, 1) := by decide +kernel
theorem dX6_book_64 : decode cX6_book 64 = .ok (.invokevirtual 147, 3) := by decide +kernel
theorem dX6_book_67 : decode cX6_book 67 = .ok (.iinc 4 1, 3) := by decide +kernel
theorem dX6_book_70 : decode cX6_book 70 = .ok (.goto (-46), 3) := by decide +kernel
theorem dX6_book_73 : decode cX6_book 73 = .ok (.aload_n 0, 1) := by decide +kernel
theorem dX6_book_74 : decode cX6_book 74 = .ok (.aload_n 0, 1) := by decide +kernel
theorem dX6_book_75 : decode cX6_book 75 = .ok (.getfield 31, 3) := by decide +kernel
theorem dX6_book_78 : decode cX6_book 78 = .ok (.iload_n 1, 1) := by decide +kernel
theorem dX6_book_79 : decode cX6_book 79 = .ok (.iaload, 1) := by decide +kernel
theorem dX6_book_80 : decode cX6_book 80 = .ok (.invokevirtual 168, 3) := by decide +kernel
theorem dX6_book_83 : decode cX6_book 83 = .ok (.ireturn, 1) := by decide +kernel
theorem dX6_isBook_0 : decode cX6_isBook 0 = .ok (.iconst 0, 1) := by decide +kernel
theorem dX6_isBook_1 : decode cX6_isBook 1 = .ok (.istore_n 3, 1) := by decide +kernel
theorem dX6_isBook_2 : decode cX6_isBook 2 = .ok (.iload_n 3, 1) := by decide +kernel
theorem dX6_isBook_3 : decode cX6_isBook 3 = .ok (.aload_n 0, 1) := by decide +kernel
theorem dX6_isBook_4 : decode cX6_isBook 4 = .ok (.getfield 31, 3) := by decide +kernel
theorem dX6_isBook_7 : decode cX6_isBook 7 = .ok (.iload_n 1, 1) := by decide +kernel
theorem dX6_isBook_8 : decode cX6_isBook 8 = .ok (.iaload, 1) := by decide +kernel
theorem dX6_isBook_9 : decode cX6_isBook 9 = .ok (.if_icmp .ge 37, 3) := by decide +kernel
theorem dX6_isBook_12 : decode cX6_isBook 12 = .ok (.aload_n 0, 1) := by decide +kernel
theorem dX6_isBook_13 : decode cX6_isBook 13 = .ok (.getfield 34, 3) := by decide +kernel
theorem dX6_isBook_16 : decode cX6_isBook 16 = .ok (.bipush 40, 2) := by decide +kernel
theorem dX6_isBook_18 : decode cX6_isBook 18 = .ok (.iload_n 1, 1) := by decide +kernel
theorem dX6_isBook_19 : decode cX6_isBook 19 = .ok (.imul, 1) := by decide +kernel
theorem dX6_isBook_20 : decode cX6_isBook 20 = .ok (.iload_n 3, 1) := by decide +kernel
theorem dX6_isBook_21 : decode cX6_isBook 21 = .ok (.iadd, 1) := by decide +kernel
theorem dX6_isBook_22 : decode cX6_isBook 22 = .ok (.laload, 1) := by decide +kernel
theorem dX6_isBook_23 : decode cX6_isBook 23 = .ok (.aload_n 0, 1) := by decide +kernel
theorem dX6_isBook_24 : decode cX6_isBook 24 = .ok (.iload_n 2, 1) := by decide +kernel
theorem dX6_isBook_25 : decode cX6_isBook 25 = .ok (.iconst 2, 1) := by decide +kernel
theorem dX6_isBook_26 : decode cX6_isBook 26 = .ok (.invokevirtual 74, 3) := by decide +kernel
theorem dX6_isBook_29 : decode cX6_isBook 29 = .ok (.i2l, 1) := by decide +kernel
theorem dX6_isBook_30 : decode cX6_isBook 30 = .ok (.lcmp, 1) := by decide +kernel
theorem dX6_isBook_31 : decode cX6_isBook 31 = .ok (.ifCond .eq 5, 3) := by decide +kernel
theorem dX6_isBook_34 : decode cX6_isBook 34 = .ok (.iconst 0, 1) := by decide +kernel
theorem dX6_isBook_35 : decode cX6_isBook 35 = .ok (.ireturn, 1) := by decide +kernel
theorem dX6_isBook_36 : decode cX6_isBook 36 = .ok (.aload_n 0, 1) := by decide +kernel
theorem dX6_isBook_37 : decode cX6_isBook 37 = .ok (.invokevirtual 147, 3) := by decide +kernel
theorem dX6_isBook_40 : decode cX6_isBook 40 = .ok (.iinc 3 1, 3) := by decide +kernel
theorem dX6_isBook_43 : decode cX6_isBook 43 = .ok (.goto (-41), 3) := by decide +kernel
theorem dX6_isBook_46 : decode cX6_isBook 46 = .ok (.iconst 1, 1) := by decide +kernel
theorem dX6_isBook_47 : decode cX6_isBook 47 = .ok (.ireturn, 1) := by decide +kernel
theorem dX6_read_0 : decode cX6_read 0 = .ok (.aload_n 0, 1) := by decide +kernel
theorem dX6_read_1 : decode cX6_read 1 = .ok (.iload_n 1, 1) := by decide +kernel
theorem dX6_read_2 : decode cX6_read 2 = .ok (.iload_n 2, 1) := by decide +kernel
theorem dX6_read_3 : decode cX6_read 3 = .ok (.invokevirtual 305, 3) := by decide +kernel
theorem dX6_read_6 : decode cX6_read 6 = .ok (.istore_n 3, 1) := by decide +kernel
theorem dX6_read_7 : decode cX6_read 7 = .ok (.iload_n 3, 1) := by decide +kernel
theorem dX6_read_8 : decode cX6_read 8 = .ok (.ifCond .eq 9, 3) := by decide +kernel
theorem dX6_read_11 : decode cX6_read 11 = .ok (.aload_n 0, 1) := by decide +kernel
theorem dX6_read_12 : decode cX6_read 12 = .ok (.iload_n 3, 1) := by decide +kernel
theorem dX6_read_13 : decode cX6_read 13 = .ok (.invokevirtual 64, 3) := by decide +kernel
theorem dX6_read_16 : decode cX6_read 16 = .ok (.ireturn, 1) := by decide +kernel
theorem dX6_read_17 : decode cX6_read 17 = .ok (.aload_n 0, 1) := by decide +kernel
theorem dX6_read_18 : decode cX6_read 18 = .ok (.invokevirtual 165, 3) := by decide +kernel
theorem dX6_read_21 : decode cX6_read 21 = .ok (.iconst 0, 1) := by decide +kernel
theorem dX6_read_22 : decode cX6_read 22 = .ok (.istore 4, 2) := by decide +kernel
theorem dX6_read_24 : decode cX6_read 24 = .ok (.iconst 0, 1) := by decide +kernel
theorem dX6_read_25 : decode cX6_read 25 = .ok (.istore 5, 2) := by decide +kernel
theorem dX6_read_27 : decode cX6_read 27 = .ok (.iload 5, 2) := by decide +kernel
theorem dX6_read_29 : decode cX6_read 29 = .ok (.bipush 18, 2) := by decide +kernel
theorem dX6_read_31 : decode cX6_read 31 = .ok (.if_icmp .ge 71, 3) := by decide +kernel
theorem dX6_read_34 : decode cX6_read 34 = .ok (.aload_n 0, 1) := by decide +kernel
theorem dX6_read_35 : decode cX6_read 35 = .ok (.getfield 7, 3) := by decide +kernel
theorem dX6_read_38 : decode cX6_read 38 = .ok (.iload_n 2, 1) := by decide +kernel
theorem dX6_read_39 : decode cX6_read 39 = .ok (.iconst 0, 1) := by decide +kernel
theorem dX6_read_40 : decode cX6_read 40 = .ok (.invokestatic 52, 3) := by decide +kernel
theorem dX6_read_43 : decode cX6_read 43 = .ok (.iload 5, 2) := by decide +kernel
theorem dX6_read_45 : decode cX6_read 45 = .ok (.iconst 3, 1) := by decide +kernel
theorem dX6_read_46 : decode cX6_read 46 = .ok (.idiv, 1) := by decide +kernel
theorem dX6_read_47 : decode cX6_read 47 = .ok (.iastore, 1) := by decide +kernel
theorem dX6_read_48 : decode cX6_read 48 = .ok (.aload_n 0, 1) := by decide +kernel
theorem dX6_read_49 : decode cX6_read 49 = .ok (.getfield 7, 3) := by decide +kernel
theorem dX6_read_52 : decode cX6_read 52 = .ok (.iload_n 2, 1) := by decide +kernel
theorem dX6_read_53 : decode cX6_read 53 = .ok (.iconst 3, 1) := by decide +kernel
theorem dX6_read_54 : decode cX6_read 54 = .ok (.invokestatic 52, 3) := by decide +kernel
theorem dX6_read_57 : decode cX6_read 57 = .ok (.iload 5, 2) := by decide +kernel
theorem dX6_read_59 : decode cX6_read 59 = .ok (.iconst 3, 1) := by decide +kernel
theorem dX6_read_60 : decode cX6_read 60 = .ok (.irem, 1) := by decide +kernel
theorem dX6_read_61 : decode cX6_read 61 = .ok (.iastore, 1) := by decide +kernel
theorem dX6_read_62 : decode cX6_read 62 = .ok (.aload_n 0, 1) := by decide +kernel
theorem dX6_read_63 : decode cX6_read 63 = .ok (.getfield 7, 3) := by decide +kernel
theorem dX6_read_66 : decode cX6_read 66 = .ok (.iload_n 2, 1) := by decide +kernel
theorem dX6_read_67 : decode cX6_read 67 = .ok (.iconst 4, 1) := by decide +kernel
theorem dX6_read_68 : decode cX6_read 68 = .ok (.invokestatic 52, 3) := by decide +kernel
theorem dX6_read_71 : decode cX6_read 71 = .ok (.iconst 0, 1) := by decide +kernel
theorem dX6_read_72 : decode cX6_read 72 = .ok (.iastore, 1) := by decide +kernel
theorem dX6_read_73 : decode cX6_read 73 = .ok (.aload_n 0, 1) := by decide +kernel
theorem dX6_read_74 : decode cX6_read 74 = .ok (.iload 4, 2) := by decide +kernel
theorem dX6_read_76 : decode cX6_read 76 = .ok (.aload_n 0, 1) := by decide +kernel
theorem dX6_read_77 : decode cX6_read 77 = .ok (.iload_n 1, 1) := by decide +kernel
theorem dX6_read_78 : decode cX6_read 78 = .ok (.iload_n 2, 1) := by decide +kernel
theorem dX6_read_79 : decode cX6_read 79 = .ok (.invokevirtual 308, 3) := by decide +kernel
theorem dX6_read_82 : decode cX6_read 82 = .ok (.ifCond .eq 7, 3) := by decide +kernel
theorem dX6_read_85 : decode cX6_read 85 = .ok (.iconst 1, 1) := by decide +kernel
theorem dX6_read_86 : decode cX6_read 86 = .ok (.goto 4, 3) := by decide +kernel
theorem dX6_read_89 : decode cX6_read 89 = .ok (.iconst 0, 1) := by decide +kernel
theorem dX6_read_90 : decode cX6_read 90 = .ok (.iadd, 1) := by decide +kernel
theorem dX6_read_91 : decode cX6_read 91 = .ok (.invokevirtual 168, 3) := by decide +kernel
theorem dX6_read_94 : decode cX6_read 94 = .ok (.istore 4, 2) := by decide +kernel
theorem dX6_read_96 : decode cX6_read 96 = .ok (.iinc 5 1, 3) := by decide +kernel
theorem dX6_read_99 : decode cX6_read 99 = .ok (.goto (-72), 3) := by decide +kernel
theorem dX6_read_102 : decode cX6_read 102 = .ok (.iload 4, 2) := by decide +kernel
theorem dX6_read_104 : decode cX6_read 104 = .ok (.ireturn, 1) := by decide +kernel
theorem dX6_image_0 : decode cX6_image 0 = .ok (.iconst 0, 1) := by decide +kernel
theorem dX6_image_1 : decode cX6_image 1 = .ok (.istore_n 1, 1) := by decide +kernel
theorem dX6_image_2 : decode cX6_image 2 = .ok (.iload_n 1, 1) := by decide +kernel
theorem dX6_image_3 : decode cX6_image 3 = .ok (.bipush 67, 2) := by decide +kernel
theorem dX6_image_5 : decode cX6_image 5 = .ok (.if_icmp .ge 21, 3) := by decide +kernel
theorem dX6_image_8 : decode cX6_image 8 = .ok (.aload_n 0, 1) := by decide +kernel
theorem dX6_image_9 : decode cX6_image 9 = .ok (.getfield 13, 3) := by decide +kernel
theorem dX6_image_12 : decode cX6_image 12 = .ok (.iload_n 1, 1) := by decide +kernel
theorem dX6_image_13 : decode cX6_image 13 = .ok (.aload_n 0, 1) := by decide +kernel
theorem dX6_image_14 : decode cX6_image 14 = .ok (.getfield 7, 3) := by decide +kernel
theorem dX6_image_17 : decode cX6_image 17 = .ok (.iload_n 1, 1) := by decide +kernel
theorem dX6_image_18 : decode cX6_image 18 = .ok (.iaload, 1) := by decide +kernel
theorem dX6_image_19 : decode cX6_image 19 = .ok (.iastore, 1) := by decide +kernel
theorem dX6_image_20 : decode cX6_image 20 = .ok (.iinc 1 1, 3) := by decide +kernel
theorem dX6_image_23 : decode cX6_image 23 = .ok (.goto (-21), 3) := by decide +kernel
theorem dX6_image_26 : decode cX6_image 26 = .ok (.aload_n 0, 1) := by decide +kernel
theorem dX6_image_27 : decode cX6_image 27 = .ok (.iconst 1, 1) := by decide +kernel
theorem dX6_image_28 : decode cX6_image 28 = .ok (.putfield 311, 3) := by decide +kernel
theorem dX6_image_31 : decode cX6_image 31 = .ok (.iconst 1, 1) := by decide +kernel
theorem dX6_image_32 : decode cX6_image 32 = .ok (.ireturn, 1) := by decide +kernel
theorem dX6_undo_0 : decode cX6_undo 0 = .ok (.aload_n 0, 1) := by decide +kernel
theorem dX6_undo_1 : decode cX6_undo 1 = .ok (.getfield 311, 3) := by decide +kernel
theorem dX6_undo_4 : decode cX6_undo 4 = .ok (.ifCond .ne 10, 3) := by decide +kernel
theorem dX6_undo_7 : decode cX6_undo 7 = .ok (.aload_n 0, 1) := by decide +kernel
theorem dX6_undo_8 : decode cX6_undo 8 = .ok (.ldc 142, 2) := by decide +kernel
theorem dX6_undo_10 : decode cX6_undo 10 = .ok (.invokevirtual 64, 3) := by decide +kernel
theorem dX6_undo_13 : decode cX6_undo 13 = .ok (.ireturn, 1) := by decide +kernel
theorem dX6_undo_14 : decode cX6_undo 14 = .ok (.iconst 0, 1) := by decide +kernel
theorem dX6_undo_15 : decode cX6_undo 15 = .ok (.istore_n 1, 1) := by decide +kernel
theorem dX6_undo_16 : decode cX6_undo 16 = .ok (.iload_n 1, 1) := by decide +kernel
theorem dX6_undo_17 : decode cX6_undo 17 = .ok (.bipush 67, 2) := by decide +kernel
theorem dX6_undo_19 : decode cX6_undo 19 = .ok (.if_icmp .ge 21, 3) := by decide +kernel
theorem dX6_undo_22 : decode cX6_undo 22 = .ok (.aload_n 0, 1) := by decide +kernel
theorem dX6_undo_23 : decode cX6_undo 23 = .ok (.getfield 7, 3) := by decide +kernel
theorem dX6_undo_26 : decode cX6_undo 26 = .ok (.iload_n 1, 1) := by decide +kernel
theorem dX6_undo_27 : decode cX6_undo 27 = .ok (.aload_n 0, 1) := by decide +kernel
theorem dX6_undo_28 : decode cX6_undo 28 = .ok (.getfield 13, 3) := by decide +kernel
theorem dX6_undo_31 : decode cX6_undo 31 = .ok (.iload_n 1, 1) := by decide +kernel
theorem dX6_undo_32 : decode cX6_undo 32 = .ok (.iaload, 1) := by decide +kernel
theorem dX6_undo_33 : decode cX6_undo 33 = .ok (.iastore, 1) := by decide +kernel
theorem dX6_undo_34 : decode cX6_undo 34 = .ok (.iinc 1 1, 3) := by decide +kernel
theorem dX6_undo_37 : decode cX6_undo 37 = .ok (.goto (-21), 3) := by decide +kernel
theorem dX6_undo_40 : decode cX6_undo 40 = .ok (.aload_n 0, 1) := by decide +kernel
theorem dX6_undo_41 : decode cX6_undo 41 = .ok (.getfield 7, 3) := by decide +kernel
theorem dX6_undo_44 : decode cX6_undo 44 = .ok (.iconst 0, 1) := by decide +kernel
theorem dX6_undo_45 : decode cX6_undo 45 = .ok (.iaload, 1) := by decide +kernel
theorem dX6_undo_46 : decode cX6_undo 46 = .ok (.ireturn, 1) := by decide +kernel
theorem dX6_tear_0 : decode cX6_tear 0 = .ok (.aload_n 0, 1) := by decide +kernel
theorem dX6_tear_1 : decode cX6_tear 1 = .ok (.getfield 311, 3) := by decide +kernel
theorem dX6_tear_4 : decode cX6_tear 4 = .ok (.ifCond .eq 7, 3) := by decide +kernel
theorem dX6_tear_7 : decode cX6_tear 7 = .ok (.iconst 1, 1) := by decide +kernel
theorem dX6_tear_8 : decode cX6_tear 8 = .ok (.goto 4, 3) := by decide +kernel
theorem dX6_tear_11 : decode cX6_tear 11 = .ok (.iconst 0, 1) := by decide +kernel
theorem dX6_tear_12 : decode cX6_tear 12 = .ok (.istore_n 1, 1) := by decide +kernel
theorem dX6_tear_13 : decode cX6_tear 13 = .ok (.aload_n 0, 1) := by decide +kernel
theorem dX6_tear_14 : decode cX6_tear 14 = .ok (.iconst 0, 1) := by decide +kernel
theorem dX6_tear_15 : decode cX6_tear 15 = .ok (.putfield 311, 3) := by decide +kernel
theorem dX6_tear_18 : decode cX6_tear 18 = .ok (.iload_n 1, 1) := by decide +kernel
theorem dX6_tear_19 : decode cX6_tear 19 = .ok (.ireturn, 1) := by decide +kernel
theorem dX6_count_0 : decode cX6_count 0 = .ok (.iload_n 1, 1) := by decide +kernel
theorem dX6_count_1 : decode cX6_count 1 = .ok (.tableswitch 70 0 3 #[31, 38, 43, 60], 31) := by decide +kernel
theorem dX6_count_32 : decode cX6_count 32 = .ok (.aload_n 0, 1) := by decide +kernel
theorem dX6_count_33 : decode cX6_count 33 = .ok (.getfield 7, 3) := by decide +kernel
theorem dX6_count_36 : decode cX6_count 36 = .ok (.iconst 0, 1) := by decide +kernel
theorem dX6_count_37 : decode cX6_count 37 = .ok (.iaload, 1) := by decide +kernel
theorem dX6_count_38 : decode cX6_count 38 = .ok (.ireturn, 1) := by decide +kernel
theorem dX6_count_39 : decode cX6_count 39 = .ok (.aload_n 0, 1) := by decide +kernel
theorem dX6_count_40 : decode cX6_count 40 = .ok (.getfield 183, 3) := by decide +kernel
theorem dX6_count_43 : decode cX6_count 43 = .ok (.ireturn, 1) := by decide +kernel
theorem dX6_count_44 : decode cX6_count 44 = .ok (.aload_n 0, 1) := by decide +kernel
theorem dX6_count_45 : decode cX6_count 45 = .ok (.getfield 7, 3) := by decide +kernel
theorem dX6_count_48 : decode cX6_count 48 = .ok (.iconst 0, 1) := by decide +kernel
theorem dX6_count_49 : decode cX6_count 49 = .ok (.iaload, 1) := by decide +kernel
theorem dX6_count_50 : decode cX6_count 50 = .ok (.aload_n 0, 1) := by decide +kernel
theorem dX6_count_51 : decode cX6_count 51 = .ok (.iconst 3, 1) := by decide +kernel
theorem dX6_count_52 : decode cX6_count 52 = .ok (.iconst 0, 1) := by decide +kernel
theorem dX6_count_53 : decode cX6_count 53 = .ok (.invokevirtual 77, 3) := by decide +kernel
theorem dX6_count_56 : decode cX6_count 56 = .ok (.invokestatic 314, 3) := by decide +kernel
theorem dX6_count_59 : decode cX6_count 59 = .ok (.isub, 1) := by decide +kernel
theorem dX6_count_60 : decode cX6_count 60 = .ok (.ireturn, 1) := by decide +kernel
theorem dX6_count_61 : decode cX6_count 61 = .ok (.aload_n 0, 1) := by decide +kernel
theorem dX6_count_62 : decode cX6_count 62 = .ok (.iconst 5, 1) := by decide +kernel
theorem dX6_count_63 : decode cX6_count 63 = .ok (.iconst 1, 1) := by decide +kernel
theorem dX6_count_64 : decode cX6_count 64 = .ok (.invokevirtual 77, 3) := by decide +kernel
theorem dX6_count_67 : decode cX6_count 67 = .ok (.invokestatic 314, 3) := by decide +kernel
theorem dX6_count_70 : decode cX6_count 70 = .ok (.ireturn, 1) := by decide +kernel
theorem dX6_count_71 : decode cX6_count 71 = .ok (.aload_n 0, 1) := by decide +kernel
theorem dX6_count_72 : decode cX6_count 72 = .ok (.ldc 45, 2) := by decide +kernel
theorem dX6_count_74 : decode cX6_count 74 = .ok (.invokevirtual 64, 3) := by decide +kernel
theorem dX6_count_77 : decode cX6_count 77 = .ok (.ireturn, 1) := by decide +kernel
theorem dX6_status_0 : decode cX6_status 0 = .ok (.iload_n 1, 1) := by decide +kernel
theorem dX6_status_1 : decode cX6_status 1 = .ok (.i2l, 1) := by decide +kernel
theorem dX6_status_2 : decode cX6_status 2 = .ok (.ldc2_w 317, 3) := by decide +kernel
theorem dX6_status_5 : decode cX6_status 5 = .ok (.ldc2_w 59, 3) := by decide +kernel
theorem dX6_status_8 : decode cX6_status 8 = .ok (.invokestatic 48, 3) := by decide +kernel
theorem dX6_status_11 : decode cX6_status 11 = .ok (.ifCond .ne 10, 3) := by decide +kernel
theorem dX6_status_14 : decode cX6_status 14 = .ok (.aload_n 0, 1) := by decide +kernel
theorem dX6_status_15 : decode cX6_status 15 = .ok (.ldc 45, 2) := by decide +kernel
theorem dX6_status_17 : decode cX6_status 17 = .ok (.invokevirtual 64, 3) := by decide +kernel
theorem dX6_status_20 : decode cX6_status 20 = .ok (.ireturn, 1) := by decide +kernel
theorem dX6_status_21 : decode cX6_status 21 = .ok (.iconst 0, 1) := by decide +kernel
theorem dX6_status_22 : decode cX6_status 22 = .ok (.istore_n 2, 1) := by decide +kernel
theorem dX6_status_23 : decode cX6_status 23 = .ok (.iconst 0, 1) := by decide +kernel
theorem dX6_status_24 : decode cX6_status 24 = .ok (.istore_n 3, 1) := by decide +kernel
theorem dX6_status_25 : decode cX6_status 25 = .ok (.iload_n 3, 1) := by decide +kernel
theorem dX6_status_26 : decode cX6_status 26 = .ok (.bipush 7, 2) := by decide +kernel
theorem dX6_status_28 : decode cX6_status 28 = .ok (.if_icmp .ge 31, 3) := by decide +kernel
theorem dX6_status_31 : decode cX6_status 31 = .ok (.iload_n 2, 1) := by decide +kernel
theorem dX6_status_32 : decode cX6_status 32 = .ok (.iload_n 1, 1) := by decide +kernel
theorem dX6_status_33 : decode cX6_status 33 = .ok (.ifCond .lt 8, 3) := by decide +kernel
theorem dX6_status_36 : decode cX6_status 36 = .ok (.iload_n 3, 1) := by decide +kernel
theorem dX6_status_37 : decode cX6_status 37 = .ok (.iload_n 1, 1) := by decide +kernel
theorem dX6_status_38 : decode cX6_status 38 = .ok (.if_icmp .ne 12, 3) := by decide +kernel
theorem dX6_status_41 : decode cX6_status 41 = .ok (.aload_n 0, 1) := by decide +kernel
theorem dX6_status_42 : decode cX6_status 42 = .ok (.getfield 22, 3) := by decide +kernel
theorem dX6_status_45 : decode cX6_status 45 = .ok (.iload_n 3, 1) := by decide +kernel
theorem dX6_status_46 : decode cX6_status 46 = .ok (.iaload, 1) := by decide +kernel
theorem dX6_status_47 : decode cX6_status 47 = .ok (.goto 4, 3) := by decide +kernel
theorem dX6_status_50 : decode cX6_status 50 = .ok (.iconst 0, 1) := by decide +kernel
theorem dX6_status_51 : decode cX6_status 51 = .ok (.iadd, 1) := by decide +kernel
theorem dX6_status_52 : decode cX6_status 52 = .ok (.istore_n 2, 1) := by decide +kernel
theorem dX6_status_53 : decode cX6_status 53 = .ok (.iinc 3 1, 3) := by decide +kernel
theorem dX6_status_56 : decode cX6_status 56 = .ok (.goto (-31), 3) := by decide +kernel
theorem dX6_status_59 : decode cX6_status 59 = .ok (.iload_n 2, 1) := by decide +kernel
theorem dX6_status_60 : decode cX6_status 60 = .ok (.ireturn, 1) := by decide +kernel
end
section
theorem dL_law_0 : decode cL_law 0 = .ok (.new 7, 3) := by decide +kernel
theorem dL_law_3 : decode cL_law 3 = .ok (.dup, 1) := by decide +kernel
theorem dL_law_4 : decode cL_law 4 = .ok (.invokespecial 9, 3) := by decide +kernel
theorem dL_law_7 : decode cL_law 7 = .ok (.astore_n 1, 1) := by decide +kernel
theorem dL_law_8 : decode cL_law 8 = .ok (.new 10, 3) := by decide +kernel
theorem dL_law_11 : decode cL_law 11 = .ok (.dup, 1) := by decide +kernel
theorem dL_law_12 : decode cL_law 12 = .ok (.invokespecial 12, 3) := by decide +kernel
theorem dL_law_15 : decode cL_law 15 = .ok (.astore_n 2, 1) := by decide +kernel
theorem dL_law_16 : decode cL_law 16 = .ok (.iconst 0, 1) := by decide +kernel
theorem dL_law_17 : decode cL_law 17 = .ok (.istore_n 3, 1) := by decide +kernel
theorem dL_law_18 : decode cL_law 18 = .ok (.iload_n 3, 1) := by decide +kernel
theorem dL_law_19 : decode cL_law 19 = .ok (.aload_n 0, 1) := by decide +kernel
theorem dL_law_20 : decode cL_law 20 = .ok (.arraylength, 1) := by decide +kernel
theorem dL_law_21 : decode cL_law 21 = .ok (.bipush 6, 2) := by decide +kernel
theorem dL_law_23 : decode cL_law 23 = .ok (.isub, 1) := by decide +kernel
theorem dL_law_24 : decode cL_law 24 = .ok (.if_icmp .gt 1297, 3) := by decide +kernel
theorem dL_law_27 : decode cL_law 27 = .ok (.aload_n 0, 1) := by decide +kernel
theorem dL_law_28 : decode cL_law 28 = .ok (.iload_n 3, 1) := by decide +kernel
theorem dL_law_29 : decode cL_law 29 = .ok (.iaload, 1) := by decide +kernel
theorem dL_law_30 : decode cL_law 30 = .ok (.bipush 63, 2) := by decide +kernel
theorem dL_law_32 : decode cL_law 32 = .ok (.iand, 1) := by decide +kernel
theorem dL_law_33 : decode cL_law 33 = .ok (.tableswitch 1282 0 37 #[167, 200, 243, 276, 309, 342, 385, 418, 451, 484, 497, 520, 543, 586, 609, 632, 655, 678, 701, 724, 757, 790, 823, 846, 869, 902, 915, 928, 971, 1045, 1108, 1131, 1164, 1197, 1210, 1223, 1236, 1259], 167) := by decide +kernel
theorem dL_law_200 : decode cL_law 200 = .ok (.aload_n 1, 1) := by decide +kernel
theorem dL_law_201 : decode cL_law 201 = .ok (.aload_n 0, 1) := by decide +kernel
theorem dL_law_202 : decode cL_law 202 = .ok (.iload_n 3, 1) := by decide +kernel
theorem dL_law_203 : decode cL_law 203 = .ok (.iconst 1, 1) := by decide +kernel
theorem dL_law_204 : decode cL_law 204 = .ok (.iadd, 1) := by decide +kernel
theorem dL_law_205 : decode cL_law 205 = .ok (.iaload, 1) := by decide +kernel
theorem dL_law_206 : decode cL_law 206 = .ok (.aload_n 0, 1) := by decide +kernel
theorem dL_law_207 : decode cL_law 207 = .ok (.iload_n 3, 1) := by decide +kernel
theorem dL_law_208 : decode cL_law 208 = .ok (.iconst 2, 1) := by decide +kernel
theorem dL_law_209 : decode cL_law 209 = .ok (.iadd, 1) := by decide +kernel
theorem dL_law_210 : decode cL_law 210 = .ok (.iaload, 1) := by decide +kernel
theorem dL_law_211 : decode cL_law 211 = .ok (.invokevirtual 13, 3) := by decide +kernel
theorem dL_law_214 : decode cL_law 214 = .ok (.aload_n 2, 1) := by decide +kernel
theorem dL_law_215 : decode cL_law 215 = .ok (.aload_n 0, 1) := by decide +kernel
theorem dL_law_216 : decode cL_law 216 = .ok (.iload_n 3, 1) := by decide +kernel
theorem dL_law_217 : decode cL_law 217 = .ok (.iconst 1, 1) := by decide +kernel
theorem dL_law_218 : decode cL_law 218 = .ok (.iadd, 1) := by decide +kernel
theorem dL_law_219 : decode cL_law 219 = .ok (.iaload, 1) := by decide +kernel
theorem dL_law_220 : decode cL_law 220 = .ok (.aload_n 0, 1) := by decide +kernel
theorem dL_law_221 : decode cL_law 221 = .ok (.iload_n 3, 1) := by decide +kernel
theorem dL_law_222 : decode cL_law 222 = .ok (.iconst 2, 1) := by decide +kernel
theorem dL_law_223 : decode cL_law 223 = .ok (.iadd, 1) := by decide +kernel
theorem dL_law_224 : decode cL_law 224 = .ok (.iaload, 1) := by decide +kernel
theorem dL_law_225 : decode cL_law 225 = .ok (.invokevirtual 17, 3) := by decide +kernel
theorem dL_law_228 : decode cL_law 228 = .ok (.if_icmp .eq 1087, 3) := by decide +kernel
theorem dL_law_231 : decode cL_law 231 = .ok (.iconst 0, 1) := by decide +kernel
theorem dL_law_232 : decode cL_law 232 = .ok (.ireturn, 1) := by decide +kernel
theorem dL_law_233 : decode cL_law 233 = .ok (.aload_n 1, 1) := by decide +kernel
theorem dL_law_234 : decode cL_law 234 = .ok (.aload_n 0, 1) := by decide +kernel
theorem dL_law_235 : decode cL_law 235 = .ok (.iload_n 3, 1) := by decide +kernel
theorem dL_law_236 : decode cL_law 236 = .ok (.iconst 1, 1) := by decide +kernel
theorem dL_law_237 : decode cL_law 237 = .ok (.iadd, 1) := by decide +kernel
theorem dL_law_238 : decode cL_law 238 = .ok (.iaload, 1) := by decide +kernel
theorem dL_law_239 : decode cL_law 239 = .ok (.aload_n 0, 1) := by decide +kernel
theorem dL_law_240 : decode cL_law 240 = .ok (.iload_n 3, 1) := by decide +kernel
theorem dL_law_241 : decode cL_law 241 = .ok (.iconst 2, 1) := by decide +kernel
theorem dL_law_242 : decode cL_law 242 = .ok (.iadd, 1) := by decide +kernel
theorem dL_law_243 : decode cL_law 243 = .ok (.iaload, 1) := by decide +kernel
theorem dL_law_244 : decode cL_law 244 = .ok (.aload_n 0, 1) := by decide +kernel
theorem dL_law_245 : decode cL_law 245 = .ok (.iload_n 3, 1) := by decide +kernel
theorem dL_law_246 : decode cL_law 246 = .ok (.iconst 3, 1) := by decide +kernel
theorem dL_law_247 : decode cL_law 247 = .ok (.iadd, 1) := by decide +kernel
theorem dL_law_248 : decode cL_law 248 = .ok (.iaload, 1) := by decide +kernel
theorem dL_law_249 : decode cL_law 249 = .ok (.invokevirtual 18, 3) := by decide +kernel
theorem dL_law_252 : decode cL_law 252 = .ok (.aload_n 2, 1) := by decide +kernel
theorem dL_law_253 : decode cL_law 253 = .ok (.aload_n 0, 1) := by decide +kernel
theorem dL_law_254 : decode cL_law 254 = .ok (.iload_n 3, 1) := by decide +kernel
theorem dL_law_255 : decode cL_law 255 = .ok (.iconst 1, 1) := by decide +kernel
theorem dL_law_256 : decode cL_law 256 = .ok (.iadd, 1) := by decide +kernel
theorem dL_law_257 : decode cL_law 257 = .ok (.iaload, 1) := by decide +kernel
theorem dL_law_258 : decode cL_law 258 = .ok (.aload_n 0, 1) := by decide +kernel
theorem dL_law_259 : decode cL_law 259 = .ok (.iload_n 3, 1) := by decide +kernel
theorem dL_law_260 : decode cL_law 260 = .ok (.iconst 2, 1) := by decide +kernel
theorem dL_law_261 : decode cL_law 261 = .ok (.iadd, 1) := by decide +kernel
theorem dL_law_262 : decode cL_law 262 = .ok (.iaload, 1) := by decide +kernel
theorem dL_law_263 : decode cL_law 263 = .ok (.aload_n 0, 1) := by decide +kernel
theorem dL_law_264 : decode cL_law 264 = .ok (.iload_n 3, 1) := by decide +kernel
theorem dL_law_265 : decode cL_law 265 = .ok (.iconst 3, 1) := by decide +kernel
theorem dL_law_266 : decode cL_law 266 = .ok (.iadd, 1) := by decide +kernel
theorem dL_law_267 : decode cL_law 267 = .ok (.iaload, 1) := by decide +kernel
theorem dL_law_268 : decode cL_law 268 = .ok (.invokevirtual 22, 3) := by decide +kernel
theorem dL_law_271 : decode cL_law 271 = .ok (.if_icmp .eq 1044, 3) := by decide +kernel
theorem dL_law_274 : decode cL_law 274 = .ok (.iconst 0, 1) := by decide +kernel
theorem dL_law_275 : decode cL_law 275 = .ok (.ireturn, 1) := by decide +kernel
theorem dL_law_276 : decode cL_law 276 = .ok (.aload_n 1, 1) := by decide +kernel
theorem dL_law_277 : decode cL_law 277 = .ok (.aload_n 0, 1) := by decide +kernel
theorem dL_law_278 : decode cL_law 278 = .ok (.iload_n 3, 1) := by decide +kernel
theorem dL_law_279 : decode cL_law 279 = .ok (.iconst 1, 1) := by decide +kernel
theorem dL_law_280 : decode cL_law 280 = .ok (.iadd, 1) := by decide +kernel
theorem dL_law_281 : decode cL_law 281 = .ok (.iaload, 1) := by decide +kernel
theorem dL_law_282 : decode cL_law 282 = .ok (.aload_n 0, 1) := by decide +kernel
theorem dL_law_283 : decode cL_law 283 = .ok (.iload_n 3, 1) := by decide +kernel
theorem dL_law_284 : decode cL_law 284 = .ok (.iconst 2, 1) := by decide +kernel
theorem dL_law_285 : decode cL_law 285 = .ok (.iadd, 1) := by decide +kernel
theorem dL_law_286 : decode cL_law 286 = .ok (.iaload, 1) := by decide +kernel
theorem dL_law_287 : decode cL_law 287 = .ok (.invokevirtual 23, 3) := by decide +kernel
theorem dL_law_290 : decode cL_law 290 = .ok (.aload_n 2, 1) := by decide +kernel
theorem dL_law_291 : decode cL_law 291 = .ok (.aload_n 0, 1) := by decide +kernel
theorem dL_law_292 : decode cL_law 292 = .ok (.iload_n 3, 1) := by decide +kernel
theorem dL_law_293 : decode cL_law 293 = .ok (.iconst 1, 1) := by decide +kernel
theorem dL_law_294 : decode cL_law 294 = .ok (.iadd, 1) := by decide +kernel
theorem dL_law_295 : decode cL_law 295 = .ok (.iaload, 1) := by decide +kernel
theorem dL_law_296 : decode cL_law 296 = .ok (.aload_n 0, 1) := by decide +kernel
theorem dL_law_297 : decode cL_law 297 = .ok (.iload_n 3, 1) := by decide +kernel
theorem dL_law_298 : decode cL_law 298 = .ok (.iconst 2, 1) := by decide +kernel
theorem dL_law_299 : decode cL_law 299 = .ok (.iadd, 1) := by decide +kernel
theorem dL_law_300 : decode cL_law 300 = .ok (.iaload, 1) := by decide +kernel
theorem dL_law_301 : decode cL_law 301 = .ok (.invokevirtual 26, 3) := by decide +kernel
theorem dL_law_304 : decode cL_law 304 = .ok (.if_icmp .eq 1011, 3) := by decide +kernel
theorem dL_law_307 : decode cL_law 307 = .ok (.iconst 0, 1) := by decide +kernel
theorem dL_law_308 : decode cL_law 308 = .ok (.ireturn, 1) := by decide +kernel
theorem dL_law_309 : decode cL_law 309 = .ok (.aload_n 1, 1) := by decide +kernel
theorem dL_law_310 : decode cL_law 310 = .ok (.aload_n 0, 1) := by decide +kernel
theorem dL_law_311 : decode cL_law 311 = .ok (.iload_n 3, 1) := by decide +kernel
theorem dL_law_312 : decode cL_law 312 = .ok (.iconst 1, 1) := by decide +kernel
theorem dL_law_313 : decode cL_law 313 = .ok (.iadd, 1) := by decide +kernel
theorem dL_law_314 : decode cL_law 314 = .ok (.iaload, 1) := by decide +kernel
theorem dL_law_315 : decode cL_law 315 = .ok (.aload_n 0, 1) := by decide +kernel
theorem dL_law_316 : decode cL_law 316 = .ok (.iload_n 3, 1) := by decide +kernel
theorem dL_law_317 : decode cL_law 317 = .ok (.iconst 2, 1) := by decide +kernel
theorem dL_law_318 : decode cL_law 318 = .ok (.iadd, 1) := by decide +kernel
theorem dL_law_319 : decode cL_law 319 = .ok (.iaload, 1) := by decide +kernel
theorem dL_law_320 : decode cL_law 320 = .ok (.invokevirtual 27, 3) := by decide +kernel
theorem dL_law_323 : decode cL_law 323 = .ok (.aload_n 2, 1) := by decide +kernel
theorem dL_law_324 : decode cL_law 324 = .ok (.aload_n 0, 1) := by decide +kernel
theorem dL_law_325 : decode cL_law 325 = .ok (.iload_n 3, 1) := by decide +kernel
theorem dL_law_326 : decode cL_law 326 = .ok (.iconst 1, 1) := by decide +kernel
theorem dL_law_327 : decode cL_law 327 = .ok (.iadd, 1) := by decide +kernel
theorem dL_law_328 : decode cL_law 328 = .ok (.iaload, 1) := by decide +kernel
theorem dL_law_329 : decode cL_law 329 = .ok (.aload_n 0, 1) := by decide +kernel
theorem dL_law_330 : decode cL_law 330 = .ok (.iload_n 3, 1) := by decide +kernel
theorem dL_law_331 : decode cL_law 331 = .ok (.iconst 2, 1) := by decide +kernel
theorem dL_law_332 : decode cL_law 332 = .ok (.iadd, 1) := by decide +kernel
theorem dL_law_333 : decode cL_law 333 = .ok (.iaload, 1) := by decide +kernel
theorem dL_law_334 : decode cL_law 334 = .ok (.invokevirtual 30, 3) := by decide +kernel
theorem dL_law_337 : decode cL_law 337 = .ok (.if_icmp .eq 978, 3) := by decide +kernel
theorem dL_law_340 : decode cL_law 340 = .ok (.iconst 0, 1) := by decide +kernel
theorem dL_law_341 : decode cL_law 341 = .ok (.ireturn, 1) := by decide +kernel
theorem dL_law_342 : decode cL_law 342 = .ok (.aload_n 1, 1) := by decide +kernel
theorem dL_law_343 : decode cL_law 343 = .ok (.aload_n 0, 1) := by decide +kernel
theorem dL_law_344 : decode cL_law 344 = .ok (.iload_n 3, 1) := by decide +kernel
theorem dL_law_345 : decode cL_law 345 = .ok (.iconst 1, 1) := by decide +kernel
theorem dL_law_346 : decode cL_law 346 = .ok (.iadd, 1) := by decide +kernel
theorem dL_law_347 : decode cL_law 347 = .ok (.iaload, 1) := by decide +kernel
theorem dL_law_348 : decode cL_law 348 = .ok (.aload_n 0, 1) := by decide +kernel
theorem dL_law_349 : decode cL_law 349 = .ok (.iload_n 3, 1) := by decide +kernel
theorem dL_law_350 : decode cL_law 350 = .ok (.iconst 2, 1) := by decide +kernel
theorem dL_law_351 : decode cL_law 351 = .ok (.iadd, 1) := by decide +kernel
theorem dL_law_352 : decode cL_law 352 = .ok (.iaload, 1) := by decide +kernel
theorem dL_law_353 : decode cL_law 353 = .ok (.invokevirtual 31, 3) := by decide +kernel
theorem dL_law_356 : decode cL_law 356 = .ok (.aload_n 2, 1) := by decide +kernel
theorem dL_law_357 : decode cL_law 357 = .ok (.aload_n 0, 1) := by decide +kernel
theorem dL_law_358 : decode cL_law 358 = .ok (.iload_n 3, 1) := by decide +kernel
theorem dL_law_359 : decode cL_law 359 = .ok (.iconst 1, 1) := by decide +kernel
theorem dL_law_360 : decode cL_law 360 = .ok (.iadd, 1) := by decide +kernel
theorem dL_law_361 : decode cL_law 361 = .ok (.iaload, 1) := by decide +kernel
theorem dL_law_362 : decode cL_law 362 = .ok (.aload_n 0, 1) := by decide +kernel
theorem dL_law_363 : decode cL_law 363 = .ok (.iload_n 3, 1) := by decide +kernel
theorem dL_law_364 : decode cL_law 364 = .ok (.iconst 2, 1) := by decide +kernel
theorem dL_law_365 : decode cL_law 365 = .ok (.iadd, 1) := by decide +kernel
theorem dL_law_366 : decode cL_law 366 = .ok (.iaload, 1) := by decide +kernel
theorem dL_law_367 : decode cL_law 367 = .ok (.invokevirtual 34, 3) := by decide +kernel
theorem dL_law_370 : decode cL_law 370 = .ok (.if_icmp .eq 945, 3) := by decide +kernel
theorem dL_law_373 : decode cL_law 373 = .ok (.iconst 0, 1) := by decide +kernel
theorem dL_law_374 : decode cL_law 374 = .ok (.ireturn, 1) := by decide +kernel
theorem dL_law_375 : decode cL_law 375 = .ok (.aload_n 1, 1) := by decide +kernel
theorem dL_law_376 : decode cL_law 376 = .ok (.aload_n 0, 1) := by decide +kernel
theorem dL_law_377 : decode cL_law 377 = .ok (.iload_n 3, 1) := by decide +kernel
theorem dL_law_378 : decode cL_law 378 = .ok (.iconst 1, 1) := by decide +kernel
theorem dL_law_379 : decode cL_law 379 = .ok (.iadd, 1) := by decide +kernel
theorem dL_law_380 : decode cL_law 380 = .ok (.iaload, 1) := by decide +kernel
theorem dL_law_381 : decode cL_law 381 = .ok (.aload_n 0, 1) := by decide +kernel
theorem dL_law_382 : decode cL_law 382 = .ok (.iload_n 3, 1) := by decide +kernel
theorem dL_law_383 : decode cL_law 383 = .ok (.iconst 2, 1) := by decide +kernel
theorem dL_law_384 : decode cL_law 384 = .ok (.iadd, 1) := by decide +kernel
theorem dL_law_385 : decode cL_law 385 = .ok (.iaload, 1) := by decide +kernel
theorem dL_law_386 : decode cL_law 386 = .ok (.aload_n 0, 1) := by decide +kernel
theorem dL_law_387 : decode cL_law 387 = .ok (.iload_n 3, 1) := by decide +kernel
theorem dL_law_388 : decode cL_law 388 = .ok (.iconst 3, 1) := by decide +kernel
theorem dL_law_389 : decode cL_law 389 = .ok (.iadd, 1) := by decide +kernel
theorem dL_law_390 : decode cL_law 390 = .ok (.iaload, 1) := by decide +kernel
theorem dL_law_391 : decode cL_law 391 = .ok (.invokevirtual 35, 3) := by decide +kernel
theorem dL_law_394 : decode cL_law 394 = .ok (.aload_n 2, 1) := by decide +kernel
theorem dL_law_395 : decode cL_law 395 = .ok (.aload_n 0, 1) := by decide +kernel
theorem dL_law_396 : decode cL_law 396 = .ok (.iload_n 3, 1) := by decide +kernel
theorem dL_law_397 : decode cL_law 397 = .ok (.iconst 1, 1) := by decide +kernel
theorem dL_law_398 : decode cL_law 398 = .ok (.iadd, 1) := by decide +kernel
theorem dL_law_399 : decode cL_law 399 = .ok (.iaload, 1) := by decide +kernel
theorem dL_law_400 : decode cL_law 400 = .ok (.aload_n 0, 1) := by decide +kernel
theorem dL_law_401 : decode cL_law 401 = .ok (.iload_n 3, 1) := by decide +kernel
theorem dL_law_402 : decode cL_law 402 = .ok (.iconst 2, 1) := by decide +kernel
theorem dL_law_403 : decode cL_law 403 = .ok (.iadd, 1) := by decide +kernel
theorem dL_law_404 : decode cL_law 404 = .ok (.iaload, 1) := by decide +kernel
theorem dL_law_405 : decode cL_law 405 = .ok (.aload_n 0, 1) := by decide +kernel
theorem dL_law_406 : decode cL_law 406 = .ok (.iload_n 3, 1) := by decide +kernel
theorem dL_law_407 : decode cL_law 407 = .ok (.iconst 3, 1) := by decide +kernel
theorem dL_law_408 : decode cL_law 408 = .ok (.iadd, 1) := by decide +kernel
theorem dL_law_409 : decode cL_law 409 = .ok (.iaload, 1) := by decide +kernel
theorem dL_law_410 : decode cL_law 410 = .ok (.invokevirtual 38, 3) := by decide +kernel
theorem dL_law_413 : decode cL_law 413 = .ok (.if_icmp .eq 902, 3) := by decide +kernel
theorem dL_law_416 : decode cL_law 416 = .ok (.iconst 0, 1) := by decide +kernel
theorem dL_law_417 : decode cL_law 417 = .ok (.ireturn, 1) := by decide +kernel
theorem dL_law_418 : decode cL_law 418 = .ok (.aload_n 1, 1) := by decide +kernel
theorem dL_law_419 : decode cL_law 419 = .ok (.aload_n 0, 1) := by decide +kernel
theorem dL_law_420 : decode cL_law 420 = .ok (.iload_n 3, 1) := by decide +kernel
theorem dL_law_421 : decode cL_law 421 = .ok (.iconst 1, 1) := by decide +kernel
theorem dL_law_422 : decode cL_law 422 = .ok (.iadd, 1) := by decide +kernel
theorem dL_law_423 : decode cL_law 423 = .ok (.iaload, 1) := by decide +kernel
theorem dL_law_424 : decode cL_law 424 = .ok (.aload_n 0, 1) := by decide +kernel
theorem dL_law_425 : decode cL_law 425 = .ok (.iload_n 3, 1) := by decide +kernel
theorem dL_law_426 : decode cL_law 426 = .ok (.iconst 2, 1) := by decide +kernel
theorem dL_law_427 : decode cL_law 427 = .ok (.iadd, 1) := by decide +kernel
theorem dL_law_428 : decode cL_law 428 = .ok (.iaload, 1) := by decide +kernel
theorem dL_law_429 : decode cL_law 429 = .ok (.invokevirtual 39, 3) := by decide +kernel
theorem dL_law_432 : decode cL_law 432 = .ok (.aload_n 2, 1) := by decide +kernel
theorem dL_law_433 : decode cL_law 433 = .ok (.aload_n 0, 1) := by decide +kernel
theorem dL_law_434 : decode cL_law 434 = .ok (.iload_n 3, 1) := by decide +kernel
theorem dL_law_435 : decode cL_law 435 = .ok (.iconst 1, 1) := by decide +kernel
theorem dL_law_436 : decode cL_law 436 = .ok (.iadd, 1) := by decide +kernel
theorem dL_law_437 : decode cL_law 437 = .ok (.iaload, 1) := by decide +kernel
theorem dL_law_438 : decode cL_law 438 = .ok (.aload_n 0, 1) := by decide +kernel
theorem dL_law_439 : decode cL_law 439 = .ok (.iload_n 3, 1) := by decide +kernel
theorem dL_law_440 : decode cL_law 440 = .ok (.iconst 2, 1) := by decide +kernel
theorem dL_law_441 : decode cL_law 441 = .ok (.iadd, 1) := by decide +kernel
theorem dL_law_442 : decode cL_law 442 = .ok (.iaload, 1) := by decide +kernel
theorem dL_law_443 : decode cL_law 443 = .ok (.invokevirtual 42, 3) := by decide +kernel
theorem dL_law_446 : decode cL_law 446 = .ok (.if_icmp .eq 869, 3) := by decide +kernel
theorem dL_law_449 : decode cL_law 449 = .ok (.iconst 0, 1) := by decide +kernel
theorem dL_law_450 : decode cL_law 450 = .ok (.ireturn, 1) := by decide +kernel
theorem dL_law_451 : decode cL_law 451 = .ok (.aload_n 1, 1) := by decide +kernel
theorem dL_law_452 : decode cL_law 452 = .ok (.aload_n 0, 1) := by decide +kernel
theorem dL_law_453 : decode cL_law 453 = .ok (.iload_n 3, 1) := by decide +kernel
theorem dL_law_454 : decode cL_law 454 = .ok (.iconst 1, 1) := by decide +kernel
theorem dL_law_455 : decode cL_law 455 = .ok (.iadd, 1) := by decide +kernel
theorem dL_law_456 : decode cL_law 456 = .ok (.iaload, 1) := by decide +kernel
theorem dL_law_457 : decode cL_law 457 = .ok (.aload_n 0, 1) := by decide +kernel
theorem dL_law_458 : decode cL_law 458 = .ok (.iload_n 3, 1) := by decide +kernel
theorem dL_law_459 : decode cL_law 459 = .ok (.iconst 2, 1) := by decide +kernel
theorem dL_law_460 : decode cL_law 460 = .ok (.iadd, 1) := by decide +kernel
theorem dL_law_461 : decode cL_law 461 = .ok (.iaload, 1) := by decide +kernel
theorem dL_law_462 : decode cL_law 462 = .ok (.invokevirtual 43, 3) := by decide +kernel
theorem dL_law_465 : decode cL_law 465 = .ok (.aload_n 2, 1) := by decide +kernel
theorem dL_law_466 : decode cL_law 466 = .ok (.aload_n 0, 1) := by decide +kernel
theorem dL_law_467 : decode cL_law 467 = .ok (.iload_n 3, 1) := by decide +kernel
theorem dL_law_468 : decode cL_law 468 = .ok (.iconst 1, 1) := by decide +kernel
theorem dL_law_469 : decode cL_law 469 = .ok (.iadd, 1) := by decide +kernel
theorem dL_law_470 : decode cL_law 470 = .ok (.iaload, 1) := by decide +kernel
theorem dL_law_471 : decode cL_law 471 = .ok (.aload_n 0, 1) := by decide +kernel
theorem dL_law_472 : decode cL_law 472 = .ok (.iload_n 3, 1) := by decide +kernel
theorem dL_law_473 : decode cL_law 473 = .ok (.iconst 2, 1) := by decide +kernel
theorem dL_law_474 : decode cL_law 474 = .ok (.iadd, 1) := by decide +kernel
theorem dL_law_475 : decode cL_law 475 = .ok (.iaload, 1) := by decide +kernel
theorem dL_law_476 : decode cL_law 476 = .ok (.invokevirtual 46, 3) := by decide +kernel
theorem dL_law_479 : decode cL_law 479 = .ok (.if_icmp .eq 836, 3) := by decide +kernel
theorem dL_law_482 : decode cL_law 482 = .ok (.iconst 0, 1) := by decide +kernel
theorem dL_law_483 : decode cL_law 483 = .ok (.ireturn, 1) := by decide +kernel
theorem dL_law_484 : decode cL_law 484 = .ok (.aload_n 1, 1) := by decide +kernel
theorem dL_law_485 : decode cL_law 485 = .ok (.aload_n 0, 1) := by decide +kernel
theorem dL_law_486 : decode cL_law 486 = .ok (.iload_n 3, 1) := by decide +kernel
theorem dL_law_487 : decode cL_law 487 = .ok (.iconst 1, 1) := by decide +kernel
theorem dL_law_488 : decode cL_law 488 = .ok (.iadd, 1) := by decide +kernel
theorem dL_law_489 : decode cL_law 489 = .ok (.iaload, 1) := by decide +kernel
theorem dL_law_490 : decode cL_law 490 = .ok (.aload_n 0, 1) := by decide +kernel
theorem dL_law_491 : decode cL_law 491 = .ok (.iload_n 3, 1) := by decide +kernel
theorem dL_law_492 : decode cL_law 492 = .ok (.iconst 2, 1) := by decide +kernel
theorem dL_law_493 : decode cL_law 493 = .ok (.iadd, 1) := by decide +kernel
theorem dL_law_494 : decode cL_law 494 = .ok (.iaload, 1) := by decide +kernel
theorem dL_law_495 : decode cL_law 495 = .ok (.invokevirtual 47, 3) := by decide +kernel
theorem dL_law_498 : decode cL_law 498 = .ok (.aload_n 2, 1) := by decide +kernel
theorem dL_law_499 : decode cL_law 499 = .ok (.aload_n 0, 1) := by decide +kernel
theorem dL_law_500 : decode cL_law 500 = .ok (.iload_n 3, 1) := by decide +kernel
theorem dL_law_501 : decode cL_law 501 = .ok (.iconst 1, 1) := by decide +kernel
theorem dL_law_502 : decode cL_law 502 = .ok (.iadd, 1) := by decide +kernel
theorem dL_law_503 : decode cL_law 503 = .ok (.iaload, 1) := by decide +kernel
theorem dL_law_504 : decode cL_law 504 = .ok (.aload_n 0, 1) := by decide +kernel
theorem dL_law_505 : decode cL_law 505 = .ok (.iload_n 3, 1) := by decide +kernel
theorem dL_law_506 : decode cL_law 506 = .ok (.iconst 2, 1) := by decide +kernel
theorem dL_law_507 : decode cL_law 507 = .ok (.iadd, 1) := by decide +kernel
theorem dL_law_508 : decode cL_law 508 = .ok (.iaload, 1) := by decide +kernel
theorem dL_law_509 : decode cL_law 509 = .ok (.invokevirtual 50, 3) := by decide +kernel
theorem dL_law_512 : decode cL_law 512 = .ok (.if_icmp .eq 803, 3) := by decide +kernel
theorem dL_law_515 : decode cL_law 515 = .ok (.iconst 0, 1) := by decide +kernel
theorem dL_law_516 : decode cL_law 516 = .ok (.ireturn, 1) := by decide +kernel
theorem dL_law_517 : decode cL_law 517 = .ok (.aload_n 1, 1) := by decide +kernel
theorem dL_law_518 : decode cL_law 518 = .ok (.invokevirtual 51, 3) := by decide +kernel
theorem dL_law_521 : decode cL_law 521 = .ok (.aload_n 2, 1) := by decide +kernel
theorem dL_law_522 : decode cL_law 522 = .ok (.invokevirtual 55, 3) := by decide +kernel
theorem dL_law_525 : decode cL_law 525 = .ok (.if_icmp .eq 790, 3) := by decide +kernel
theorem dL_law_528 : decode cL_law 528 = .ok (.iconst 0, 1) := by decide +kernel
theorem dL_law_529 : decode cL_law 529 = .ok (.ireturn, 1) := by decide +kernel
theorem dL_law_530 : decode cL_law 530 = .ok (.aload_n 1, 1) := by decide +kernel
theorem dL_law_531 : decode cL_law 531 = .ok (.aload_n 0, 1) := by decide +kernel
theorem dL_law_532 : decode cL_law 532 = .ok (.iload_n 3, 1) := by decide +kernel
theorem dL_law_533 : decode cL_law 533 = .ok (.iconst 1, 1) := by decide +kernel
theorem dL_law_534 : decode cL_law 534 = .ok (.iadd, 1) := by decide +kernel
theorem dL_law_535 : decode cL_law 535 = .ok (.iaload, 1) := by decide +kernel
theorem dL_law_536 : decode cL_law 536 = .ok (.invokevirtual 56, 3) := by decide +kernel
theorem dL_law_539 : decode cL_law 539 = .ok (.aload_n 2, 1) := by decide +kernel
theorem dL_law_540 : decode cL_law 540 = .ok (.aload_n 0, 1) := by decide +kernel
theorem dL_law_541 : decode cL_law 541 = .ok (.iload_n 3, 1) := by decide +kernel
theorem dL_law_542 : decode cL_law 542 = .ok (.iconst 1, 1) := by decide +kernel
theorem dL_law_543 : decode cL_law 543 = .ok (.iadd, 1) := by decide +kernel
theorem dL_law_544 : decode cL_law 544 = .ok (.iaload, 1) := by decide +kernel
theorem dL_law_545 : decode cL_law 545 = .ok (.invokevirtual 60, 3) := by decide +kernel
theorem dL_law_548 : decode cL_law 548 = .ok (.if_icmp .eq 767, 3) := by decide +kernel
theorem dL_law_551 : decode cL_law 551 = .ok (.iconst 0, 1) := by decide +kernel
theorem dL_law_552 : decode cL_law 552 = .ok (.ireturn, 1) := by decide +kernel
theorem dL_law_553 : decode cL_law 553 = .ok (.aload_n 1, 1) := by decide +kernel
theorem dL_law_554 : decode cL_law 554 = .ok (.aload_n 0, 1) := by decide +kernel
theorem dL_law_555 : decode cL_law 555 = .ok (.iload_n 3, 1) := by decide +kernel
theorem dL_law_556 : decode cL_law 556 = .ok (.iconst 1, 1) := by decide +kernel
theorem dL_law_557 : decode cL_law 557 = .ok (.iadd, 1) := by decide +kernel
theorem dL_law_558 : decode cL_law 558 = .ok (.iaload, 1) := by decide +kernel
theorem dL_law_559 : decode cL_law 559 = .ok (.invokevirtual 61, 3) := by decide +kernel
theorem dL_law_562 : decode cL_law 562 = .ok (.aload_n 2, 1) := by decide +kernel
theorem dL_law_563 : decode cL_law 563 = .ok (.aload_n 0, 1) := by decide +kernel
theorem dL_law_564 : decode cL_law 564 = .ok (.iload_n 3, 1) := by decide +kernel
theorem dL_law_565 : decode cL_law 565 = .ok (.iconst 1, 1) := by decide +kernel
theorem dL_law_566 : decode cL_law 566 = .ok (.iadd, 1) := by decide +kernel
theorem dL_law_567 : decode cL_law 567 = .ok (.iaload, 1) := by decide +kernel
theorem dL_law_568 : decode cL_law 568 = .ok (.invokevirtual 64, 3) := by decide +kernel
theorem dL_law_571 : decode cL_law 571 = .ok (.if_icmp .eq 744, 3) := by decide +kernel
theorem dL_law_574 : decode cL_law 574 = .ok (.iconst 0, 1) := by decide +kernel
theorem dL_law_575 : decode cL_law 575 = .ok (.ireturn, 1) := by decide +kernel
theorem dL_law_576 : decode cL_law 576 = .ok (.aload_n 1, 1) := by decide +kernel
theorem dL_law_577 : decode cL_law 577 = .ok (.aload_n 0, 1) := by decide +kernel
theorem dL_law_578 : decode cL_law 578 = .ok (.iload_n 3, 1) := by decide +kernel
theorem dL_law_579 : decode cL_law 579 = .ok (.iconst 1, 1) := by decide +kernel
theorem dL_law_580 : decode cL_law 580 = .ok (.iadd, 1) := by decide +kernel
theorem dL_law_581 : decode cL_law 581 = .ok (.iaload, 1) := by decide +kernel
theorem dL_law_582 : decode cL_law 582 = .ok (.aload_n 0, 1) := by decide +kernel
theorem dL_law_583 : decode cL_law 583 = .ok (.iload_n 3, 1) := by decide +kernel
theorem dL_law_584 : decode cL_law 584 = .ok (.iconst 2, 1) := by decide +kernel
theorem dL_law_585 : decode cL_law 585 = .ok (.iadd, 1) := by decide +kernel
theorem dL_law_586 : decode cL_law 586 = .ok (.iaload, 1) := by decide +kernel
theorem dL_law_587 : decode cL_law 587 = .ok (.aload_n 0, 1) := by decide +kernel
theorem dL_law_588 : decode cL_law 588 = .ok (.iload_n 3, 1) := by decide +kernel
theorem dL_law_589 : decode cL_law 589 = .ok (.iconst 3, 1) := by decide +kernel
theorem dL_law_590 : decode cL_law 590 = .ok (.iadd, 1) := by decide +kernel
theorem dL_law_591 : decode cL_law 591 = .ok (.iaload, 1) := by decide +kernel
theorem dL_law_592 : decode cL_law 592 = .ok (.invokevirtual 65, 3) := by decide +kernel
theorem dL_law_595 : decode cL_law 595 = .ok (.aload_n 2, 1) := by decide +kernel
theorem dL_law_596 : decode cL_law 596 = .ok (.aload_n 0, 1) := by decide +kernel
theorem dL_law_597 : decode cL_law 597 = .ok (.iload_n 3, 1) := by decide +kernel
theorem dL_law_598 : decode cL_law 598 = .ok (.iconst 1, 1) := by decide +kernel
theorem dL_law_599 : decode cL_law 599 = .ok (.iadd, 1) := by decide +kernel
theorem dL_law_600 : decode cL_law 600 = .ok (.iaload, 1) := by decide +kernel
theorem dL_law_601 : decode cL_law 601 = .ok (.aload_n 0, 1) := by decide +kernel
theorem dL_law_602 : decode cL_law 602 = .ok (.iload_n 3, 1) := by decide +kernel
theorem dL_law_603 : decode cL_law 603 = .ok (.iconst 2, 1) := by decide +kernel
theorem dL_law_604 : decode cL_law 604 = .ok (.iadd, 1) := by decide +kernel
theorem dL_law_605 : decode cL_law 605 = .ok (.iaload, 1) := by decide +kernel
theorem dL_law_606 : decode cL_law 606 = .ok (.aload_n 0, 1) := by decide +kernel
theorem dL_law_607 : decode cL_law 607 = .ok (.iload_n 3, 1) := by decide +kernel
theorem dL_law_608 : decode cL_law 608 = .ok (.iconst 3, 1) := by decide +kernel
theorem dL_law_609 : decode cL_law 609 = .ok (.iadd, 1) := by decide +kernel
theorem dL_law_610 : decode cL_law 610 = .ok (.iaload, 1) := by decide +kernel
theorem dL_law_611 : decode cL_law 611 = .ok (.invokevirtual 68, 3) := by decide +kernel
theorem dL_law_614 : decode cL_law 614 = .ok (.if_icmp .eq 701, 3) := by decide +kernel
theorem dL_law_617 : decode cL_law 617 = .ok (.iconst 0, 1) := by decide +kernel
theorem dL_law_618 : decode cL_law 618 = .ok (.ireturn, 1) := by decide +kernel
theorem dL_law_619 : decode cL_law 619 = .ok (.aload_n 1, 1) := by decide +kernel
theorem dL_law_620 : decode cL_law 620 = .ok (.aload_n 0, 1) := by decide +kernel
theorem dL_law_621 : decode cL_law 621 = .ok (.iload_n 3, 1) := by decide +kernel
theorem dL_law_622 : decode cL_law 622 = .ok (.iconst 1, 1) := by decide +kernel
theorem dL_law_623 : decode cL_law 623 = .ok (.iadd, 1) := by decide +kernel
theorem dL_law_624 : decode cL_law 624 = .ok (.iaload, 1) := by decide +kernel
theorem dL_law_625 : decode cL_law 625 = .ok (.invokevirtual 69, 3) := by decide +kernel
theorem dL_law_628 : decode cL_law 628 = .ok (.aload_n 2, 1) := by decide +kernel
theorem dL_law_629 : decode cL_law 629 = .ok (.aload_n 0, 1) := by decide +kernel
theorem dL_law_630 : decode cL_law 630 = .ok (.iload_n 3, 1) := by decide +kernel
theorem dL_law_631 : decode cL_law 631 = .ok (.iconst 1, 1) := by decide +kernel
theorem dL_law_632 : decode cL_law 632 = .ok (.iadd, 1) := by decide +kernel
theorem dL_law_633 : decode cL_law 633 = .ok (.iaload, 1) := by decide +kernel
theorem dL_law_634 : decode cL_law 634 = .ok (.invokevirtual 72, 3) := by decide +kernel
theorem dL_law_637 : decode cL_law 637 = .ok (.if_icmp .eq 678, 3) := by decide +kernel
theorem dL_law_640 : decode cL_law 640 = .ok (.iconst 0, 1) := by decide +kernel
theorem dL_law_641 : decode cL_law 641 = .ok (.ireturn, 1) := by decide +kernel
theorem dL_law_642 : decode cL_law 642 = .ok (.aload_n 1, 1) := by decide +kernel
theorem dL_law_643 : decode cL_law 643 = .ok (.aload_n 0, 1) := by decide +kernel
theorem dL_law_644 : decode cL_law 644 = .ok (.iload_n 3, 1) := by decide +kernel
theorem dL_law_645 : decode cL_law 645 = .ok (.iconst 1, 1) := by decide +kernel
theorem dL_law_646 : decode cL_law 646 = .ok (.iadd, 1) := by decide +kernel
theorem dL_law_647 : decode cL_law 647 = .ok (.iaload, 1) := by decide +kernel
theorem dL_law_648 : decode cL_law 648 = .ok (.invokevirtual 73, 3) := by decide +kernel
theorem dL_law_651 : decode cL_law 651 = .ok (.aload_n 2, 1) := by decide +kernel
theorem dL_law_652 : decode cL_law 652 = .ok (.aload_n 0, 1) := by decide +kernel
theorem dL_law_653 : decode cL_law 653 = .ok (.iload_n 3, 1) := by decide +kernel
theorem dL_law_654 : decode cL_law 654 = .ok (.iconst 1, 1) := by decide +kernel
theorem dL_law_655 : decode cL_law 655 = .ok (.iadd, 1) := by decide +kernel
theorem dL_law_656 : decode cL_law 656 = .ok (.iaload, 1) := by decide +kernel
theorem dL_law_657 : decode cL_law 657 = .ok (.invokevirtual 76, 3) := by decide +kernel
theorem dL_law_660 : decode cL_law 660 = .ok (.if_icmp .eq 655, 3) := by decide +kernel
theorem dL_law_663 : decode cL_law 663 = .ok (.iconst 0, 1) := by decide +kernel
theorem dL_law_664 : decode cL_law 664 = .ok (.ireturn, 1) := by decide +kernel
theorem dL_law_665 : decode cL_law 665 = .ok (.aload_n 1, 1) := by decide +kernel
theorem dL_law_666 : decode cL_law 666 = .ok (.aload_n 0, 1) := by decide +kernel
theorem dL_law_667 : decode cL_law 667 = .ok (.iload_n 3, 1) := by decide +kernel
theorem dL_law_668 : decode cL_law 668 = .ok (.iconst 1, 1) := by decide +kernel
theorem dL_law_669 : decode cL_law 669 = .ok (.iadd, 1) := by decide +kernel
theorem dL_law_670 : decode cL_law 670 = .ok (.iaload, 1) := by decide +kernel
theorem dL_law_671 : decode cL_law 671 = .ok (.invokevirtual 77, 3) := by decide +kernel
theorem dL_law_674 : decode cL_law 674 = .ok (.aload_n 2, 1) := by decide +kernel
theorem dL_law_675 : decode cL_law 675 = .ok (.aload_n 0, 1) := by decide +kernel
theorem dL_law_676 : decode cL_law 676 = .ok (.iload_n 3, 1) := by decide +kernel
theorem dL_law_677 : decode cL_law 677 = .ok (.iconst 1, 1) := by decide +kernel
theorem dL_law_678 : decode cL_law 678 = .ok (.iadd, 1) := by decide +kernel
theorem dL_law_679 : decode cL_law 679 = .ok (.iaload, 1) := by decide +kernel
theorem dL_law_680 : decode cL_law 680 = .ok (.invokevirtual 80, 3) := by decide +kernel
theorem dL_law_683 : decode cL_law 683 = .ok (.if_icmp .eq 632, 3) := by decide +kernel
theorem dL_law_686 : decode cL_law 686 = .ok (.iconst 0, 1) := by decide +kernel
theorem dL_law_687 : decode cL_law 687 = .ok (.ireturn, 1) := by decide +kernel
theorem dL_law_688 : decode cL_law 688 = .ok (.aload_n 1, 1) := by decide +kernel
theorem dL_law_689 : decode cL_law 689 = .ok (.aload_n 0, 1) := by decide +kernel
theorem dL_law_690 : decode cL_law 690 = .ok (.iload_n 3, 1) := by decide +kernel
theorem dL_law_691 : decode cL_law 691 = .ok (.iconst 1, 1) := by decide +kernel
theorem dL_law_692 : decode cL_law 692 = .ok (.iadd, 1) := by decide +kernel
theorem dL_law_693 : decode cL_law 693 = .ok (.iaload, 1) := by decide +kernel
theorem dL_law_694 : decode cL_law 694 = .ok (.invokevirtual 81, 3) := by decide +kernel
theorem dL_law_697 : decode cL_law 697 = .ok (.aload_n 2, 1) := by decide +kernel
theorem dL_law_698 : decode cL_law 698 = .ok (.aload_n 0, 1) := by decide +kernel
theorem dL_law_699 : decode cL_law 699 = .ok (.iload_n 3, 1) := by decide +kernel
theorem dL_law_700 : decode cL_law 700 = .ok (.iconst 1, 1) := by decide +kernel
theorem dL_law_701 : decode cL_law 701 = .ok (.iadd, 1) := by decide +kernel
theorem dL_law_702 : decode cL_law 702 = .ok (.iaload, 1) := by decide +kernel
theorem dL_law_703 : decode cL_law 703 = .ok (.invokevirtual 84, 3) := by decide +kernel
theorem dL_law_706 : decode cL_law 706 = .ok (.if_icmp .eq 609, 3) := by decide +kernel
theorem dL_law_709 : decode cL_law 709 = .ok (.iconst 0, 1) := by decide +kernel
theorem dL_law_710 : decode cL_law 710 = .ok (.ireturn, 1) := by decide +kernel
theorem dL_law_711 : decode cL_law 711 = .ok (.aload_n 1, 1) := by decide +kernel
theorem dL_law_712 : decode cL_law 712 = .ok (.aload_n 0, 1) := by decide +kernel
theorem dL_law_713 : decode cL_law 713 = .ok (.iload_n 3, 1) := by decide +kernel
theorem dL_law_714 : decode cL_law 714 = .ok (.iconst 1, 1) := by decide +kernel
theorem dL_law_715 : decode cL_law 715 = .ok (.iadd, 1) := by decide +kernel
theorem dL_law_716 : decode cL_law 716 = .ok (.iaload, 1) := by decide +kernel
theorem dL_law_717 : decode cL_law 717 = .ok (.invokevirtual 85, 3) := by decide +kernel
theorem dL_law_720 : decode cL_law 720 = .ok (.aload_n 2, 1) := by decide +kernel
theorem dL_law_721 : decode cL_law 721 = .ok (.aload_n 0, 1) := by decide +kernel
theorem dL_law_722 : decode cL_law 722 = .ok (.iload_n 3, 1) := by decide +kernel
theorem dL_law_723 : decode cL_law 723 = .ok (.iconst 1, 1) := by decide +kernel
theorem dL_law_724 : decode cL_law 724 = .ok (.iadd, 1) := by decide +kernel
theorem dL_law_725 : decode cL_law 725 = .ok (.iaload, 1) := by decide +kernel
theorem dL_law_726 : decode cL_law 726 = .ok (.invokevirtual 88, 3) := by decide +kernel
theorem dL_law_729 : decode cL_law 729 = .ok (.if_icmp .eq 586, 3) := by decide +kernel
theorem dL_law_732 : decode cL_law 732 = .ok (.iconst 0, 1) := by decide +kernel
theorem dL_law_733 : decode cL_law 733 = .ok (.ireturn, 1) := by decide +kernel
theorem dL_law_734 : decode cL_law 734 = .ok (.aload_n 1, 1) := by decide +kernel
theorem dL_law_735 : decode cL_law 735 = .ok (.aload_n 0, 1) := by decide +kernel
theorem dL_law_736 : decode cL_law 736 = .ok (.iload_n 3, 1) := by decide +kernel
theorem dL_law_737 : decode cL_law 737 = .ok (.iconst 1, 1) := by decide +kernel
theorem dL_law_738 : decode cL_law 738 = .ok (.iadd, 1) := by decide +kernel
theorem dL_law_739 : decode cL_law 739 = .ok (.iaload, 1) := by decide +kernel
theorem dL_law_740 : decode cL_law 740 = .ok (.invokevirtual 89, 3) := by decide +kernel
theorem dL_law_743 : decode cL_law 743 = .ok (.aload_n 2, 1) := by decide +kernel
theorem dL_law_744 : decode cL_law 744 = .ok (.aload_n 0, 1) := by decide +kernel
theorem dL_law_745 : decode cL_law 745 = .ok (.iload_n 3, 1) := by decide +kernel
theorem dL_law_746 : decode cL_law 746 = .ok (.iconst 1, 1) := by decide +kernel
theorem dL_law_747 : decode cL_law 747 = .ok (.iadd, 1) := by decide +kernel
theorem dL_law_748 : decode cL_law 748 = .ok (.iaload, 1) := by decide +kernel
theorem dL_law_749 : decode cL_law 749 = .ok (.invokevirtual 92, 3) := by decide +kernel
theorem dL_law_752 : decode cL_law 752 = .ok (.if_icmp .eq 563, 3) := by decide +kernel
theorem dL_law_755 : decode cL_law 755 = .ok (.iconst 0, 1) := by decide +kernel
theorem dL_law_756 : decode cL_law 756 = .ok (.ireturn, 1) := by decide +kernel
theorem dL_law_757 : decode cL_law 757 = .ok (.aload_n 1, 1) := by decide +kernel
theorem dL_law_758 : decode cL_law 758 = .ok (.aload_n 0, 1) := by decide +kernel
theorem dL_law_759 : decode cL_law 759 = .ok (.iload_n 3, 1) := by decide +kernel
theorem dL_law_760 : decode cL_law 760 = .ok (.iconst 1, 1) := by decide +kernel
theorem dL_law_761 : decode cL_law 761 = .ok (.iadd, 1) := by decide +kernel
theorem dL_law_762 : decode cL_law 762 = .ok (.iaload, 1) := by decide +kernel
theorem dL_law_763 : decode cL_law 763 = .ok (.aload_n 0, 1) := by decide +kernel
theorem dL_law_764 : decode cL_law 764 = .ok (.iload_n 3, 1) := by decide +kernel
theorem dL_law_765 : decode cL_law 765 = .ok (.iconst 2, 1) := by decide +kernel
theorem dL_law_766 : decode cL_law 766 = .ok (.iadd, 1) := by decide +kernel
theorem dL_law_767 : decode cL_law 767 = .ok (.iaload, 1) := by decide +kernel
theorem dL_law_768 : decode cL_law 768 = .ok (.invokevirtual 93, 3) := by decide +kernel
theorem dL_law_771 : decode cL_law 771 = .ok (.aload_n 2, 1) := by decide +kernel
theorem dL_law_772 : decode cL_law 772 = .ok (.aload_n 0, 1) := by decide +kernel
theorem dL_law_773 : decode cL_law 773 = .ok (.iload_n 3, 1) := by decide +kernel
theorem dL_law_774 : decode cL_law 774 = .ok (.iconst 1, 1) := by decide +kernel
theorem dL_law_775 : decode cL_law 775 = .ok (.iadd, 1) := by decide +kernel
theorem dL_law_776 : decode cL_law 776 = .ok (.iaload, 1) := by decide +kernel
theorem dL_law_777 : decode cL_law 777 = .ok (.aload_n 0, 1) := by decide +kernel
theorem dL_law_778 : decode cL_law 778 = .ok (.iload_n 3, 1) := by decide +kernel
theorem dL_law_779 : decode cL_law 779 = .ok (.iconst 2, 1) := by decide +kernel
theorem dL_law_780 : decode cL_law 780 = .ok (.iadd, 1) := by decide +kernel
theorem dL_law_781 : decode cL_law 781 = .ok (.iaload, 1) := by decide +kernel
theorem dL_law_782 : decode cL_law 782 = .ok (.invokevirtual 96, 3) := by decide +kernel
theorem dL_law_785 : decode cL_law 785 = .ok (.if_icmp .eq 530, 3) := by decide +kernel
theorem dL_law_788 : decode cL_law 788 = .ok (.iconst 0, 1) := by decide +kernel
theorem dL_law_789 : decode cL_law 789 = .ok (.ireturn, 1) := by decide +kernel
theorem dL_law_790 : decode cL_law 790 = .ok (.aload_n 1, 1) := by decide +kernel
theorem dL_law_791 : decode cL_law 791 = .ok (.aload_n 0, 1) := by decide +kernel
theorem dL_law_792 : decode cL_law 792 = .ok (.iload_n 3, 1) := by decide +kernel
theorem dL_law_793 : decode cL_law 793 = .ok (.iconst 1, 1) := by decide +kernel
theorem dL_law_794 : decode cL_law 794 = .ok (.iadd, 1) := by decide +kernel
theorem dL_law_795 : decode cL_law 795 = .ok (.iaload, 1) := by decide +kernel
theorem dL_law_796 : decode cL_law 796 = .ok (.aload_n 0, 1) := by decide +kernel
theorem dL_law_797 : decode cL_law 797 = .ok (.iload_n 3, 1) := by decide +kernel
theorem dL_law_798 : decode cL_law 798 = .ok (.iconst 2, 1) := by decide +kernel
theorem dL_law_799 : decode cL_law 799 = .ok (.iadd, 1) := by decide +kernel
theorem dL_law_800 : decode cL_law 800 = .ok (.iaload, 1) := by decide +kernel
theorem dL_law_801 : decode cL_law 801 = .ok (.invokevirtual 97, 3) := by decide +kernel
theorem dL_law_804 : decode cL_law 804 = .ok (.aload_n 2, 1) := by decide +kernel
theorem dL_law_805 : decode cL_law 805 = .ok (.aload_n 0, 1) := by decide +kernel
theorem dL_law_806 : decode cL_law 806 = .ok (.iload_n 3, 1) := by decide +kernel
theorem dL_law_807 : decode cL_law 807 = .ok (.iconst 1, 1) := by decide +kernel
theorem dL_law_808 : decode cL_law 808 = .ok (.iadd, 1) := by decide +kernel
theorem dL_law_809 : decode cL_law 809 = .ok (.iaload, 1) := by decide +kernel
theorem dL_law_810 : decode cL_law 810 = .ok (.aload_n 0, 1) := by decide +kernel
theorem dL_law_811 : decode cL_law 811 = .ok (.iload_n 3, 1) := by decide +kernel
theorem dL_law_812 : decode cL_law 812 = .ok (.iconst 2, 1) := by decide +kernel
theorem dL_law_813 : decode cL_law 813 = .ok (.iadd, 1) := by decide +kernel
theorem dL_law_814 : decode cL_law 814 = .ok (.iaload, 1) := by decide +kernel
theorem dL_law_815 : decode cL_law 815 = .ok (.invokevirtual 100, 3) := by decide +kernel
theorem dL_law_818 : decode cL_law 818 = .ok (.if_icmp .eq 497, 3) := by decide +kernel
theorem dL_law_821 : decode cL_law 821 = .ok (.iconst 0, 1) := by decide +kernel
theorem dL_law_822 : decode cL_law 822 = .ok (.ireturn, 1) := by decide +kernel
theorem dL_law_823 : decode cL_law 823 = .ok (.aload_n 1, 1) := by decide +kernel
theorem dL_law_824 : decode cL_law 824 = .ok (.aload_n 0, 1) := by decide +kernel
theorem dL_law_825 : decode cL_law 825 = .ok (.iload_n 3, 1) := by decide +kernel
theorem dL_law_826 : decode cL_law 826 = .ok (.iconst 1, 1) := by decide +kernel
theorem dL_law_827 : decode cL_law 827 = .ok (.iadd, 1) := by decide +kernel
theorem dL_law_828 : decode cL_law 828 = .ok (.iaload, 1) := by decide +kernel
theorem dL_law_829 : decode cL_law 829 = .ok (.aload_n 0, 1) := by decide +kernel
theorem dL_law_830 : decode cL_law 830 = .ok (.iload_n 3, 1) := by decide +kernel
theorem dL_law_831 : decode cL_law 831 = .ok (.iconst 2, 1) := by decide +kernel
theorem dL_law_832 : decode cL_law 832 = .ok (.iadd, 1) := by decide +kernel
theorem dL_law_833 : decode cL_law 833 = .ok (.iaload, 1) := by decide +kernel
theorem dL_law_834 : decode cL_law 834 = .ok (.invokevirtual 101, 3) := by decide +kernel
theorem dL_law_837 : decode cL_law 837 = .ok (.aload_n 2, 1) := by decide +kernel
theorem dL_law_838 : decode cL_law 838 = .ok (.aload_n 0, 1) := by decide +kernel
theorem dL_law_839 : decode cL_law 839 = .ok (.iload_n 3, 1) := by decide +kernel
theorem dL_law_840 : decode cL_law 840 = .ok (.iconst 1, 1) := by decide +kernel
theorem dL_law_841 : decode cL_law 841 = .ok (.iadd, 1) := by decide +kernel
theorem dL_law_842 : decode cL_law 842 = .ok (.iaload, 1) := by decide +kernel
theorem dL_law_843 : decode cL_law 843 = .ok (.aload_n 0, 1) := by decide +kernel
theorem dL_law_844 : decode cL_law 844 = .ok (.iload_n 3, 1) := by decide +kernel
theorem dL_law_845 : decode cL_law 845 = .ok (.iconst 2, 1) := by decide +kernel
theorem dL_law_846 : decode cL_law 846 = .ok (.iadd, 1) := by decide +kernel
theorem dL_law_847 : decode cL_law 847 = .ok (.iaload, 1) := by decide +kernel
theorem dL_law_848 : decode cL_law 848 = .ok (.invokevirtual 104, 3) := by decide +kernel
theorem dL_law_851 : decode cL_law 851 = .ok (.if_icmp .eq 464, 3) := by decide +kernel
theorem dL_law_854 : decode cL_law 854 = .ok (.iconst 0, 1) := by decide +kernel
theorem dL_law_855 : decode cL_law 855 = .ok (.ireturn, 1) := by decide +kernel
theorem dL_law_856 : decode cL_law 856 = .ok (.aload_n 1, 1) := by decide +kernel
theorem dL_law_857 : decode cL_law 857 = .ok (.aload_n 0, 1) := by decide +kernel
theorem dL_law_858 : decode cL_law 858 = .ok (.iload_n 3, 1) := by decide +kernel
theorem dL_law_859 : decode cL_law 859 = .ok (.iconst 1, 1) := by decide +kernel
theorem dL_law_860 : decode cL_law 860 = .ok (.iadd, 1) := by decide +kernel
theorem dL_law_861 : decode cL_law 861 = .ok (.iaload, 1) := by decide +kernel
theorem dL_law_862 : decode cL_law 862 = .ok (.invokevirtual 105, 3) := by decide +kernel
theorem dL_law_865 : decode cL_law 865 = .ok (.aload_n 2, 1) := by decide +kernel
theorem dL_law_866 : decode cL_law 866 = .ok (.aload_n 0, 1) := by decide +kernel
theorem dL_law_867 : decode cL_law 867 = .ok (.iload_n 3, 1) := by decide +kernel
theorem dL_law_868 : decode cL_law 868 = .ok (.iconst 1, 1) := by decide +kernel
theorem dL_law_869 : decode cL_law 869 = .ok (.iadd, 1) := by decide +kernel
theorem dL_law_870 : decode cL_law 870 = .ok (.iaload, 1) := by decide +kernel
theorem dL_law_871 : decode cL_law 871 = .ok (.invokevirtual 108, 3) := by decide +kernel
theorem dL_law_874 : decode cL_law 874 = .ok (.if_icmp .eq 441, 3) := by decide +kernel
theorem dL_law_877 : decode cL_law 877 = .ok (.iconst 0, 1) := by decide +kernel
theorem dL_law_878 : decode cL_law 878 = .ok (.ireturn, 1) := by decide +kernel
theorem dL_law_879 : decode cL_law 879 = .ok (.aload_n 1, 1) := by decide +kernel
theorem dL_law_880 : decode cL_law 880 = .ok (.aload_n 0, 1) := by decide +kernel
theorem dL_law_881 : decode cL_law 881 = .ok (.iload_n 3, 1) := by decide +kernel
theorem dL_law_882 : decode cL_law 882 = .ok (.iconst 1, 1) := by decide +kernel
theorem dL_law_883 : decode cL_law 883 = .ok (.iadd, 1) := by decide +kernel
theorem dL_law_884 : decode cL_law 884 = .ok (.iaload, 1) := by decide +kernel
theorem dL_law_885 : decode cL_law 885 = .ok (.invokevirtual 109, 3) := by decide +kernel
theorem dL_law_888 : decode cL_law 888 = .ok (.aload_n 2, 1) := by decide +kernel
theorem dL_law_889 : decode cL_law 889 = .ok (.aload_n 0, 1) := by decide +kernel
theorem dL_law_890 : decode cL_law 890 = .ok (.iload_n 3, 1) := by decide +kernel
theorem dL_law_891 : decode cL_law 891 = .ok (.iconst 1, 1) := by decide +kernel
theorem dL_law_892 : decode cL_law 892 = .ok (.iadd, 1) := by decide +kernel
theorem dL_law_893 : decode cL_law 893 = .ok (.iaload, 1) := by decide +kernel
theorem dL_law_894 : decode cL_law 894 = .ok (.invokevirtual 112, 3) := by decide +kernel
theorem dL_law_897 : decode cL_law 897 = .ok (.if_icmp .eq 418, 3) := by decide +kernel
theorem dL_law_900 : decode cL_law 900 = .ok (.iconst 0, 1) := by decide +kernel
theorem dL_law_901 : decode cL_law 901 = .ok (.ireturn, 1) := by decide +kernel
theorem dL_law_902 : decode cL_law 902 = .ok (.aload_n 1, 1) := by decide +kernel
theorem dL_law_903 : decode cL_law 903 = .ok (.aload_n 0, 1) := by decide +kernel
theorem dL_law_904 : decode cL_law 904 = .ok (.iload_n 3, 1) := by decide +kernel
theorem dL_law_905 : decode cL_law 905 = .ok (.iconst 1, 1) := by decide +kernel
theorem dL_law_906 : decode cL_law 906 = .ok (.iadd, 1) := by decide +kernel
theorem dL_law_907 : decode cL_law 907 = .ok (.iaload, 1) := by decide +kernel
theorem dL_law_908 : decode cL_law 908 = .ok (.aload_n 0, 1) := by decide +kernel
theorem dL_law_909 : decode cL_law 909 = .ok (.iload_n 3, 1) := by decide +kernel
theorem dL_law_910 : decode cL_law 910 = .ok (.iconst 2, 1) := by decide +kernel
theorem dL_law_911 : decode cL_law 911 = .ok (.iadd, 1) := by decide +kernel
theorem dL_law_912 : decode cL_law 912 = .ok (.iaload, 1) := by decide +kernel
theorem dL_law_913 : decode cL_law 913 = .ok (.invokevirtual 113, 3) := by decide +kernel
theorem dL_law_916 : decode cL_law 916 = .ok (.aload_n 2, 1) := by decide +kernel
theorem dL_law_917 : decode cL_law 917 = .ok (.aload_n 0, 1) := by decide +kernel
theorem dL_law_918 : decode cL_law 918 = .ok (.iload_n 3, 1) := by decide +kernel
theorem dL_law_919 : decode cL_law 919 = .ok (.iconst 1, 1) := by decide +kernel
theorem dL_law_920 : decode cL_law 920 = .ok (.iadd, 1) := by decide +kernel
theorem dL_law_921 : decode cL_law 921 = .ok (.iaload, 1) := by decide +kernel
theorem dL_law_922 : decode cL_law 922 = .ok (.aload_n 0, 1) := by decide +kernel
theorem dL_law_923 : decode cL_law 923 = .ok (.iload_n 3, 1) := by decide +kernel
theorem dL_law_924 : decode cL_law 924 = .ok (.iconst 2, 1) := by decide +kernel
theorem dL_law_925 : decode cL_law 925 = .ok (.iadd, 1) := by decide +kernel
theorem dL_law_926 : decode cL_law 926 = .ok (.iaload, 1) := by decide +kernel
theorem dL_law_927 : decode cL_law 927 = .ok (.invokevirtual 116, 3) := by decide +kernel
theorem dL_law_930 : decode cL_law 930 = .ok (.if_icmp .eq 385, 3) := by decide +kernel
theorem dL_law_933 : decode cL_law 933 = .ok (.iconst 0, 1) := by decide +kernel
theorem dL_law_934 : decode cL_law 934 = .ok (.ireturn, 1) := by decide +kernel
theorem dL_law_935 : decode cL_law 935 = .ok (.aload_n 1, 1) := by decide +kernel
theorem dL_law_936 : decode cL_law 936 = .ok (.invokevirtual 117, 3) := by decide +kernel
theorem dL_law_939 : decode cL_law 939 = .ok (.aload_n 2, 1) := by decide +kernel
theorem dL_law_940 : decode cL_law 940 = .ok (.invokevirtual 120, 3) := by decide +kernel
theorem dL_law_943 : decode cL_law 943 = .ok (.if_icmp .eq 372, 3) := by decide +kernel
theorem dL_law_946 : decode cL_law 946 = .ok (.iconst 0, 1) := by decide +kernel
theorem dL_law_947 : decode cL_law 947 = .ok (.ireturn, 1) := by decide +kernel
theorem dL_law_948 : decode cL_law 948 = .ok (.aload_n 1, 1) := by decide +kernel
theorem dL_law_949 : decode cL_law 949 = .ok (.invokevirtual 121, 3) := by decide +kernel
theorem dL_law_952 : decode cL_law 952 = .ok (.aload_n 2, 1) := by decide +kernel
theorem dL_law_953 : decode cL_law 953 = .ok (.invokevirtual 124, 3) := by decide +kernel
theorem dL_law_956 : decode cL_law 956 = .ok (.if_icmp .eq 359, 3) := by decide +kernel
theorem dL_law_959 : decode cL_law 959 = .ok (.iconst 0, 1) := by decide +kernel
theorem dL_law_960 : decode cL_law 960 = .ok (.ireturn, 1) := by decide +kernel
theorem dL_law_961 : decode cL_law 961 = .ok (.aload_n 1, 1) := by decide +kernel
theorem dL_law_962 : decode cL_law 962 = .ok (.aload_n 0, 1) := by decide +kernel
theorem dL_law_963 : decode cL_law 963 = .ok (.iload_n 3, 1) := by decide +kernel
theorem dL_law_964 : decode cL_law 964 = .ok (.iconst 1, 1) := by decide +kernel
theorem dL_law_965 : decode cL_law 965 = .ok (.iadd, 1) := by decide +kernel
theorem dL_law_966 : decode cL_law 966 = .ok (.iaload, 1) := by decide +kernel
theorem dL_law_967 : decode cL_law 967 = .ok (.aload_n 0, 1) := by decide +kernel
theorem dL_law_968 : decode cL_law 968 = .ok (.iload_n 3, 1) := by decide +kernel
theorem dL_law_969 : decode cL_law 969 = .ok (.iconst 2, 1) := by decide +kernel
theorem dL_law_970 : decode cL_law 970 = .ok (.iadd, 1) := by decide +kernel
theorem dL_law_971 : decode cL_law 971 = .ok (.iaload, 1) := by decide +kernel
theorem dL_law_972 : decode cL_law 972 = .ok (.aload_n 0, 1) := by decide +kernel
theorem dL_law_973 : decode cL_law 973 = .ok (.iload_n 3, 1) := by decide +kernel
theorem dL_law_974 : decode cL_law 974 = .ok (.iconst 3, 1) := by decide +kernel
theorem dL_law_975 : decode cL_law 975 = .ok (.iadd, 1) := by decide +kernel
theorem dL_law_976 : decode cL_law 976 = .ok (.iaload, 1) := by decide +kernel
theorem dL_law_977 : decode cL_law 977 = .ok (.invokevirtual 125, 3) := by decide +kernel
theorem dL_law_980 : decode cL_law 980 = .ok (.aload_n 2, 1) := by decide +kernel
theorem dL_law_981 : decode cL_law 981 = .ok (.aload_n 0, 1) := by decide +kernel
theorem dL_law_982 : decode cL_law 982 = .ok (.iload_n 3, 1) := by decide +kernel
theorem dL_law_983 : decode cL_law 983 = .ok (.iconst 1, 1) := by decide +kernel
theorem dL_law_984 : decode cL_law 984 = .ok (.iadd, 1) := by decide +kernel
theorem dL_law_985 : decode cL_law 985 = .ok (.iaload, 1) := by decide +kernel
theorem dL_law_986 : decode cL_law 986 = .ok (.aload_n 0, 1) := by decide +kernel
theorem dL_law_987 : decode cL_law 987 = .ok (.iload_n 3, 1) := by decide +kernel
theorem dL_law_988 : decode cL_law 988 = .ok (.iconst 2, 1) := by decide +kernel
theorem dL_law_989 : decode cL_law 989 = .ok (.iadd, 1) := by decide +kernel
theorem dL_law_990 : decode cL_law 990 = .ok (.iaload, 1) := by decide +kernel
theorem dL_law_991 : decode cL_law 991 = .ok (.aload_n 0, 1) := by decide +kernel
theorem dL_law_992 : decode cL_law 992 = .ok (.iload_n 3, 1) := by decide +kernel
theorem dL_law_993 : decode cL_law 993 = .ok (.iconst 3, 1) := by decide +kernel
theorem dL_law_994 : decode cL_law 994 = .ok (.iadd, 1) := by decide +kernel
theorem dL_law_995 : decode cL_law 995 = .ok (.iaload, 1) := by decide +kernel
theorem dL_law_996 : decode cL_law 996 = .ok (.invokevirtual 128, 3) := by decide +kernel
theorem dL_law_999 : decode cL_law 999 = .ok (.if_icmp .eq 316, 3) := by decide +kernel
theorem dL_law_1002 : decode cL_law 1002 = .ok (.iconst 0, 1) := by decide +kernel
theorem dL_law_1003 : decode cL_law 1003 = .ok (.ireturn, 1) := by decide +kernel
theorem dL_law_1004 : decode cL_law 1004 = .ok (.aload_n 1, 1) := by decide +kernel
theorem dL_law_1005 : decode cL_law 1005 = .ok (.aload_n 0, 1) := by decide +kernel
theorem dL_law_1006 : decode cL_law 1006 = .ok (.iload_n 3, 1) := by decide +kernel
theorem dL_law_1007 : decode cL_law 1007 = .ok (.iconst 1, 1) := by decide +kernel
theorem dL_law_1008 : decode cL_law 1008 = .ok (.iadd, 1) := by decide +kernel
theorem dL_law_1009 : decode cL_law 1009 = .ok (.iaload, 1) := by decide +kernel
theorem dL_law_1010 : decode cL_law 1010 = .ok (.aload_n 0, 1) := by decide +kernel
theorem dL_law_1011 : decode cL_law 1011 = .ok (.iload_n 3, 1) := by decide +kernel
theorem dL_law_1012 : decode cL_law 1012 = .ok (.iconst 2, 1) := by decide +kernel
theorem dL_law_1013 : decode cL_law 1013 = .ok (.iadd, 1) := by decide +kernel
theorem dL_law_1014 : decode cL_law 1014 = .ok (.iaload, 1) := by decide +kernel
theorem dL_law_1015 : decode cL_law 1015 = .ok (.aload_n 0, 1) := by decide +kernel
theorem dL_law_1016 : decode cL_law 1016 = .ok (.iload_n 3, 1) := by decide +kernel
theorem dL_law_1017 : decode cL_law 1017 = .ok (.iconst 3, 1) := by decide +kernel
theorem dL_law_1018 : decode cL_law 1018 = .ok (.iadd, 1) := by decide +kernel
theorem dL_law_1019 : decode cL_law 1019 = .ok (.iaload, 1) := by decide +kernel
theorem dL_law_1020 : decode cL_law 1020 = .ok (.i2l, 1) := by decide +kernel
theorem dL_law_1021 : decode cL_law 1021 = .ok (.bipush 32, 2) := by decide +kernel
theorem dL_law_1023 : decode cL_law 1023 = .ok (.lshl, 1) := by decide +kernel
theorem dL_law_1024 : decode cL_law 1024 = .ok (.aload_n 0, 1) := by decide +kernel
theorem dL_law_1025 : decode cL_law 1025 = .ok (.iload_n 3, 1) := by decide +kernel
theorem dL_law_1026 : decode cL_law 1026 = .ok (.iconst 4, 1) := by decide +kernel
theorem dL_law_1027 : decode cL_law 1027 = .ok (.iadd, 1) := by decide +kernel
theorem dL_law_1028 : decode cL_law 1028 = .ok (.iaload, 1) := by decide +kernel
theorem dL_law_1029 : decode cL_law 1029 = .ok (.i2l, 1) := by decide +kernel
theorem dL_law_1030 : decode cL_law 1030 = .ok (.ldc2_w 129, 3) := by decide +kernel
theorem dL_law_1033 : decode cL_law 1033 = .ok (.land, 1) := by decide +kernel
theorem dL_law_1034 : decode cL_law 1034 = .ok (.lor, 1) := by decide +kernel
theorem dL_law_1035 : decode cL_law 1035 = .ok (.invokevirtual 131, 3) := by decide +kernel
theorem dL_law_1038 : decode cL_law 1038 = .ok (.aload_n 2, 1) := by decide +kernel
theorem dL_law_1039 : decode cL_law 1039 = .ok (.aload_n 0, 1) := by decide +kernel
theorem dL_law_1040 : decode cL_law 1040 = .ok (.iload_n 3, 1) := by decide +kernel
theorem dL_law_1041 : decode cL_law 1041 = .ok (.iconst 1, 1) := by decide +kernel
theorem dL_law_1042 : decode cL_law 1042 = .ok (.iadd, 1) := by decide +kernel
theorem dL_law_1043 : decode cL_law 1043 = .ok (.iaload, 1) := by decide +kernel
theorem dL_law_1044 : decode cL_law 1044 = .ok (.aload_n 0, 1) := by decide +kernel
theorem dL_law_1045 : decode cL_law 1045 = .ok (.iload_n 3, 1) := by decide +kernel
theorem dL_law_1046 : decode cL_law 1046 = .ok (.iconst 2, 1) := by decide +kernel
theorem dL_law_1047 : decode cL_law 1047 = .ok (.iadd, 1) := by decide +kernel
theorem dL_law_1048 : decode cL_law 1048 = .ok (.iaload, 1) := by decide +kernel
theorem dL_law_1049 : decode cL_law 1049 = .ok (.aload_n 0, 1) := by decide +kernel
theorem dL_law_1050 : decode cL_law 1050 = .ok (.iload_n 3, 1) := by decide +kernel
theorem dL_law_1051 : decode cL_law 1051 = .ok (.iconst 3, 1) := by decide +kernel
theorem dL_law_1052 : decode cL_law 1052 = .ok (.iadd, 1) := by decide +kernel
theorem dL_law_1053 : decode cL_law 1053 = .ok (.iaload, 1) := by decide +kernel
theorem dL_law_1054 : decode cL_law 1054 = .ok (.i2l, 1) := by decide +kernel
theorem dL_law_1055 : decode cL_law 1055 = .ok (.bipush 32, 2) := by decide +kernel
theorem dL_law_1057 : decode cL_law 1057 = .ok (.lshl, 1) := by decide +kernel
theorem dL_law_1058 : decode cL_law 1058 = .ok (.aload_n 0, 1) := by decide +kernel
theorem dL_law_1059 : decode cL_law 1059 = .ok (.iload_n 3, 1) := by decide +kernel
theorem dL_law_1060 : decode cL_law 1060 = .ok (.iconst 4, 1) := by decide +kernel
theorem dL_law_1061 : decode cL_law 1061 = .ok (.iadd, 1) := by decide +kernel
theorem dL_law_1062 : decode cL_law 1062 = .ok (.iaload, 1) := by decide +kernel
theorem dL_law_1063 : decode cL_law 1063 = .ok (.i2l, 1) := by decide +kernel
theorem dL_law_1064 : decode cL_law 1064 = .ok (.ldc2_w 129, 3) := by decide +kernel
theorem dL_law_1067 : decode cL_law 1067 = .ok (.land, 1) := by decide +kernel
theorem dL_law_1068 : decode cL_law 1068 = .ok (.lor, 1) := by decide +kernel
theorem dL_law_1069 : decode cL_law 1069 = .ok (.invokevirtual 135, 3) := by decide +kernel
theorem dL_law_1072 : decode cL_law 1072 = .ok (.lcmp, 1) := by decide +kernel
theorem dL_law_1073 : decode cL_law 1073 = .ok (.ifCond .eq 242, 3) := by decide +kernel
theorem dL_law_1076 : decode cL_law 1076 = .ok (.iconst 0, 1) := by decide +kernel
theorem dL_law_1077 : decode cL_law 1077 = .ok (.ireturn, 1) := by decide +kernel
theorem dL_law_1078 : decode cL_law 1078 = .ok (.aload_n 1, 1) := by decide +kernel
theorem dL_law_1079 : decode cL_law 1079 = .ok (.aload_n 0, 1) := by decide +kernel
theorem dL_law_1080 : decode cL_law 1080 = .ok (.iload_n 3, 1) := by decide +kernel
theorem dL_law_1081 : decode cL_law 1081 = .ok (.iconst 1, 1) := by decide +kernel
theorem dL_law_1082 : decode cL_law 1082 = .ok (.iadd, 1) := by decide +kernel
theorem dL_law_1083 : decode cL_law 1083 = .ok (.iaload, 1) := by decide +kernel
theorem dL_law_1084 : decode cL_law 1084 = .ok (.aload_n 0, 1) := by decide +kernel
theorem dL_law_1085 : decode cL_law 1085 = .ok (.iload_n 3, 1) := by decide +kernel
theorem dL_law_1086 : decode cL_law 1086 = .ok (.iconst 2, 1) := by decide +kernel
theorem dL_law_1087 : decode cL_law 1087 = .ok (.iadd, 1) := by decide +kernel
theorem dL_law_1088 : decode cL_law 1088 = .ok (.iaload, 1) := by decide +kernel
theorem dL_law_1089 : decode cL_law 1089 = .ok (.aload_n 0, 1) := by decide +kernel
theorem dL_law_1090 : decode cL_law 1090 = .ok (.iload_n 3, 1) := by decide +kernel
theorem dL_law_1091 : decode cL_law 1091 = .ok (.iconst 3, 1) := by decide +kernel
theorem dL_law_1092 : decode cL_law 1092 = .ok (.iadd, 1) := by decide +kernel
theorem dL_law_1093 : decode cL_law 1093 = .ok (.iaload, 1) := by decide +kernel
theorem dL_law_1094 : decode cL_law 1094 = .ok (.aload_n 0, 1) := by decide +kernel
theorem dL_law_1095 : decode cL_law 1095 = .ok (.iload_n 3, 1) := by decide +kernel
theorem dL_law_1096 : decode cL_law 1096 = .ok (.iconst 4, 1) := by decide +kernel
theorem dL_law_1097 : decode cL_law 1097 = .ok (.iadd, 1) := by decide +kernel
theorem dL_law_1098 : decode cL_law 1098 = .ok (.iaload, 1) := by decide +kernel
theorem dL_law_1099 : decode cL_law 1099 = .ok (.aload_n 0, 1) := by decide +kernel
theorem dL_law_1100 : decode cL_law 1100 = .ok (.iload_n 3, 1) := by decide +kernel
theorem dL_law_1101 : decode cL_law 1101 = .ok (.iconst 5, 1) := by decide +kernel
theorem dL_law_1102 : decode cL_law 1102 = .ok (.iadd, 1) := by decide +kernel
theorem dL_law_1103 : decode cL_law 1103 = .ok (.iaload, 1) := by decide +kernel
theorem dL_law_1104 : decode cL_law 1104 = .ok (.invokevirtual 136, 3) := by decide +kernel
theorem dL_law_1107 : decode cL_law 1107 = .ok (.aload_n 2, 1) := by decide +kernel
theorem dL_law_1108 : decode cL_law 1108 = .ok (.aload_n 0, 1) := by decide +kernel
theorem dL_law_1109 : decode cL_law 1109 = .ok (.iload_n 3, 1) := by decide +kernel
theorem dL_law_1110 : decode cL_law 1110 = .ok (.iconst 1, 1) := by decide +kernel
theorem dL_law_1111 : decode cL_law 1111 = .ok (.iadd, 1) := by decide +kernel
theorem dL_law_1112 : decode cL_law 1112 = .ok (.iaload, 1) := by decide +kernel
theorem dL_law_1113 : decode cL_law 1113 = .ok (.aload_n 0, 1) := by decide +kernel
theorem dL_law_1114 : decode cL_law 1114 = .ok (.iload_n 3, 1) := by decide +kernel
theorem dL_law_1115 : decode cL_law 1115 = .ok (.iconst 2, 1) := by decide +kernel
theorem dL_law_1116 : decode cL_law 1116 = .ok (.iadd, 1) := by decide +kernel
theorem dL_law_1117 : decode cL_law 1117 = .ok (.iaload, 1) := by decide +kernel
theorem dL_law_1118 : decode cL_law 1118 = .ok (.aload_n 0, 1) := by decide +kernel
theorem dL_law_1119 : decode cL_law 1119 = .ok (.iload_n 3, 1) := by decide +kernel
theorem dL_law_1120 : decode cL_law 1120 = .ok (.iconst 3, 1) := by decide +kernel
theorem dL_law_1121 : decode cL_law 1121 = .ok (.iadd, 1) := by decide +kernel
theorem dL_law_1122 : decode cL_law 1122 = .ok (.iaload, 1) := by decide +kernel
theorem dL_law_1123 : decode cL_law 1123 = .ok (.aload_n 0, 1) := by decide +kernel
theorem dL_law_1124 : decode cL_law 1124 = .ok (.iload_n 3, 1) := by decide +kernel
theorem dL_law_1125 : decode cL_law 1125 = .ok (.iconst 4, 1) := by decide +kernel
theorem dL_law_1126 : decode cL_law 1126 = .ok (.iadd, 1) := by decide +kernel
theorem dL_law_1127 : decode cL_law 1127 = .ok (.iaload, 1) := by decide +kernel
theorem dL_law_1128 : decode cL_law 1128 = .ok (.aload_n 0, 1) := by decide +kernel
theorem dL_law_1129 : decode cL_law 1129 = .ok (.iload_n 3, 1) := by decide +kernel
theorem dL_law_1130 : decode cL_law 1130 = .ok (.iconst 5, 1) := by decide +kernel
theorem dL_law_1131 : decode cL_law 1131 = .ok (.iadd, 1) := by decide +kernel
theorem dL_law_1132 : decode cL_law 1132 = .ok (.iaload, 1) := by decide +kernel
theorem dL_law_1133 : decode cL_law 1133 = .ok (.invokevirtual 140, 3) := by decide +kernel
theorem dL_law_1136 : decode cL_law 1136 = .ok (.if_icmp .eq 179, 3) := by decide +kernel
theorem dL_law_1139 : decode cL_law 1139 = .ok (.iconst 0, 1) := by decide +kernel
theorem dL_law_1140 : decode cL_law 1140 = .ok (.ireturn, 1) := by decide +kernel
theorem dL_law_1141 : decode cL_law 1141 = .ok (.aload_n 1, 1) := by decide +kernel
theorem dL_law_1142 : decode cL_law 1142 = .ok (.aload_n 0, 1) := by decide +kernel
theorem dL_law_1143 : decode cL_law 1143 = .ok (.iload_n 3, 1) := by decide +kernel
theorem dL_law_1144 : decode cL_law 1144 = .ok (.iconst 1, 1) := by decide +kernel
theorem dL_law_1145 : decode cL_law 1145 = .ok (.iadd, 1) := by decide +kernel
theorem dL_law_1146 : decode cL_law 1146 = .ok (.iaload, 1) := by decide +kernel
theorem dL_law_1147 : decode cL_law 1147 = .ok (.invokevirtual 141, 3) := by decide +kernel
theorem dL_law_1150 : decode cL_law 1150 = .ok (.aload_n 2, 1) := by decide +kernel
theorem dL_law_1151 : decode cL_law 1151 = .ok (.aload_n 0, 1) := by decide +kernel
theorem dL_law_1152 : decode cL_law 1152 = .ok (.iload_n 3, 1) := by decide +kernel
theorem dL_law_1153 : decode cL_law 1153 = .ok (.iconst 1, 1) := by decide +kernel
theorem dL_law_1154 : decode cL_law 1154 = .ok (.iadd, 1) := by decide +kernel
theorem dL_law_1155 : decode cL_law 1155 = .ok (.iaload, 1) := by decide +kernel
theorem dL_law_1156 : decode cL_law 1156 = .ok (.invokevirtual 144, 3) := by decide +kernel
theorem dL_law_1159 : decode cL_law 1159 = .ok (.if_icmp .eq 156, 3) := by decide +kernel
theorem dL_law_1162 : decode cL_law 1162 = .ok (.iconst 0, 1) := by decide +kernel
theorem dL_law_1163 : decode cL_law 1163 = .ok (.ireturn, 1) := by decide +kernel
theorem dL_law_1164 : decode cL_law 1164 = .ok (.aload_n 1, 1) := by decide +kernel
theorem dL_law_1165 : decode cL_law 1165 = .ok (.aload_n 0, 1) := by decide +kernel
theorem dL_law_1166 : decode cL_law 1166 = .ok (.iload_n 3, 1) := by decide +kernel
theorem dL_law_1167 : decode cL_law 1167 = .ok (.iconst 1, 1) := by decide +kernel
theorem dL_law_1168 : decode cL_law 1168 = .ok (.iadd, 1) := by decide +kernel
theorem dL_law_1169 : decode cL_law 1169 = .ok (.iaload, 1) := by decide +kernel
theorem dL_law_1170 : decode cL_law 1170 = .ok (.aload_n 0, 1) := by decide +kernel
theorem dL_law_1171 : decode cL_law 1171 = .ok (.iload_n 3, 1) := by decide +kernel
theorem dL_law_1172 : decode cL_law 1172 = .ok (.iconst 2, 1) := by decide +kernel
theorem dL_law_1173 : decode cL_law 1173 = .ok (.iadd, 1) := by decide +kernel
theorem dL_law_1174 : decode cL_law 1174 = .ok (.iaload, 1) := by decide +kernel
theorem dL_law_1175 : decode cL_law 1175 = .ok (.invokevirtual 145, 3) := by decide +kernel
theorem dL_law_1178 : decode cL_law 1178 = .ok (.aload_n 2, 1) := by decide +kernel
theorem dL_law_1179 : decode cL_law 1179 = .ok (.aload_n 0, 1) := by decide +kernel
theorem dL_law_1180 : decode cL_law 1180 = .ok (.iload_n 3, 1) := by decide +kernel
theorem dL_law_1181 : decode cL_law 1181 = .ok (.iconst 1, 1) := by decide +kernel
theorem dL_law_1182 : decode cL_law 1182 = .ok (.iadd, 1) := by decide +kernel
theorem dL_law_1183 : decode cL_law 1183 = .ok (.iaload, 1) := by decide +kernel
theorem dL_law_1184 : decode cL_law 1184 = .ok (.aload_n 0, 1) := by decide +kernel
theorem dL_law_1185 : decode cL_law 1185 = .ok (.iload_n 3, 1) := by decide +kernel
theorem dL_law_1186 : decode cL_law 1186 = .ok (.iconst 2, 1) := by decide +kernel
theorem dL_law_1187 : decode cL_law 1187 = .ok (.iadd, 1) := by decide +kernel
theorem dL_law_1188 : decode cL_law 1188 = .ok (.iaload, 1) := by decide +kernel
theorem dL_law_1189 : decode cL_law 1189 = .ok (.invokevirtual 148, 3) := by decide +kernel
theorem dL_law_1192 : decode cL_law 1192 = .ok (.if_icmp .eq 123, 3) := by decide +kernel
theorem dL_law_1195 : decode cL_law 1195 = .ok (.iconst 0, 1) := by decide +kernel
theorem dL_law_1196 : decode cL_law 1196 = .ok (.ireturn, 1) := by decide +kernel
theorem dL_law_1197 : decode cL_law 1197 = .ok (.aload_n 1, 1) := by decide +kernel
theorem dL_law_1198 : decode cL_law 1198 = .ok (.aload_n 0, 1) := by decide +kernel
theorem dL_law_1199 : decode cL_law 1199 = .ok (.iload_n 3, 1) := by decide +kernel
theorem dL_law_1200 : decode cL_law 1200 = .ok (.iconst 1, 1) := by decide +kernel
theorem dL_law_1201 : decode cL_law 1201 = .ok (.iadd, 1) := by decide +kernel
theorem dL_law_1202 : decode cL_law 1202 = .ok (.iaload, 1) := by decide +kernel
theorem dL_law_1203 : decode cL_law 1203 = .ok (.aload_n 0, 1) := by decide +kernel
theorem dL_law_1204 : decode cL_law 1204 = .ok (.iload_n 3, 1) := by decide +kernel
theorem dL_law_1205 : decode cL_law 1205 = .ok (.iconst 2, 1) := by decide +kernel
theorem dL_law_1206 : decode cL_law 1206 = .ok (.iadd, 1) := by decide +kernel
theorem dL_law_1207 : decode cL_law 1207 = .ok (.iaload, 1) := by decide +kernel
theorem dL_law_1208 : decode cL_law 1208 = .ok (.invokevirtual 149, 3) := by decide +kernel
theorem dL_law_1211 : decode cL_law 1211 = .ok (.aload_n 2, 1) := by decide +kernel
theorem dL_law_1212 : decode cL_law 1212 = .ok (.aload_n 0, 1) := by decide +kernel
theorem dL_law_1213 : decode cL_law 1213 = .ok (.iload_n 3, 1) := by decide +kernel
theorem dL_law_1214 : decode cL_law 1214 = .ok (.iconst 1, 1) := by decide +kernel
theorem dL_law_1215 : decode cL_law 1215 = .ok (.iadd, 1) := by decide +kernel
theorem dL_law_1216 : decode cL_law 1216 = .ok (.iaload, 1) := by decide +kernel
theorem dL_law_1217 : decode cL_law 1217 = .ok (.aload_n 0, 1) := by decide +kernel
theorem dL_law_1218 : decode cL_law 1218 = .ok (.iload_n 3, 1) := by decide +kernel
theorem dL_law_1219 : decode cL_law 1219 = .ok (.iconst 2, 1) := by decide +kernel
theorem dL_law_1220 : decode cL_law 1220 = .ok (.iadd, 1) := by decide +kernel
theorem dL_law_1221 : decode cL_law 1221 = .ok (.iaload, 1) := by decide +kernel
theorem dL_law_1222 : decode cL_law 1222 = .ok (.invokevirtual 152, 3) := by decide +kernel
theorem dL_law_1225 : decode cL_law 1225 = .ok (.if_icmp .eq 90, 3) := by decide +kernel
theorem dL_law_1228 : decode cL_law 1228 = .ok (.iconst 0, 1) := by decide +kernel
theorem dL_law_1229 : decode cL_law 1229 = .ok (.ireturn, 1) := by decide +kernel
theorem dL_law_1230 : decode cL_law 1230 = .ok (.aload_n 1, 1) := by decide +kernel
theorem dL_law_1231 : decode cL_law 1231 = .ok (.invokevirtual 153, 3) := by decide +kernel
theorem dL_law_1234 : decode cL_law 1234 = .ok (.aload_n 2, 1) := by decide +kernel
theorem dL_law_1235 : decode cL_law 1235 = .ok (.invokevirtual 156, 3) := by decide +kernel
theorem dL_law_1238 : decode cL_law 1238 = .ok (.if_icmp .eq 77, 3) := by decide +kernel
theorem dL_law_1241 : decode cL_law 1241 = .ok (.iconst 0, 1) := by decide +kernel
theorem dL_law_1242 : decode cL_law 1242 = .ok (.ireturn, 1) := by decide +kernel
theorem dL_law_1243 : decode cL_law 1243 = .ok (.aload_n 1, 1) := by decide +kernel
theorem dL_law_1244 : decode cL_law 1244 = .ok (.invokevirtual 157, 3) := by decide +kernel
theorem dL_law_1247 : decode cL_law 1247 = .ok (.aload_n 2, 1) := by decide +kernel
theorem dL_law_1248 : decode cL_law 1248 = .ok (.invokevirtual 160, 3) := by decide +kernel
theorem dL_law_1251 : decode cL_law 1251 = .ok (.if_icmp .eq 64, 3) := by decide +kernel
theorem dL_law_1254 : decode cL_law 1254 = .ok (.iconst 0, 1) := by decide +kernel
theorem dL_law_1255 : decode cL_law 1255 = .ok (.ireturn, 1) := by decide +kernel
theorem dL_law_1256 : decode cL_law 1256 = .ok (.aload_n 1, 1) := by decide +kernel
theorem dL_law_1257 : decode cL_law 1257 = .ok (.invokevirtual 161, 3) := by decide +kernel
theorem dL_law_1260 : decode cL_law 1260 = .ok (.aload_n 2, 1) := by decide +kernel
theorem dL_law_1261 : decode cL_law 1261 = .ok (.invokevirtual 164, 3) := by decide +kernel
theorem dL_law_1264 : decode cL_law 1264 = .ok (.if_icmp .eq 51, 3) := by decide +kernel
theorem dL_law_1267 : decode cL_law 1267 = .ok (.iconst 0, 1) := by decide +kernel
theorem dL_law_1268 : decode cL_law 1268 = .ok (.ireturn, 1) := by decide +kernel
theorem dL_law_1269 : decode cL_law 1269 = .ok (.aload_n 1, 1) := by decide +kernel
theorem dL_law_1270 : decode cL_law 1270 = .ok (.aload_n 0, 1) := by decide +kernel
theorem dL_law_1271 : decode cL_law 1271 = .ok (.iload_n 3, 1) := by decide +kernel
theorem dL_law_1272 : decode cL_law 1272 = .ok (.iconst 1, 1) := by decide +kernel
theorem dL_law_1273 : decode cL_law 1273 = .ok (.iadd, 1) := by decide +kernel
theorem dL_law_1274 : decode cL_law 1274 = .ok (.iaload, 1) := by decide +kernel
theorem dL_law_1275 : decode cL_law 1275 = .ok (.invokevirtual 165, 3) := by decide +kernel
theorem dL_law_1278 : decode cL_law 1278 = .ok (.aload_n 2, 1) := by decide +kernel
theorem dL_law_1279 : decode cL_law 1279 = .ok (.aload_n 0, 1) := by decide +kernel
theorem dL_law_1280 : decode cL_law 1280 = .ok (.iload_n 3, 1) := by decide +kernel
theorem dL_law_1281 : decode cL_law 1281 = .ok (.iconst 1, 1) := by decide +kernel
theorem dL_law_1282 : decode cL_law 1282 = .ok (.iadd, 1) := by decide +kernel
theorem dL_law_1283 : decode cL_law 1283 = .ok (.iaload, 1) := by decide +kernel
theorem dL_law_1284 : decode cL_law 1284 = .ok (.invokevirtual 168, 3) := by decide +kernel
theorem dL_law_1287 : decode cL_law 1287 = .ok (.if_icmp .eq 28, 3) := by decide +kernel
theorem dL_law_1290 : decode cL_law 1290 = .ok (.iconst 0, 1) := by decide +kernel
theorem dL_law_1291 : decode cL_law 1291 = .ok (.ireturn, 1) := by decide +kernel
theorem dL_law_1292 : decode cL_law 1292 = .ok (.aload_n 1, 1) := by decide +kernel
theorem dL_law_1293 : decode cL_law 1293 = .ok (.aload_n 0, 1) := by decide +kernel
theorem dL_law_1294 : decode cL_law 1294 = .ok (.iload_n 3, 1) := by decide +kernel
theorem dL_law_1295 : decode cL_law 1295 = .ok (.iconst 1, 1) := by decide +kernel
theorem dL_law_1296 : decode cL_law 1296 = .ok (.iadd, 1) := by decide +kernel
theorem dL_law_1297 : decode cL_law 1297 = .ok (.iaload, 1) := by decide +kernel
theorem dL_law_1298 : decode cL_law 1298 = .ok (.invokevirtual 169, 3) := by decide +kernel
theorem dL_law_1301 : decode cL_law 1301 = .ok (.aload_n 2, 1) := by decide +kernel
theorem dL_law_1302 : decode cL_law 1302 = .ok (.aload_n 0, 1) := by decide +kernel
theorem dL_law_1303 : decode cL_law 1303 = .ok (.iload_n 3, 1) := by decide +kernel
theorem dL_law_1304 : decode cL_law 1304 = .ok (.iconst 1, 1) := by decide +kernel
theorem dL_law_1305 : decode cL_law 1305 = .ok (.iadd, 1) := by decide +kernel
theorem dL_law_1306 : decode cL_law 1306 = .ok (.iaload, 1) := by decide +kernel
theorem dL_law_1307 : decode cL_law 1307 = .ok (.invokevirtual 172, 3) := by decide +kernel
theorem dL_law_1310 : decode cL_law 1310 = .ok (.if_icmp .eq 5, 3) := by decide +kernel
theorem dL_law_1313 : decode cL_law 1313 = .ok (.iconst 0, 1) := by decide +kernel
theorem dL_law_1314 : decode cL_law 1314 = .ok (.ireturn, 1) := by decide +kernel
theorem dL_law_1315 : decode cL_law 1315 = .ok (.iinc 3 6, 3) := by decide +kernel
theorem dL_law_1318 : decode cL_law 1318 = .ok (.goto (-1300), 3) := by decide +kernel
theorem dL_law_1321 : decode cL_law 1321 = .ok (.iconst 1, 1) := by decide +kernel
theorem dL_law_1322 : decode cL_law 1322 = .ok (.ireturn, 1) := by decide +kernel
end
section
/-- a method: its name, its code, its locals, what it answers -/
abbrev zMe : Type := MethodName × ByteArray × Nat × Option FieldType
/-- the tables' words that last -/
def zGW : List Cond := lw_tbl.filter goodWord
theorem zgw {i : Nat} {w : Cond} (h : lw_tbl[i]? = some w) (hg : goodWord w = true) : w ∈ zGW := List.mem_filter.mpr ⟨List.mem_of_getElem? h, hg⟩
/-- the words that a method takes as given: its own code, and all of the tables that last -/
def zws (me : zMe) : List Cond := Cond.code me.1 me.2.1 me.2.2.1 me.2.2.2 :: zGW
/-- the room of a method of height k -/
def zRM (k : Nat) : Room := { frames := k, cells := 0, slots := 0, locals := 40 * k }
theorem zgood {me : zMe} (h : Cond.code me.1 me.2.1 me.2.2.1 me.2.2.2 ∈ zGW) : GoodIn zGW (zws me) := by
  intro w hw
  rcases List.mem_cons.mp hw with rfl | hw
  · exact ⟨h, good_of_word (List.mem_filter.mp h).2⟩
  · exact ⟨hw, good_of_word (List.mem_filter.mp hw).2⟩
/-- what a call's link says, but for the link's own word -/
def zLK (me : zMe) (n : Nat) (w : Cond) : Prop := Cond.code me.1 me.2.1 me.2.2.1 me.2.2.2 ∈ zGW ∧ Cond.initialized me.1.cls ∈ zGW ∧ (me.1.cls ≠ "java/lang/invoke/MethodHandle" ∧ me.1.cls ≠ "java/lang/invoke/VarHandle") ∧ (parseMethodDescriptor me.1.desc).map (fun d => d.parameters.length) = some n ∧ w ∈ zGW
def zLS (own : String) (i : Nat) (me : zMe) (n : Nat) : Prop := zLK me n (.methodLink own i me.1) ∧ Cond.static me.1 ∈ zGW
def zLV (own : String) (i : Nat) (me : zMe) (n : Nat) : Prop := zLK me n (.methodLink own i me.1) ∧ Cond.instanceMethod me.1 ∈ zGW ∧ Cond.selects me.1.cls me.1 me.1 ∈ zGW
def zLI (own : String) (i : Nat) (me : zMe) (n : Nat) : Prop := zLK me n (.methodLink own i me.1) ∧ Cond.instanceMethod me.1 ∈ zGW
def zLSN (_ : String) (_ : Nat) (_ : String) (me : zMe) (n : Nat) : Prop := zLK me n (.code me.1 me.2.1 me.2.2.1 me.2.2.2) ∧ Cond.static me.1 ∈ zGW
def zLIN (_ : String) (_ : Nat) (_ : String) (me : zMe) (n : Nat) : Prop := zLK me n (.code me.1 me.2.1 me.2.2.1 me.2.2.2) ∧ Cond.instanceMethod me.1 ∈ zGW
abbrev mX5_init : zMe := (yX5_init, cX5_init, 2, none)
abbrev mX3_init : zMe := (yX3_init, cX3_init, 1, none)
abbrev mX2_init : zMe := (yX2_init, cX2_init, 1, none)
abbrev mX1_init : zMe := (yX1_init, cX1_init, 1, none)
abbrev mX5_town : zMe := (yX5_town, cX5_town, 3, (some .int))
abbrev mX5_within : zMe := (yX5_within, cX5_within, 3, (some .boolean))
abbrev mX5_found : zMe := (yX5_found, cX5_found, 3, (some .int))
abbrev mX3_changeFigure : zMe := (yX3_changeFigure, cX3_changeFigure, 4, (some .int))
abbrev mX5_street : zMe := (yX5_street, cX5_street, 4, (some .int))
abbrev mX5_isStreet : zMe := (yX5_isStreet, cX5_isStreet, 1, (some .boolean))
abbrev mX5_put : zMe := (yX5_put, cX5_put, 4, (some .int))
abbrev mX5_streetOf : zMe := (yX5_streetOf, cX5_streetOf, 3, (some .int))
abbrev mX3_holesIn : zMe := (yX3_holesIn, cX3_holesIn, 4, (some .int))
abbrev mX3_openHoles : zMe := (yX3_openHoles, cX3_openHoles, 3, (some .int))
abbrev mX5_hole : zMe := (yX5_hole, cX5_hole, 3, (some .int))
abbrev mX5_isKind : zMe := (yX5_isKind, cX5_isKind, 1, (some .boolean))
abbrev mX3_isFull : zMe := (yX3_isFull, cX3_isFull, 1, (some .boolean))
abbrev mX3_addHole : zMe := (yX3_addHole, cX3_addHole, 4, (some .int))
abbrev mX5_of : zMe := (yX5_of, cX5_of, 3, (some .int))
abbrev mX3_has : zMe := (yX3_has, cX3_has, 2, (some .boolean))
abbrev mX3_growth : zMe := (yX3_growth, cX3_growth, 4, (some .int))
abbrev mX3_weekOfYear : zMe := (yX3_weekOfYear, cX3_weekOfYear, 1, (some .int))
abbrev mX0_growth : zMe := (yX0_growth, cX0_growth, 7, (some .int))
abbrev mX0_isFrost : zMe := (yX0_isFrost, cX0_isFrost, 1, (some .boolean))
abbrev mJ9_max_7cf53 : zMe := (yJ9_max_7cf53, cJ9_max_7cf53, 2, (some .int))
abbrev mX3_price : zMe := (yX3_price, cX3_price, 4, (some .int))
abbrev mX0_coldPrice : zMe := (yX0_coldPrice, cX0_coldPrice, 3, (some .int))
abbrev mX0_holds : zMe := (yX0_holds, cX0_holds, 3, (some .int))
abbrev mX3_rowOfHoles : zMe := (yX3_rowOfHoles, cX3_rowOfHoles, 2, (some (.array .int)))
abbrev mX5_set : zMe := (yX5_set, cX5_set, 4, (some .int))
abbrev mX5_turn : zMe := (yX5_turn, cX5_turn, 3, (some .int))
abbrev mX5_as : zMe := (yX5_as, cX5_as, 3, (some .int))
abbrev mX0_isUnder : zMe := (yX0_isUnder, cX0_isUnder, 2, (some .boolean))
abbrev mX5_fill : zMe := (yX5_fill, cX5_fill, 4, (some .int))
abbrev mX3_fillNow : zMe := (yX3_fillNow, cX3_fillNow, 4, none)
abbrev mJ9_min_7cf53 : zMe := (yJ9_min_7cf53, cJ9_min_7cf53, 2, (some .int))
abbrev mX5_next : zMe := (yX5_next, cX5_next, 2, (some .int))
abbrev mX3_firstToFill : zMe := (yX3_firstToFill, cX3_firstToFill, 4, (some .int))
abbrev mX3_isLetGo : zMe := (yX3_isLetGo, cX3_isLetGo, 3, (some .boolean))
abbrev mX3_comesAheadOf : zMe := (yX3_comesAheadOf, cX3_comesAheadOf, 4, (some .boolean))
abbrev mX5_weeks : zMe := (yX5_weeks, cX5_weeks, 2, (some .int))
abbrev mX3_goWeeks : zMe := (yX3_goWeeks, cX3_goWeeks, 3, (some (.object "HoleFills$Town")))
abbrev mX3_goWeek : zMe := (yX3_goWeek, cX3_goWeek, 2, none)
abbrev mX3_sendMen : zMe := (yX3_sendMen, cX3_sendMen, 3, none)
abbrev mX3_wear : zMe := (yX3_wear, cX3_wear, 2, none)
abbrev mX5_now : zMe := (yX5_now, cX5_now, 2, (some .int))
abbrev mX3_openSize : zMe := (yX3_openSize, cX3_openSize, 3, (some .int))
abbrev mX5_on : zMe := (yX5_on, cX5_on, 5, (some .int))
abbrev mX5_asItIs : zMe := (yX5_asItIs, cX5_asItIs, 1, (some (.object "HoleFills$Town")))
abbrev mX3_become : zMe := (yX3_become, cX3_become, 2, none)
abbrev mX5_worse : zMe := (yX5_worse, cX5_worse, 2, (some .int))
abbrev mX5_cost : zMe := (yX5_cost, cX5_cost, 3, (some .int))
abbrev mX5_filled : zMe := (yX5_filled, cX5_filled, 3, (some .int))
abbrev mX5_weeksUntil : zMe := (yX5_weeksUntil, cX5_weeksUntil, 5, (some .int))
abbrev mX5_breaks : zMe := (yX5_breaks, cX5_breaks, 3, (some .int))
abbrev mX5_how : zMe := (yX5_how, cX5_how, 4, (some .int))
abbrev mX5_ring : zMe := (yX5_ring, cX5_ring, 7, (some .int))
abbrev mX5_men : zMe := (yX5_men, cX5_men, 5, (some .int))
abbrev mX5_budget : zMe := (yX5_budget, cX5_budget, 6, (some .int))
abbrev mX5_kind : zMe := (yX5_kind, cX5_kind, 7, (some .int))
abbrev mX5_let : zMe := (yX5_let, cX5_let, 7, (some .int))
abbrev mX3_letGoAll : zMe := (yX3_letGoAll, cX3_letGoAll, 3, none)
abbrev mX5_worst : zMe := (yX5_worst, cX5_worst, 5, (some .int))
abbrev mX3_openSizeOf : zMe := (yX3_openSizeOf, cX3_openSizeOf, 4, (some .int))
abbrev mX5_feed : zMe := (yX5_feed, cX5_feed, 4, (some .int))
abbrev mX2_add : zMe := (yX2_add, cX2_add, 2, none)
abbrev mX5_wipe : zMe := (yX5_wipe, cX5_wipe, 1, (some .int))
abbrev mX2_clear : zMe := (yX2_clear, cX2_clear, 2, (some .int))
abbrev mX5_text : zMe := (yX5_text, cX5_text, 3, (some .int))
abbrev mX4_readAll : zMe := (yX4_readAll, cX4_readAll, 3, (some .int))
abbrev mX2_begin : zMe := (yX2_begin, cX2_begin, 1, none)
abbrev mX2_advance : zMe := (yX2_advance, cX2_advance, 2, none)
abbrev mX2_endOfRun : zMe := (yX2_endOfRun, cX2_endOfRun, 5, (some .int))
abbrev mX2_valueOfToken : zMe := (yX2_valueOfToken, cX2_valueOfToken, 3, (some .int))
abbrev mX4_readItem : zMe := (yX4_readItem, cX4_readItem, 3, (some .boolean))
abbrev mX0_nameOf : zMe := (yX0_nameOf, cX0_nameOf, 1, (some (.object "java/lang/String")))
abbrev mX2_isAt : zMe := (yX2_isAt, cX2_isAt, 3, (some .boolean))
abbrev mJ0_length_8abf5 : zMe := (yJ0_length_8abf5, cJ0_length_8abf5, 1, (some .int))
abbrev mJ0_coder_7d493 : zMe := (yJ0_coder_7d493, cJ0_coder_7d493, 1, (some .byte))
abbrev mJ0_charAt_5068e : zMe := (yJ0_charAt_5068e, cJ0_charAt_5068e, 2, (some .char))
abbrev mJ0_isLatin1_aae02 : zMe := (yJ0_isLatin1_aae02, cJ0_isLatin1_aae02, 1, (some .boolean))
abbrev mJ1_charAt_3b067 : zMe := (yJ1_charAt_3b067, cJ1_charAt_3b067, 2, (some .char))
abbrev mJ0_checkIndex_df160 : zMe := (yJ0_checkIndex_df160, cJ0_checkIndex_df160, 2, none)
abbrev mJ3_checkIndex_8e157 : zMe := (yJ3_checkIndex_8e157, cJ3_checkIndex_8e157, 3, (some .int))
abbrev mJ2_charAt_3b067 : zMe := (yJ2_charAt_3b067, cJ2_charAt_3b067, 2, (some .char))
abbrev mJ2_checkIndex_2214a : zMe := (yJ2_checkIndex_2214a, cJ2_checkIndex_2214a, 2, none)
abbrev mJ2_length_9d52b : zMe := (yJ2_length_9d52b, cJ2_length_9d52b, 1, (some .int))
abbrev mJ2_getChar_3b067 : zMe := (yJ2_getChar_3b067, cJ2_getChar_3b067, 2, (some .char))
abbrev mX4_readHole : zMe := (yX4_readHole, cX4_readHole, 6, (some .boolean))
abbrev mX2_pass : zMe := (yX2_pass, cX2_pass, 3, (some .boolean))
abbrev mX2_passNumber : zMe := (yX2_passNumber, cX2_passNumber, 3, (some .int))
abbrev mX4_readStreet : zMe := (yX4_readStreet, cX4_readStreet, 4, (some .boolean))
abbrev mX5_sheet : zMe := (yX5_sheet, cX5_sheet, 5, (some .int))
abbrev mX5_sheetAt : zMe := (yX5_sheetAt, cX5_sheetAt, 2, (some (.object "HoleFills$Sheet")))
abbrev mX1_begin : zMe := (yX1_begin, cX1_begin, 4, none)
abbrev mX5_write : zMe := (yX5_write, cX5_write, 8, (some .long))
abbrev mX1_isMissing : zMe := (yX1_isMissing, cX1_isMissing, 1, (some .boolean))
abbrev mX1_put : zMe := (yX1_put, cX1_put, 4, none)
abbrev mX5_copy : zMe := (yX5_copy, cX5_copy, 8, (some .int))
abbrev mX1_hasSpan : zMe := (yX1_hasSpan, cX1_hasSpan, 3, (some .boolean))
abbrev mX5_lays : zMe := (yX5_lays, cX5_lays, 7, (some .int))
abbrev mX5_book : zMe := (yX5_book, cX5_book, 6, (some .int))
abbrev mX5_read : zMe := (yX5_read, cX5_read, 8, (some .int))
abbrev mX5_growsAs : zMe := (yX5_growsAs, cX5_growsAs, 4, (some .boolean))
abbrev mX5_image : zMe := (yX5_image, cX5_image, 1, (some .int))
abbrev mX5_undo : zMe := (yX5_undo, cX5_undo, 1, (some .int))
abbrev mX5_tear : zMe := (yX5_tear, cX5_tear, 2, (some .int))
abbrev mX5_count : zMe := (yX5_count, cX5_count, 2, (some .int))
abbrev mJ6_bitCount_0f7a4 : zMe := (yJ6_bitCount_0f7a4, cJ6_bitCount_0f7a4, 1, (some .int))
abbrev mX3_holesRungFor : zMe := (yX3_holesRungFor, cX3_holesRungFor, 3, (some .int))
abbrev mX5_status : zMe := (yX5_status, cX5_status, 4, (some .int))
abbrev mX6_init : zMe := (yX6_init, cX6_init, 2, none)
abbrev mX6_roadOf : zMe := (yX6_roadOf, cX6_roadOf, 2, (some .int))
abbrev mX6_town : zMe := (yX6_town, cX6_town, 4, (some .int))
abbrev mX6_in : zMe := (yX6_in, cX6_in, 6, (some .boolean))
abbrev mX6_becomes : zMe := (yX6_becomes, cX6_becomes, 4, (some .int))
abbrev mX6_finds : zMe := (yX6_finds, cX6_finds, 2, (some .int))
abbrev mX6_street : zMe := (yX6_street, cX6_street, 5, (some .int))
abbrev mX6_isStreet : zMe := (yX6_isStreet, cX6_isStreet, 1, (some .boolean))
abbrev mX6_streetOf : zMe := (yX6_streetOf, cX6_streetOf, 4, (some .int))
abbrev mX6_thoseAs : zMe := (yX6_thoseAs, cX6_thoseAs, 5, (some .int))
abbrev mX6_its : zMe := (yX6_its, cX6_its, 3, (some .int))
abbrev mX6_spotOf : zMe := (yX6_spotOf, cX6_spotOf, 2, (some .int))
abbrev mX6_hole : zMe := (yX6_hole, cX6_hole, 3, (some .int))
abbrev mX6_isKind : zMe := (yX6_isKind, cX6_isKind, 1, (some .boolean))
abbrev mX6_adds : zMe := (yX6_adds, cX6_adds, 4, (some .int))
abbrev mX6_of : zMe := (yX6_of, cX6_of, 3, (some .int))
abbrev mX6_isHole : zMe := (yX6_isHole, cX6_isHole, 2, (some .boolean))
abbrev mX6_growsOf : zMe := (yX6_growsOf, cX6_growsOf, 4, (some .int))
abbrev mX6_isFrost : zMe := (yX6_isFrost, cX6_isFrost, 1, (some .boolean))
abbrev mX6_weekOfYear : zMe := (yX6_weekOfYear, cX6_weekOfYear, 1, (some .int))
abbrev mX6_costsOf : zMe := (yX6_costsOf, cX6_costsOf, 3, (some .int))
abbrev mX6_holdsOf : zMe := (yX6_holdsOf, cX6_holdsOf, 4, (some .int))
abbrev mX6_set : zMe := (yX6_set, cX6_set, 4, (some .int))
abbrev mX6_isPart : zMe := (yX6_isPart, cX6_isPart, 2, (some .boolean))
abbrev mX6_turn : zMe := (yX6_turn, cX6_turn, 3, (some .int))
abbrev mX6_as : zMe := (yX6_as, cX6_as, 3, (some .int))
abbrev mX6_isUnder : zMe := (yX6_isUnder, cX6_isUnder, 2, (some .boolean))
abbrev mX6_fill : zMe := (yX6_fill, cX6_fill, 3, (some .int))
abbrev mX6_mayFill : zMe := (yX6_mayFill, cX6_mayFill, 3, (some .boolean))
abbrev mX6_priceOf : zMe := (yX6_priceOf, cX6_priceOf, 3, (some .int))
abbrev mX6_fills : zMe := (yX6_fills, cX6_fills, 4, (some .int))
abbrev mX6_heldTo : zMe := (yX6_heldTo, cX6_heldTo, 2, (some .int))
abbrev mX6_next : zMe := (yX6_next, cX6_next, 2, (some .int))
abbrev mX6_nextOne : zMe := (yX6_nextOne, cX6_nextOne, 4, (some .int))
abbrev mX6_isAhead : zMe := (yX6_isAhead, cX6_isAhead, 4, (some .boolean))
abbrev mX6_weeks : zMe := (yX6_weeks, cX6_weeks, 2, (some .int))
abbrev mX6_weeksGo : zMe := (yX6_weeksGo, cX6_weeksGo, 3, none)
abbrev mX6_week : zMe := (yX6_week, cX6_week, 4, none)
abbrev mX6_ages : zMe := (yX6_ages, cX6_ages, 2, none)
abbrev mX6_now : zMe := (yX6_now, cX6_now, 2, (some .int))
abbrev mX6_worseNow : zMe := (yX6_worseNow, cX6_worseNow, 1, (some .int))
abbrev mX6_sizesOf : zMe := (yX6_sizesOf, cX6_sizesOf, 4, (some .int))
abbrev mX6_on : zMe := (yX6_on, cX6_on, 4, (some .int))
abbrev mX6_isFar : zMe := (yX6_isFar, cX6_isFar, 3, (some .boolean))
abbrev mX6_laysAside : zMe := (yX6_laysAside, cX6_laysAside, 2, none)
abbrev mX6_takesBack : zMe := (yX6_takesBack, cX6_takesBack, 3, (some .int))
abbrev mX6_worse : zMe := (yX6_worse, cX6_worse, 2, (some .int))
abbrev mX6_worseIn : zMe := (yX6_worseIn, cX6_worseIn, 2, (some .int))
abbrev mX6_cost : zMe := (yX6_cost, cX6_cost, 3, (some .int))
abbrev mX6_filled : zMe := (yX6_filled, cX6_filled, 2, (some .int))
abbrev mX6_firstSo : zMe := (yX6_firstSo, cX6_firstSo, 5, (some .int))
abbrev mX6_breaks : zMe := (yX6_breaks, cX6_breaks, 2, (some .int))
abbrev mX6_how : zMe := (yX6_how, cX6_how, 5, (some .int))
abbrev mX6_ring : zMe := (yX6_ring, cX6_ring, 7, (some .int))
abbrev mX6_men : zMe := (yX6_men, cX6_men, 3, (some .int))
abbrev mX6_leastBy : zMe := (yX6_leastBy, cX6_leastBy, 8, (some .int))
abbrev mX6_budget : zMe := (yX6_budget, cX6_budget, 3, (some .int))
abbrev mX6_kind : zMe := (yX6_kind, cX6_kind, 7, (some .int))
abbrev mX6_let : zMe := (yX6_let, cX6_let, 6, (some .int))
abbrev mX6_worst : zMe := (yX6_worst, cX6_worst, 5, (some .int))
abbrev mX6_feed : zMe := (yX6_feed, cX6_feed, 4, (some .int))
abbrev mX6_wipe : zMe := (yX6_wipe, cX6_wipe, 2, (some .int))
abbrev mX6_text : zMe := (yX6_text, cX6_text, 2, (some .int))
abbrev mX6_saves : zMe := (yX6_saves, cX6_saves, 2, none)
abbrev mX6_token : zMe := (yX6_token, cX6_token, 3, none)
abbrev mX6_byteAt : zMe := (yX6_byteAt, cX6_byteAt, 2, (some .int))
abbrev mX6_isLetter : zMe := (yX6_isLetter, cX6_isLetter, 1, (some .boolean))
abbrev mX6_isDigit : zMe := (yX6_isDigit, cX6_isDigit, 1, (some .boolean))
abbrev mX6_item : zMe := (yX6_item, cX6_item, 6, none)
abbrev mX6_kindHere : zMe := (yX6_kindHere, cX6_kindHere, 3, (some .int))
abbrev mX6_word : zMe := (yX6_word, cX6_word, 4, (some .long))
abbrev mX6_holeItem : zMe := (yX6_holeItem, cX6_holeItem, 3, none)
abbrev mX6_must : zMe := (yX6_must, cX6_must, 2, none)
abbrev mX6_partItem : zMe := (yX6_partItem, cX6_partItem, 5, none)
abbrev mX6_number : zMe := (yX6_number, cX6_number, 6, none)
abbrev mX6_wordItem : zMe := (yX6_wordItem, cX6_wordItem, 5, none)
abbrev mX6_streetItem : zMe := (yX6_streetItem, cX6_streetItem, 2, none)
abbrev mX6_putsBack : zMe := (yX6_putsBack, cX6_putsBack, 2, none)
abbrev mX6_sheet : zMe := (yX6_sheet, cX6_sheet, 5, (some .int))
abbrev mX6_isOne : zMe := (yX6_isOne, cX6_isOne, 1, (some .boolean))
abbrev mX6_write : zMe := (yX6_write, cX6_write, 8, (some .long))
abbrev mX6_wrongSheet : zMe := (yX6_wrongSheet, cX6_wrongSheet, 2, (some .int))
abbrev mX6_narrowed : zMe := (yX6_narrowed, cX6_narrowed, 3, (some .long))
abbrev mX6_copy : zMe := (yX6_copy, cX6_copy, 7, (some .int))
abbrev mX6_lays : zMe := (yX6_lays, cX6_lays, 6, (some .int))
abbrev mX6_book : zMe := (yX6_book, cX6_book, 5, (some .int))
abbrev mX6_wrongBook : zMe := (yX6_wrongBook, cX6_wrongBook, 4, (some .int))
abbrev mX6_read : zMe := (yX6_read, cX6_read, 6, (some .int))
abbrev mX6_isBook : zMe := (yX6_isBook, cX6_isBook, 4, (some .boolean))
abbrev mX6_image : zMe := (yX6_image, cX6_image, 2, (some .int))
abbrev mX6_undo : zMe := (yX6_undo, cX6_undo, 2, (some .int))
abbrev mX6_tear : zMe := (yX6_tear, cX6_tear, 2, (some .int))
abbrev mX6_count : zMe := (yX6_count, cX6_count, 2, (some .int))
abbrev mX6_ones : zMe := (yX6_ones, cX6_ones, 3, (some .int))
abbrev mX6_status : zMe := (yX6_status, cX6_status, 4, (some .int))
theorem lkL_9 : zLI RL 9 mX5_init 0 := ⟨⟨zgw (i := 71) (by decide +kernel) rfl, zgw (i := 53) (by decide +kernel) rfl, ⟨by decide +kernel, by decide +kernel⟩, (by decide +kernel), zgw (i := 69) (by decide +kernel) rfl⟩, zgw (i := 70) (by decide +kernel) rfl⟩
-- no own method: X5 1 ('java/lang/Object', '<init>', '()V')
theorem lkX5_9 : zLIN RX5 9 "HoleFills" mX3_init 0 := ⟨⟨zgw (i := 79) (by decide +kernel) rfl, zgw (i := 54) (by decide +kernel) rfl, ⟨by decide +kernel, by decide +kernel⟩, (by decide +kernel), zgw (i := 79) (by decide +kernel) rfl⟩, zgw (i := 78) (by decide +kernel) rfl⟩
-- no own method: X3 3 ('java/lang/Object', '<init>', '()V')
theorem fkX3_9 : Cond.fieldLink RX3 9 "HoleFills$Town" "week" "I" ∈ zGW := zgw (i := 81) (by decide +kernel) rfl
theorem fkX5_143 : Cond.fieldLink RX5 143 "HoleFills$Town" "week" "I" ∈ zGW := zgw (i := 82) (by decide +kernel) rfl
theorem fkX3_15 : Cond.fieldLink RX3 15 "HoleFills$Town" "budget" "I" ∈ zGW := zgw (i := 83) (by decide +kernel) rfl
theorem fkX4_58 : Cond.fieldLink RX4 58 "HoleFills$Town" "budget" "I" ∈ zGW := zgw (i := 84) (by decide +kernel) rfl
theorem fkX5_130 : Cond.fieldLink RX5 130 "HoleFills$Town" "budget" "I" ∈ zGW := zgw (i := 85) (by decide +kernel) rfl
theorem fkX3_18 : Cond.fieldLink RX3 18 "HoleFills$Town" "yearly" "I" ∈ zGW := zgw (i := 86) (by decide +kernel) rfl
theorem fkX5_150 : Cond.fieldLink RX5 150 "HoleFills$Town" "yearly" "I" ∈ zGW := zgw (i := 87) (by decide +kernel) rfl
theorem fkX3_21 : Cond.fieldLink RX3 21 "HoleFills$Town" "men" "I" ∈ zGW := zgw (i := 88) (by decide +kernel) rfl
theorem fkX4_64 : Cond.fieldLink RX4 64 "HoleFills$Town" "men" "I" ∈ zGW := zgw (i := 89) (by decide +kernel) rfl
theorem fkX5_153 : Cond.fieldLink RX5 153 "HoleFills$Town" "men" "I" ∈ zGW := zgw (i := 90) (by decide +kernel) rfl
theorem fkX3_24 : Cond.fieldLink RX3 24 "HoleFills$Town" "hot" "I" ∈ zGW := zgw (i := 91) (by decide +kernel) rfl
theorem fkX5_156 : Cond.fieldLink RX5 156 "HoleFills$Town" "hot" "I" ∈ zGW := zgw (i := 92) (by decide +kernel) rfl
theorem fkX3_27 : Cond.fieldLink RX3 27 "HoleFills$Town" "spent" "I" ∈ zGW := zgw (i := 93) (by decide +kernel) rfl
theorem fkX5_159 : Cond.fieldLink RX5 159 "HoleFills$Town" "spent" "I" ∈ zGW := zgw (i := 94) (by decide +kernel) rfl
theorem fkX3_30 : Cond.fieldLink RX3 30 "HoleFills$Town" "lacked" "I" ∈ zGW := zgw (i := 95) (by decide +kernel) rfl
theorem fkX5_185 : Cond.fieldLink RX5 185 "HoleFills$Town" "lacked" "I" ∈ zGW := zgw (i := 96) (by decide +kernel) rfl
theorem fkX3_33 : Cond.fieldLink RX3 33 "HoleFills$Town" "traffic" "[I" ∈ zGW := zgw (i := 97) (by decide +kernel) rfl
theorem fkX5_67 : Cond.fieldLink RX5 67 "HoleFills$Town" "traffic" "[I" ∈ zGW := zgw (i := 98) (by decide +kernel) rfl
theorem fkX4_100 : Cond.fieldLink RX4 100 "HoleFills$Town" "traffic" "[I" ∈ zGW := zgw (i := 99) (by decide +kernel) rfl
theorem fkX3_37 : Cond.fieldLink RX3 37 "HoleFills$Town" "letGo" "[I" ∈ zGW := zgw (i := 100) (by decide +kernel) rfl
theorem fkX5_70 : Cond.fieldLink RX5 70 "HoleFills$Town" "letGo" "[I" ∈ zGW := zgw (i := 101) (by decide +kernel) rfl
theorem fkX4_102 : Cond.fieldLink RX4 102 "HoleFills$Town" "letGo" "[I" ∈ zGW := zgw (i := 102) (by decide +kernel) rfl
theorem fkX3_40 : Cond.fieldLink RX3 40 "HoleFills$Town" "holes" "I" ∈ zGW := zgw (i := 103) (by decide +kernel) rfl
theorem fkX5_179 : Cond.fieldLink RX5 179 "HoleFills$Town" "holes" "I" ∈ zGW := zgw (i := 104) (by decide +kernel) rfl
theorem fkX3_43 : Cond.fieldLink RX3 43 "HoleFills$Town" "kinds" "[I" ∈ zGW := zgw (i := 105) (by decide +kernel) rfl
theorem fkX5_104 : Cond.fieldLink RX5 104 "HoleFills$Town" "kinds" "[I" ∈ zGW := zgw (i := 106) (by decide +kernel) rfl
theorem fkX3_46 : Cond.fieldLink RX3 46 "HoleFills$Town" "streets" "[I" ∈ zGW := zgw (i := 107) (by decide +kernel) rfl
theorem fkX3_49 : Cond.fieldLink RX3 49 "HoleFills$Town" "sizes" "[I" ∈ zGW := zgw (i := 108) (by decide +kernel) rfl
theorem fkX4_78 : Cond.fieldLink RX4 78 "HoleFills$Town" "sizes" "[I" ∈ zGW := zgw (i := 109) (by decide +kernel) rfl
theorem fkX5_124 : Cond.fieldLink RX5 124 "HoleFills$Town" "sizes" "[I" ∈ zGW := zgw (i := 110) (by decide +kernel) rfl
theorem fkX3_52 : Cond.fieldLink RX3 52 "HoleFills$Town" "fills" "[I" ∈ zGW := zgw (i := 111) (by decide +kernel) rfl
theorem fkX4_84 : Cond.fieldLink RX4 84 "HoleFills$Town" "fills" "[I" ∈ zGW := zgw (i := 112) (by decide +kernel) rfl
theorem fkX5_127 : Cond.fieldLink RX5 127 "HoleFills$Town" "fills" "[I" ∈ zGW := zgw (i := 113) (by decide +kernel) rfl
theorem fkX3_55 : Cond.fieldLink RX3 55 "HoleFills$Town" "ages" "[I" ∈ zGW := zgw (i := 114) (by decide +kernel) rfl
theorem fkX5_256 : Cond.fieldLink RX5 256 "HoleFills$Town" "ages" "[I" ∈ zGW := zgw (i := 115) (by decide +kernel) rfl
theorem fkX3_58 : Cond.fieldLink RX3 58 "HoleFills$Town" "rungs" "[I" ∈ zGW := zgw (i := 116) (by decide +kernel) rfl
theorem fkX4_89 : Cond.fieldLink RX4 89 "HoleFills$Town" "rungs" "[I" ∈ zGW := zgw (i := 117) (by decide +kernel) rfl
theorem fkX5_182 : Cond.fieldLink RX5 182 "HoleFills$Town" "rungs" "[I" ∈ zGW := zgw (i := 118) (by decide +kernel) rfl
theorem lkX5_28 : zLIN RX5 28 "HoleFills" mX2_init 0 := ⟨⟨zgw (i := 157) (by decide +kernel) rfl, zgw (i := 55) (by decide +kernel) rfl, ⟨by decide +kernel, by decide +kernel⟩, (by decide +kernel), zgw (i := 157) (by decide +kernel) rfl⟩, zgw (i := 156) (by decide +kernel) rfl⟩
-- no own method: X2 3 ('java/lang/Object', '<init>', '()V')
theorem fkX2_9 : Cond.fieldLink RX2 9 "HoleFills$Tape" "bytes" "[I" ∈ zGW := zgw (i := 159) (by decide +kernel) rfl
theorem fkX2_15 : Cond.fieldLink RX2 15 "HoleFills$Tape" "length" "I" ∈ zGW := zgw (i := 160) (by decide +kernel) rfl
theorem fkX5_200 : Cond.fieldLink RX5 200 "HoleFills$Tape" "length" "I" ∈ zGW := zgw (i := 161) (by decide +kernel) rfl
theorem fkX2_19 : Cond.fieldLink RX2 19 "HoleFills$Tape" "token" "I" ∈ zGW := zgw (i := 162) (by decide +kernel) rfl
theorem fkX4_20 : Cond.fieldLink RX4 20 "HoleFills$Tape" "token" "I" ∈ zGW := zgw (i := 163) (by decide +kernel) rfl
theorem fkX2_22 : Cond.fieldLink RX2 22 "HoleFills$Tape" "start" "I" ∈ zGW := zgw (i := 164) (by decide +kernel) rfl
theorem fkX4_27 : Cond.fieldLink RX4 27 "HoleFills$Tape" "start" "I" ∈ zGW := zgw (i := 165) (by decide +kernel) rfl
theorem fkX2_25 : Cond.fieldLink RX2 25 "HoleFills$Tape" "end" "I" ∈ zGW := zgw (i := 166) (by decide +kernel) rfl
theorem fkX2_28 : Cond.fieldLink RX2 28 "HoleFills$Tape" "value" "I" ∈ zGW := zgw (i := 167) (by decide +kernel) rfl
theorem lkX5_43 : zLIN RX5 43 "HoleFills" mX1_init 0 := ⟨⟨zgw (i := 186) (by decide +kernel) rfl, zgw (i := 56) (by decide +kernel) rfl, ⟨by decide +kernel, by decide +kernel⟩, (by decide +kernel), zgw (i := 186) (by decide +kernel) rfl⟩, zgw (i := 185) (by decide +kernel) rfl⟩
-- no own method: X1 3 ('java/lang/Object', '<init>', '()V')
theorem fkX1_9 : Cond.fieldLink RX1 9 "HoleFills$Sheet" "bits" "I" ∈ zGW := zgw (i := 188) (by decide +kernel) rfl
theorem fkX5_239 : Cond.fieldLink RX5 239 "HoleFills$Sheet" "bits" "I" ∈ zGW := zgw (i := 189) (by decide +kernel) rfl
theorem fkX1_15 : Cond.fieldLink RX1 15 "HoleFills$Sheet" "length" "I" ∈ zGW := zgw (i := 190) (by decide +kernel) rfl
theorem fkX5_227 : Cond.fieldLink RX5 227 "HoleFills$Sheet" "length" "I" ∈ zGW := zgw (i := 191) (by decide +kernel) rfl
theorem fkX1_18 : Cond.fieldLink RX1 18 "HoleFills$Sheet" "numbers" "[J" ∈ zGW := zgw (i := 192) (by decide +kernel) rfl
theorem fkX5_232 : Cond.fieldLink RX5 232 "HoleFills$Sheet" "numbers" "[J" ∈ zGW := zgw (i := 193) (by decide +kernel) rfl
theorem fkX5_10 : Cond.fieldLink RX5 10 "HoleFills" "here" "LHoleFills$Town;" ∈ zGW := zgw (i := 202) (by decide +kernel) rfl
theorem fkX5_16 : Cond.fieldLink RX5 16 "HoleFills" "trial" "LHoleFills$Town;" ∈ zGW := zgw (i := 203) (by decide +kernel) rfl
theorem fkX5_19 : Cond.fieldLink RX5 19 "HoleFills" "kept" "LHoleFills$Town;" ∈ zGW := zgw (i := 204) (by decide +kernel) rfl
theorem fkX5_22 : Cond.fieldLink RX5 22 "HoleFills" "isKept" "Z" ∈ zGW := zgw (i := 205) (by decide +kernel) rfl
theorem fkX5_29 : Cond.fieldLink RX5 29 "HoleFills" "tape" "LHoleFills$Tape;" ∈ zGW := zgw (i := 206) (by decide +kernel) rfl
theorem fkX5_35 : Cond.fieldLink RX5 35 "HoleFills" "sheets" "[LHoleFills$Sheet;" ∈ zGW := zgw (i := 207) (by decide +kernel) rfl
theorem fkX5_39 : Cond.fieldLink RX5 39 "HoleFills" "findings" "[I" ∈ zGW := zgw (i := 208) (by decide +kernel) rfl
theorem lkL_13 : zLV RL 13 mX5_town 2 := ⟨⟨zgw (i := 227) (by decide +kernel) rfl, zgw (i := 53) (by decide +kernel) rfl, ⟨by decide +kernel, by decide +kernel⟩, (by decide +kernel), zgw (i := 224) (by decide +kernel) rfl⟩, zgw (i := 225) (by decide +kernel) rfl, zgw (i := 226) (by decide +kernel) rfl⟩
theorem lkX5_44 : zLS RX5 44 mX5_within 3 := ⟨⟨zgw (i := 230) (by decide +kernel) rfl, zgw (i := 53) (by decide +kernel) rfl, ⟨by decide +kernel, by decide +kernel⟩, (by decide +kernel), zgw (i := 228) (by decide +kernel) rfl⟩, zgw (i := 229) (by decide +kernel) rfl⟩
theorem fkX5_48 : Cond.fieldLink RX5 48 "HoleFills" "MOST_OF_TOWN" "[I" ∈ zGW := zgw (i := 231) (by decide +kernel) rfl
theorem ckX5_51 : Cond.constant RX5 51 (-1000000001) ∈ zGW := zgw (i := 233) (by decide +kernel) rfl
theorem lkX5_52 : zLV RX5 52 mX5_found 1 := ⟨⟨zgw (i := 237) (by decide +kernel) rfl, zgw (i := 53) (by decide +kernel) rfl, ⟨by decide +kernel, by decide +kernel⟩, (by decide +kernel), zgw (i := 234) (by decide +kernel) rfl⟩, zgw (i := 236) (by decide +kernel) rfl, zgw (i := 0) (by decide +kernel) rfl⟩
theorem lkX5_56 : zLV RX5 56 mX3_changeFigure 2 := ⟨⟨zgw (i := 241) (by decide +kernel) rfl, zgw (i := 54) (by decide +kernel) rfl, ⟨by decide +kernel, by decide +kernel⟩, (by decide +kernel), zgw (i := 238) (by decide +kernel) rfl⟩, zgw (i := 239) (by decide +kernel) rfl, zgw (i := 240) (by decide +kernel) rfl⟩
theorem lkL_18 : zLV RL 18 mX5_street 3 := ⟨⟨zgw (i := 245) (by decide +kernel) rfl, zgw (i := 53) (by decide +kernel) rfl, ⟨by decide +kernel, by decide +kernel⟩, (by decide +kernel), zgw (i := 242) (by decide +kernel) rfl⟩, zgw (i := 243) (by decide +kernel) rfl, zgw (i := 244) (by decide +kernel) rfl⟩
theorem lkX5_60 : zLS RX5 60 mX5_isStreet 1 := ⟨⟨zgw (i := 248) (by decide +kernel) rfl, zgw (i := 53) (by decide +kernel) rfl, ⟨by decide +kernel, by decide +kernel⟩, (by decide +kernel), zgw (i := 246) (by decide +kernel) rfl⟩, zgw (i := 247) (by decide +kernel) rfl⟩
theorem fkX5_64 : Cond.fieldLink RX5 64 "HoleFills" "MOST_OF_STREET" "[I" ∈ zGW := zgw (i := 249) (by decide +kernel) rfl
theorem lkX5_73 : zLS RX5 73 mX5_put 3 := ⟨⟨zgw (i := 253) (by decide +kernel) rfl, zgw (i := 53) (by decide +kernel) rfl, ⟨by decide +kernel, by decide +kernel⟩, (by decide +kernel), zgw (i := 251) (by decide +kernel) rfl⟩, zgw (i := 252) (by decide +kernel) rfl⟩
theorem lkL_23 : zLV RL 23 mX5_streetOf 2 := ⟨⟨zgw (i := 257) (by decide +kernel) rfl, zgw (i := 53) (by decide +kernel) rfl, ⟨by decide +kernel, by decide +kernel⟩, (by decide +kernel), zgw (i := 254) (by decide +kernel) rfl⟩, zgw (i := 255) (by decide +kernel) rfl, zgw (i := 256) (by decide +kernel) rfl⟩
theorem lkX5_77 : zLV RX5 77 mX3_holesIn 1 := ⟨⟨zgw (i := 261) (by decide +kernel) rfl, zgw (i := 54) (by decide +kernel) rfl, ⟨by decide +kernel, by decide +kernel⟩, (by decide +kernel), zgw (i := 258) (by decide +kernel) rfl⟩, zgw (i := 259) (by decide +kernel) rfl, zgw (i := 260) (by decide +kernel) rfl⟩
theorem lkX5_80 : zLV RX5 80 mX3_openHoles 0 := ⟨⟨zgw (i := 265) (by decide +kernel) rfl, zgw (i := 54) (by decide +kernel) rfl, ⟨by decide +kernel, by decide +kernel⟩, (by decide +kernel), zgw (i := 262) (by decide +kernel) rfl⟩, zgw (i := 263) (by decide +kernel) rfl, zgw (i := 264) (by decide +kernel) rfl⟩
theorem lkL_27 : zLV RL 27 mX5_hole 2 := ⟨⟨zgw (i := 269) (by decide +kernel) rfl, zgw (i := 53) (by decide +kernel) rfl, ⟨by decide +kernel, by decide +kernel⟩, (by decide +kernel), zgw (i := 266) (by decide +kernel) rfl⟩, zgw (i := 267) (by decide +kernel) rfl, zgw (i := 268) (by decide +kernel) rfl⟩
theorem lkX5_84 : zLS RX5 84 mX5_isKind 1 := ⟨⟨zgw (i := 272) (by decide +kernel) rfl, zgw (i := 53) (by decide +kernel) rfl, ⟨by decide +kernel, by decide +kernel⟩, (by decide +kernel), zgw (i := 270) (by decide +kernel) rfl⟩, zgw (i := 271) (by decide +kernel) rfl⟩
theorem lkX5_87 : zLV RX5 87 mX3_isFull 0 := ⟨⟨zgw (i := 276) (by decide +kernel) rfl, zgw (i := 54) (by decide +kernel) rfl, ⟨by decide +kernel, by decide +kernel⟩, (by decide +kernel), zgw (i := 273) (by decide +kernel) rfl⟩, zgw (i := 274) (by decide +kernel) rfl, zgw (i := 275) (by decide +kernel) rfl⟩
theorem ckX5_91 : Cond.constant RX5 91 (-1000000002) ∈ zGW := zgw (i := 277) (by decide +kernel) rfl
theorem lkX5_92 : zLV RX5 92 mX3_addHole 2 := ⟨⟨zgw (i := 281) (by decide +kernel) rfl, zgw (i := 54) (by decide +kernel) rfl, ⟨by decide +kernel, by decide +kernel⟩, (by decide +kernel), zgw (i := 278) (by decide +kernel) rfl⟩, zgw (i := 279) (by decide +kernel) rfl, zgw (i := 280) (by decide +kernel) rfl⟩
theorem lkL_31 : zLV RL 31 mX5_of 2 := ⟨⟨zgw (i := 285) (by decide +kernel) rfl, zgw (i := 53) (by decide +kernel) rfl, ⟨by decide +kernel, by decide +kernel⟩, (by decide +kernel), zgw (i := 282) (by decide +kernel) rfl⟩, zgw (i := 283) (by decide +kernel) rfl, zgw (i := 284) (by decide +kernel) rfl⟩
theorem lkX5_95 : zLV RX5 95 mX3_has 1 := ⟨⟨zgw (i := 289) (by decide +kernel) rfl, zgw (i := 54) (by decide +kernel) rfl, ⟨by decide +kernel, by decide +kernel⟩, (by decide +kernel), zgw (i := 286) (by decide +kernel) rfl⟩, zgw (i := 287) (by decide +kernel) rfl, zgw (i := 288) (by decide +kernel) rfl⟩
theorem lkX5_98 : zLV RX5 98 mX3_growth 1 := ⟨⟨zgw (i := 293) (by decide +kernel) rfl, zgw (i := 54) (by decide +kernel) rfl, ⟨by decide +kernel, by decide +kernel⟩, (by decide +kernel), zgw (i := 290) (by decide +kernel) rfl⟩, zgw (i := 291) (by decide +kernel) rfl, zgw (i := 292) (by decide +kernel) rfl⟩
theorem lkX3_67 : zLSN RX3 67 "HoleFills" mX5_isStreet 1 := ⟨⟨zgw (i := 248) (by decide +kernel) rfl, zgw (i := 53) (by decide +kernel) rfl, ⟨by decide +kernel, by decide +kernel⟩, (by decide +kernel), zgw (i := 248) (by decide +kernel) rfl⟩, zgw (i := 247) (by decide +kernel) rfl⟩
theorem lkX3_71 : zLV RX3 71 mX3_weekOfYear 0 := ⟨⟨zgw (i := 298) (by decide +kernel) rfl, zgw (i := 54) (by decide +kernel) rfl, ⟨by decide +kernel, by decide +kernel⟩, (by decide +kernel), zgw (i := 295) (by decide +kernel) rfl⟩, zgw (i := 296) (by decide +kernel) rfl, zgw (i := 297) (by decide +kernel) rfl⟩
theorem lkX3_75 : zLS RX3 75 mX0_growth 4 := ⟨⟨zgw (i := 301) (by decide +kernel) rfl, zgw (i := 58) (by decide +kernel) rfl, ⟨by decide +kernel, by decide +kernel⟩, (by decide +kernel), zgw (i := 299) (by decide +kernel) rfl⟩, zgw (i := 300) (by decide +kernel) rfl⟩
theorem lkX0_9 : zLS RX0 9 mX0_isFrost 1 := ⟨⟨zgw (i := 304) (by decide +kernel) rfl, zgw (i := 58) (by decide +kernel) rfl, ⟨by decide +kernel, by decide +kernel⟩, (by decide +kernel), zgw (i := 302) (by decide +kernel) rfl⟩, zgw (i := 303) (by decide +kernel) rfl⟩
theorem lkX0_15 : zLS RX0 15 mJ9_max_7cf53 2 := ⟨⟨zgw (i := 307) (by decide +kernel) rfl, zgw (i := 59) (by decide +kernel) rfl, ⟨by decide +kernel, by decide +kernel⟩, (by decide +kernel), zgw (i := 305) (by decide +kernel) rfl⟩, zgw (i := 306) (by decide +kernel) rfl⟩
theorem lkX5_101 : zLV RX5 101 mX3_price 2 := ⟨⟨zgw (i := 311) (by decide +kernel) rfl, zgw (i := 54) (by decide +kernel) rfl, ⟨by decide +kernel, by decide +kernel⟩, (by decide +kernel), zgw (i := 308) (by decide +kernel) rfl⟩, zgw (i := 309) (by decide +kernel) rfl, zgw (i := 310) (by decide +kernel) rfl⟩
theorem lkX3_81 : zLS RX3 81 mX0_coldPrice 2 := ⟨⟨zgw (i := 314) (by decide +kernel) rfl, zgw (i := 58) (by decide +kernel) rfl, ⟨by decide +kernel, by decide +kernel⟩, (by decide +kernel), zgw (i := 312) (by decide +kernel) rfl⟩, zgw (i := 313) (by decide +kernel) rfl⟩
theorem lkX5_107 : zLS RX5 107 mX0_holds 2 := ⟨⟨zgw (i := 317) (by decide +kernel) rfl, zgw (i := 58) (by decide +kernel) rfl, ⟨by decide +kernel, by decide +kernel⟩, (by decide +kernel), zgw (i := 315) (by decide +kernel) rfl⟩, zgw (i := 316) (by decide +kernel) rfl⟩
theorem lkX5_112 : zLV RX5 112 mX3_rowOfHoles 1 := ⟨⟨zgw (i := 321) (by decide +kernel) rfl, zgw (i := 54) (by decide +kernel) rfl, ⟨by decide +kernel, by decide +kernel⟩, (by decide +kernel), zgw (i := 318) (by decide +kernel) rfl⟩, zgw (i := 319) (by decide +kernel) rfl, zgw (i := 320) (by decide +kernel) rfl⟩
theorem lkL_35 : zLV RL 35 mX5_set 3 := ⟨⟨zgw (i := 325) (by decide +kernel) rfl, zgw (i := 53) (by decide +kernel) rfl, ⟨by decide +kernel, by decide +kernel⟩, (by decide +kernel), zgw (i := 322) (by decide +kernel) rfl⟩, zgw (i := 323) (by decide +kernel) rfl, zgw (i := 324) (by decide +kernel) rfl⟩
theorem fkX5_116 : Cond.fieldLink RX5 116 "HoleFills" "MOST_OF_HOLE" "[I" ∈ zGW := zgw (i := 326) (by decide +kernel) rfl
theorem lkL_39 : zLV RL 39 mX5_turn 2 := ⟨⟨zgw (i := 331) (by decide +kernel) rfl, zgw (i := 53) (by decide +kernel) rfl, ⟨by decide +kernel, by decide +kernel⟩, (by decide +kernel), zgw (i := 328) (by decide +kernel) rfl⟩, zgw (i := 329) (by decide +kernel) rfl, zgw (i := 330) (by decide +kernel) rfl⟩
theorem lkL_43 : zLV RL 43 mX5_as 2 := ⟨⟨zgw (i := 335) (by decide +kernel) rfl, zgw (i := 53) (by decide +kernel) rfl, ⟨by decide +kernel, by decide +kernel⟩, (by decide +kernel), zgw (i := 332) (by decide +kernel) rfl⟩, zgw (i := 333) (by decide +kernel) rfl, zgw (i := 334) (by decide +kernel) rfl⟩
theorem lkX5_119 : zLS RX5 119 mX0_isUnder 2 := ⟨⟨zgw (i := 338) (by decide +kernel) rfl, zgw (i := 58) (by decide +kernel) rfl, ⟨by decide +kernel, by decide +kernel⟩, (by decide +kernel), zgw (i := 336) (by decide +kernel) rfl⟩, zgw (i := 337) (by decide +kernel) rfl⟩
theorem ckX5_123 : Cond.constant RX5 123 (-1000000003) ∈ zGW := zgw (i := 339) (by decide +kernel) rfl
theorem lkL_47 : zLV RL 47 mX5_fill 2 := ⟨⟨zgw (i := 343) (by decide +kernel) rfl, zgw (i := 53) (by decide +kernel) rfl, ⟨by decide +kernel, by decide +kernel⟩, (by decide +kernel), zgw (i := 340) (by decide +kernel) rfl⟩, zgw (i := 341) (by decide +kernel) rfl, zgw (i := 342) (by decide +kernel) rfl⟩
theorem ckX5_134 : Cond.constant RX5 134 (-1000000005) ∈ zGW := zgw (i := 344) (by decide +kernel) rfl
theorem lkX5_135 : zLV RX5 135 mX3_fillNow 2 := ⟨⟨zgw (i := 348) (by decide +kernel) rfl, zgw (i := 54) (by decide +kernel) rfl, ⟨by decide +kernel, by decide +kernel⟩, (by decide +kernel), zgw (i := 345) (by decide +kernel) rfl⟩, zgw (i := 346) (by decide +kernel) rfl, zgw (i := 347) (by decide +kernel) rfl⟩
theorem lkX3_88 : zLV RX3 88 mX3_price 2 := ⟨⟨zgw (i := 311) (by decide +kernel) rfl, zgw (i := 54) (by decide +kernel) rfl, ⟨by decide +kernel, by decide +kernel⟩, (by decide +kernel), zgw (i := 349) (by decide +kernel) rfl⟩, zgw (i := 309) (by decide +kernel) rfl, zgw (i := 310) (by decide +kernel) rfl⟩
theorem ckX3_100 : Cond.constant RX3 100 (9999999) ∈ zGW := zgw (i := 350) (by decide +kernel) rfl
theorem lkX3_91 : zLS RX3 91 mJ9_min_7cf53 2 := ⟨⟨zgw (i := 353) (by decide +kernel) rfl, zgw (i := 59) (by decide +kernel) rfl, ⟨by decide +kernel, by decide +kernel⟩, (by decide +kernel), zgw (i := 351) (by decide +kernel) rfl⟩, zgw (i := 352) (by decide +kernel) rfl⟩
theorem lkL_51 : zLV RL 51 mX5_next 0 := ⟨⟨zgw (i := 357) (by decide +kernel) rfl, zgw (i := 53) (by decide +kernel) rfl, ⟨by decide +kernel, by decide +kernel⟩, (by decide +kernel), zgw (i := 354) (by decide +kernel) rfl⟩, zgw (i := 355) (by decide +kernel) rfl, zgw (i := 356) (by decide +kernel) rfl⟩
theorem lkX5_139 : zLV RX5 139 mX3_firstToFill 0 := ⟨⟨zgw (i := 361) (by decide +kernel) rfl, zgw (i := 54) (by decide +kernel) rfl, ⟨by decide +kernel, by decide +kernel⟩, (by decide +kernel), zgw (i := 358) (by decide +kernel) rfl⟩, zgw (i := 359) (by decide +kernel) rfl, zgw (i := 360) (by decide +kernel) rfl⟩
theorem lkX3_85 : zLV RX3 85 mX3_isLetGo 1 := ⟨⟨zgw (i := 365) (by decide +kernel) rfl, zgw (i := 54) (by decide +kernel) rfl, ⟨by decide +kernel, by decide +kernel⟩, (by decide +kernel), zgw (i := 362) (by decide +kernel) rfl⟩, zgw (i := 364) (by decide +kernel) rfl, zgw (i := 1) (by decide +kernel) rfl⟩
theorem lkX3_96 : zLV RX3 96 mX3_comesAheadOf 2 := ⟨⟨zgw (i := 369) (by decide +kernel) rfl, zgw (i := 54) (by decide +kernel) rfl, ⟨by decide +kernel, by decide +kernel⟩, (by decide +kernel), zgw (i := 366) (by decide +kernel) rfl⟩, zgw (i := 368) (by decide +kernel) rfl, zgw (i := 2) (by decide +kernel) rfl⟩
theorem ckX5_142 : Cond.constant RX5 142 (-1000000004) ∈ zGW := zgw (i := 370) (by decide +kernel) rfl
theorem lkL_56 : zLV RL 56 mX5_weeks 1 := ⟨⟨zgw (i := 374) (by decide +kernel) rfl, zgw (i := 53) (by decide +kernel) rfl, ⟨by decide +kernel, by decide +kernel⟩, (by decide +kernel), zgw (i := 371) (by decide +kernel) rfl⟩, zgw (i := 372) (by decide +kernel) rfl, zgw (i := 373) (by decide +kernel) rfl⟩
theorem lkX5_146 : zLV RX5 146 mX3_goWeeks 1 := ⟨⟨zgw (i := 378) (by decide +kernel) rfl, zgw (i := 54) (by decide +kernel) rfl, ⟨by decide +kernel, by decide +kernel⟩, (by decide +kernel), zgw (i := 375) (by decide +kernel) rfl⟩, zgw (i := 376) (by decide +kernel) rfl, zgw (i := 377) (by decide +kernel) rfl⟩
theorem lkX3_121 : zLV RX3 121 mX3_goWeek 0 := ⟨⟨zgw (i := 382) (by decide +kernel) rfl, zgw (i := 54) (by decide +kernel) rfl, ⟨by decide +kernel, by decide +kernel⟩, (by decide +kernel), zgw (i := 379) (by decide +kernel) rfl⟩, zgw (i := 380) (by decide +kernel) rfl, zgw (i := 381) (by decide +kernel) rfl⟩
theorem lkX3_114 : zLV RX3 114 mX3_sendMen 0 := ⟨⟨zgw (i := 386) (by decide +kernel) rfl, zgw (i := 54) (by decide +kernel) rfl, ⟨by decide +kernel, by decide +kernel⟩, (by decide +kernel), zgw (i := 383) (by decide +kernel) rfl⟩, zgw (i := 385) (by decide +kernel) rfl, zgw (i := 3) (by decide +kernel) rfl⟩
theorem lkX3_101 : zLV RX3 101 mX3_firstToFill 0 := ⟨⟨zgw (i := 361) (by decide +kernel) rfl, zgw (i := 54) (by decide +kernel) rfl, ⟨by decide +kernel, by decide +kernel⟩, (by decide +kernel), zgw (i := 387) (by decide +kernel) rfl⟩, zgw (i := 359) (by decide +kernel) rfl, zgw (i := 360) (by decide +kernel) rfl⟩
theorem lkX3_104 : zLV RX3 104 mX3_fillNow 2 := ⟨⟨zgw (i := 348) (by decide +kernel) rfl, zgw (i := 54) (by decide +kernel) rfl, ⟨by decide +kernel, by decide +kernel⟩, (by decide +kernel), zgw (i := 388) (by decide +kernel) rfl⟩, zgw (i := 346) (by decide +kernel) rfl, zgw (i := 347) (by decide +kernel) rfl⟩
theorem lkX3_117 : zLV RX3 117 mX3_wear 1 := ⟨⟨zgw (i := 392) (by decide +kernel) rfl, zgw (i := 54) (by decide +kernel) rfl, ⟨by decide +kernel, by decide +kernel⟩, (by decide +kernel), zgw (i := 389) (by decide +kernel) rfl⟩, zgw (i := 391) (by decide +kernel) rfl, zgw (i := 4) (by decide +kernel) rfl⟩
theorem lkX3_108 : zLV RX3 108 mX3_growth 1 := ⟨⟨zgw (i := 293) (by decide +kernel) rfl, zgw (i := 54) (by decide +kernel) rfl, ⟨by decide +kernel, by decide +kernel⟩, (by decide +kernel), zgw (i := 393) (by decide +kernel) rfl⟩, zgw (i := 291) (by decide +kernel) rfl, zgw (i := 292) (by decide +kernel) rfl⟩
theorem lkX3_111 : zLS RX3 111 mX0_holds 2 := ⟨⟨zgw (i := 317) (by decide +kernel) rfl, zgw (i := 58) (by decide +kernel) rfl, ⟨by decide +kernel, by decide +kernel⟩, (by decide +kernel), zgw (i := 394) (by decide +kernel) rfl⟩, zgw (i := 316) (by decide +kernel) rfl⟩
theorem lkL_61 : zLV RL 61 mX5_now 1 := ⟨⟨zgw (i := 398) (by decide +kernel) rfl, zgw (i := 53) (by decide +kernel) rfl, ⟨by decide +kernel, by decide +kernel⟩, (by decide +kernel), zgw (i := 395) (by decide +kernel) rfl⟩, zgw (i := 396) (by decide +kernel) rfl, zgw (i := 397) (by decide +kernel) rfl⟩
theorem lkX5_162 : zLV RX5 162 mX3_weekOfYear 0 := ⟨⟨zgw (i := 298) (by decide +kernel) rfl, zgw (i := 54) (by decide +kernel) rfl, ⟨by decide +kernel, by decide +kernel⟩, (by decide +kernel), zgw (i := 399) (by decide +kernel) rfl⟩, zgw (i := 296) (by decide +kernel) rfl, zgw (i := 297) (by decide +kernel) rfl⟩
theorem lkX5_165 : zLS RX5 165 mX0_isFrost 1 := ⟨⟨zgw (i := 304) (by decide +kernel) rfl, zgw (i := 58) (by decide +kernel) rfl, ⟨by decide +kernel, by decide +kernel⟩, (by decide +kernel), zgw (i := 400) (by decide +kernel) rfl⟩, zgw (i := 303) (by decide +kernel) rfl⟩
theorem lkX5_168 : zLV RX5 168 mX3_openSize 0 := ⟨⟨zgw (i := 404) (by decide +kernel) rfl, zgw (i := 54) (by decide +kernel) rfl, ⟨by decide +kernel, by decide +kernel⟩, (by decide +kernel), zgw (i := 401) (by decide +kernel) rfl⟩, zgw (i := 402) (by decide +kernel) rfl, zgw (i := 403) (by decide +kernel) rfl⟩
theorem lkL_65 : zLV RL 65 mX5_on 3 := ⟨⟨zgw (i := 408) (by decide +kernel) rfl, zgw (i := 53) (by decide +kernel) rfl, ⟨by decide +kernel, by decide +kernel⟩, (by decide +kernel), zgw (i := 405) (by decide +kernel) rfl⟩, zgw (i := 406) (by decide +kernel) rfl, zgw (i := 407) (by decide +kernel) rfl⟩
theorem lkX5_171 : zLV RX5 171 mX5_asItIs 0 := ⟨⟨zgw (i := 412) (by decide +kernel) rfl, zgw (i := 53) (by decide +kernel) rfl, ⟨by decide +kernel, by decide +kernel⟩, (by decide +kernel), zgw (i := 409) (by decide +kernel) rfl⟩, zgw (i := 411) (by decide +kernel) rfl, zgw (i := 5) (by decide +kernel) rfl⟩
theorem lkX5_215 : zLV RX5 215 mX3_become 1 := ⟨⟨zgw (i := 416) (by decide +kernel) rfl, zgw (i := 54) (by decide +kernel) rfl, ⟨by decide +kernel, by decide +kernel⟩, (by decide +kernel), zgw (i := 413) (by decide +kernel) rfl⟩, zgw (i := 414) (by decide +kernel) rfl, zgw (i := 415) (by decide +kernel) rfl⟩
-- no own method: X3 61 ('java/lang/System', 'arraycopy', '(Ljava/lang/Object;ILjava/lang/Object;II)V')
theorem lkL_69 : zLV RL 69 mX5_worse 1 := ⟨⟨zgw (i := 423) (by decide +kernel) rfl, zgw (i := 53) (by decide +kernel) rfl, ⟨by decide +kernel, by decide +kernel⟩, (by decide +kernel), zgw (i := 420) (by decide +kernel) rfl⟩, zgw (i := 421) (by decide +kernel) rfl, zgw (i := 422) (by decide +kernel) rfl⟩
theorem lkL_73 : zLV RL 73 mX5_cost 1 := ⟨⟨zgw (i := 427) (by decide +kernel) rfl, zgw (i := 53) (by decide +kernel) rfl, ⟨by decide +kernel, by decide +kernel⟩, (by decide +kernel), zgw (i := 424) (by decide +kernel) rfl⟩, zgw (i := 425) (by decide +kernel) rfl, zgw (i := 426) (by decide +kernel) rfl⟩
theorem lkL_77 : zLV RL 77 mX5_filled 1 := ⟨⟨zgw (i := 431) (by decide +kernel) rfl, zgw (i := 53) (by decide +kernel) rfl, ⟨by decide +kernel, by decide +kernel⟩, (by decide +kernel), zgw (i := 428) (by decide +kernel) rfl⟩, zgw (i := 429) (by decide +kernel) rfl, zgw (i := 430) (by decide +kernel) rfl⟩
theorem lkX5_175 : zLV RX5 175 mX5_weeksUntil 2 := ⟨⟨zgw (i := 435) (by decide +kernel) rfl, zgw (i := 53) (by decide +kernel) rfl, ⟨by decide +kernel, by decide +kernel⟩, (by decide +kernel), zgw (i := 432) (by decide +kernel) rfl⟩, zgw (i := 434) (by decide +kernel) rfl, zgw (i := 6) (by decide +kernel) rfl⟩
theorem lkX5_253 : zLV RX5 253 mX3_goWeek 0 := ⟨⟨zgw (i := 382) (by decide +kernel) rfl, zgw (i := 54) (by decide +kernel) rfl, ⟨by decide +kernel, by decide +kernel⟩, (by decide +kernel), zgw (i := 436) (by decide +kernel) rfl⟩, zgw (i := 380) (by decide +kernel) rfl, zgw (i := 381) (by decide +kernel) rfl⟩
theorem lkL_81 : zLV RL 81 mX5_breaks 1 := ⟨⟨zgw (i := 440) (by decide +kernel) rfl, zgw (i := 53) (by decide +kernel) rfl, ⟨by decide +kernel, by decide +kernel⟩, (by decide +kernel), zgw (i := 437) (by decide +kernel) rfl⟩, zgw (i := 438) (by decide +kernel) rfl, zgw (i := 439) (by decide +kernel) rfl⟩
theorem lkL_85 : zLV RL 85 mX5_how 1 := ⟨⟨zgw (i := 444) (by decide +kernel) rfl, zgw (i := 53) (by decide +kernel) rfl, ⟨by decide +kernel, by decide +kernel⟩, (by decide +kernel), zgw (i := 441) (by decide +kernel) rfl⟩, zgw (i := 442) (by decide +kernel) rfl, zgw (i := 443) (by decide +kernel) rfl⟩
theorem lkL_89 : zLV RL 89 mX5_ring 1 := ⟨⟨zgw (i := 448) (by decide +kernel) rfl, zgw (i := 53) (by decide +kernel) rfl, ⟨by decide +kernel, by decide +kernel⟩, (by decide +kernel), zgw (i := 445) (by decide +kernel) rfl⟩, zgw (i := 446) (by decide +kernel) rfl, zgw (i := 447) (by decide +kernel) rfl⟩
theorem lkL_93 : zLV RL 93 mX5_men 2 := ⟨⟨zgw (i := 452) (by decide +kernel) rfl, zgw (i := 53) (by decide +kernel) rfl, ⟨by decide +kernel, by decide +kernel⟩, (by decide +kernel), zgw (i := 449) (by decide +kernel) rfl⟩, zgw (i := 450) (by decide +kernel) rfl, zgw (i := 451) (by decide +kernel) rfl⟩
theorem lkL_97 : zLV RL 97 mX5_budget 2 := ⟨⟨zgw (i := 456) (by decide +kernel) rfl, zgw (i := 53) (by decide +kernel) rfl, ⟨by decide +kernel, by decide +kernel⟩, (by decide +kernel), zgw (i := 453) (by decide +kernel) rfl⟩, zgw (i := 454) (by decide +kernel) rfl, zgw (i := 455) (by decide +kernel) rfl⟩
theorem lkX5_188 : zLS RX5 188 mJ9_max_7cf53 2 := ⟨⟨zgw (i := 307) (by decide +kernel) rfl, zgw (i := 59) (by decide +kernel) rfl, ⟨by decide +kernel, by decide +kernel⟩, (by decide +kernel), zgw (i := 457) (by decide +kernel) rfl⟩, zgw (i := 306) (by decide +kernel) rfl⟩
theorem lkL_101 : zLV RL 101 mX5_kind 2 := ⟨⟨zgw (i := 461) (by decide +kernel) rfl, zgw (i := 53) (by decide +kernel) rfl, ⟨by decide +kernel, by decide +kernel⟩, (by decide +kernel), zgw (i := 458) (by decide +kernel) rfl⟩, zgw (i := 459) (by decide +kernel) rfl, zgw (i := 460) (by decide +kernel) rfl⟩
theorem lkL_105 : zLV RL 105 mX5_let 1 := ⟨⟨zgw (i := 465) (by decide +kernel) rfl, zgw (i := 53) (by decide +kernel) rfl, ⟨by decide +kernel, by decide +kernel⟩, (by decide +kernel), zgw (i := 462) (by decide +kernel) rfl⟩, zgw (i := 463) (by decide +kernel) rfl, zgw (i := 464) (by decide +kernel) rfl⟩
theorem lkX5_193 : zLV RX5 193 mX3_letGoAll 1 := ⟨⟨zgw (i := 469) (by decide +kernel) rfl, zgw (i := 54) (by decide +kernel) rfl, ⟨by decide +kernel, by decide +kernel⟩, (by decide +kernel), zgw (i := 466) (by decide +kernel) rfl⟩, zgw (i := 467) (by decide +kernel) rfl, zgw (i := 468) (by decide +kernel) rfl⟩
theorem lkL_109 : zLV RL 109 mX5_worst 1 := ⟨⟨zgw (i := 473) (by decide +kernel) rfl, zgw (i := 53) (by decide +kernel) rfl, ⟨by decide +kernel, by decide +kernel⟩, (by decide +kernel), zgw (i := 470) (by decide +kernel) rfl⟩, zgw (i := 471) (by decide +kernel) rfl, zgw (i := 472) (by decide +kernel) rfl⟩
theorem lkX5_197 : zLV RX5 197 mX3_openSizeOf 1 := ⟨⟨zgw (i := 477) (by decide +kernel) rfl, zgw (i := 54) (by decide +kernel) rfl, ⟨by decide +kernel, by decide +kernel⟩, (by decide +kernel), zgw (i := 474) (by decide +kernel) rfl⟩, zgw (i := 475) (by decide +kernel) rfl, zgw (i := 476) (by decide +kernel) rfl⟩
theorem lkL_113 : zLV RL 113 mX5_feed 2 := ⟨⟨zgw (i := 481) (by decide +kernel) rfl, zgw (i := 53) (by decide +kernel) rfl, ⟨by decide +kernel, by decide +kernel⟩, (by decide +kernel), zgw (i := 478) (by decide +kernel) rfl⟩, zgw (i := 479) (by decide +kernel) rfl, zgw (i := 480) (by decide +kernel) rfl⟩
theorem lkX5_203 : zLV RX5 203 mX2_add 1 := ⟨⟨zgw (i := 485) (by decide +kernel) rfl, zgw (i := 55) (by decide +kernel) rfl, ⟨by decide +kernel, by decide +kernel⟩, (by decide +kernel), zgw (i := 482) (by decide +kernel) rfl⟩, zgw (i := 483) (by decide +kernel) rfl, zgw (i := 484) (by decide +kernel) rfl⟩
theorem lkL_117 : zLV RL 117 mX5_wipe 0 := ⟨⟨zgw (i := 489) (by decide +kernel) rfl, zgw (i := 53) (by decide +kernel) rfl, ⟨by decide +kernel, by decide +kernel⟩, (by decide +kernel), zgw (i := 486) (by decide +kernel) rfl⟩, zgw (i := 487) (by decide +kernel) rfl, zgw (i := 488) (by decide +kernel) rfl⟩
theorem lkX5_206 : zLV RX5 206 mX2_clear 0 := ⟨⟨zgw (i := 493) (by decide +kernel) rfl, zgw (i := 55) (by decide +kernel) rfl, ⟨by decide +kernel, by decide +kernel⟩, (by decide +kernel), zgw (i := 490) (by decide +kernel) rfl⟩, zgw (i := 491) (by decide +kernel) rfl, zgw (i := 492) (by decide +kernel) rfl⟩
theorem lkL_121 : zLV RL 121 mX5_text 0 := ⟨⟨zgw (i := 497) (by decide +kernel) rfl, zgw (i := 53) (by decide +kernel) rfl, ⟨by decide +kernel, by decide +kernel⟩, (by decide +kernel), zgw (i := 494) (by decide +kernel) rfl⟩, zgw (i := 495) (by decide +kernel) rfl, zgw (i := 496) (by decide +kernel) rfl⟩
theorem lkX5_209 : zLS RX5 209 mX4_readAll 2 := ⟨⟨zgw (i := 500) (by decide +kernel) rfl, zgw (i := 61) (by decide +kernel) rfl, ⟨by decide +kernel, by decide +kernel⟩, (by decide +kernel), zgw (i := 498) (by decide +kernel) rfl⟩, zgw (i := 499) (by decide +kernel) rfl⟩
theorem lkX4_9 : zLV RX4 9 mX2_begin 0 := ⟨⟨zgw (i := 504) (by decide +kernel) rfl, zgw (i := 55) (by decide +kernel) rfl, ⟨by decide +kernel, by decide +kernel⟩, (by decide +kernel), zgw (i := 501) (by decide +kernel) rfl⟩, zgw (i := 502) (by decide +kernel) rfl, zgw (i := 503) (by decide +kernel) rfl⟩
theorem lkX2_31 : zLV RX2 31 mX2_advance 0 := ⟨⟨zgw (i := 508) (by decide +kernel) rfl, zgw (i := 55) (by decide +kernel) rfl, ⟨by decide +kernel, by decide +kernel⟩, (by decide +kernel), zgw (i := 505) (by decide +kernel) rfl⟩, zgw (i := 506) (by decide +kernel) rfl, zgw (i := 507) (by decide +kernel) rfl⟩
theorem lkX2_34 : zLV RX2 34 mX2_endOfRun 3 := ⟨⟨zgw (i := 512) (by decide +kernel) rfl, zgw (i := 55) (by decide +kernel) rfl, ⟨by decide +kernel, by decide +kernel⟩, (by decide +kernel), zgw (i := 509) (by decide +kernel) rfl⟩, zgw (i := 511) (by decide +kernel) rfl, zgw (i := 7) (by decide +kernel) rfl⟩
theorem lkX2_38 : zLV RX2 38 mX2_valueOfToken 0 := ⟨⟨zgw (i := 516) (by decide +kernel) rfl, zgw (i := 55) (by decide +kernel) rfl, ⟨by decide +kernel, by decide +kernel⟩, (by decide +kernel), zgw (i := 513) (by decide +kernel) rfl⟩, zgw (i := 515) (by decide +kernel) rfl, zgw (i := 8) (by decide +kernel) rfl⟩
theorem lkX2_42 : zLS RX2 42 mJ9_min_7cf53 2 := ⟨⟨zgw (i := 353) (by decide +kernel) rfl, zgw (i := 59) (by decide +kernel) rfl, ⟨by decide +kernel, by decide +kernel⟩, (by decide +kernel), zgw (i := 517) (by decide +kernel) rfl⟩, zgw (i := 352) (by decide +kernel) rfl⟩
theorem lkX4_14 : zLS RX4 14 mX4_readItem 2 := ⟨⟨zgw (i := 520) (by decide +kernel) rfl, zgw (i := 61) (by decide +kernel) rfl, ⟨by decide +kernel, by decide +kernel⟩, (by decide +kernel), zgw (i := 518) (by decide +kernel) rfl⟩, zgw (i := 519) (by decide +kernel) rfl⟩
theorem lkX4_30 : zLS RX4 30 mX0_nameOf 1 := ⟨⟨zgw (i := 523) (by decide +kernel) rfl, zgw (i := 58) (by decide +kernel) rfl, ⟨by decide +kernel, by decide +kernel⟩, (by decide +kernel), zgw (i := 521) (by decide +kernel) rfl⟩, zgw (i := 522) (by decide +kernel) rfl⟩
theorem lkX4_36 : zLV RX4 36 mX2_isAt 1 := ⟨⟨zgw (i := 533) (by decide +kernel) rfl, zgw (i := 55) (by decide +kernel) rfl, ⟨by decide +kernel, by decide +kernel⟩, (by decide +kernel), zgw (i := 530) (by decide +kernel) rfl⟩, zgw (i := 531) (by decide +kernel) rfl, zgw (i := 532) (by decide +kernel) rfl⟩
theorem lkX2_48 : zLV RX2 48 mJ0_length_8abf5 0 := ⟨⟨zgw (i := 537) (by decide +kernel) rfl, zgw (i := 62) (by decide +kernel) rfl, ⟨by decide +kernel, by decide +kernel⟩, (by decide +kernel), zgw (i := 534) (by decide +kernel) rfl⟩, zgw (i := 535) (by decide +kernel) rfl, zgw (i := 536) (by decide +kernel) rfl⟩
theorem lkJ0_335 : zLV RJ0 335 mJ0_coder_7d493 0 := ⟨⟨zgw (i := 541) (by decide +kernel) rfl, zgw (i := 62) (by decide +kernel) rfl, ⟨by decide +kernel, by decide +kernel⟩, (by decide +kernel), zgw (i := 538) (by decide +kernel) rfl⟩, zgw (i := 539) (by decide +kernel) rfl, zgw (i := 540) (by decide +kernel) rfl⟩
theorem fkJ0_38 : Cond.fieldLink RJ0 38 "java/lang/String" "COMPACT_STRINGS" "Z" ∈ zGW := zgw (i := 542) (by decide +kernel) rfl
theorem lkX2_52 : zLV RX2 52 mJ0_charAt_5068e 1 := ⟨⟨zgw (i := 547) (by decide +kernel) rfl, zgw (i := 62) (by decide +kernel) rfl, ⟨by decide +kernel, by decide +kernel⟩, (by decide +kernel), zgw (i := 544) (by decide +kernel) rfl⟩, zgw (i := 545) (by decide +kernel) rfl, zgw (i := 546) (by decide +kernel) rfl⟩
theorem lkJ0_492 : zLV RJ0 492 mJ0_isLatin1_aae02 0 := ⟨⟨zgw (i := 551) (by decide +kernel) rfl, zgw (i := 62) (by decide +kernel) rfl, ⟨by decide +kernel, by decide +kernel⟩, (by decide +kernel), zgw (i := 548) (by decide +kernel) rfl⟩, zgw (i := 549) (by decide +kernel) rfl, zgw (i := 550) (by decide +kernel) rfl⟩
theorem lkJ0_495 : zLS RJ0 495 mJ1_charAt_3b067 2 := ⟨⟨zgw (i := 554) (by decide +kernel) rfl, zgw (i := 63) (by decide +kernel) rfl, ⟨by decide +kernel, by decide +kernel⟩, (by decide +kernel), zgw (i := 552) (by decide +kernel) rfl⟩, zgw (i := 553) (by decide +kernel) rfl⟩
theorem lkJ1_9 : zLS RJ1 9 mJ0_checkIndex_df160 2 := ⟨⟨zgw (i := 557) (by decide +kernel) rfl, zgw (i := 62) (by decide +kernel) rfl, ⟨by decide +kernel, by decide +kernel⟩, (by decide +kernel), zgw (i := 555) (by decide +kernel) rfl⟩, zgw (i := 556) (by decide +kernel) rfl⟩
theorem fkJ0_1053 : Cond.fieldLink RJ0 1053 "jdk/internal/util/Preconditions" "SIOOBE_FORMATTER" "Ljava/util/function/BiFunction;" ∈ zGW := zgw (i := 558) (by decide +kernel) rfl
theorem lkJ0_1059 : zLS RJ0 1059 mJ3_checkIndex_8e157 3 := ⟨⟨zgw (i := 562) (by decide +kernel) rfl, zgw (i := 64) (by decide +kernel) rfl, ⟨by decide +kernel, by decide +kernel⟩, (by decide +kernel), zgw (i := 560) (by decide +kernel) rfl⟩, zgw (i := 561) (by decide +kernel) rfl⟩
theorem lkJ0_498 : zLS RJ0 498 mJ2_charAt_3b067 2 := ⟨⟨zgw (i := 565) (by decide +kernel) rfl, zgw (i := 65) (by decide +kernel) rfl, ⟨by decide +kernel, by decide +kernel⟩, (by decide +kernel), zgw (i := 563) (by decide +kernel) rfl⟩, zgw (i := 564) (by decide +kernel) rfl⟩
theorem lkJ2_67 : zLS RJ2 67 mJ2_checkIndex_2214a 2 := ⟨⟨zgw (i := 568) (by decide +kernel) rfl, zgw (i := 65) (by decide +kernel) rfl, ⟨by decide +kernel, by decide +kernel⟩, (by decide +kernel), zgw (i := 566) (by decide +kernel) rfl⟩, zgw (i := 567) (by decide +kernel) rfl⟩
theorem lkJ2_48 : zLS RJ2 48 mJ2_length_9d52b 1 := ⟨⟨zgw (i := 571) (by decide +kernel) rfl, zgw (i := 65) (by decide +kernel) rfl, ⟨by decide +kernel, by decide +kernel⟩, (by decide +kernel), zgw (i := 569) (by decide +kernel) rfl⟩, zgw (i := 570) (by decide +kernel) rfl⟩
theorem lkJ2_414 : zLS RJ2 414 mJ0_checkIndex_df160 2 := ⟨⟨zgw (i := 557) (by decide +kernel) rfl, zgw (i := 62) (by decide +kernel) rfl, ⟨by decide +kernel, by decide +kernel⟩, (by decide +kernel), zgw (i := 572) (by decide +kernel) rfl⟩, zgw (i := 556) (by decide +kernel) rfl⟩
theorem lkJ2_71 : zLS RJ2 71 mJ2_getChar_3b067 2 := ⟨⟨zgw (i := 575) (by decide +kernel) rfl, zgw (i := 65) (by decide +kernel) rfl, ⟨by decide +kernel, by decide +kernel⟩, (by decide +kernel), zgw (i := 573) (by decide +kernel) rfl⟩, zgw (i := 574) (by decide +kernel) rfl⟩
theorem fkJ2_44 : Cond.fieldLink RJ2 44 "java/lang/StringUTF16" "$assertionsDisabled" "Z" ∈ zGW := zgw (i := 576) (by decide +kernel) rfl
theorem fkJ2_59 : Cond.fieldLink RJ2 59 "java/lang/StringUTF16" "HI_BYTE_SHIFT" "I" ∈ zGW := zgw (i := 578) (by decide +kernel) rfl
theorem fkJ2_63 : Cond.fieldLink RJ2 63 "java/lang/StringUTF16" "LO_BYTE_SHIFT" "I" ∈ zGW := zgw (i := 580) (by decide +kernel) rfl
theorem lkX4_40 : zLS RX4 40 mX4_readHole 3 := ⟨⟨zgw (i := 584) (by decide +kernel) rfl, zgw (i := 61) (by decide +kernel) rfl, ⟨by decide +kernel, by decide +kernel⟩, (by decide +kernel), zgw (i := 582) (by decide +kernel) rfl⟩, zgw (i := 583) (by decide +kernel) rfl⟩
theorem lkX4_66 : zLV RX4 66 mX3_isFull 0 := ⟨⟨zgw (i := 276) (by decide +kernel) rfl, zgw (i := 54) (by decide +kernel) rfl, ⟨by decide +kernel, by decide +kernel⟩, (by decide +kernel), zgw (i := 585) (by decide +kernel) rfl⟩, zgw (i := 274) (by decide +kernel) rfl, zgw (i := 275) (by decide +kernel) rfl⟩
theorem lkX4_24 : zLV RX4 24 mX2_advance 0 := ⟨⟨zgw (i := 508) (by decide +kernel) rfl, zgw (i := 55) (by decide +kernel) rfl, ⟨by decide +kernel, by decide +kernel⟩, (by decide +kernel), zgw (i := 586) (by decide +kernel) rfl⟩, zgw (i := 506) (by decide +kernel) rfl, zgw (i := 507) (by decide +kernel) rfl⟩
theorem lkX4_46 : zLV RX4 46 mX2_pass 1 := ⟨⟨zgw (i := 591) (by decide +kernel) rfl, zgw (i := 55) (by decide +kernel) rfl, ⟨by decide +kernel, by decide +kernel⟩, (by decide +kernel), zgw (i := 588) (by decide +kernel) rfl⟩, zgw (i := 589) (by decide +kernel) rfl, zgw (i := 590) (by decide +kernel) rfl⟩
theorem lkX2_56 : zLV RX2 56 mX2_isAt 1 := ⟨⟨zgw (i := 533) (by decide +kernel) rfl, zgw (i := 55) (by decide +kernel) rfl, ⟨by decide +kernel, by decide +kernel⟩, (by decide +kernel), zgw (i := 592) (by decide +kernel) rfl⟩, zgw (i := 531) (by decide +kernel) rfl, zgw (i := 532) (by decide +kernel) rfl⟩
theorem lkX4_54 : zLV RX4 54 mX2_passNumber 1 := ⟨⟨zgw (i := 596) (by decide +kernel) rfl, zgw (i := 55) (by decide +kernel) rfl, ⟨by decide +kernel, by decide +kernel⟩, (by decide +kernel), zgw (i := 593) (by decide +kernel) rfl⟩, zgw (i := 594) (by decide +kernel) rfl, zgw (i := 595) (by decide +kernel) rfl⟩
theorem lkX4_74 : zLV RX4 74 mX3_addHole 2 := ⟨⟨zgw (i := 281) (by decide +kernel) rfl, zgw (i := 54) (by decide +kernel) rfl, ⟨by decide +kernel, by decide +kernel⟩, (by decide +kernel), zgw (i := 598) (by decide +kernel) rfl⟩, zgw (i := 279) (by decide +kernel) rfl, zgw (i := 280) (by decide +kernel) rfl⟩
theorem lkX4_49 : zLS RX4 49 mX4_readStreet 2 := ⟨⟨zgw (i := 605) (by decide +kernel) rfl, zgw (i := 61) (by decide +kernel) rfl, ⟨by decide +kernel, by decide +kernel⟩, (by decide +kernel), zgw (i := 603) (by decide +kernel) rfl⟩, zgw (i := 604) (by decide +kernel) rfl⟩
theorem lkX4_94 : zLSN RX4 94 "HoleFills" mX5_isStreet 1 := ⟨⟨zgw (i := 248) (by decide +kernel) rfl, zgw (i := 53) (by decide +kernel) rfl, ⟨by decide +kernel, by decide +kernel⟩, (by decide +kernel), zgw (i := 248) (by decide +kernel) rfl⟩, zgw (i := 247) (by decide +kernel) rfl⟩
theorem lkL_125 : zLV RL 125 mX5_sheet 3 := ⟨⟨zgw (i := 615) (by decide +kernel) rfl, zgw (i := 53) (by decide +kernel) rfl, ⟨by decide +kernel, by decide +kernel⟩, (by decide +kernel), zgw (i := 612) (by decide +kernel) rfl⟩, zgw (i := 613) (by decide +kernel) rfl, zgw (i := 614) (by decide +kernel) rfl⟩
theorem lkX5_219 : zLV RX5 219 mX5_sheetAt 1 := ⟨⟨zgw (i := 619) (by decide +kernel) rfl, zgw (i := 53) (by decide +kernel) rfl, ⟨by decide +kernel, by decide +kernel⟩, (by decide +kernel), zgw (i := 616) (by decide +kernel) rfl⟩, zgw (i := 618) (by decide +kernel) rfl, zgw (i := 9) (by decide +kernel) rfl⟩
theorem ckX5_223 : Cond.constant RX5 223 (-1000000007) ∈ zGW := zgw (i := 620) (by decide +kernel) rfl
theorem lkX5_224 : zLV RX5 224 mX1_begin 2 := ⟨⟨zgw (i := 624) (by decide +kernel) rfl, zgw (i := 56) (by decide +kernel) rfl, ⟨by decide +kernel, by decide +kernel⟩, (by decide +kernel), zgw (i := 621) (by decide +kernel) rfl⟩, zgw (i := 622) (by decide +kernel) rfl, zgw (i := 623) (by decide +kernel) rfl⟩
theorem lkL_131 : zLV RL 131 mX5_write 3 := ⟨⟨zgw (i := 628) (by decide +kernel) rfl, zgw (i := 53) (by decide +kernel) rfl, ⟨by decide +kernel, by decide +kernel⟩, (by decide +kernel), zgw (i := 625) (by decide +kernel) rfl⟩, zgw (i := 626) (by decide +kernel) rfl, zgw (i := 627) (by decide +kernel) rfl⟩
theorem lkX5_228 : zLV RX5 228 mX1_isMissing 0 := ⟨⟨zgw (i := 632) (by decide +kernel) rfl, zgw (i := 56) (by decide +kernel) rfl, ⟨by decide +kernel, by decide +kernel⟩, (by decide +kernel), zgw (i := 629) (by decide +kernel) rfl⟩, zgw (i := 630) (by decide +kernel) rfl, zgw (i := 631) (by decide +kernel) rfl⟩
theorem ckX5_231 : Cond.constant RX5 231 (-1000000006) ∈ zGW := zgw (i := 633) (by decide +kernel) rfl
theorem lkX5_236 : zLV RX5 236 mX1_put 2 := ⟨⟨zgw (i := 637) (by decide +kernel) rfl, zgw (i := 56) (by decide +kernel) rfl, ⟨by decide +kernel, by decide +kernel⟩, (by decide +kernel), zgw (i := 634) (by decide +kernel) rfl⟩, zgw (i := 635) (by decide +kernel) rfl, zgw (i := 636) (by decide +kernel) rfl⟩
theorem lkL_136 : zLV RL 136 mX5_copy 5 := ⟨⟨zgw (i := 641) (by decide +kernel) rfl, zgw (i := 53) (by decide +kernel) rfl, ⟨by decide +kernel, by decide +kernel⟩, (by decide +kernel), zgw (i := 638) (by decide +kernel) rfl⟩, zgw (i := 639) (by decide +kernel) rfl, zgw (i := 640) (by decide +kernel) rfl⟩
theorem lkX5_242 : zLV RX5 242 mX1_hasSpan 2 := ⟨⟨zgw (i := 645) (by decide +kernel) rfl, zgw (i := 56) (by decide +kernel) rfl, ⟨by decide +kernel, by decide +kernel⟩, (by decide +kernel), zgw (i := 642) (by decide +kernel) rfl⟩, zgw (i := 643) (by decide +kernel) rfl, zgw (i := 644) (by decide +kernel) rfl⟩
-- no own method: X5 245 ('java/lang/System', 'arraycopy', '(Ljava/lang/Object;ILjava/lang/Object;II)V')
theorem lkL_141 : zLV RL 141 mX5_lays 1 := ⟨⟨zgw (i := 650) (by decide +kernel) rfl, zgw (i := 53) (by decide +kernel) rfl, ⟨by decide +kernel, by decide +kernel⟩, (by decide +kernel), zgw (i := 647) (by decide +kernel) rfl⟩, zgw (i := 648) (by decide +kernel) rfl, zgw (i := 649) (by decide +kernel) rfl⟩
theorem ckX5_251 : Cond.constantLong RX5 251 (99) ∈ zGW := zgw (i := 651) (by decide +kernel) rfl
theorem lkL_145 : zLV RL 145 mX5_book 2 := ⟨⟨zgw (i := 655) (by decide +kernel) rfl, zgw (i := 53) (by decide +kernel) rfl, ⟨by decide +kernel, by decide +kernel⟩, (by decide +kernel), zgw (i := 652) (by decide +kernel) rfl⟩, zgw (i := 653) (by decide +kernel) rfl, zgw (i := 654) (by decide +kernel) rfl⟩
theorem lkL_149 : zLV RL 149 mX5_read 2 := ⟨⟨zgw (i := 659) (by decide +kernel) rfl, zgw (i := 53) (by decide +kernel) rfl, ⟨by decide +kernel, by decide +kernel⟩, (by decide +kernel), zgw (i := 656) (by decide +kernel) rfl⟩, zgw (i := 657) (by decide +kernel) rfl, zgw (i := 658) (by decide +kernel) rfl⟩
theorem lkX5_259 : zLS RX5 259 mX5_growsAs 3 := ⟨⟨zgw (i := 662) (by decide +kernel) rfl, zgw (i := 53) (by decide +kernel) rfl, ⟨by decide +kernel, by decide +kernel⟩, (by decide +kernel), zgw (i := 660) (by decide +kernel) rfl⟩, zgw (i := 661) (by decide +kernel) rfl⟩
theorem lkL_153 : zLV RL 153 mX5_image 0 := ⟨⟨zgw (i := 666) (by decide +kernel) rfl, zgw (i := 53) (by decide +kernel) rfl, ⟨by decide +kernel, by decide +kernel⟩, (by decide +kernel), zgw (i := 663) (by decide +kernel) rfl⟩, zgw (i := 664) (by decide +kernel) rfl, zgw (i := 665) (by decide +kernel) rfl⟩
theorem lkL_157 : zLV RL 157 mX5_undo 0 := ⟨⟨zgw (i := 670) (by decide +kernel) rfl, zgw (i := 53) (by decide +kernel) rfl, ⟨by decide +kernel, by decide +kernel⟩, (by decide +kernel), zgw (i := 667) (by decide +kernel) rfl⟩, zgw (i := 668) (by decide +kernel) rfl, zgw (i := 669) (by decide +kernel) rfl⟩
theorem lkL_161 : zLV RL 161 mX5_tear 0 := ⟨⟨zgw (i := 674) (by decide +kernel) rfl, zgw (i := 53) (by decide +kernel) rfl, ⟨by decide +kernel, by decide +kernel⟩, (by decide +kernel), zgw (i := 671) (by decide +kernel) rfl⟩, zgw (i := 672) (by decide +kernel) rfl, zgw (i := 673) (by decide +kernel) rfl⟩
theorem lkL_165 : zLV RL 165 mX5_count 1 := ⟨⟨zgw (i := 678) (by decide +kernel) rfl, zgw (i := 53) (by decide +kernel) rfl, ⟨by decide +kernel, by decide +kernel⟩, (by decide +kernel), zgw (i := 675) (by decide +kernel) rfl⟩, zgw (i := 676) (by decide +kernel) rfl, zgw (i := 677) (by decide +kernel) rfl⟩
theorem lkX5_263 : zLS RX5 263 mJ6_bitCount_0f7a4 1 := ⟨⟨zgw (i := 681) (by decide +kernel) rfl, zgw (i := 66) (by decide +kernel) rfl, ⟨by decide +kernel, by decide +kernel⟩, (by decide +kernel), zgw (i := 679) (by decide +kernel) rfl⟩, zgw (i := 680) (by decide +kernel) rfl⟩
theorem ckJ6_265 : Cond.constant RJ6 265 (1431655765) ∈ zGW := zgw (i := 682) (by decide +kernel) rfl
theorem ckJ6_266 : Cond.constant RJ6 266 (858993459) ∈ zGW := zgw (i := 683) (by decide +kernel) rfl
theorem ckJ6_267 : Cond.constant RJ6 267 (252645135) ∈ zGW := zgw (i := 684) (by decide +kernel) rfl
theorem lkX5_268 : zLV RX5 268 mX3_holesRungFor 0 := ⟨⟨zgw (i := 688) (by decide +kernel) rfl, zgw (i := 54) (by decide +kernel) rfl, ⟨by decide +kernel, by decide +kernel⟩, (by decide +kernel), zgw (i := 685) (by decide +kernel) rfl⟩, zgw (i := 686) (by decide +kernel) rfl, zgw (i := 687) (by decide +kernel) rfl⟩
theorem lkL_169 : zLV RL 169 mX5_status 1 := ⟨⟨zgw (i := 692) (by decide +kernel) rfl, zgw (i := 53) (by decide +kernel) rfl, ⟨by decide +kernel, by decide +kernel⟩, (by decide +kernel), zgw (i := 689) (by decide +kernel) rfl⟩, zgw (i := 690) (by decide +kernel) rfl, zgw (i := 691) (by decide +kernel) rfl⟩
theorem lkL_12 : zLI RL 12 mX6_init 0 := ⟨⟨zgw (i := 697) (by decide +kernel) rfl, zgw (i := 57) (by decide +kernel) rfl, ⟨by decide +kernel, by decide +kernel⟩, (by decide +kernel), zgw (i := 695) (by decide +kernel) rfl⟩, zgw (i := 696) (by decide +kernel) rfl⟩
-- no own method: X6 1 ('java/lang/Object', '<init>', '()V')
theorem lkX6_41 : zLS RX6 41 mX6_roadOf 2 := ⟨⟨zgw (i := 701) (by decide +kernel) rfl, zgw (i := 57) (by decide +kernel) rfl, ⟨by decide +kernel, by decide +kernel⟩, (by decide +kernel), zgw (i := 699) (by decide +kernel) rfl⟩, zgw (i := 700) (by decide +kernel) rfl⟩
theorem fkX6_7 : Cond.fieldLink RX6 7 "HoleFillsModel" "s" "[I" ∈ zGW := zgw (i := 702) (by decide +kernel) rfl
theorem fkX6_13 : Cond.fieldLink RX6 13 "HoleFillsModel" "keptS" "[I" ∈ zGW := zgw (i := 703) (by decide +kernel) rfl
theorem fkX6_16 : Cond.fieldLink RX6 16 "HoleFillsModel" "other" "[I" ∈ zGW := zgw (i := 704) (by decide +kernel) rfl
theorem fkX6_19 : Cond.fieldLink RX6 19 "HoleFillsModel" "aside" "[I" ∈ zGW := zgw (i := 705) (by decide +kernel) rfl
theorem fkX6_22 : Cond.fieldLink RX6 22 "HoleFillsModel" "statuses" "[I" ∈ zGW := zgw (i := 706) (by decide +kernel) rfl
theorem fkX6_311 : Cond.fieldLink RX6 311 "HoleFillsModel" "isKept" "Z" ∈ zGW := zgw (i := 707) (by decide +kernel) rfl
theorem fkX6_25 : Cond.fieldLink RX6 25 "HoleFillsModel" "tape" "[I" ∈ zGW := zgw (i := 708) (by decide +kernel) rfl
theorem fkX6_183 : Cond.fieldLink RX6 183 "HoleFillsModel" "taped" "I" ∈ zGW := zgw (i := 709) (by decide +kernel) rfl
theorem fkX6_198 : Cond.fieldLink RX6 198 "HoleFillsModel" "from" "I" ∈ zGW := zgw (i := 710) (by decide +kernel) rfl
theorem fkX6_195 : Cond.fieldLink RX6 195 "HoleFillsModel" "to" "I" ∈ zGW := zgw (i := 711) (by decide +kernel) rfl
theorem fkX6_221 : Cond.fieldLink RX6 221 "HoleFillsModel" "value" "I" ∈ zGW := zgw (i := 712) (by decide +kernel) rfl
theorem fkX6_210 : Cond.fieldLink RX6 210 "HoleFillsModel" "isWrong" "Z" ∈ zGW := zgw (i := 713) (by decide +kernel) rfl
theorem fkX6_28 : Cond.fieldLink RX6 28 "HoleFillsModel" "bitsOf" "[I" ∈ zGW := zgw (i := 714) (by decide +kernel) rfl
theorem fkX6_31 : Cond.fieldLink RX6 31 "HoleFillsModel" "sizeOf" "[I" ∈ zGW := zgw (i := 715) (by decide +kernel) rfl
theorem fkX6_34 : Cond.fieldLink RX6 34 "HoleFillsModel" "numbers" "[J" ∈ zGW := zgw (i := 716) (by decide +kernel) rfl
theorem fkX6_38 : Cond.fieldLink RX6 38 "HoleFillsModel" "moved" "[J" ∈ zGW := zgw (i := 717) (by decide +kernel) rfl
theorem lkL_17 : zLV RL 17 mX6_town 2 := ⟨⟨zgw (i := 754) (by decide +kernel) rfl, zgw (i := 57) (by decide +kernel) rfl, ⟨by decide +kernel, by decide +kernel⟩, (by decide +kernel), zgw (i := 751) (by decide +kernel) rfl⟩, zgw (i := 752) (by decide +kernel) rfl, zgw (i := 753) (by decide +kernel) rfl⟩
theorem ckX6_55 : Cond.constantLong RX6 55 (3) ∈ zGW := zgw (i := 755) (by decide +kernel) rfl
theorem lkX6_48 : zLS RX6 48 mX6_in 3 := ⟨⟨zgw (i := 758) (by decide +kernel) rfl, zgw (i := 57) (by decide +kernel) rfl, ⟨by decide +kernel, by decide +kernel⟩, (by decide +kernel), zgw (i := 756) (by decide +kernel) rfl⟩, zgw (i := 757) (by decide +kernel) rfl⟩
theorem ckX6_57 : Cond.constantLong RX6 57 (99999) ∈ zGW := zgw (i := 759) (by decide +kernel) rfl
theorem ckX6_59 : Cond.constantLong RX6 59 (6) ∈ zGW := zgw (i := 760) (by decide +kernel) rfl
theorem lkX6_61 : zLV RX6 61 mX6_becomes 2 := ⟨⟨zgw (i := 764) (by decide +kernel) rfl, zgw (i := 57) (by decide +kernel) rfl, ⟨by decide +kernel, by decide +kernel⟩, (by decide +kernel), zgw (i := 761) (by decide +kernel) rfl⟩, zgw (i := 763) (by decide +kernel) rfl, zgw (i := 10) (by decide +kernel) rfl⟩
theorem ckX6_45 : Cond.constant RX6 45 (-1000000001) ∈ zGW := zgw (i := 765) (by decide +kernel) rfl
theorem lkX6_64 : zLV RX6 64 mX6_finds 1 := ⟨⟨zgw (i := 769) (by decide +kernel) rfl, zgw (i := 57) (by decide +kernel) rfl, ⟨by decide +kernel, by decide +kernel⟩, (by decide +kernel), zgw (i := 766) (by decide +kernel) rfl⟩, zgw (i := 768) (by decide +kernel) rfl, zgw (i := 11) (by decide +kernel) rfl⟩
theorem lkL_22 : zLV RL 22 mX6_street 3 := ⟨⟨zgw (i := 773) (by decide +kernel) rfl, zgw (i := 57) (by decide +kernel) rfl, ⟨by decide +kernel, by decide +kernel⟩, (by decide +kernel), zgw (i := 770) (by decide +kernel) rfl⟩, zgw (i := 771) (by decide +kernel) rfl, zgw (i := 772) (by decide +kernel) rfl⟩
theorem ckX6_68 : Cond.constantLong RX6 68 (99) ∈ zGW := zgw (i := 774) (by decide +kernel) rfl
theorem lkX6_70 : zLS RX6 70 mX6_isStreet 1 := ⟨⟨zgw (i := 777) (by decide +kernel) rfl, zgw (i := 57) (by decide +kernel) rfl, ⟨by decide +kernel, by decide +kernel⟩, (by decide +kernel), zgw (i := 775) (by decide +kernel) rfl⟩, zgw (i := 776) (by decide +kernel) rfl⟩
theorem ckX6_46 : Cond.constantLong RX6 46 (5) ∈ zGW := zgw (i := 778) (by decide +kernel) rfl
theorem lkL_26 : zLV RL 26 mX6_streetOf 2 := ⟨⟨zgw (i := 782) (by decide +kernel) rfl, zgw (i := 57) (by decide +kernel) rfl, ⟨by decide +kernel, by decide +kernel⟩, (by decide +kernel), zgw (i := 779) (by decide +kernel) rfl⟩, zgw (i := 780) (by decide +kernel) rfl, zgw (i := 781) (by decide +kernel) rfl⟩
theorem lkX6_77 : zLV RX6 77 mX6_thoseAs 2 := ⟨⟨zgw (i := 786) (by decide +kernel) rfl, zgw (i := 57) (by decide +kernel) rfl, ⟨by decide +kernel, by decide +kernel⟩, (by decide +kernel), zgw (i := 783) (by decide +kernel) rfl⟩, zgw (i := 785) (by decide +kernel) rfl, zgw (i := 12) (by decide +kernel) rfl⟩
theorem lkX6_74 : zLV RX6 74 mX6_its 2 := ⟨⟨zgw (i := 790) (by decide +kernel) rfl, zgw (i := 57) (by decide +kernel) rfl, ⟨by decide +kernel, by decide +kernel⟩, (by decide +kernel), zgw (i := 787) (by decide +kernel) rfl⟩, zgw (i := 789) (by decide +kernel) rfl, zgw (i := 13) (by decide +kernel) rfl⟩
theorem lkX6_52 : zLS RX6 52 mX6_spotOf 2 := ⟨⟨zgw (i := 793) (by decide +kernel) rfl, zgw (i := 57) (by decide +kernel) rfl, ⟨by decide +kernel, by decide +kernel⟩, (by decide +kernel), zgw (i := 791) (by decide +kernel) rfl⟩, zgw (i := 792) (by decide +kernel) rfl⟩
theorem lkL_30 : zLV RL 30 mX6_hole 2 := ⟨⟨zgw (i := 797) (by decide +kernel) rfl, zgw (i := 57) (by decide +kernel) rfl, ⟨by decide +kernel, by decide +kernel⟩, (by decide +kernel), zgw (i := 794) (by decide +kernel) rfl⟩, zgw (i := 795) (by decide +kernel) rfl, zgw (i := 796) (by decide +kernel) rfl⟩
theorem lkX6_80 : zLS RX6 80 mX6_isKind 1 := ⟨⟨zgw (i := 800) (by decide +kernel) rfl, zgw (i := 57) (by decide +kernel) rfl, ⟨by decide +kernel, by decide +kernel⟩, (by decide +kernel), zgw (i := 798) (by decide +kernel) rfl⟩, zgw (i := 799) (by decide +kernel) rfl⟩
theorem ckX6_83 : Cond.constant RX6 83 (-1000000002) ∈ zGW := zgw (i := 801) (by decide +kernel) rfl
theorem lkX6_84 : zLV RX6 84 mX6_adds 2 := ⟨⟨zgw (i := 805) (by decide +kernel) rfl, zgw (i := 57) (by decide +kernel) rfl, ⟨by decide +kernel, by decide +kernel⟩, (by decide +kernel), zgw (i := 802) (by decide +kernel) rfl⟩, zgw (i := 804) (by decide +kernel) rfl, zgw (i := 14) (by decide +kernel) rfl⟩
theorem lkL_34 : zLV RL 34 mX6_of 2 := ⟨⟨zgw (i := 809) (by decide +kernel) rfl, zgw (i := 57) (by decide +kernel) rfl, ⟨by decide +kernel, by decide +kernel⟩, (by decide +kernel), zgw (i := 806) (by decide +kernel) rfl⟩, zgw (i := 807) (by decide +kernel) rfl, zgw (i := 808) (by decide +kernel) rfl⟩
theorem lkX6_98 : zLV RX6 98 mX6_isHole 1 := ⟨⟨zgw (i := 813) (by decide +kernel) rfl, zgw (i := 57) (by decide +kernel) rfl, ⟨by decide +kernel, by decide +kernel⟩, (by decide +kernel), zgw (i := 810) (by decide +kernel) rfl⟩, zgw (i := 812) (by decide +kernel) rfl, zgw (i := 15) (by decide +kernel) rfl⟩
theorem ckX6_101 : Cond.constantLong RX6 101 (9) ∈ zGW := zgw (i := 814) (by decide +kernel) rfl
theorem lkX6_103 : zLV RX6 103 mX6_growsOf 1 := ⟨⟨zgw (i := 818) (by decide +kernel) rfl, zgw (i := 57) (by decide +kernel) rfl, ⟨by decide +kernel, by decide +kernel⟩, (by decide +kernel), zgw (i := 815) (by decide +kernel) rfl⟩, zgw (i := 817) (by decide +kernel) rfl, zgw (i := 16) (by decide +kernel) rfl⟩
theorem lkX6_91 : zLV RX6 91 mX6_isFrost 0 := ⟨⟨zgw (i := 822) (by decide +kernel) rfl, zgw (i := 57) (by decide +kernel) rfl, ⟨by decide +kernel, by decide +kernel⟩, (by decide +kernel), zgw (i := 819) (by decide +kernel) rfl⟩, zgw (i := 821) (by decide +kernel) rfl, zgw (i := 17) (by decide +kernel) rfl⟩
theorem lkX6_87 : zLV RX6 87 mX6_weekOfYear 0 := ⟨⟨zgw (i := 826) (by decide +kernel) rfl, zgw (i := 57) (by decide +kernel) rfl, ⟨by decide +kernel, by decide +kernel⟩, (by decide +kernel), zgw (i := 823) (by decide +kernel) rfl⟩, zgw (i := 825) (by decide +kernel) rfl, zgw (i := 18) (by decide +kernel) rfl⟩
theorem lkX6_95 : zLV RX6 95 mX6_costsOf 1 := ⟨⟨zgw (i := 830) (by decide +kernel) rfl, zgw (i := 57) (by decide +kernel) rfl, ⟨by decide +kernel, by decide +kernel⟩, (by decide +kernel), zgw (i := 827) (by decide +kernel) rfl⟩, zgw (i := 829) (by decide +kernel) rfl, zgw (i := 19) (by decide +kernel) rfl⟩
theorem lkX6_106 : zLV RX6 106 mX6_holdsOf 2 := ⟨⟨zgw (i := 834) (by decide +kernel) rfl, zgw (i := 57) (by decide +kernel) rfl, ⟨by decide +kernel, by decide +kernel⟩, (by decide +kernel), zgw (i := 831) (by decide +kernel) rfl⟩, zgw (i := 833) (by decide +kernel) rfl, zgw (i := 20) (by decide +kernel) rfl⟩
theorem lkL_38 : zLV RL 38 mX6_set 3 := ⟨⟨zgw (i := 838) (by decide +kernel) rfl, zgw (i := 57) (by decide +kernel) rfl, ⟨by decide +kernel, by decide +kernel⟩, (by decide +kernel), zgw (i := 835) (by decide +kernel) rfl⟩, zgw (i := 836) (by decide +kernel) rfl, zgw (i := 837) (by decide +kernel) rfl⟩
theorem lkX6_114 : zLS RX6 114 mX6_isPart 2 := ⟨⟨zgw (i := 841) (by decide +kernel) rfl, zgw (i := 57) (by decide +kernel) rfl, ⟨by decide +kernel, by decide +kernel⟩, (by decide +kernel), zgw (i := 839) (by decide +kernel) rfl⟩, zgw (i := 840) (by decide +kernel) rfl⟩
theorem ckX6_110 : Cond.constantLong RX6 110 (2) ∈ zGW := zgw (i := 842) (by decide +kernel) rfl
theorem ckX6_112 : Cond.constantLong RX6 112 (999) ∈ zGW := zgw (i := 843) (by decide +kernel) rfl
theorem lkL_42 : zLV RL 42 mX6_turn 2 := ⟨⟨zgw (i := 847) (by decide +kernel) rfl, zgw (i := 57) (by decide +kernel) rfl, ⟨by decide +kernel, by decide +kernel⟩, (by decide +kernel), zgw (i := 844) (by decide +kernel) rfl⟩, zgw (i := 845) (by decide +kernel) rfl, zgw (i := 846) (by decide +kernel) rfl⟩
theorem lkL_46 : zLV RL 46 mX6_as 2 := ⟨⟨zgw (i := 851) (by decide +kernel) rfl, zgw (i := 57) (by decide +kernel) rfl, ⟨by decide +kernel, by decide +kernel⟩, (by decide +kernel), zgw (i := 848) (by decide +kernel) rfl⟩, zgw (i := 849) (by decide +kernel) rfl, zgw (i := 850) (by decide +kernel) rfl⟩
theorem lkX6_118 : zLS RX6 118 mX6_isUnder 2 := ⟨⟨zgw (i := 854) (by decide +kernel) rfl, zgw (i := 57) (by decide +kernel) rfl, ⟨by decide +kernel, by decide +kernel⟩, (by decide +kernel), zgw (i := 852) (by decide +kernel) rfl⟩, zgw (i := 853) (by decide +kernel) rfl⟩
theorem ckX6_121 : Cond.constant RX6 121 (-1000000003) ∈ zGW := zgw (i := 855) (by decide +kernel) rfl
theorem lkL_50 : zLV RL 50 mX6_fill 2 := ⟨⟨zgw (i := 859) (by decide +kernel) rfl, zgw (i := 57) (by decide +kernel) rfl, ⟨by decide +kernel, by decide +kernel⟩, (by decide +kernel), zgw (i := 856) (by decide +kernel) rfl⟩, zgw (i := 857) (by decide +kernel) rfl, zgw (i := 858) (by decide +kernel) rfl⟩
theorem lkX6_129 : zLV RX6 129 mX6_mayFill 2 := ⟨⟨zgw (i := 863) (by decide +kernel) rfl, zgw (i := 57) (by decide +kernel) rfl, ⟨by decide +kernel, by decide +kernel⟩, (by decide +kernel), zgw (i := 860) (by decide +kernel) rfl⟩, zgw (i := 862) (by decide +kernel) rfl, zgw (i := 21) (by decide +kernel) rfl⟩
theorem lkX6_122 : zLV RX6 122 mX6_priceOf 2 := ⟨⟨zgw (i := 867) (by decide +kernel) rfl, zgw (i := 57) (by decide +kernel) rfl, ⟨by decide +kernel, by decide +kernel⟩, (by decide +kernel), zgw (i := 864) (by decide +kernel) rfl⟩, zgw (i := 866) (by decide +kernel) rfl, zgw (i := 22) (by decide +kernel) rfl⟩
theorem lkX6_132 : zLV RX6 132 mX6_fills 2 := ⟨⟨zgw (i := 871) (by decide +kernel) rfl, zgw (i := 57) (by decide +kernel) rfl, ⟨by decide +kernel, by decide +kernel⟩, (by decide +kernel), zgw (i := 868) (by decide +kernel) rfl⟩, zgw (i := 870) (by decide +kernel) rfl, zgw (i := 23) (by decide +kernel) rfl⟩
theorem ckX6_125 : Cond.constant RX6 125 (9999999) ∈ zGW := zgw (i := 872) (by decide +kernel) rfl
theorem lkX6_126 : zLS RX6 126 mX6_heldTo 2 := ⟨⟨zgw (i := 875) (by decide +kernel) rfl, zgw (i := 57) (by decide +kernel) rfl, ⟨by decide +kernel, by decide +kernel⟩, (by decide +kernel), zgw (i := 873) (by decide +kernel) rfl⟩, zgw (i := 874) (by decide +kernel) rfl⟩
theorem ckX6_135 : Cond.constant RX6 135 (-1000000005) ∈ zGW := zgw (i := 876) (by decide +kernel) rfl
theorem lkL_55 : zLV RL 55 mX6_next 0 := ⟨⟨zgw (i := 880) (by decide +kernel) rfl, zgw (i := 57) (by decide +kernel) rfl, ⟨by decide +kernel, by decide +kernel⟩, (by decide +kernel), zgw (i := 877) (by decide +kernel) rfl⟩, zgw (i := 878) (by decide +kernel) rfl, zgw (i := 879) (by decide +kernel) rfl⟩
theorem lkX6_139 : zLV RX6 139 mX6_nextOne 0 := ⟨⟨zgw (i := 884) (by decide +kernel) rfl, zgw (i := 57) (by decide +kernel) rfl, ⟨by decide +kernel, by decide +kernel⟩, (by decide +kernel), zgw (i := 881) (by decide +kernel) rfl⟩, zgw (i := 883) (by decide +kernel) rfl, zgw (i := 24) (by decide +kernel) rfl⟩
theorem lkX6_136 : zLV RX6 136 mX6_isAhead 2 := ⟨⟨zgw (i := 888) (by decide +kernel) rfl, zgw (i := 57) (by decide +kernel) rfl, ⟨by decide +kernel, by decide +kernel⟩, (by decide +kernel), zgw (i := 885) (by decide +kernel) rfl⟩, zgw (i := 887) (by decide +kernel) rfl, zgw (i := 25) (by decide +kernel) rfl⟩
theorem ckX6_142 : Cond.constant RX6 142 (-1000000004) ∈ zGW := zgw (i := 889) (by decide +kernel) rfl
theorem lkL_60 : zLV RL 60 mX6_weeks 1 := ⟨⟨zgw (i := 893) (by decide +kernel) rfl, zgw (i := 57) (by decide +kernel) rfl, ⟨by decide +kernel, by decide +kernel⟩, (by decide +kernel), zgw (i := 890) (by decide +kernel) rfl⟩, zgw (i := 891) (by decide +kernel) rfl, zgw (i := 892) (by decide +kernel) rfl⟩
theorem ckX6_150 : Cond.constantLong RX6 150 (60) ∈ zGW := zgw (i := 894) (by decide +kernel) rfl
theorem lkX6_152 : zLV RX6 152 mX6_weeksGo 1 := ⟨⟨zgw (i := 898) (by decide +kernel) rfl, zgw (i := 57) (by decide +kernel) rfl, ⟨by decide +kernel, by decide +kernel⟩, (by decide +kernel), zgw (i := 895) (by decide +kernel) rfl⟩, zgw (i := 897) (by decide +kernel) rfl, zgw (i := 26) (by decide +kernel) rfl⟩
theorem lkX6_147 : zLV RX6 147 mX6_week 0 := ⟨⟨zgw (i := 902) (by decide +kernel) rfl, zgw (i := 57) (by decide +kernel) rfl, ⟨by decide +kernel, by decide +kernel⟩, (by decide +kernel), zgw (i := 899) (by decide +kernel) rfl⟩, zgw (i := 901) (by decide +kernel) rfl, zgw (i := 27) (by decide +kernel) rfl⟩
theorem lkX6_143 : zLV RX6 143 mX6_ages 1 := ⟨⟨zgw (i := 906) (by decide +kernel) rfl, zgw (i := 57) (by decide +kernel) rfl, ⟨by decide +kernel, by decide +kernel⟩, (by decide +kernel), zgw (i := 903) (by decide +kernel) rfl⟩, zgw (i := 905) (by decide +kernel) rfl, zgw (i := 28) (by decide +kernel) rfl⟩
theorem lkL_64 : zLV RL 64 mX6_now 1 := ⟨⟨zgw (i := 910) (by decide +kernel) rfl, zgw (i := 57) (by decide +kernel) rfl, ⟨by decide +kernel, by decide +kernel⟩, (by decide +kernel), zgw (i := 907) (by decide +kernel) rfl⟩, zgw (i := 908) (by decide +kernel) rfl, zgw (i := 909) (by decide +kernel) rfl⟩
theorem lkX6_158 : zLV RX6 158 mX6_worseNow 0 := ⟨⟨zgw (i := 914) (by decide +kernel) rfl, zgw (i := 57) (by decide +kernel) rfl, ⟨by decide +kernel, by decide +kernel⟩, (by decide +kernel), zgw (i := 911) (by decide +kernel) rfl⟩, zgw (i := 913) (by decide +kernel) rfl, zgw (i := 29) (by decide +kernel) rfl⟩
theorem lkX6_155 : zLV RX6 155 mX6_sizesOf 1 := ⟨⟨zgw (i := 918) (by decide +kernel) rfl, zgw (i := 57) (by decide +kernel) rfl, ⟨by decide +kernel, by decide +kernel⟩, (by decide +kernel), zgw (i := 915) (by decide +kernel) rfl⟩, zgw (i := 917) (by decide +kernel) rfl, zgw (i := 30) (by decide +kernel) rfl⟩
theorem lkL_68 : zLV RL 68 mX6_on 3 := ⟨⟨zgw (i := 922) (by decide +kernel) rfl, zgw (i := 57) (by decide +kernel) rfl, ⟨by decide +kernel, by decide +kernel⟩, (by decide +kernel), zgw (i := 919) (by decide +kernel) rfl⟩, zgw (i := 920) (by decide +kernel) rfl, zgw (i := 921) (by decide +kernel) rfl⟩
theorem lkX6_161 : zLS RX6 161 mX6_isFar 3 := ⟨⟨zgw (i := 925) (by decide +kernel) rfl, zgw (i := 57) (by decide +kernel) rfl, ⟨by decide +kernel, by decide +kernel⟩, (by decide +kernel), zgw (i := 923) (by decide +kernel) rfl⟩, zgw (i := 924) (by decide +kernel) rfl⟩
theorem lkX6_165 : zLV RX6 165 mX6_laysAside 0 := ⟨⟨zgw (i := 929) (by decide +kernel) rfl, zgw (i := 57) (by decide +kernel) rfl, ⟨by decide +kernel, by decide +kernel⟩, (by decide +kernel), zgw (i := 926) (by decide +kernel) rfl⟩, zgw (i := 928) (by decide +kernel) rfl, zgw (i := 31) (by decide +kernel) rfl⟩
theorem lkX6_168 : zLV RX6 168 mX6_takesBack 1 := ⟨⟨zgw (i := 933) (by decide +kernel) rfl, zgw (i := 57) (by decide +kernel) rfl, ⟨by decide +kernel, by decide +kernel⟩, (by decide +kernel), zgw (i := 930) (by decide +kernel) rfl⟩, zgw (i := 932) (by decide +kernel) rfl, zgw (i := 32) (by decide +kernel) rfl⟩
theorem lkL_72 : zLV RL 72 mX6_worse 1 := ⟨⟨zgw (i := 937) (by decide +kernel) rfl, zgw (i := 57) (by decide +kernel) rfl, ⟨by decide +kernel, by decide +kernel⟩, (by decide +kernel), zgw (i := 934) (by decide +kernel) rfl⟩, zgw (i := 935) (by decide +kernel) rfl, zgw (i := 936) (by decide +kernel) rfl⟩
theorem lkX6_171 : zLV RX6 171 mX6_worseIn 1 := ⟨⟨zgw (i := 941) (by decide +kernel) rfl, zgw (i := 57) (by decide +kernel) rfl, ⟨by decide +kernel, by decide +kernel⟩, (by decide +kernel), zgw (i := 938) (by decide +kernel) rfl⟩, zgw (i := 940) (by decide +kernel) rfl, zgw (i := 33) (by decide +kernel) rfl⟩
theorem lkL_76 : zLV RL 76 mX6_cost 1 := ⟨⟨zgw (i := 945) (by decide +kernel) rfl, zgw (i := 57) (by decide +kernel) rfl, ⟨by decide +kernel, by decide +kernel⟩, (by decide +kernel), zgw (i := 942) (by decide +kernel) rfl⟩, zgw (i := 943) (by decide +kernel) rfl, zgw (i := 944) (by decide +kernel) rfl⟩
theorem lkL_80 : zLV RL 80 mX6_filled 1 := ⟨⟨zgw (i := 949) (by decide +kernel) rfl, zgw (i := 57) (by decide +kernel) rfl, ⟨by decide +kernel, by decide +kernel⟩, (by decide +kernel), zgw (i := 946) (by decide +kernel) rfl⟩, zgw (i := 947) (by decide +kernel) rfl, zgw (i := 948) (by decide +kernel) rfl⟩
theorem lkX6_174 : zLV RX6 174 mX6_firstSo 2 := ⟨⟨zgw (i := 953) (by decide +kernel) rfl, zgw (i := 57) (by decide +kernel) rfl, ⟨by decide +kernel, by decide +kernel⟩, (by decide +kernel), zgw (i := 950) (by decide +kernel) rfl⟩, zgw (i := 952) (by decide +kernel) rfl, zgw (i := 34) (by decide +kernel) rfl⟩
theorem lkL_84 : zLV RL 84 mX6_breaks 1 := ⟨⟨zgw (i := 957) (by decide +kernel) rfl, zgw (i := 57) (by decide +kernel) rfl, ⟨by decide +kernel, by decide +kernel⟩, (by decide +kernel), zgw (i := 954) (by decide +kernel) rfl⟩, zgw (i := 955) (by decide +kernel) rfl, zgw (i := 956) (by decide +kernel) rfl⟩
theorem lkL_88 : zLV RL 88 mX6_how 1 := ⟨⟨zgw (i := 961) (by decide +kernel) rfl, zgw (i := 57) (by decide +kernel) rfl, ⟨by decide +kernel, by decide +kernel⟩, (by decide +kernel), zgw (i := 958) (by decide +kernel) rfl⟩, zgw (i := 959) (by decide +kernel) rfl, zgw (i := 960) (by decide +kernel) rfl⟩
theorem lkL_92 : zLV RL 92 mX6_ring 1 := ⟨⟨zgw (i := 965) (by decide +kernel) rfl, zgw (i := 57) (by decide +kernel) rfl, ⟨by decide +kernel, by decide +kernel⟩, (by decide +kernel), zgw (i := 962) (by decide +kernel) rfl⟩, zgw (i := 963) (by decide +kernel) rfl, zgw (i := 964) (by decide +kernel) rfl⟩
theorem lkL_96 : zLV RL 96 mX6_men 2 := ⟨⟨zgw (i := 969) (by decide +kernel) rfl, zgw (i := 57) (by decide +kernel) rfl, ⟨by decide +kernel, by decide +kernel⟩, (by decide +kernel), zgw (i := 966) (by decide +kernel) rfl⟩, zgw (i := 967) (by decide +kernel) rfl, zgw (i := 968) (by decide +kernel) rfl⟩
theorem lkX6_177 : zLV RX6 177 mX6_leastBy 4 := ⟨⟨zgw (i := 973) (by decide +kernel) rfl, zgw (i := 57) (by decide +kernel) rfl, ⟨by decide +kernel, by decide +kernel⟩, (by decide +kernel), zgw (i := 970) (by decide +kernel) rfl⟩, zgw (i := 972) (by decide +kernel) rfl, zgw (i := 35) (by decide +kernel) rfl⟩
theorem lkL_100 : zLV RL 100 mX6_budget 2 := ⟨⟨zgw (i := 977) (by decide +kernel) rfl, zgw (i := 57) (by decide +kernel) rfl, ⟨by decide +kernel, by decide +kernel⟩, (by decide +kernel), zgw (i := 974) (by decide +kernel) rfl⟩, zgw (i := 975) (by decide +kernel) rfl, zgw (i := 976) (by decide +kernel) rfl⟩
theorem lkL_104 : zLV RL 104 mX6_kind 2 := ⟨⟨zgw (i := 981) (by decide +kernel) rfl, zgw (i := 57) (by decide +kernel) rfl, ⟨by decide +kernel, by decide +kernel⟩, (by decide +kernel), zgw (i := 978) (by decide +kernel) rfl⟩, zgw (i := 979) (by decide +kernel) rfl, zgw (i := 980) (by decide +kernel) rfl⟩
theorem lkL_108 : zLV RL 108 mX6_let 1 := ⟨⟨zgw (i := 985) (by decide +kernel) rfl, zgw (i := 57) (by decide +kernel) rfl, ⟨by decide +kernel, by decide +kernel⟩, (by decide +kernel), zgw (i := 982) (by decide +kernel) rfl⟩, zgw (i := 983) (by decide +kernel) rfl, zgw (i := 984) (by decide +kernel) rfl⟩
theorem lkL_112 : zLV RL 112 mX6_worst 1 := ⟨⟨zgw (i := 989) (by decide +kernel) rfl, zgw (i := 57) (by decide +kernel) rfl, ⟨by decide +kernel, by decide +kernel⟩, (by decide +kernel), zgw (i := 986) (by decide +kernel) rfl⟩, zgw (i := 987) (by decide +kernel) rfl, zgw (i := 988) (by decide +kernel) rfl⟩
theorem lkL_116 : zLV RL 116 mX6_feed 2 := ⟨⟨zgw (i := 993) (by decide +kernel) rfl, zgw (i := 57) (by decide +kernel) rfl, ⟨by decide +kernel, by decide +kernel⟩, (by decide +kernel), zgw (i := 990) (by decide +kernel) rfl⟩, zgw (i := 991) (by decide +kernel) rfl, zgw (i := 992) (by decide +kernel) rfl⟩
theorem ckX6_181 : Cond.constantLong RX6 181 (4) ∈ zGW := zgw (i := 994) (by decide +kernel) rfl
theorem lkL_120 : zLV RL 120 mX6_wipe 0 := ⟨⟨zgw (i := 998) (by decide +kernel) rfl, zgw (i := 57) (by decide +kernel) rfl, ⟨by decide +kernel, by decide +kernel⟩, (by decide +kernel), zgw (i := 995) (by decide +kernel) rfl⟩, zgw (i := 996) (by decide +kernel) rfl, zgw (i := 997) (by decide +kernel) rfl⟩
theorem lkL_124 : zLV RL 124 mX6_text 0 := ⟨⟨zgw (i := 1002) (by decide +kernel) rfl, zgw (i := 57) (by decide +kernel) rfl, ⟨by decide +kernel, by decide +kernel⟩, (by decide +kernel), zgw (i := 999) (by decide +kernel) rfl⟩, zgw (i := 1000) (by decide +kernel) rfl, zgw (i := 1001) (by decide +kernel) rfl⟩
theorem lkX6_284 : zLV RX6 284 mX6_saves 0 := ⟨⟨zgw (i := 1006) (by decide +kernel) rfl, zgw (i := 57) (by decide +kernel) rfl, ⟨by decide +kernel, by decide +kernel⟩, (by decide +kernel), zgw (i := 1003) (by decide +kernel) rfl⟩, zgw (i := 1005) (by decide +kernel) rfl, zgw (i := 36) (by decide +kernel) rfl⟩
theorem lkX6_214 : zLV RX6 214 mX6_token 0 := ⟨⟨zgw (i := 1010) (by decide +kernel) rfl, zgw (i := 57) (by decide +kernel) rfl, ⟨by decide +kernel, by decide +kernel⟩, (by decide +kernel), zgw (i := 1007) (by decide +kernel) rfl⟩, zgw (i := 1009) (by decide +kernel) rfl, zgw (i := 37) (by decide +kernel) rfl⟩
theorem lkX6_201 : zLV RX6 201 mX6_byteAt 1 := ⟨⟨zgw (i := 1014) (by decide +kernel) rfl, zgw (i := 57) (by decide +kernel) rfl, ⟨by decide +kernel, by decide +kernel⟩, (by decide +kernel), zgw (i := 1011) (by decide +kernel) rfl⟩, zgw (i := 1013) (by decide +kernel) rfl, zgw (i := 38) (by decide +kernel) rfl⟩
theorem lkX6_204 : zLS RX6 204 mX6_isLetter 1 := ⟨⟨zgw (i := 1017) (by decide +kernel) rfl, zgw (i := 57) (by decide +kernel) rfl, ⟨by decide +kernel, by decide +kernel⟩, (by decide +kernel), zgw (i := 1015) (by decide +kernel) rfl⟩, zgw (i := 1016) (by decide +kernel) rfl⟩
theorem ckX6_187 : Cond.constantLong RX6 187 (97) ∈ zGW := zgw (i := 1018) (by decide +kernel) rfl
theorem ckX6_189 : Cond.constantLong RX6 189 (122) ∈ zGW := zgw (i := 1019) (by decide +kernel) rfl
theorem lkX6_207 : zLS RX6 207 mX6_isDigit 1 := ⟨⟨zgw (i := 1022) (by decide +kernel) rfl, zgw (i := 57) (by decide +kernel) rfl, ⟨by decide +kernel, by decide +kernel⟩, (by decide +kernel), zgw (i := 1020) (by decide +kernel) rfl⟩, zgw (i := 1021) (by decide +kernel) rfl⟩
theorem ckX6_191 : Cond.constantLong RX6 191 (48) ∈ zGW := zgw (i := 1023) (by decide +kernel) rfl
theorem ckX6_193 : Cond.constantLong RX6 193 (57) ∈ zGW := zgw (i := 1024) (by decide +kernel) rfl
theorem lkX6_287 : zLV RX6 287 mX6_item 0 := ⟨⟨zgw (i := 1028) (by decide +kernel) rfl, zgw (i := 57) (by decide +kernel) rfl, ⟨by decide +kernel, by decide +kernel⟩, (by decide +kernel), zgw (i := 1025) (by decide +kernel) rfl⟩, zgw (i := 1027) (by decide +kernel) rfl, zgw (i := 39) (by decide +kernel) rfl⟩
theorem lkX6_269 : zLV RX6 269 mX6_kindHere 0 := ⟨⟨zgw (i := 1032) (by decide +kernel) rfl, zgw (i := 57) (by decide +kernel) rfl, ⟨by decide +kernel, by decide +kernel⟩, (by decide +kernel), zgw (i := 1029) (by decide +kernel) rfl⟩, zgw (i := 1031) (by decide +kernel) rfl, zgw (i := 40) (by decide +kernel) rfl⟩
theorem lkX6_228 : zLV RX6 228 mX6_word 0 := ⟨⟨zgw (i := 1036) (by decide +kernel) rfl, zgw (i := 57) (by decide +kernel) rfl, ⟨by decide +kernel, by decide +kernel⟩, (by decide +kernel), zgw (i := 1033) (by decide +kernel) rfl⟩, zgw (i := 1035) (by decide +kernel) rfl, zgw (i := 41) (by decide +kernel) rfl⟩
theorem ckX6_217 : Cond.constantLong RX6 217 (36028797018963967) ∈ zGW := zgw (i := 1037) (by decide +kernel) rfl
theorem ckX6_219 : Cond.constantLong RX6 219 (32) ∈ zGW := zgw (i := 1038) (by decide +kernel) rfl
theorem ckX6_232 : Cond.constantLong RX6 232 (277893) ∈ zGW := zgw (i := 1039) (by decide +kernel) rfl
theorem ckX6_234 : Cond.constantLong RX6 234 (67208) ∈ zGW := zgw (i := 1040) (by decide +kernel) rfl
theorem ckX6_236 : Cond.constantLong RX6 236 (3736683) ∈ zGW := zgw (i := 1041) (by decide +kernel) rfl
theorem ckX6_238 : Cond.constantLong RX6 238 (10986964) ∈ zGW := zgw (i := 1042) (by decide +kernel) rfl
theorem ckX6_240 : Cond.constantLong RX6 240 (152683) ∈ zGW := zgw (i := 1043) (by decide +kernel) rfl
theorem ckX6_242 : Cond.constantLong RX6 242 (627757) ∈ zGW := zgw (i := 1044) (by decide +kernel) rfl
theorem ckX6_272 : Cond.constantLong RX6 272 (89267380) ∈ zGW := zgw (i := 1045) (by decide +kernel) rfl
theorem lkX6_274 : zLV RX6 274 mX6_holeItem 1 := ⟨⟨zgw (i := 1049) (by decide +kernel) rfl, zgw (i := 57) (by decide +kernel) rfl, ⟨by decide +kernel, by decide +kernel⟩, (by decide +kernel), zgw (i := 1046) (by decide +kernel) rfl⟩, zgw (i := 1048) (by decide +kernel) rfl, zgw (i := 42) (by decide +kernel) rfl⟩
theorem lkX6_224 : zLV RX6 224 mX6_must 1 := ⟨⟨zgw (i := 1053) (by decide +kernel) rfl, zgw (i := 57) (by decide +kernel) rfl, ⟨by decide +kernel, by decide +kernel⟩, (by decide +kernel), zgw (i := 1050) (by decide +kernel) rfl⟩, zgw (i := 1052) (by decide +kernel) rfl, zgw (i := 43) (by decide +kernel) rfl⟩
theorem ckX6_248 : Cond.constantLong RX6 248 (302) ∈ zGW := zgw (i := 1054) (by decide +kernel) rfl
theorem lkX6_250 : zLV RX6 250 mX6_partItem 3 := ⟨⟨zgw (i := 1058) (by decide +kernel) rfl, zgw (i := 57) (by decide +kernel) rfl, ⟨by decide +kernel, by decide +kernel⟩, (by decide +kernel), zgw (i := 1055) (by decide +kernel) rfl⟩, zgw (i := 1057) (by decide +kernel) rfl, zgw (i := 44) (by decide +kernel) rfl⟩
theorem lkX6_244 : zLV RX6 244 mX6_number 2 := ⟨⟨zgw (i := 1062) (by decide +kernel) rfl, zgw (i := 57) (by decide +kernel) rfl, ⟨by decide +kernel, by decide +kernel⟩, (by decide +kernel), zgw (i := 1059) (by decide +kernel) rfl⟩, zgw (i := 1061) (by decide +kernel) rfl, zgw (i := 45) (by decide +kernel) rfl⟩
theorem ckX6_254 : Cond.constantLong RX6 254 (632645) ∈ zGW := zgw (i := 1063) (by decide +kernel) rfl
theorem ckX6_256 : Cond.constantLong RX6 256 (114052) ∈ zGW := zgw (i := 1064) (by decide +kernel) rfl
theorem lkX6_258 : zLV RX6 258 mX6_wordItem 3 := ⟨⟨zgw (i := 1068) (by decide +kernel) rfl, zgw (i := 57) (by decide +kernel) rfl, ⟨by decide +kernel, by decide +kernel⟩, (by decide +kernel), zgw (i := 1065) (by decide +kernel) rfl⟩, zgw (i := 1067) (by decide +kernel) rfl, zgw (i := 46) (by decide +kernel) rfl⟩
theorem ckX6_261 : Cond.constantLong RX6 261 (8692) ∈ zGW := zgw (i := 1069) (by decide +kernel) rfl
theorem ckX6_263 : Cond.constantLong RX6 263 (611783) ∈ zGW := zgw (i := 1070) (by decide +kernel) rfl
theorem ckX6_277 : Cond.constantLong RX6 277 (659100852) ∈ zGW := zgw (i := 1071) (by decide +kernel) rfl
theorem lkX6_279 : zLV RX6 279 mX6_streetItem 0 := ⟨⟨zgw (i := 1075) (by decide +kernel) rfl, zgw (i := 57) (by decide +kernel) rfl, ⟨by decide +kernel, by decide +kernel⟩, (by decide +kernel), zgw (i := 1072) (by decide +kernel) rfl⟩, zgw (i := 1074) (by decide +kernel) rfl, zgw (i := 47) (by decide +kernel) rfl⟩
theorem ckX6_265 : Cond.constantLong RX6 265 (22080067875) ∈ zGW := zgw (i := 1076) (by decide +kernel) rfl
theorem ckX6_267 : Cond.constantLong RX6 267 (12468) ∈ zGW := zgw (i := 1077) (by decide +kernel) rfl
theorem ckX6_282 : Cond.constantLong RX6 282 (13486) ∈ zGW := zgw (i := 1078) (by decide +kernel) rfl
theorem lkX6_290 : zLV RX6 290 mX6_putsBack 0 := ⟨⟨zgw (i := 1082) (by decide +kernel) rfl, zgw (i := 57) (by decide +kernel) rfl, ⟨by decide +kernel, by decide +kernel⟩, (by decide +kernel), zgw (i := 1079) (by decide +kernel) rfl⟩, zgw (i := 1081) (by decide +kernel) rfl, zgw (i := 48) (by decide +kernel) rfl⟩
theorem lkL_128 : zLV RL 128 mX6_sheet 3 := ⟨⟨zgw (i := 1086) (by decide +kernel) rfl, zgw (i := 57) (by decide +kernel) rfl, ⟨by decide +kernel, by decide +kernel⟩, (by decide +kernel), zgw (i := 1083) (by decide +kernel) rfl⟩, zgw (i := 1084) (by decide +kernel) rfl, zgw (i := 1085) (by decide +kernel) rfl⟩
theorem lkX6_293 : zLS RX6 293 mX6_isOne 1 := ⟨⟨zgw (i := 1089) (by decide +kernel) rfl, zgw (i := 57) (by decide +kernel) rfl, ⟨by decide +kernel, by decide +kernel⟩, (by decide +kernel), zgw (i := 1087) (by decide +kernel) rfl⟩, zgw (i := 1088) (by decide +kernel) rfl⟩
theorem ckX6_296 : Cond.constant RX6 296 (-1000000007) ∈ zGW := zgw (i := 1090) (by decide +kernel) rfl
theorem lkL_135 : zLV RL 135 mX6_write 3 := ⟨⟨zgw (i := 1094) (by decide +kernel) rfl, zgw (i := 57) (by decide +kernel) rfl, ⟨by decide +kernel, by decide +kernel⟩, (by decide +kernel), zgw (i := 1091) (by decide +kernel) rfl⟩, zgw (i := 1092) (by decide +kernel) rfl, zgw (i := 1093) (by decide +kernel) rfl⟩
theorem lkX6_298 : zLV RX6 298 mX6_wrongSheet 1 := ⟨⟨zgw (i := 1098) (by decide +kernel) rfl, zgw (i := 57) (by decide +kernel) rfl, ⟨by decide +kernel, by decide +kernel⟩, (by decide +kernel), zgw (i := 1095) (by decide +kernel) rfl⟩, zgw (i := 1097) (by decide +kernel) rfl, zgw (i := 49) (by decide +kernel) rfl⟩
theorem ckX6_297 : Cond.constant RX6 297 (-1000000006) ∈ zGW := zgw (i := 1099) (by decide +kernel) rfl
theorem lkX6_301 : zLS RX6 301 mX6_narrowed 2 := ⟨⟨zgw (i := 1102) (by decide +kernel) rfl, zgw (i := 57) (by decide +kernel) rfl, ⟨by decide +kernel, by decide +kernel⟩, (by decide +kernel), zgw (i := 1100) (by decide +kernel) rfl⟩, zgw (i := 1101) (by decide +kernel) rfl⟩
theorem lkL_140 : zLV RL 140 mX6_copy 5 := ⟨⟨zgw (i := 1106) (by decide +kernel) rfl, zgw (i := 57) (by decide +kernel) rfl, ⟨by decide +kernel, by decide +kernel⟩, (by decide +kernel), zgw (i := 1103) (by decide +kernel) rfl⟩, zgw (i := 1104) (by decide +kernel) rfl, zgw (i := 1105) (by decide +kernel) rfl⟩
theorem lkL_144 : zLV RL 144 mX6_lays 1 := ⟨⟨zgw (i := 1110) (by decide +kernel) rfl, zgw (i := 57) (by decide +kernel) rfl, ⟨by decide +kernel, by decide +kernel⟩, (by decide +kernel), zgw (i := 1107) (by decide +kernel) rfl⟩, zgw (i := 1108) (by decide +kernel) rfl, zgw (i := 1109) (by decide +kernel) rfl⟩
theorem lkL_148 : zLV RL 148 mX6_book 2 := ⟨⟨zgw (i := 1114) (by decide +kernel) rfl, zgw (i := 57) (by decide +kernel) rfl, ⟨by decide +kernel, by decide +kernel⟩, (by decide +kernel), zgw (i := 1111) (by decide +kernel) rfl⟩, zgw (i := 1112) (by decide +kernel) rfl, zgw (i := 1113) (by decide +kernel) rfl⟩
theorem lkX6_305 : zLV RX6 305 mX6_wrongBook 2 := ⟨⟨zgw (i := 1118) (by decide +kernel) rfl, zgw (i := 57) (by decide +kernel) rfl, ⟨by decide +kernel, by decide +kernel⟩, (by decide +kernel), zgw (i := 1115) (by decide +kernel) rfl⟩, zgw (i := 1117) (by decide +kernel) rfl, zgw (i := 50) (by decide +kernel) rfl⟩
theorem lkL_152 : zLV RL 152 mX6_read 2 := ⟨⟨zgw (i := 1122) (by decide +kernel) rfl, zgw (i := 57) (by decide +kernel) rfl, ⟨by decide +kernel, by decide +kernel⟩, (by decide +kernel), zgw (i := 1119) (by decide +kernel) rfl⟩, zgw (i := 1120) (by decide +kernel) rfl, zgw (i := 1121) (by decide +kernel) rfl⟩
theorem lkX6_308 : zLV RX6 308 mX6_isBook 2 := ⟨⟨zgw (i := 1126) (by decide +kernel) rfl, zgw (i := 57) (by decide +kernel) rfl, ⟨by decide +kernel, by decide +kernel⟩, (by decide +kernel), zgw (i := 1123) (by decide +kernel) rfl⟩, zgw (i := 1125) (by decide +kernel) rfl, zgw (i := 51) (by decide +kernel) rfl⟩
theorem lkL_156 : zLV RL 156 mX6_image 0 := ⟨⟨zgw (i := 1130) (by decide +kernel) rfl, zgw (i := 57) (by decide +kernel) rfl, ⟨by decide +kernel, by decide +kernel⟩, (by decide +kernel), zgw (i := 1127) (by decide +kernel) rfl⟩, zgw (i := 1128) (by decide +kernel) rfl, zgw (i := 1129) (by decide +kernel) rfl⟩
theorem lkL_160 : zLV RL 160 mX6_undo 0 := ⟨⟨zgw (i := 1134) (by decide +kernel) rfl, zgw (i := 57) (by decide +kernel) rfl, ⟨by decide +kernel, by decide +kernel⟩, (by decide +kernel), zgw (i := 1131) (by decide +kernel) rfl⟩, zgw (i := 1132) (by decide +kernel) rfl, zgw (i := 1133) (by decide +kernel) rfl⟩
theorem lkL_164 : zLV RL 164 mX6_tear 0 := ⟨⟨zgw (i := 1138) (by decide +kernel) rfl, zgw (i := 57) (by decide +kernel) rfl, ⟨by decide +kernel, by decide +kernel⟩, (by decide +kernel), zgw (i := 1135) (by decide +kernel) rfl⟩, zgw (i := 1136) (by decide +kernel) rfl, zgw (i := 1137) (by decide +kernel) rfl⟩
theorem lkL_168 : zLV RL 168 mX6_count 1 := ⟨⟨zgw (i := 1142) (by decide +kernel) rfl, zgw (i := 57) (by decide +kernel) rfl, ⟨by decide +kernel, by decide +kernel⟩, (by decide +kernel), zgw (i := 1139) (by decide +kernel) rfl⟩, zgw (i := 1140) (by decide +kernel) rfl, zgw (i := 1141) (by decide +kernel) rfl⟩
theorem lkX6_314 : zLS RX6 314 mX6_ones 1 := ⟨⟨zgw (i := 1145) (by decide +kernel) rfl, zgw (i := 57) (by decide +kernel) rfl, ⟨by decide +kernel, by decide +kernel⟩, (by decide +kernel), zgw (i := 1143) (by decide +kernel) rfl⟩, zgw (i := 1144) (by decide +kernel) rfl⟩
theorem lkL_172 : zLV RL 172 mX6_status 1 := ⟨⟨zgw (i := 1149) (by decide +kernel) rfl, zgw (i := 57) (by decide +kernel) rfl, ⟨by decide +kernel, by decide +kernel⟩, (by decide +kernel), zgw (i := 1146) (by decide +kernel) rfl⟩, zgw (i := 1147) (by decide +kernel) rfl, zgw (i := 1148) (by decide +kernel) rfl⟩
theorem ckX6_317 : Cond.constantLong RX6 317 (-1) ∈ zGW := zgw (i := 1150) (by decide +kernel) rfl
theorem ckL_129 : Cond.constantLong RL 129 (4294967295) ∈ zGW := zgw (i := 1151) (by decide +kernel) rfl
theorem fkJ0_9 : Cond.fieldLink RJ0 9 "java/lang/String" "value" "[B" ∈ zGW := zgw (i := 1152) (by decide +kernel) rfl
theorem fkJ0_15 : Cond.fieldLink RJ0 15 "java/lang/String" "coder" "B" ∈ zGW := zgw (i := 1153) (by decide +kernel) rfl
theorem inX1 : ∀ w ∈ u_ws RX1 TX1 3, w ∈ zGW := fun w h => List.mem_filter.mpr ⟨(goodIn_r (big := lw_tbl) _ [194, 196, 198] (by decide +kernel) (by decide +kernel) w h).1, List.all_eq_true.mp (show (u_ws RX1 TX1 3).all goodWord = true by decide +kernel) w h⟩
theorem inX2 : ∀ w ∈ u_ws RX2 TX2 6, w ∈ zGW := fun w h => List.mem_filter.mpr ⟨(goodIn_r (big := lw_tbl) _ [168, 170, 172, 174, 176, 178] (by decide +kernel) (by decide +kernel) w h).1, List.all_eq_true.mp (show (u_ws RX2 TX2 6).all goodWord = true by decide +kernel) w h⟩
theorem inX3 : ∀ w ∈ u_ws RX3 TX3 16, w ∈ zGW := fun w h => List.mem_filter.mpr ⟨(goodIn_r (big := lw_tbl) _ [119, 121, 123, 125, 127, 129, 131, 133, 135, 137, 139, 141, 143, 145, 147, 149] (by decide +kernel) (by decide +kernel) w h).1, List.all_eq_true.mp (show (u_ws RX3 TX3 16).all goodWord = true by decide +kernel) w h⟩
theorem inX5 : ∀ w ∈ u_ws RX5 TX5 7, w ∈ zGW := fun w h => List.mem_filter.mpr ⟨(goodIn_r (big := lw_tbl) _ [209, 211, 213, 215, 217, 219, 221] (by decide +kernel) (by decide +kernel) w h).1, List.all_eq_true.mp (show (u_ws RX5 TX5 7).all goodWord = true by decide +kernel) w h⟩
theorem inX6 : ∀ w ∈ u_ws RX6 TX6 16, w ∈ zGW := fun w h => List.mem_filter.mpr ⟨(goodIn_r (big := lw_tbl) _ [718, 720, 722, 724, 726, 728, 730, 732, 734, 736, 738, 740, 742, 744, 746, 748] (by decide +kernel) (by decide +kernel) w h).1, List.all_eq_true.mp (show (u_ws RX6 TX6 16).all goodWord = true by decide +kernel) w h⟩
end
section
/-! THE LAYER: contracts as functions; one bundle for what the heap holds; a row a call. -/
/-- the literals: whose, at which place, what they say, how long they are, their bytes -/
def zSo : List String := ["HoleFills$Kinds", "HoleFills$Kinds", "HoleFills$Kinds", "HoleFills$Kinds", "HoleFills$Kinds", "HoleFills$Kinds", "HoleFills$TownText", "HoleFills$TownText", "HoleFills$TownText", "HoleFills$TownText", "HoleFills$TownText", "HoleFills$TownText", "HoleFills$TownText", "HoleFills$TownText", "HoleFills$TownText", "HoleFills$TownText"]
def zSi : List Nat := [21, 23, 25, 27, 29, 31, 70, 72, 82, 87, 92, 44, 98, 105, 52, 62]
def zSt : List String := ["hole", "bath", "crack", "joint", "duck", "seam", "in", "size", "cold", "hot", "rung", "street", "traffic", "let", "budget", "men"]
def zSn : List Nat := [4, 4, 5, 5, 4, 4, 2, 4, 4, 3, 4, 6, 7, 3, 6, 3]
def zSb : List (List Int32) := [[104, 111, 108, 101], [98, 97, 116, 104], [99, 114, 97, 99, 107], [106, 111, 105, 110, 116], [100, 117, 99, 107], [115, 101, 97, 109], [105, 110], [115, 105, 122, 101], [99, 111, 108, 100], [104, 111, 116], [114, 117, 110, 103], [115, 116, 114, 101, 101, 116], [116, 114, 97, 102, 102, 105, 99], [108, 101, 116], [98, 117, 100, 103, 101, 116], [109, 101, 110]]
/-- the rows written out in the text: what may be set at most -/
def zMo (k : Nat) : List Int32 := if k = 0 then [99999, 99999, 6, 1] else if k = 1 then [99, 1] else [5, 5, 99, 2, 999, 1]
/-- what a claim's walk stands in: launch; addresses of literals, of their bytes, of static rows; classes; classes of the rows of ints, longs, sheets -/
abbrev zX : Type := Launch × ((Nat → Nat) × (Nat → Nat) × (Nat → Nat)) × va_G × ClassId × ClassId × ClassId
abbrev zD (x : zX) : va_G := x.2.2.1
abbrev zI (x : zX) : ClassId := x.2.2.2.1
abbrev zJ (x : zX) : ClassId := x.2.2.2.2.1
abbrev zO (x : zX) : ClassId := x.2.2.2.2.2
abbrev zTy (x : zX) : List (ClassId × FieldType) := [(zI x, .int), (zJ x, .long), (zO x, .object "HoleFills$Sheet")]
/-- what stands outside the worlds and stays: links between nest mates, static rows, literals -/
def zE (x : zX) (A : Nat → Prop) (U : State) : Prop :=
  (va_Nw (.methodLinkNest RX3 67 yX5_isStreet "HoleFills") U ∧ va_Nw (.methodLinkNest RX4 94 yX5_isStreet "HoleFills") U) ∧
  (va_Z "HoleFills" "MOST_OF_TOWN" "[I" (.ref (x.2.1.2.2 0)) A U U.heap ∧ va_Z "HoleFills" "MOST_OF_STREET" "[I" (.ref (x.2.1.2.2 1)) A U U.heap ∧ va_Z "HoleFills" "MOST_OF_HOLE" "[I" (.ref (x.2.1.2.2 2)) A U U.heap) ∧
  (va_T .int (x.2.1.2.2 0) 4 (fun j => .int ((zMo 0).getD j 0)) A U U.heap ∧ va_T .int (x.2.1.2.2 1) 2 (fun j => .int ((zMo 1).getD j 0)) A U U.heap ∧ va_T .int (x.2.1.2.2 2) 6 (fun j => .int ((zMo 2).getD j 0)) A U U.heap) ∧
  (va_Z "java/lang/String" "COMPACT_STRINGS" "Z" (.int 1) A U U.heap ∧ va_Z "jdk/internal/util/Preconditions" "SIOOBE_FORMATTER" "Ljava/util/function/BiFunction;" (.ref (x.2.1.2.2 3)) A U U.heap) ∧
  (∀ i : Nat, i < 16 → vk_R (zSo.getD i "") (zSi.getD i 0) (zSt.getD i "") (x.2.1.1 i) U) ∧ vk_S 16 zSn zSb x.2.1.1 x.2.1.2.1 A U U.heap
theorem zE.at {x : zX} {A B : Nat → Prop} {s U : State} {H : Heap} {locs : List Loc} (h : zE x A s) (hS : va_S A s.heap H locs) (hU : U.heap = H) (hW : s.WarmedH U.vm) (hB : ∀ q, B q → A q) : zE x B U := by
  obtain ⟨⟨n1, n2⟩, ⟨z1, z2, z3⟩, ⟨t1, t2, t3⟩, ⟨c1, c2⟩, r, k⟩ := h
  have kp : ∀ a : Nat, a < s.heap.size → ¬ A a → U.heap[a]? = s.heap[a]? := fun a h1 h2 => by rw [hU]; exact hS.2.1 a h1 h2
  have mz : ∀ {C n d : String} {v : Value}, va_Z C n d v A s s.heap → va_Z C n d v B U U.heap := fun hz => ((hz.kept kp).moved hW.alike).narrow hB
  have mt : ∀ {ty : FieldType} {t N : Nat} {f : Nat → Value}, va_T ty t N f A s s.heap → va_T ty t N f B U U.heap := fun hz => ((hz.kept kp).moved hW.alike).narrow hB
  exact ⟨⟨n1.warmM hW, n2.warmM hW⟩, ⟨mz z1, mz z2, mz z3⟩, ⟨mt t1, mt t2, mt t3⟩, ⟨mz c1, mz c2⟩, fun i hi => (r i hi).warm hW, ((k.kept kp).moved hW.alike).narrow hB⟩
theorem zE.blind {x : zX} {A : Nat → Prop} {U : State} {g : JFrame} {mk : MethodId} {a : Array Value} (h : zE x A U) : zE x A (U.calling g mk a) := by
  obtain ⟨⟨n1, n2⟩, ⟨z1, z2, z3⟩, ⟨t1, t2, t3⟩, ⟨c1, c2⟩, r, k⟩ := h
  have al : U.vm.Alike (U.calling g mk a).vm := Vm.Alike.refl U.vm
  have mz : ∀ {C n d : String} {v : Value}, va_Z C n d v A U U.heap → va_Z C n d v A (U.calling g mk a) (U.calling g mk a).heap := fun hz => hz.moved al
  have mt : ∀ {ty : FieldType} {t N : Nat} {f : Nat → Value}, va_T ty t N f A U U.heap → va_T ty t N f A (U.calling g mk a) (U.calling g mk a).heap := fun hz => hz.moved al
  exact ⟨⟨n1.same rfl rfl, n2.same rfl rfl⟩, ⟨mz z1, mz z2, mz z3⟩, ⟨mt t1, mt t2, mt t3⟩, ⟨mz c1, mz c2⟩, fun i hi => (r i hi).same rfl, k.moved al⟩
/-- the heap holds the cells ws, they are apart, and since H0 nothing but A has changed -/
def zHw (x : zX) (A : Nat → Prop) (H0 : Heap) (ws : va_W) (H : Heap) (locs : List Loc) : Prop := va_P (zD x) vwCl ws H ∧ va_D A ws ∧ va_S A H0 H locs
/-- a contract's start -/
def zKP (x : zX) (w : va_W) (sz : Nat) (U : State) : Prop := U.heap.size = sz ∧ va_P (zD x) vwCl w U.heap ∧ va_K (zD x) vwCl (zTy x) U ∧ va_D (fun _ => True) w ∧ zE x (va_A w sz) U
/-- a contract's end -/
def zQF (x : zX) (Post : Option Value → va_W → Prop) (w : va_W) (A : Nat → Prop) : Array Value → State → Outcome → State → Prop := fun _ st oc t => (∃ (v : Option Value) (u : va_W), oc = .returned v ∧ Post v u ∧ u.map Prod.fst = w.map Prod.fst ∧ va_P (zD x) vwCl u t.heap) ∧ va_F A st t
/-- the contract: from the cells w, with the arguments as, the method me (of height k) returns v and leaves the cells u, Post v u -/
def zFG (x : zX) (me : zMe) (k : Nat) (as : List Value) (w : va_W) (Post : Option Value → va_W → Prop) : Prop := ∀ sz : Nat, Met x.1 me.1 (zws me) (zRM k) (va_Pc as (zKP x w sz)) (zQF x Post w (va_A w sz)) 0 0 (va_A w sz)
/-- the contract of a method that is a function of its arguments and cells -/
abbrev zFF (x : zX) (me : zMe) (k : Nat) (as : List Value) (w : va_W) (v : Option Value) (u : va_W) : Prop := zFG x me k as w (fun v' u' => v' = v ∧ u' = u)
def zQM (below : List Frame) (x : zX) (Post : Option Value → va_W → Prop) (w : va_W) (A : Nat → Prop) (args : Array Value) (s : State) : State → Prop := MQ below (zQF x Post w A) args s 0 0 A
theorem zHw.P {x : zX} {A : Nat → Prop} {H0 H : Heap} {ws : va_W} {locs : List Loc} (h : zHw x A H0 ws H locs) : va_P (zD x) vwCl ws H := h.1
theorem zHw.D {x : zX} {A : Nat → Prop} {H0 H : Heap} {ws : va_W} {locs : List Loc} (h : zHw x A H0 ws H locs) : va_D A ws := h.2.1
theorem zHw.S {x : zX} {A : Nat → Prop} {H0 H : Heap} {ws : va_W} {locs : List Loc} (h : zHw x A H0 ws H locs) : va_S A H0 H locs := h.2.2
/-- va_D looks at the addresses alone -/
theorem va_D.addr {A : Nat → Prop} {w u : va_W} (h : va_D A w) (e : u.map Prod.fst = w.map Prod.fst) : va_D A u := by
  have at' : ∀ (k : Nat) (q : Nat × va_E), u[k]? = some q → ∃ q' : Nat × va_E, w[k]? = some q' ∧ q'.1 = q.1 := by
    intro k q hq
    have h1 : (u.map Prod.fst)[k]? = some q.1 := by rw [List.getElem?_map, hq]; rfl
    rw [e, List.getElem?_map] at h1
    cases hw : w[k]? with
    | none => rw [hw] at h1; cases h1
    | some q' => rw [hw] at h1; exact ⟨q', rfl, Option.some.inj h1⟩
  refine ⟨fun i j p q hp hq hpq => ?_, fun k q hq => ?_⟩
  · obtain ⟨p', h1, e1⟩ := at' i p hp
    obtain ⟨q', h2, e2⟩ := at' j q hq
    exact h.1 i j p' q' h1 h2 (by rw [e1, e2]; exact hpq)
  · obtain ⟨q', h1, e1⟩ := at' k q hq
    rw [← e1]; exact h.2 k q' h1
theorem va_P.left {D : va_G} {cl : List vw_C} {a b : va_W} {H : Heap} (h : va_P D cl (a ++ b) H) : va_P D cl a H := fun k q hq => h k q (by rw [List.getElem?_append_left (List.getElem?_eq_some_iff.mp hq).1]; exact hq)
theorem va_P.right {D : va_G} {cl : List vw_C} {a b : va_W} {H : Heap} (h : va_P D cl (a ++ b) H) : va_P D cl b H := fun k q hq => h (a.length + k) q (by rw [List.getElem?_append_right (Nat.le_add_right _ _), Nat.add_sub_cancel_left]; exact hq)
theorem va_D.left {A : Nat → Prop} {a b : va_W} (h : va_D A (a ++ b)) : va_D A a := by
  have up : ∀ (k : Nat) (q : Nat × va_E), a[k]? = some q → (a ++ b)[k]? = some q := fun k q hq => by rw [List.getElem?_append_left (List.getElem?_eq_some_iff.mp hq).1]; exact hq
  exact ⟨fun i j p q hp hq e => h.1 i j p q (up i p hp) (up j q hq) e, fun k q hq => h.2 k q (up k q hq)⟩
theorem va_D.right {A : Nat → Prop} {a b : va_W} (h : va_D A (a ++ b)) : va_D A b := by
  have up : ∀ (k : Nat) (q : Nat × va_E), b[k]? = some q → (a ++ b)[a.length + k]? = some q := fun k q hq => by rw [List.getElem?_append_right (Nat.le_add_right _ _), Nat.add_sub_cancel_left]; exact hq
  exact ⟨fun i j p q hp hq e => by have := h.1 _ _ p q (up i p hp) (up j q hq) e; omega, fun k q hq => h.2 _ q (up k q hq)⟩
theorem va_D.cross {A : Nat → Prop} {a b : va_W} (h : va_D A (a ++ b)) {i j : Nat} {p q : Nat × va_E} (hp : a[i]? = some p) (hq : b[j]? = some q) : p.1 ≠ q.1 := by
  intro e
  have hi := (List.getElem?_eq_some_iff.mp hp).1
  have := h.1 i (a.length + j) p q (by rw [List.getElem?_append_left hi]; exact hp) (by rw [List.getElem?_append_right (Nat.le_add_right _ _), Nat.add_sub_cancel_left]; exact hq) e
  omega
/-- a call over the cells w in the middle of others -/
theorem zHw.mid {x : zX} {A : Nat → Prop} {H0 H H1 : Heap} {C1 C2 w u : va_W} {locs locs1 : List Loc} (h : zHw x A H0 (C1 ++ (w ++ C2)) H locs) (hu : u.map Prod.fst = w.map Prod.fst) (hP1 : va_P (zD x) vwCl u H1) (hk : ∀ q : Nat, q < H.size → ¬ va_A w H.size q → H1[q]? = H[q]?) (hS1 : va_S A H0 H1 locs1) : zHw x A H0 (C1 ++ (u ++ C2)) H1 locs1 := by
  obtain ⟨hP, hD, hS⟩ := h
  have nA : ∀ q : Nat × va_E, (∀ (j : Nat) (e : va_E), w[j]? = some (q.1, e) → False) → q.1 < H.size → H1[q.1]? = H[q.1]? := fun q hq hl => hk q.1 hl (fun z => by
    rcases z with ⟨j, e, z⟩ | z
    · exact hq j e z
    · omega)
  refine ⟨va_P.app (hP.left.kept fun k q hq => nA q (fun j e hj => ?_) (hP.left k q hq).lt) (va_P.app hP1 (hP.right.right.kept fun k q hq => nA q (fun j e hj => ?_) (hP.right.right k q hq).lt)), hD.addr ?_, hS1⟩
  · exact hD.cross hq (show (w ++ C2)[j]? = some (q.1, e) by rw [List.getElem?_append_left (List.getElem?_eq_some_iff.mp hj).1]; exact hj) rfl
  · exact hD.right.cross hj hq rfl
  · rw [List.map_append, List.map_append, List.map_append, List.map_append, hu]
theorem zHw.whole {x : zX} {A : Nat → Prop} {H0 H H1 : Heap} {w u : va_W} {locs locs1 : List Loc} (h : zHw x A H0 w H locs) (hu : u.map Prod.fst = w.map Prod.fst) (hP1 : va_P (zD x) vwCl u H1) (hS1 : va_S A H0 H1 locs1) : zHw x A H0 u H1 locs1 := ⟨hP1, h.D.addr hu, hS1⟩
/-- cells under other contents, the same to the heap -/
theorem zHw.re {x : zX} {A : Nat → Prop} {H0 H : Heap} {w u : va_W} {locs : List Loc} (h : zHw x A H0 w H locs) (e : w = u) : zHw x A H0 u H locs := e ▸ h
section LAY
variable {p : Program} {e : Env} {R : Room} {s : State} {m : MethodId} {args : Array Value} {below : List Frame} {meth : Method} {c : Code} {H H0 : Heap} {locs : List Loc} {cells slots : Nat} {Q : State → Prop} {x : zX} {A : Nat → Prop} {ls : Array Slot} {pc : Nat} {cc : ByteArray} {rest : List Value}
/-- a method's contract out of the walk of its body -/
theorem zFG.start {me : zMe} {k : Nat} {as : List Value} {w : va_W} {Post : Option Value → va_W → Prop} (own : String) (cc : ByteArray) (nL : Nat) (ret : Option FieldType) (hm : me.2 = (cc, nL, ret)) (hown : me.1.cls = own) (hy : plainName me.1.cls = true) (hn : (lg_sl as).length ≤ nL)
    (body : ∀ (p : Program) (e : Env) (s : State) (m : MethodId) (ar : Array Value) (below : List Frame) (meth : Method) (c : Code) (ls : Array Slot) (A : Nat → Prop) (Q : State → Prop), p.tables.exec = Jvm.exec → c.code = cc → meth.sig.returnType = ret → c.maxLocals = nL → s.vm.findClass own = some m.cls → (∀ w ∈ zGW, w.before ar s = true) → meth.locks = false → va_K (zD x) vwCl (zTy x) s → zE x A s → (∀ q, s.heap.size ≤ q → A q) → Q = zQM below x Post w A ar s → lv_has ls nL (lv_args 0 as) → zHw x A s.heap w s.heap [] → W p x.1 e (zRM k) s m ar below meth c s.heap [] 0 0 Q (F0 m 0 ls [])) : zFG x me k as w Post := by
  obtain ⟨y, cc', nL', ret'⟩ := me
  cases hm
  subst hown
  intro sz
  refine Met.ofW (cc := cc) (maxL := nL) (ret := ret) (ws := zws (y, cc, nL, ret)) hy rfl ?_
  intro p e s m args below meth c s₁ B hml hv
  obtain ⟨rfl, hsz, hP, hK, hD0, hE⟩ := hv
  subst hsz
  have hl := lv_entry as (n := nL) hn
  rw [lg_entry_eq]
  have hts := atoms_spec (ws := zws (y, cc, nL, ret)) B.pre
  exact body p e s m _ below meth c _ (va_A w s.heap.size) _ B.exec B.bytes B.returns hml (findClass_of_methodNamed B.named) (fun w hw => hts w (List.mem_cons_of_mem _ hw)) B.notSynchronized hK hE (fun q h => Or.inr h) rfl hl ⟨hP, hD0.self, va_S.rf⟩
/-- the ends -/
theorem zQF.mk {Post : Option Value → va_W → Prop} {w u : va_W} {v : Option Value} (hw : zHw x A s.heap u H locs) (hp : Post v u) (hu : u.map Prod.fst = w.map Prod.fst) {t : State} (ht : t.heap = H) : zQF x Post w A args s (.returned v) t := ⟨⟨v, u, rfl, hp, hu, by rw [ht]; exact hw.P⟩, hw.S.F ht⟩
theorem zFG.iret {Post : Option Value → va_W → Prop} {w u : va_W} {v : Int32} (hx : p.tables.exec = Jvm.exec) (hb : c.code = cc) (hr : meth.sig.returnType = some .int) (hlocks : meth.locks = false) (hQ : Q = zQM below x Post w A args s) (hw : zHw x A s.heap u H locs) (hu : u.map Prod.fst = w.map Prod.fst) (hdg : decode cc pc = .ok (.ireturn, 1)) (hp : Post (some (.int v)) u) : W p x.1 e R s m args below meth c H locs 0 0 Q (F0 m pc ls [.int v]) := by
  subst hQ; exact W.iret hx hb hr (fun _ ht _ => zQF.mk hw hp hu ht) hw.S.2.2 hdg hlocks
theorem zFG.zret {Post : Option Value → va_W → Prop} {w u : va_W} {v : Int32} (hx : p.tables.exec = Jvm.exec) (hb : c.code = cc) (hr : meth.sig.returnType = some .boolean) (hlocks : meth.locks = false) (hQ : Q = zQM below x Post w A args s) (hw : zHw x A s.heap u H locs) (hu : u.map Prod.fst = w.map Prod.fst) (hdg : decode cc pc = .ok (.ireturn, 1)) (hn : narrow .boolean (.int v) = .int v) (hp : Post (some (.int v)) u) : W p x.1 e R s m args below meth c H locs 0 0 Q (F0 m pc ls [.int v]) := by
  subst hQ; exact W.zret hx hb hr hn (fun _ ht _ => zQF.mk hw hp hu ht) hw.S.2.2 hdg hlocks
theorem zFG.lret {Post : Option Value → va_W → Prop} {w u : va_W} {v : Int64} (hx : p.tables.exec = Jvm.exec) (hb : c.code = cc) (hr : meth.sig.returnType = some .long) (hlocks : meth.locks = false) (hQ : Q = zQM below x Post w A args s) (hw : zHw x A s.heap u H locs) (hu : u.map Prod.fst = w.map Prod.fst) (hdg : decode cc pc = .ok (.lreturn, 1)) (hp : Post (some (.long v)) u) : W p x.1 e R s m args below meth c H locs 0 0 Q (F0 m pc ls [.long v]) := by
  subst hQ; exact W.lret hx hb hr (fun _ ht _ => zQF.mk hw hp hu ht) hw.S.2.2 hdg hlocks
theorem zFG.vret {Post : Option Value → va_W → Prop} {w u : va_W} (hx : p.tables.exec = Jvm.exec) (hb : c.code = cc) (hr : meth.sig.returnType = none) (hlocks : meth.locks = false) (hQ : Q = zQM below x Post w A args s) (hw : zHw x A s.heap u H locs) (hu : u.map Prod.fst = w.map Prod.fst) (hdg : decode cc pc = .ok (.return_, 1)) (hp : Post none u) : W p x.1 e R s m args below meth c H locs 0 0 Q (F0 m pc ls []) := by
  subst hQ; exact W.vret hx hb hr (fun _ ht _ => zQF.mk hw hp hu ht) hw.S.2.2 hdg hlocks
theorem zFG.aret {Post : Option Value → va_W → Prop} {w u : va_W} {v : Value} {rt : FieldType} (hx : p.tables.exec = Jvm.exec) (hb : c.code = cc) (hr : meth.sig.returnType = some rt) (hrt : (∃ n, rt = .object n) ∨ ∃ t, rt = .array t) (hv : v = .null ∨ ∃ a, v = .ref a) (hlocks : meth.locks = false) (hQ : Q = zQM below x Post w A args s) (hw : zHw x A s.heap u H locs) (hu : u.map Prod.fst = w.map Prod.fst) (hdg : decode cc pc = .ok (.areturn, 1)) (hp : Post (some v) u) : W p x.1 e R s m args below meth c H locs 0 0 Q (F0 m pc ls [v]) := by
  subst hQ; exact W.aret hx hb hr hrt hv (fun _ ht _ => zQF.mk hw hp hu ht) hw.S.2.2 hdg hlocks
/-- a call has run: what its contract says -/
theorem zFG.ran {Post : Option Value → va_W → Prop} {w : va_W} {av : Array Value} {st0 : List Value} (hr : va_Run p x.1 e R s m args below meth c H locs cells slots 0 0 (F0 m pc ls st0) rest (zQF x Post w (va_A w H.size) av) (va_A w H.size)) (hS : va_S A H0 H locs) (hF : ∀ q, va_A w H.size q → A q)
    (kk : ∀ (v : Option Value) (u : va_W) (H1 : Heap) (locs1 : List Loc), Post v u → u.map Prod.fst = w.map Prod.fst → va_P (zD x) vwCl u H1 → (∀ q : Nat, q < H.size → ¬ va_A w H.size q → H1[q]? = H[q]?) → va_S A H0 H1 locs1 → W p x.1 e R s m args below meth c H1 locs1 cells slots Q (F0 m (pc + 3) ls (v.toList ++ rest))) : W p x.1 e R s m args below meth c H locs cells slots Q (F0 m pc ls st0) := by
  intro T hT X
  obtain ⟨v, st₀, t, T', L, h0, X', hL, e1, e2, ⟨⟨v', u, hv, hp, hu, hb⟩, hz, hk⟩, st⟩ := hr T hT X
  cases hv
  rw [h0] at hz hk
  obtain ⟨t2, a1, b1⟩ := kk v u T'.heap (locs ++ L) hp hu (by rw [e1]; exact hb) (fun q h1 h2 => by rw [e1]; exact hk q h1 h2)
    ⟨Nat.le_trans hS.1 (by rw [e1]; exact hz), fun q h1 h2 => by rw [e1, hk q (Nat.lt_of_lt_of_le h1 hS.1) (fun z => h2 (hF q z))]; exact hS.2.1 q h1 h2, fun q hq => by
      rcases List.mem_append.mp hq with h | h
      · exact hS.2.2 q h
      · exact hF _ (hL q h)⟩ T' rfl X'
  exact ⟨t2, st t2 a1, b1⟩
theorem zKP.blind {as : List Value} {w : va_W} {sz : Nat} : FrameBlind (va_Pc as (zKP x w sz)) := fun a U g mk q => by
  obtain ⟨q0, q1, qP, qK, qD, qE⟩ := q
  exact ⟨q0, q1, qP, va_K.moved (u := U) (U := U.calling g mk a) (Vm.Alike.refl U.vm) qK, qD, qE.blind⟩
theorem zKP.at {as : List Value} {w : va_W} (hK : va_K (zD x) vwCl (zTy x) s) (hP : va_P (zD x) vwCl w H) (hD : va_D A w) (hE : zE x A s) (hS : va_S A s.heap H locs) (hF : ∀ q, va_A w H.size q → A q) (U : State) (hU : U.heap = H) (hW : s.WarmedH U.vm) : va_Pc as (zKP x w H.size) as.toArray U := ⟨rfl, by rw [hU], by rw [hU]; exact hP, va_K.moved hW.alike hK, hD.weaken (fun _ _ _ _ => trivial), hE.at hS hU hW hF⟩
theorem zLK.callB {me : zMe} {n k : Nat} {own : String} {i : Nat} (hk : zLK me n (.methodLink own i me.1)) (hts : ∀ w ∈ zGW, w.before args s = true) (hR : k + 1 ≤ R.frames ∧ 19 + me.2.2.1 + 40 * k ≤ R.locals) : CallB R s args own i me.1 me.2.1 me.2.2.1 me.2.2.2 (zws me) (zRM k) 0 0 n :=
  callB_of n hts (zgood hk.1) rfl rfl rfl (hts _ hk.2.1) (hts _ hk.2.2.2.2) ⟨hk.2.2.1.1, hk.2.2.1.2, hk.2.2.2.1⟩ ⟨hR.1, by have := hR.2; show 8 + (me.2.2.1 + 11) + 40 * k ≤ R.locals; omega⟩
theorem zLK.callN {me : zMe} {n k : Nat} {own host : String} {i : Nat} (hk : zLK me n (.code me.1 me.2.1 me.2.2.1 me.2.2.2)) (hn : va_Nw (.methodLinkNest own i me.1 host) s) (hts : ∀ w ∈ zGW, w.before args s = true) (hR : k + 1 ≤ R.frames ∧ 19 + me.2.2.1 + 40 * k ≤ R.locals) : va_CN R s args own i me.1 host me.2.1 me.2.2.1 me.2.2.2 (zws me) (zRM k) 0 0 n :=
  va_cnB n hts (zgood hk.1) rfl rfl rfl hn (hts _ hk.2.1) ⟨hk.2.2.1.1, hk.2.2.1.2, hk.2.2.2.1⟩ ⟨hR.1, by have := hR.2; show 8 + (me.2.2.1 + 11) + 40 * k ≤ R.locals; omega⟩
end LAY
end
section
/-! ROWS OF THE HEAP AND OF CALLS, over the bundle. -/
section ROWS
variable {p : Program} {e : Env} {R : Room} {s : State} {m : MethodId} {args : Array Value} {below : List Frame} {meth : Method} {c : Code} {H H0 : Heap} {locs : List Loc} {cells slots : Nat} {Q : State → Prop} {x : zX} {A : Nat → Prop} {ls : Array Slot} {pc : Nat} {cc : ByteArray} {rest : List Value} {ws : va_W} {a : Nat}
theorem zin {i : Int32} {n : Nat} (j : Nat) (hi : i = nI j) (hj : j < n) (hn : n < 2 ^ 31) : vp_in i n := by rw [hi]; exact vp_in_nI hj hn
theorem zial (hx : p.tables.exec = Jvm.exec) (hb : c.code = cc) (hK : va_K (zD x) vwCl (zTy x) s) (hw : zHw x A H0 ws H locs) (q0 t0 j : Nat) {cA : ClassId} {n : Nat} {f : Nat → Int32} (ha : ws[q0]? = some (a, .inl (cA, n, .inl f))) (ht : (zTy x)[t0]? = some (cA, .int)) {i : Int32} (hi : i = nI j) (hj : j < n) (hn : n < 2147483648) (hdg : decode cc pc = .ok (.iaload, 1))
    (kk : W p x.1 e R s m args below meth c H locs cells slots Q (F0 m (pc + 1) ls (.int (f j) :: rest))) : W p x.1 e R s m args below meth c H locs cells slots Q (F0 m pc ls (.int i :: .ref a :: rest)) :=
  va_iald hx hb hK hw.P q0 t0 ha ht (zin j hi hj hn) hdg (by rw [hi, nI_clamp (Nat.lt_trans hj hn)]; exact kk)
theorem zias (hx : p.tables.exec = Jvm.exec) (hb : c.code = cc) (hK : va_K (zD x) vwCl (zTy x) s) (hw : zHw x A H0 ws H locs) (q0 t0 j : Nat) {cA : ClassId} {n : Nat} {f : Nat → Int32} (ha : ws[q0]? = some (a, .inl (cA, n, .inl f))) (ht : (zTy x)[t0]? = some (cA, .int)) {i z : Int32} (hi : i = nI j) (hj : j < n) (hn : n < 2147483648) (hdg : decode cc pc = .ok (.iastore, 1))
    (kk : ∀ (H1 : Heap) (locs1 : List Loc), zHw x A H0 (ws.set q0 (a, .inl (cA, n, .inl (upd f j z)))) H1 locs1 → W p x.1 e R s m args below meth c H1 locs1 cells slots Q (F0 m (pc + 1) ls rest)) : W p x.1 e R s m args below meth c H locs cells slots Q (F0 m pc ls (.int z :: .int i :: .ref a :: rest)) :=
  va_iast hx hb hK hw.P hw.D hw.S q0 t0 ha ht (zin j hi hj hn) hdg (by rw [hi, nI_clamp (Nat.lt_trans hj hn)]; exact fun H1 l1 h1 h2 h3 => kk H1 l1 ⟨h1, h2, h3⟩)
theorem zlal (hx : p.tables.exec = Jvm.exec) (hb : c.code = cc) (hK : va_K (zD x) vwCl (zTy x) s) (hw : zHw x A H0 ws H locs) (q0 t0 j : Nat) {cA : ClassId} {n : Nat} {f : Nat → Int64} (ha : ws[q0]? = some (a, .inl (cA, n, .inr (.inl f)))) (ht : (zTy x)[t0]? = some (cA, .long)) {i : Int32} (hi : i = nI j) (hj : j < n) (hn : n < 2147483648) (hdg : decode cc pc = .ok (.laload, 1))
    (kk : W p x.1 e R s m args below meth c H locs cells slots Q (F0 m (pc + 1) ls (.long (f j) :: rest))) : W p x.1 e R s m args below meth c H locs cells slots Q (F0 m pc ls (.int i :: .ref a :: rest)) :=
  va_lald hx hb hK hw.P q0 t0 ha ht (zin j hi hj hn) hdg (by rw [hi, nI_clamp (Nat.lt_trans hj hn)]; exact kk)
theorem zlas (hx : p.tables.exec = Jvm.exec) (hb : c.code = cc) (hK : va_K (zD x) vwCl (zTy x) s) (hw : zHw x A H0 ws H locs) (q0 t0 j : Nat) {cA : ClassId} {n : Nat} {f : Nat → Int64} (ha : ws[q0]? = some (a, .inl (cA, n, .inr (.inl f)))) (ht : (zTy x)[t0]? = some (cA, .long)) {i : Int32} {z : Int64} (hi : i = nI j) (hj : j < n) (hn : n < 2147483648) (hdg : decode cc pc = .ok (.lastore, 1))
    (kk : ∀ (H1 : Heap) (locs1 : List Loc), zHw x A H0 (ws.set q0 (a, .inl (cA, n, .inr (.inl (vp_updL f j z))))) H1 locs1 → W p x.1 e R s m args below meth c H1 locs1 cells slots Q (F0 m (pc + 1) ls rest)) : W p x.1 e R s m args below meth c H locs cells slots Q (F0 m pc ls (.long z :: .int i :: .ref a :: rest)) :=
  va_last hx hb hK hw.P hw.D hw.S q0 t0 ha ht (zin j hi hj hn) hdg (by rw [hi, nI_clamp (Nat.lt_trans hj hn)]; exact fun H1 l1 h1 h2 h3 => kk H1 l1 ⟨h1, h2, h3⟩)
theorem zaal (hx : p.tables.exec = Jvm.exec) (hb : c.code = cc) (hK : va_K (zD x) vwCl (zTy x) s) (hw : zHw x A H0 ws H locs) (q0 t0 j : Nat) {cA : ClassId} {C : String} {n : Nat} {f : Nat → Option Nat} (ha : ws[q0]? = some (a, .inl (cA, n, .inr (.inr (.inr (.inr f)))))) (ht : (zTy x)[t0]? = some (cA, .object C)) {i : Int32} (hi : i = nI j) (hj : j < n) (hn : n < 2147483648) (hdg : decode cc pc = .ok (.aaload, 1))
    (kk : W p x.1 e R s m args below meth c H locs cells slots Q (F0 m (pc + 1) ls (va_rf (f j) :: rest))) : W p x.1 e R s m args below meth c H locs cells slots Q (F0 m pc ls (.int i :: .ref a :: rest)) :=
  va_aldq hx hb hK hw.P q0 t0 ha ht (zin j hi hj hn) hdg (by rw [hi, nI_clamp (Nat.lt_trans hj hn)]; exact kk)
theorem zmin {index : Nat} {own : String} {z y : Int32} (hx : p.tables.exec = Jvm.exec) (hb : c.code = cc) (hml : c.maxLocals = ls.size) (hown : s.vm.findClass own = some m.cls) (hts : ∀ w ∈ zGW, w.before args s = true) (lk : zLS own index (Lib.Math.min.name, Lib.Math.min.code, 2, some .int) 2) (hi : Cond.initialized "java/lang/Math" ∈ zGW) (hR : 1 ≤ R.frames ∧ (rest.map fun v => v.category).sum + 13 ≤ R.locals ∧ cells ≤ R.cells ∧ slots ≤ R.slots) (hdg : decode cc pc = .ok (.invokestatic index, 3))
    (kk : W p x.1 e R s m args below meth c H locs cells slots Q (F0 m (pc + 3) ls (.int (if y < z then y else z) :: rest))) : W p x.1 e R s m args below meth c H locs cells slots Q (F0 m pc ls (.int y :: .int z :: rest)) :=
  va_mmin hx hb hml hown (hts _ lk.1.2.2.2.2) (hts _ lk.2) (hts _ hi) (hts _ lk.1.1) hR.1 hR.2.1 hR.2.2.1 hR.2.2.2 hdg kk
theorem zmax {index : Nat} {own : String} {z y : Int32} (hx : p.tables.exec = Jvm.exec) (hb : c.code = cc) (hml : c.maxLocals = ls.size) (hown : s.vm.findClass own = some m.cls) (hts : ∀ w ∈ zGW, w.before args s = true) (lk : zLS own index (Lib.Math.max.name, Lib.Math.max.code, 2, some .int) 2) (hi : Cond.initialized "java/lang/Math" ∈ zGW) (hR : 1 ≤ R.frames ∧ (rest.map fun v => v.category).sum + 13 ≤ R.locals ∧ cells ≤ R.cells ∧ slots ≤ R.slots) (hdg : decode cc pc = .ok (.invokestatic index, 3))
    (kk : W p x.1 e R s m args below meth c H locs cells slots Q (F0 m (pc + 3) ls (.int (if z < y then y else z) :: rest))) : W p x.1 e R s m args below meth c H locs cells slots Q (F0 m pc ls (.int y :: .int z :: rest)) :=
  va_mmax hx hb hml hown (hts _ lk.1.2.2.2.2) (hts _ lk.2) (hts _ hi) (hts _ lk.1.1) hR.1 hR.2.1 hR.2.2.1 hR.2.2.2 hdg kk
theorem zcVm {me : zMe} {n k i nL : Nat} {own : String} {As st0 : List Value} {b : Nat} {w C1 C2 : va_W} {Post : Option Value → va_W → Prop} (hx : p.tables.exec = Jvm.exec) (hb : c.code = cc) (hml : c.maxLocals = nL) (hown : s.vm.findClass own = some m.cls) (hts : ∀ w ∈ zGW, w.before args s = true) (hl : ls.size = nL) (hK : va_K (zD x) vwCl (zTy x) s) (hE : zE x A s) (hA : ∀ q, s.heap.size ≤ q → A q) (lk : zLV own i me n) (F : zFG x me k (.ref b :: As) w Post) (hR : k + 1 ≤ R.frames ∧ 19 + me.2.2.1 + 40 * k ≤ R.locals) (hf : cells ≤ R.cells ∧ slots ≤ R.slots) (hw : zHw x A s.heap (C1 ++ (w ++ C2)) H locs) (q0 ci : Nat) {fs : List Value} {T : u_T} {N : Nat} (he : w[q0]? = some (b, .inr (ci, fs))) (hc : vwCl[ci]? = some (me.1.cls, T, N)) (hn : As.length = n) (hst : st0 = As.reverse ++ .ref b :: rest) (hcat : (rest.map fun v => v.category).sum ≤ 8) (hdg : decode cc pc = .ok (.invokevirtual i, 3))
    (kk : ∀ (v : Option Value) (u : va_W) (H1 : Heap) (locs1 : List Loc), Post v u → zHw x A s.heap (C1 ++ (u ++ C2)) H1 locs1 → W p x.1 e R s m args below meth c H1 locs1 cells slots Q (F0 m (pc + 3) ls (v.toList ++ rest))) : W p x.1 e R s m args below meth c H locs cells slots Q (F0 m pc ls st0) := by
  have hP := hw.P.right.left
  have hD := hw.D.right.left
  have hF : ∀ q, va_A w H.size q → A q := fun q h => by
    rcases h with ⟨k, e, h⟩ | h
    · exact hD.2 k _ h
    · exact hA q (Nat.le_trans hw.S.1 h)
  exact zFG.ran (va_runV (As := As) (rest := rest) ⟨hx, hb, hml, hown, hts⟩ (F H.size) ⟨zLK.callB lk.1 hts hR, hts _ lk.2.1, hts _ lk.2.2⟩ ⟨zKP.blind, va_recv hK hP (ci := ci) (q0 := q0) hc he, fun U hU hW => zKP.at hK hP hD hE hw.S hF U hU hW⟩ rfl hn hl hst (lv_room hcat) hdg hf) hw.S hF (fun v u H1 locs1 hp hu hP1 hk hS1 => kk v u H1 locs1 hp (hw.mid hu hP1 hk hS1))
theorem zcVmi {me : zMe} {n k i nL : Nat} {own : String} {As st0 : List Value} {b : Nat} {w C1 C2 : va_W} {u : va_W} {r : Int32} (hx : p.tables.exec = Jvm.exec) (hb : c.code = cc) (hml : c.maxLocals = nL) (hown : s.vm.findClass own = some m.cls) (hts : ∀ w ∈ zGW, w.before args s = true) (hl : ls.size = nL) (hK : va_K (zD x) vwCl (zTy x) s) (hE : zE x A s) (hA : ∀ q, s.heap.size ≤ q → A q) (lk : zLV own i me n) (F : zFF x me k (.ref b :: As) w (some (.int r)) u) (hR : k + 1 ≤ R.frames ∧ 19 + me.2.2.1 + 40 * k ≤ R.locals) (hf : cells ≤ R.cells ∧ slots ≤ R.slots) (hw : zHw x A s.heap (C1 ++ (w ++ C2)) H locs) (q0 ci : Nat) {fs : List Value} {T : u_T} {N : Nat} (he : w[q0]? = some (b, .inr (ci, fs))) (hc : vwCl[ci]? = some (me.1.cls, T, N)) (hn : As.length = n) (hst : st0 = As.reverse ++ .ref b :: rest) (hcat : (rest.map fun v => v.category).sum ≤ 8) (hdg : decode cc pc = .ok (.invokevirtual i, 3))
    (kk : ∀ (H1 : Heap) (locs1 : List Loc), zHw x A s.heap (C1 ++ (u ++ C2)) H1 locs1 → W p x.1 e R s m args below meth c H1 locs1 cells slots Q (F0 m (pc + 3) ls (.int r :: rest))) : W p x.1 e R s m args below meth c H locs cells slots Q (F0 m pc ls st0) :=
  zcVm hx hb hml hown hts hl hK hE hA lk F hR hf hw q0 ci he hc hn hst hcat hdg (fun v u' H1 locs1 hp hw => by obtain ⟨rfl, rfl⟩ := hp; exact kk H1 locs1 hw)
theorem zcVml {me : zMe} {n k i nL : Nat} {own : String} {As st0 : List Value} {b : Nat} {w C1 C2 : va_W} {u : va_W} {r : Int64} (hx : p.tables.exec = Jvm.exec) (hb : c.code = cc) (hml : c.maxLocals = nL) (hown : s.vm.findClass own = some m.cls) (hts : ∀ w ∈ zGW, w.before args s = true) (hl : ls.size = nL) (hK : va_K (zD x) vwCl (zTy x) s) (hE : zE x A s) (hA : ∀ q, s.heap.size ≤ q → A q) (lk : zLV own i me n) (F : zFF x me k (.ref b :: As) w (some (.long r)) u) (hR : k + 1 ≤ R.frames ∧ 19 + me.2.2.1 + 40 * k ≤ R.locals) (hf : cells ≤ R.cells ∧ slots ≤ R.slots) (hw : zHw x A s.heap (C1 ++ (w ++ C2)) H locs) (q0 ci : Nat) {fs : List Value} {T : u_T} {N : Nat} (he : w[q0]? = some (b, .inr (ci, fs))) (hc : vwCl[ci]? = some (me.1.cls, T, N)) (hn : As.length = n) (hst : st0 = As.reverse ++ .ref b :: rest) (hcat : (rest.map fun v => v.category).sum ≤ 8) (hdg : decode cc pc = .ok (.invokevirtual i, 3))
    (kk : ∀ (H1 : Heap) (locs1 : List Loc), zHw x A s.heap (C1 ++ (u ++ C2)) H1 locs1 → W p x.1 e R s m args below meth c H1 locs1 cells slots Q (F0 m (pc + 3) ls (.long r :: rest))) : W p x.1 e R s m args below meth c H locs cells slots Q (F0 m pc ls st0) :=
  zcVm hx hb hml hown hts hl hK hE hA lk F hR hf hw q0 ci he hc hn hst hcat hdg (fun v u' H1 locs1 hp hw => by obtain ⟨rfl, rfl⟩ := hp; exact kk H1 locs1 hw)
theorem zcVmv {me : zMe} {n k i nL : Nat} {own : String} {As st0 : List Value} {b : Nat} {w C1 C2 : va_W} {u : va_W}  (hx : p.tables.exec = Jvm.exec) (hb : c.code = cc) (hml : c.maxLocals = nL) (hown : s.vm.findClass own = some m.cls) (hts : ∀ w ∈ zGW, w.before args s = true) (hl : ls.size = nL) (hK : va_K (zD x) vwCl (zTy x) s) (hE : zE x A s) (hA : ∀ q, s.heap.size ≤ q → A q) (lk : zLV own i me n) (F : zFF x me k (.ref b :: As) w none u) (hR : k + 1 ≤ R.frames ∧ 19 + me.2.2.1 + 40 * k ≤ R.locals) (hf : cells ≤ R.cells ∧ slots ≤ R.slots) (hw : zHw x A s.heap (C1 ++ (w ++ C2)) H locs) (q0 ci : Nat) {fs : List Value} {T : u_T} {N : Nat} (he : w[q0]? = some (b, .inr (ci, fs))) (hc : vwCl[ci]? = some (me.1.cls, T, N)) (hn : As.length = n) (hst : st0 = As.reverse ++ .ref b :: rest) (hcat : (rest.map fun v => v.category).sum ≤ 8) (hdg : decode cc pc = .ok (.invokevirtual i, 3))
    (kk : ∀ (H1 : Heap) (locs1 : List Loc), zHw x A s.heap (C1 ++ (u ++ C2)) H1 locs1 → W p x.1 e R s m args below meth c H1 locs1 cells slots Q (F0 m (pc + 3) ls rest)) : W p x.1 e R s m args below meth c H locs cells slots Q (F0 m pc ls st0) :=
  zcVm hx hb hml hown hts hl hK hE hA lk F hR hf hw q0 ci he hc hn hst hcat hdg (fun v u' H1 locs1 hp hw => by obtain ⟨rfl, rfl⟩ := hp; exact kk H1 locs1 hw)
theorem zcVma {me : zMe} {n k i nL : Nat} {own : String} {As st0 : List Value} {b : Nat} {w C1 C2 : va_W} {u : va_W} {r : Value} (hx : p.tables.exec = Jvm.exec) (hb : c.code = cc) (hml : c.maxLocals = nL) (hown : s.vm.findClass own = some m.cls) (hts : ∀ w ∈ zGW, w.before args s = true) (hl : ls.size = nL) (hK : va_K (zD x) vwCl (zTy x) s) (hE : zE x A s) (hA : ∀ q, s.heap.size ≤ q → A q) (lk : zLV own i me n) (F : zFF x me k (.ref b :: As) w (some r) u) (hR : k + 1 ≤ R.frames ∧ 19 + me.2.2.1 + 40 * k ≤ R.locals) (hf : cells ≤ R.cells ∧ slots ≤ R.slots) (hw : zHw x A s.heap (C1 ++ (w ++ C2)) H locs) (q0 ci : Nat) {fs : List Value} {T : u_T} {N : Nat} (he : w[q0]? = some (b, .inr (ci, fs))) (hc : vwCl[ci]? = some (me.1.cls, T, N)) (hn : As.length = n) (hst : st0 = As.reverse ++ .ref b :: rest) (hcat : (rest.map fun v => v.category).sum ≤ 8) (hdg : decode cc pc = .ok (.invokevirtual i, 3))
    (kk : ∀ (H1 : Heap) (locs1 : List Loc), zHw x A s.heap (C1 ++ (u ++ C2)) H1 locs1 → W p x.1 e R s m args below meth c H1 locs1 cells slots Q (F0 m (pc + 3) ls (r :: rest))) : W p x.1 e R s m args below meth c H locs cells slots Q (F0 m pc ls st0) :=
  zcVm hx hb hml hown hts hl hK hE hA lk F hR hf hw q0 ci he hc hn hst hcat hdg (fun v u' H1 locs1 hp hw => by obtain ⟨rfl, rfl⟩ := hp; exact kk H1 locs1 hw)
theorem zcVw {me : zMe} {n k i nL : Nat} {own : String} {As st0 : List Value} {b : Nat} {w : va_W} {Post : Option Value → va_W → Prop} (hx : p.tables.exec = Jvm.exec) (hb : c.code = cc) (hml : c.maxLocals = nL) (hown : s.vm.findClass own = some m.cls) (hts : ∀ w ∈ zGW, w.before args s = true) (hl : ls.size = nL) (hK : va_K (zD x) vwCl (zTy x) s) (hE : zE x A s) (hA : ∀ q, s.heap.size ≤ q → A q) (lk : zLV own i me n) (F : zFG x me k (.ref b :: As) w Post) (hR : k + 1 ≤ R.frames ∧ 19 + me.2.2.1 + 40 * k ≤ R.locals) (hf : cells ≤ R.cells ∧ slots ≤ R.slots) (hw : zHw x A s.heap w H locs) (q0 ci : Nat) {fs : List Value} {T : u_T} {N : Nat} (he : w[q0]? = some (b, .inr (ci, fs))) (hc : vwCl[ci]? = some (me.1.cls, T, N)) (hn : As.length = n) (hst : st0 = As.reverse ++ .ref b :: rest) (hcat : (rest.map fun v => v.category).sum ≤ 8) (hdg : decode cc pc = .ok (.invokevirtual i, 3))
    (kk : ∀ (v : Option Value) (u : va_W) (H1 : Heap) (locs1 : List Loc), Post v u → zHw x A s.heap u H1 locs1 → W p x.1 e R s m args below meth c H1 locs1 cells slots Q (F0 m (pc + 3) ls (v.toList ++ rest))) : W p x.1 e R s m args below meth c H locs cells slots Q (F0 m pc ls st0) := by
  have hP := hw.P
  have hD := hw.D
  have hF : ∀ q, va_A w H.size q → A q := fun q h => by
    rcases h with ⟨k, e, h⟩ | h
    · exact hD.2 k _ h
    · exact hA q (Nat.le_trans hw.S.1 h)
  exact zFG.ran (va_runV (As := As) (rest := rest) ⟨hx, hb, hml, hown, hts⟩ (F H.size) ⟨zLK.callB lk.1 hts hR, hts _ lk.2.1, hts _ lk.2.2⟩ ⟨zKP.blind, va_recv hK hP (ci := ci) (q0 := q0) hc he, fun U hU hW => zKP.at hK hP hD hE hw.S hF U hU hW⟩ rfl hn hl hst (lv_room hcat) hdg hf) hw.S hF (fun v u H1 locs1 hp hu hP1 hk hS1 => kk v u H1 locs1 hp (hw.whole hu hP1 hS1))
theorem zcVwi {me : zMe} {n k i nL : Nat} {own : String} {As st0 : List Value} {b : Nat} {w : va_W} {u : va_W} {r : Int32} (hx : p.tables.exec = Jvm.exec) (hb : c.code = cc) (hml : c.maxLocals = nL) (hown : s.vm.findClass own = some m.cls) (hts : ∀ w ∈ zGW, w.before args s = true) (hl : ls.size = nL) (hK : va_K (zD x) vwCl (zTy x) s) (hE : zE x A s) (hA : ∀ q, s.heap.size ≤ q → A q) (lk : zLV own i me n) (F : zFF x me k (.ref b :: As) w (some (.int r)) u) (hR : k + 1 ≤ R.frames ∧ 19 + me.2.2.1 + 40 * k ≤ R.locals) (hf : cells ≤ R.cells ∧ slots ≤ R.slots) (hw : zHw x A s.heap w H locs) (q0 ci : Nat) {fs : List Value} {T : u_T} {N : Nat} (he : w[q0]? = some (b, .inr (ci, fs))) (hc : vwCl[ci]? = some (me.1.cls, T, N)) (hn : As.length = n) (hst : st0 = As.reverse ++ .ref b :: rest) (hcat : (rest.map fun v => v.category).sum ≤ 8) (hdg : decode cc pc = .ok (.invokevirtual i, 3))
    (kk : ∀ (H1 : Heap) (locs1 : List Loc), zHw x A s.heap u H1 locs1 → W p x.1 e R s m args below meth c H1 locs1 cells slots Q (F0 m (pc + 3) ls (.int r :: rest))) : W p x.1 e R s m args below meth c H locs cells slots Q (F0 m pc ls st0) :=
  zcVw hx hb hml hown hts hl hK hE hA lk F hR hf hw q0 ci he hc hn hst hcat hdg (fun v u' H1 locs1 hp hw => by obtain ⟨rfl, rfl⟩ := hp; exact kk H1 locs1 hw)
theorem zcVwl {me : zMe} {n k i nL : Nat} {own : String} {As st0 : List Value} {b : Nat} {w : va_W} {u : va_W} {r : Int64} (hx : p.tables.exec = Jvm.exec) (hb : c.code = cc) (hml : c.maxLocals = nL) (hown : s.vm.findClass own = some m.cls) (hts : ∀ w ∈ zGW, w.before args s = true) (hl : ls.size = nL) (hK : va_K (zD x) vwCl (zTy x) s) (hE : zE x A s) (hA : ∀ q, s.heap.size ≤ q → A q) (lk : zLV own i me n) (F : zFF x me k (.ref b :: As) w (some (.long r)) u) (hR : k + 1 ≤ R.frames ∧ 19 + me.2.2.1 + 40 * k ≤ R.locals) (hf : cells ≤ R.cells ∧ slots ≤ R.slots) (hw : zHw x A s.heap w H locs) (q0 ci : Nat) {fs : List Value} {T : u_T} {N : Nat} (he : w[q0]? = some (b, .inr (ci, fs))) (hc : vwCl[ci]? = some (me.1.cls, T, N)) (hn : As.length = n) (hst : st0 = As.reverse ++ .ref b :: rest) (hcat : (rest.map fun v => v.category).sum ≤ 8) (hdg : decode cc pc = .ok (.invokevirtual i, 3))
    (kk : ∀ (H1 : Heap) (locs1 : List Loc), zHw x A s.heap u H1 locs1 → W p x.1 e R s m args below meth c H1 locs1 cells slots Q (F0 m (pc + 3) ls (.long r :: rest))) : W p x.1 e R s m args below meth c H locs cells slots Q (F0 m pc ls st0) :=
  zcVw hx hb hml hown hts hl hK hE hA lk F hR hf hw q0 ci he hc hn hst hcat hdg (fun v u' H1 locs1 hp hw => by obtain ⟨rfl, rfl⟩ := hp; exact kk H1 locs1 hw)
theorem zcVwv {me : zMe} {n k i nL : Nat} {own : String} {As st0 : List Value} {b : Nat} {w : va_W} {u : va_W}  (hx : p.tables.exec = Jvm.exec) (hb : c.code = cc) (hml : c.maxLocals = nL) (hown : s.vm.findClass own = some m.cls) (hts : ∀ w ∈ zGW, w.before args s = true) (hl : ls.size = nL) (hK : va_K (zD x) vwCl (zTy x) s) (hE : zE x A s) (hA : ∀ q, s.heap.size ≤ q → A q) (lk : zLV own i me n) (F : zFF x me k (.ref b :: As) w none u) (hR : k + 1 ≤ R.frames ∧ 19 + me.2.2.1 + 40 * k ≤ R.locals) (hf : cells ≤ R.cells ∧ slots ≤ R.slots) (hw : zHw x A s.heap w H locs) (q0 ci : Nat) {fs : List Value} {T : u_T} {N : Nat} (he : w[q0]? = some (b, .inr (ci, fs))) (hc : vwCl[ci]? = some (me.1.cls, T, N)) (hn : As.length = n) (hst : st0 = As.reverse ++ .ref b :: rest) (hcat : (rest.map fun v => v.category).sum ≤ 8) (hdg : decode cc pc = .ok (.invokevirtual i, 3))
    (kk : ∀ (H1 : Heap) (locs1 : List Loc), zHw x A s.heap u H1 locs1 → W p x.1 e R s m args below meth c H1 locs1 cells slots Q (F0 m (pc + 3) ls rest)) : W p x.1 e R s m args below meth c H locs cells slots Q (F0 m pc ls st0) :=
  zcVw hx hb hml hown hts hl hK hE hA lk F hR hf hw q0 ci he hc hn hst hcat hdg (fun v u' H1 locs1 hp hw => by obtain ⟨rfl, rfl⟩ := hp; exact kk H1 locs1 hw)
theorem zcVwa {me : zMe} {n k i nL : Nat} {own : String} {As st0 : List Value} {b : Nat} {w : va_W} {u : va_W} {r : Value} (hx : p.tables.exec = Jvm.exec) (hb : c.code = cc) (hml : c.maxLocals = nL) (hown : s.vm.findClass own = some m.cls) (hts : ∀ w ∈ zGW, w.before args s = true) (hl : ls.size = nL) (hK : va_K (zD x) vwCl (zTy x) s) (hE : zE x A s) (hA : ∀ q, s.heap.size ≤ q → A q) (lk : zLV own i me n) (F : zFF x me k (.ref b :: As) w (some r) u) (hR : k + 1 ≤ R.frames ∧ 19 + me.2.2.1 + 40 * k ≤ R.locals) (hf : cells ≤ R.cells ∧ slots ≤ R.slots) (hw : zHw x A s.heap w H locs) (q0 ci : Nat) {fs : List Value} {T : u_T} {N : Nat} (he : w[q0]? = some (b, .inr (ci, fs))) (hc : vwCl[ci]? = some (me.1.cls, T, N)) (hn : As.length = n) (hst : st0 = As.reverse ++ .ref b :: rest) (hcat : (rest.map fun v => v.category).sum ≤ 8) (hdg : decode cc pc = .ok (.invokevirtual i, 3))
    (kk : ∀ (H1 : Heap) (locs1 : List Loc), zHw x A s.heap u H1 locs1 → W p x.1 e R s m args below meth c H1 locs1 cells slots Q (F0 m (pc + 3) ls (r :: rest))) : W p x.1 e R s m args below meth c H locs cells slots Q (F0 m pc ls st0) :=
  zcVw hx hb hml hown hts hl hK hE hA lk F hR hf hw q0 ci he hc hn hst hcat hdg (fun v u' H1 locs1 hp hw => by obtain ⟨rfl, rfl⟩ := hp; exact kk H1 locs1 hw)
theorem zcSm {me : zMe} {n k i nL : Nat} {own : String} {As st0 : List Value} {w C1 C2 : va_W} {Post : Option Value → va_W → Prop} (hx : p.tables.exec = Jvm.exec) (hb : c.code = cc) (hml : c.maxLocals = nL) (hown : s.vm.findClass own = some m.cls) (hts : ∀ w ∈ zGW, w.before args s = true) (hl : ls.size = nL) (hK : va_K (zD x) vwCl (zTy x) s) (hE : zE x A s) (hA : ∀ q, s.heap.size ≤ q → A q) (lk : zLS own i me n) (F : zFG x me k As w Post) (hR : k + 1 ≤ R.frames ∧ 19 + me.2.2.1 + 40 * k ≤ R.locals) (hf : cells ≤ R.cells ∧ slots ≤ R.slots) (hw : zHw x A s.heap (C1 ++ (w ++ C2)) H locs) (hn : As.length = n) (hst : st0 = As.reverse ++ rest) (hcat : (rest.map fun v => v.category).sum ≤ 8) (hdg : decode cc pc = .ok (.invokestatic i, 3))
    (kk : ∀ (v : Option Value) (u : va_W) (H1 : Heap) (locs1 : List Loc), Post v u → zHw x A s.heap (C1 ++ (u ++ C2)) H1 locs1 → W p x.1 e R s m args below meth c H1 locs1 cells slots Q (F0 m (pc + 3) ls (v.toList ++ rest))) : W p x.1 e R s m args below meth c H locs cells slots Q (F0 m pc ls st0) := by
  have hP := hw.P.right.left
  have hD := hw.D.right.left
  have hF : ∀ q, va_A w H.size q → A q := fun q h => by
    rcases h with ⟨k, e, h⟩ | h
    · exact hD.2 k _ h
    · exact hA q (Nat.le_trans hw.S.1 h)
  exact zFG.ran (va_runS (As := As) (rest := rest) ⟨hx, hb, hml, hown, hts⟩ (F H.size) ⟨zLK.callB lk.1 hts hR, hts _ lk.2⟩ ⟨zKP.blind, fun U hU hW => zKP.at hK hP hD hE hw.S hF U hU hW⟩ rfl hn hl hst (lv_room hcat) hdg hf) hw.S hF (fun v u H1 locs1 hp hu hP1 hk hS1 => kk v u H1 locs1 hp (hw.mid hu hP1 hk hS1))
theorem zcSmi {me : zMe} {n k i nL : Nat} {own : String} {As st0 : List Value} {w C1 C2 : va_W} {u : va_W} {r : Int32} (hx : p.tables.exec = Jvm.exec) (hb : c.code = cc) (hml : c.maxLocals = nL) (hown : s.vm.findClass own = some m.cls) (hts : ∀ w ∈ zGW, w.before args s = true) (hl : ls.size = nL) (hK : va_K (zD x) vwCl (zTy x) s) (hE : zE x A s) (hA : ∀ q, s.heap.size ≤ q → A q) (lk : zLS own i me n) (F : zFF x me k As w (some (.int r)) u) (hR : k + 1 ≤ R.frames ∧ 19 + me.2.2.1 + 40 * k ≤ R.locals) (hf : cells ≤ R.cells ∧ slots ≤ R.slots) (hw : zHw x A s.heap (C1 ++ (w ++ C2)) H locs) (hn : As.length = n) (hst : st0 = As.reverse ++ rest) (hcat : (rest.map fun v => v.category).sum ≤ 8) (hdg : decode cc pc = .ok (.invokestatic i, 3))
    (kk : ∀ (H1 : Heap) (locs1 : List Loc), zHw x A s.heap (C1 ++ (u ++ C2)) H1 locs1 → W p x.1 e R s m args below meth c H1 locs1 cells slots Q (F0 m (pc + 3) ls (.int r :: rest))) : W p x.1 e R s m args below meth c H locs cells slots Q (F0 m pc ls st0) :=
  zcSm hx hb hml hown hts hl hK hE hA lk F hR hf hw hn hst hcat hdg (fun v u' H1 locs1 hp hw => by obtain ⟨rfl, rfl⟩ := hp; exact kk H1 locs1 hw)
theorem zcSml {me : zMe} {n k i nL : Nat} {own : String} {As st0 : List Value} {w C1 C2 : va_W} {u : va_W} {r : Int64} (hx : p.tables.exec = Jvm.exec) (hb : c.code = cc) (hml : c.maxLocals = nL) (hown : s.vm.findClass own = some m.cls) (hts : ∀ w ∈ zGW, w.before args s = true) (hl : ls.size = nL) (hK : va_K (zD x) vwCl (zTy x) s) (hE : zE x A s) (hA : ∀ q, s.heap.size ≤ q → A q) (lk : zLS own i me n) (F : zFF x me k As w (some (.long r)) u) (hR : k + 1 ≤ R.frames ∧ 19 + me.2.2.1 + 40 * k ≤ R.locals) (hf : cells ≤ R.cells ∧ slots ≤ R.slots) (hw : zHw x A s.heap (C1 ++ (w ++ C2)) H locs) (hn : As.length = n) (hst : st0 = As.reverse ++ rest) (hcat : (rest.map fun v => v.category).sum ≤ 8) (hdg : decode cc pc = .ok (.invokestatic i, 3))
    (kk : ∀ (H1 : Heap) (locs1 : List Loc), zHw x A s.heap (C1 ++ (u ++ C2)) H1 locs1 → W p x.1 e R s m args below meth c H1 locs1 cells slots Q (F0 m (pc + 3) ls (.long r :: rest))) : W p x.1 e R s m args below meth c H locs cells slots Q (F0 m pc ls st0) :=
  zcSm hx hb hml hown hts hl hK hE hA lk F hR hf hw hn hst hcat hdg (fun v u' H1 locs1 hp hw => by obtain ⟨rfl, rfl⟩ := hp; exact kk H1 locs1 hw)
theorem zcSmv {me : zMe} {n k i nL : Nat} {own : String} {As st0 : List Value} {w C1 C2 : va_W} {u : va_W}  (hx : p.tables.exec = Jvm.exec) (hb : c.code = cc) (hml : c.maxLocals = nL) (hown : s.vm.findClass own = some m.cls) (hts : ∀ w ∈ zGW, w.before args s = true) (hl : ls.size = nL) (hK : va_K (zD x) vwCl (zTy x) s) (hE : zE x A s) (hA : ∀ q, s.heap.size ≤ q → A q) (lk : zLS own i me n) (F : zFF x me k As w none u) (hR : k + 1 ≤ R.frames ∧ 19 + me.2.2.1 + 40 * k ≤ R.locals) (hf : cells ≤ R.cells ∧ slots ≤ R.slots) (hw : zHw x A s.heap (C1 ++ (w ++ C2)) H locs) (hn : As.length = n) (hst : st0 = As.reverse ++ rest) (hcat : (rest.map fun v => v.category).sum ≤ 8) (hdg : decode cc pc = .ok (.invokestatic i, 3))
    (kk : ∀ (H1 : Heap) (locs1 : List Loc), zHw x A s.heap (C1 ++ (u ++ C2)) H1 locs1 → W p x.1 e R s m args below meth c H1 locs1 cells slots Q (F0 m (pc + 3) ls rest)) : W p x.1 e R s m args below meth c H locs cells slots Q (F0 m pc ls st0) :=
  zcSm hx hb hml hown hts hl hK hE hA lk F hR hf hw hn hst hcat hdg (fun v u' H1 locs1 hp hw => by obtain ⟨rfl, rfl⟩ := hp; exact kk H1 locs1 hw)
theorem zcSma {me : zMe} {n k i nL : Nat} {own : String} {As st0 : List Value} {w C1 C2 : va_W} {u : va_W} {r : Value} (hx : p.tables.exec = Jvm.exec) (hb : c.code = cc) (hml : c.maxLocals = nL) (hown : s.vm.findClass own = some m.cls) (hts : ∀ w ∈ zGW, w.before args s = true) (hl : ls.size = nL) (hK : va_K (zD x) vwCl (zTy x) s) (hE : zE x A s) (hA : ∀ q, s.heap.size ≤ q → A q) (lk : zLS own i me n) (F : zFF x me k As w (some r) u) (hR : k + 1 ≤ R.frames ∧ 19 + me.2.2.1 + 40 * k ≤ R.locals) (hf : cells ≤ R.cells ∧ slots ≤ R.slots) (hw : zHw x A s.heap (C1 ++ (w ++ C2)) H locs) (hn : As.length = n) (hst : st0 = As.reverse ++ rest) (hcat : (rest.map fun v => v.category).sum ≤ 8) (hdg : decode cc pc = .ok (.invokestatic i, 3))
    (kk : ∀ (H1 : Heap) (locs1 : List Loc), zHw x A s.heap (C1 ++ (u ++ C2)) H1 locs1 → W p x.1 e R s m args below meth c H1 locs1 cells slots Q (F0 m (pc + 3) ls (r :: rest))) : W p x.1 e R s m args below meth c H locs cells slots Q (F0 m pc ls st0) :=
  zcSm hx hb hml hown hts hl hK hE hA lk F hR hf hw hn hst hcat hdg (fun v u' H1 locs1 hp hw => by obtain ⟨rfl, rfl⟩ := hp; exact kk H1 locs1 hw)
theorem zcSw {me : zMe} {n k i nL : Nat} {own : String} {As st0 : List Value} {w : va_W} {Post : Option Value → va_W → Prop} (hx : p.tables.exec = Jvm.exec) (hb : c.code = cc) (hml : c.maxLocals = nL) (hown : s.vm.findClass own = some m.cls) (hts : ∀ w ∈ zGW, w.before args s = true) (hl : ls.size = nL) (hK : va_K (zD x) vwCl (zTy x) s) (hE : zE x A s) (hA : ∀ q, s.heap.size ≤ q → A q) (lk : zLS own i me n) (F : zFG x me k As w Post) (hR : k + 1 ≤ R.frames ∧ 19 + me.2.2.1 + 40 * k ≤ R.locals) (hf : cells ≤ R.cells ∧ slots ≤ R.slots) (hw : zHw x A s.heap w H locs) (hn : As.length = n) (hst : st0 = As.reverse ++ rest) (hcat : (rest.map fun v => v.category).sum ≤ 8) (hdg : decode cc pc = .ok (.invokestatic i, 3))
    (kk : ∀ (v : Option Value) (u : va_W) (H1 : Heap) (locs1 : List Loc), Post v u → zHw x A s.heap u H1 locs1 → W p x.1 e R s m args below meth c H1 locs1 cells slots Q (F0 m (pc + 3) ls (v.toList ++ rest))) : W p x.1 e R s m args below meth c H locs cells slots Q (F0 m pc ls st0) := by
  have hP := hw.P
  have hD := hw.D
  have hF : ∀ q, va_A w H.size q → A q := fun q h => by
    rcases h with ⟨k, e, h⟩ | h
    · exact hD.2 k _ h
    · exact hA q (Nat.le_trans hw.S.1 h)
  exact zFG.ran (va_runS (As := As) (rest := rest) ⟨hx, hb, hml, hown, hts⟩ (F H.size) ⟨zLK.callB lk.1 hts hR, hts _ lk.2⟩ ⟨zKP.blind, fun U hU hW => zKP.at hK hP hD hE hw.S hF U hU hW⟩ rfl hn hl hst (lv_room hcat) hdg hf) hw.S hF (fun v u H1 locs1 hp hu hP1 hk hS1 => kk v u H1 locs1 hp (hw.whole hu hP1 hS1))
theorem zcSwi {me : zMe} {n k i nL : Nat} {own : String} {As st0 : List Value} {w : va_W} {u : va_W} {r : Int32} (hx : p.tables.exec = Jvm.exec) (hb : c.code = cc) (hml : c.maxLocals = nL) (hown : s.vm.findClass own = some m.cls) (hts : ∀ w ∈ zGW, w.before args s = true) (hl : ls.size = nL) (hK : va_K (zD x) vwCl (zTy x) s) (hE : zE x A s) (hA : ∀ q, s.heap.size ≤ q → A q) (lk : zLS own i me n) (F : zFF x me k As w (some (.int r)) u) (hR : k + 1 ≤ R.frames ∧ 19 + me.2.2.1 + 40 * k ≤ R.locals) (hf : cells ≤ R.cells ∧ slots ≤ R.slots) (hw : zHw x A s.heap w H locs) (hn : As.length = n) (hst : st0 = As.reverse ++ rest) (hcat : (rest.map fun v => v.category).sum ≤ 8) (hdg : decode cc pc = .ok (.invokestatic i, 3))
    (kk : ∀ (H1 : Heap) (locs1 : List Loc), zHw x A s.heap u H1 locs1 → W p x.1 e R s m args below meth c H1 locs1 cells slots Q (F0 m (pc + 3) ls (.int r :: rest))) : W p x.1 e R s m args below meth c H locs cells slots Q (F0 m pc ls st0) :=
  zcSw hx hb hml hown hts hl hK hE hA lk F hR hf hw hn hst hcat hdg (fun v u' H1 locs1 hp hw => by obtain ⟨rfl, rfl⟩ := hp; exact kk H1 locs1 hw)
theorem zcSwl {me : zMe} {n k i nL : Nat} {own : String} {As st0 : List Value} {w : va_W} {u : va_W} {r : Int64} (hx : p.tables.exec = Jvm.exec) (hb : c.code = cc) (hml : c.maxLocals = nL) (hown : s.vm.findClass own = some m.cls) (hts : ∀ w ∈ zGW, w.before args s = true) (hl : ls.size = nL) (hK : va_K (zD x) vwCl (zTy x) s) (hE : zE x A s) (hA : ∀ q, s.heap.size ≤ q → A q) (lk : zLS own i me n) (F : zFF x me k As w (some (.long r)) u) (hR : k + 1 ≤ R.frames ∧ 19 + me.2.2.1 + 40 * k ≤ R.locals) (hf : cells ≤ R.cells ∧ slots ≤ R.slots) (hw : zHw x A s.heap w H locs) (hn : As.length = n) (hst : st0 = As.reverse ++ rest) (hcat : (rest.map fun v => v.category).sum ≤ 8) (hdg : decode cc pc = .ok (.invokestatic i, 3))
    (kk : ∀ (H1 : Heap) (locs1 : List Loc), zHw x A s.heap u H1 locs1 → W p x.1 e R s m args below meth c H1 locs1 cells slots Q (F0 m (pc + 3) ls (.long r :: rest))) : W p x.1 e R s m args below meth c H locs cells slots Q (F0 m pc ls st0) :=
  zcSw hx hb hml hown hts hl hK hE hA lk F hR hf hw hn hst hcat hdg (fun v u' H1 locs1 hp hw => by obtain ⟨rfl, rfl⟩ := hp; exact kk H1 locs1 hw)
theorem zcSwv {me : zMe} {n k i nL : Nat} {own : String} {As st0 : List Value} {w : va_W} {u : va_W}  (hx : p.tables.exec = Jvm.exec) (hb : c.code = cc) (hml : c.maxLocals = nL) (hown : s.vm.findClass own = some m.cls) (hts : ∀ w ∈ zGW, w.before args s = true) (hl : ls.size = nL) (hK : va_K (zD x) vwCl (zTy x) s) (hE : zE x A s) (hA : ∀ q, s.heap.size ≤ q → A q) (lk : zLS own i me n) (F : zFF x me k As w none u) (hR : k + 1 ≤ R.frames ∧ 19 + me.2.2.1 + 40 * k ≤ R.locals) (hf : cells ≤ R.cells ∧ slots ≤ R.slots) (hw : zHw x A s.heap w H locs) (hn : As.length = n) (hst : st0 = As.reverse ++ rest) (hcat : (rest.map fun v => v.category).sum ≤ 8) (hdg : decode cc pc = .ok (.invokestatic i, 3))
    (kk : ∀ (H1 : Heap) (locs1 : List Loc), zHw x A s.heap u H1 locs1 → W p x.1 e R s m args below meth c H1 locs1 cells slots Q (F0 m (pc + 3) ls rest)) : W p x.1 e R s m args below meth c H locs cells slots Q (F0 m pc ls st0) :=
  zcSw hx hb hml hown hts hl hK hE hA lk F hR hf hw hn hst hcat hdg (fun v u' H1 locs1 hp hw => by obtain ⟨rfl, rfl⟩ := hp; exact kk H1 locs1 hw)
theorem zcSwa {me : zMe} {n k i nL : Nat} {own : String} {As st0 : List Value} {w : va_W} {u : va_W} {r : Value} (hx : p.tables.exec = Jvm.exec) (hb : c.code = cc) (hml : c.maxLocals = nL) (hown : s.vm.findClass own = some m.cls) (hts : ∀ w ∈ zGW, w.before args s = true) (hl : ls.size = nL) (hK : va_K (zD x) vwCl (zTy x) s) (hE : zE x A s) (hA : ∀ q, s.heap.size ≤ q → A q) (lk : zLS own i me n) (F : zFF x me k As w (some r) u) (hR : k + 1 ≤ R.frames ∧ 19 + me.2.2.1 + 40 * k ≤ R.locals) (hf : cells ≤ R.cells ∧ slots ≤ R.slots) (hw : zHw x A s.heap w H locs) (hn : As.length = n) (hst : st0 = As.reverse ++ rest) (hcat : (rest.map fun v => v.category).sum ≤ 8) (hdg : decode cc pc = .ok (.invokestatic i, 3))
    (kk : ∀ (H1 : Heap) (locs1 : List Loc), zHw x A s.heap u H1 locs1 → W p x.1 e R s m args below meth c H1 locs1 cells slots Q (F0 m (pc + 3) ls (r :: rest))) : W p x.1 e R s m args below meth c H locs cells slots Q (F0 m pc ls st0) :=
  zcSw hx hb hml hown hts hl hK hE hA lk F hR hf hw hn hst hcat hdg (fun v u' H1 locs1 hp hw => by obtain ⟨rfl, rfl⟩ := hp; exact kk H1 locs1 hw)
theorem zcNm {me : zMe} {n k i nL : Nat} {own : String} {As st0 : List Value} {host : String} {w C1 C2 : va_W} {Post : Option Value → va_W → Prop} (hx : p.tables.exec = Jvm.exec) (hb : c.code = cc) (hml : c.maxLocals = nL) (hown : s.vm.findClass own = some m.cls) (hts : ∀ w ∈ zGW, w.before args s = true) (hl : ls.size = nL) (hK : va_K (zD x) vwCl (zTy x) s) (hE : zE x A s) (hA : ∀ q, s.heap.size ≤ q → A q) (lk : zLSN own i host me n) (hN : va_Nw (.methodLinkNest own i me.1 host) s) (F : zFG x me k As w Post) (hR : k + 1 ≤ R.frames ∧ 19 + me.2.2.1 + 40 * k ≤ R.locals) (hf : cells ≤ R.cells ∧ slots ≤ R.slots) (hw : zHw x A s.heap (C1 ++ (w ++ C2)) H locs) (hn : As.length = n) (hst : st0 = As.reverse ++ rest) (hcat : (rest.map fun v => v.category).sum ≤ 8) (hdg : decode cc pc = .ok (.invokestatic i, 3))
    (kk : ∀ (v : Option Value) (u : va_W) (H1 : Heap) (locs1 : List Loc), Post v u → zHw x A s.heap (C1 ++ (u ++ C2)) H1 locs1 → W p x.1 e R s m args below meth c H1 locs1 cells slots Q (F0 m (pc + 3) ls (v.toList ++ rest))) : W p x.1 e R s m args below meth c H locs cells slots Q (F0 m pc ls st0) := by
  have hP := hw.P.right.left
  have hD := hw.D.right.left
  have hF : ∀ q, va_A w H.size q → A q := fun q h => by
    rcases h with ⟨k, e, h⟩ | h
    · exact hD.2 k _ h
    · exact hA q (Nat.le_trans hw.S.1 h)
  exact zFG.ran (va_runSN (As := As) (rest := rest) ⟨hx, hb, hml, hown, hts⟩ (F H.size) ⟨zLK.callN lk.1 hN hts hR, hts _ lk.2, trivial⟩ ⟨zKP.blind, fun U hU hW => zKP.at hK hP hD hE hw.S hF U hU hW⟩ rfl hn hl hst (lv_room hcat) hdg hf) hw.S hF (fun v u H1 locs1 hp hu hP1 hk hS1 => kk v u H1 locs1 hp (hw.mid hu hP1 hk hS1))
theorem zcNmi {me : zMe} {n k i nL : Nat} {own : String} {As st0 : List Value} {host : String} {w C1 C2 : va_W} {u : va_W} {r : Int32} (hx : p.tables.exec = Jvm.exec) (hb : c.code = cc) (hml : c.maxLocals = nL) (hown : s.vm.findClass own = some m.cls) (hts : ∀ w ∈ zGW, w.before args s = true) (hl : ls.size = nL) (hK : va_K (zD x) vwCl (zTy x) s) (hE : zE x A s) (hA : ∀ q, s.heap.size ≤ q → A q) (lk : zLSN own i host me n) (hN : va_Nw (.methodLinkNest own i me.1 host) s) (F : zFF x me k As w (some (.int r)) u) (hR : k + 1 ≤ R.frames ∧ 19 + me.2.2.1 + 40 * k ≤ R.locals) (hf : cells ≤ R.cells ∧ slots ≤ R.slots) (hw : zHw x A s.heap (C1 ++ (w ++ C2)) H locs) (hn : As.length = n) (hst : st0 = As.reverse ++ rest) (hcat : (rest.map fun v => v.category).sum ≤ 8) (hdg : decode cc pc = .ok (.invokestatic i, 3))
    (kk : ∀ (H1 : Heap) (locs1 : List Loc), zHw x A s.heap (C1 ++ (u ++ C2)) H1 locs1 → W p x.1 e R s m args below meth c H1 locs1 cells slots Q (F0 m (pc + 3) ls (.int r :: rest))) : W p x.1 e R s m args below meth c H locs cells slots Q (F0 m pc ls st0) :=
  zcNm hx hb hml hown hts hl hK hE hA lk hN F hR hf hw hn hst hcat hdg (fun v u' H1 locs1 hp hw => by obtain ⟨rfl, rfl⟩ := hp; exact kk H1 locs1 hw)
theorem zcNml {me : zMe} {n k i nL : Nat} {own : String} {As st0 : List Value} {host : String} {w C1 C2 : va_W} {u : va_W} {r : Int64} (hx : p.tables.exec = Jvm.exec) (hb : c.code = cc) (hml : c.maxLocals = nL) (hown : s.vm.findClass own = some m.cls) (hts : ∀ w ∈ zGW, w.before args s = true) (hl : ls.size = nL) (hK : va_K (zD x) vwCl (zTy x) s) (hE : zE x A s) (hA : ∀ q, s.heap.size ≤ q → A q) (lk : zLSN own i host me n) (hN : va_Nw (.methodLinkNest own i me.1 host) s) (F : zFF x me k As w (some (.long r)) u) (hR : k + 1 ≤ R.frames ∧ 19 + me.2.2.1 + 40 * k ≤ R.locals) (hf : cells ≤ R.cells ∧ slots ≤ R.slots) (hw : zHw x A s.heap (C1 ++ (w ++ C2)) H locs) (hn : As.length = n) (hst : st0 = As.reverse ++ rest) (hcat : (rest.map fun v => v.category).sum ≤ 8) (hdg : decode cc pc = .ok (.invokestatic i, 3))
    (kk : ∀ (H1 : Heap) (locs1 : List Loc), zHw x A s.heap (C1 ++ (u ++ C2)) H1 locs1 → W p x.1 e R s m args below meth c H1 locs1 cells slots Q (F0 m (pc + 3) ls (.long r :: rest))) : W p x.1 e R s m args below meth c H locs cells slots Q (F0 m pc ls st0) :=
  zcNm hx hb hml hown hts hl hK hE hA lk hN F hR hf hw hn hst hcat hdg (fun v u' H1 locs1 hp hw => by obtain ⟨rfl, rfl⟩ := hp; exact kk H1 locs1 hw)
theorem zcNmv {me : zMe} {n k i nL : Nat} {own : String} {As st0 : List Value} {host : String} {w C1 C2 : va_W} {u : va_W}  (hx : p.tables.exec = Jvm.exec) (hb : c.code = cc) (hml : c.maxLocals = nL) (hown : s.vm.findClass own = some m.cls) (hts : ∀ w ∈ zGW, w.before args s = true) (hl : ls.size = nL) (hK : va_K (zD x) vwCl (zTy x) s) (hE : zE x A s) (hA : ∀ q, s.heap.size ≤ q → A q) (lk : zLSN own i host me n) (hN : va_Nw (.methodLinkNest own i me.1 host) s) (F : zFF x me k As w none u) (hR : k + 1 ≤ R.frames ∧ 19 + me.2.2.1 + 40 * k ≤ R.locals) (hf : cells ≤ R.cells ∧ slots ≤ R.slots) (hw : zHw x A s.heap (C1 ++ (w ++ C2)) H locs) (hn : As.length = n) (hst : st0 = As.reverse ++ rest) (hcat : (rest.map fun v => v.category).sum ≤ 8) (hdg : decode cc pc = .ok (.invokestatic i, 3))
    (kk : ∀ (H1 : Heap) (locs1 : List Loc), zHw x A s.heap (C1 ++ (u ++ C2)) H1 locs1 → W p x.1 e R s m args below meth c H1 locs1 cells slots Q (F0 m (pc + 3) ls rest)) : W p x.1 e R s m args below meth c H locs cells slots Q (F0 m pc ls st0) :=
  zcNm hx hb hml hown hts hl hK hE hA lk hN F hR hf hw hn hst hcat hdg (fun v u' H1 locs1 hp hw => by obtain ⟨rfl, rfl⟩ := hp; exact kk H1 locs1 hw)
theorem zcNma {me : zMe} {n k i nL : Nat} {own : String} {As st0 : List Value} {host : String} {w C1 C2 : va_W} {u : va_W} {r : Value} (hx : p.tables.exec = Jvm.exec) (hb : c.code = cc) (hml : c.maxLocals = nL) (hown : s.vm.findClass own = some m.cls) (hts : ∀ w ∈ zGW, w.before args s = true) (hl : ls.size = nL) (hK : va_K (zD x) vwCl (zTy x) s) (hE : zE x A s) (hA : ∀ q, s.heap.size ≤ q → A q) (lk : zLSN own i host me n) (hN : va_Nw (.methodLinkNest own i me.1 host) s) (F : zFF x me k As w (some r) u) (hR : k + 1 ≤ R.frames ∧ 19 + me.2.2.1 + 40 * k ≤ R.locals) (hf : cells ≤ R.cells ∧ slots ≤ R.slots) (hw : zHw x A s.heap (C1 ++ (w ++ C2)) H locs) (hn : As.length = n) (hst : st0 = As.reverse ++ rest) (hcat : (rest.map fun v => v.category).sum ≤ 8) (hdg : decode cc pc = .ok (.invokestatic i, 3))
    (kk : ∀ (H1 : Heap) (locs1 : List Loc), zHw x A s.heap (C1 ++ (u ++ C2)) H1 locs1 → W p x.1 e R s m args below meth c H1 locs1 cells slots Q (F0 m (pc + 3) ls (r :: rest))) : W p x.1 e R s m args below meth c H locs cells slots Q (F0 m pc ls st0) :=
  zcNm hx hb hml hown hts hl hK hE hA lk hN F hR hf hw hn hst hcat hdg (fun v u' H1 locs1 hp hw => by obtain ⟨rfl, rfl⟩ := hp; exact kk H1 locs1 hw)
theorem zcNw {me : zMe} {n k i nL : Nat} {own : String} {As st0 : List Value} {host : String} {w : va_W} {Post : Option Value → va_W → Prop} (hx : p.tables.exec = Jvm.exec) (hb : c.code = cc) (hml : c.maxLocals = nL) (hown : s.vm.findClass own = some m.cls) (hts : ∀ w ∈ zGW, w.before args s = true) (hl : ls.size = nL) (hK : va_K (zD x) vwCl (zTy x) s) (hE : zE x A s) (hA : ∀ q, s.heap.size ≤ q → A q) (lk : zLSN own i host me n) (hN : va_Nw (.methodLinkNest own i me.1 host) s) (F : zFG x me k As w Post) (hR : k + 1 ≤ R.frames ∧ 19 + me.2.2.1 + 40 * k ≤ R.locals) (hf : cells ≤ R.cells ∧ slots ≤ R.slots) (hw : zHw x A s.heap w H locs) (hn : As.length = n) (hst : st0 = As.reverse ++ rest) (hcat : (rest.map fun v => v.category).sum ≤ 8) (hdg : decode cc pc = .ok (.invokestatic i, 3))
    (kk : ∀ (v : Option Value) (u : va_W) (H1 : Heap) (locs1 : List Loc), Post v u → zHw x A s.heap u H1 locs1 → W p x.1 e R s m args below meth c H1 locs1 cells slots Q (F0 m (pc + 3) ls (v.toList ++ rest))) : W p x.1 e R s m args below meth c H locs cells slots Q (F0 m pc ls st0) := by
  have hP := hw.P
  have hD := hw.D
  have hF : ∀ q, va_A w H.size q → A q := fun q h => by
    rcases h with ⟨k, e, h⟩ | h
    · exact hD.2 k _ h
    · exact hA q (Nat.le_trans hw.S.1 h)
  exact zFG.ran (va_runSN (As := As) (rest := rest) ⟨hx, hb, hml, hown, hts⟩ (F H.size) ⟨zLK.callN lk.1 hN hts hR, hts _ lk.2, trivial⟩ ⟨zKP.blind, fun U hU hW => zKP.at hK hP hD hE hw.S hF U hU hW⟩ rfl hn hl hst (lv_room hcat) hdg hf) hw.S hF (fun v u H1 locs1 hp hu hP1 hk hS1 => kk v u H1 locs1 hp (hw.whole hu hP1 hS1))
theorem zcNwi {me : zMe} {n k i nL : Nat} {own : String} {As st0 : List Value} {host : String} {w : va_W} {u : va_W} {r : Int32} (hx : p.tables.exec = Jvm.exec) (hb : c.code = cc) (hml : c.maxLocals = nL) (hown : s.vm.findClass own = some m.cls) (hts : ∀ w ∈ zGW, w.before args s = true) (hl : ls.size = nL) (hK : va_K (zD x) vwCl (zTy x) s) (hE : zE x A s) (hA : ∀ q, s.heap.size ≤ q → A q) (lk : zLSN own i host me n) (hN : va_Nw (.methodLinkNest own i me.1 host) s) (F : zFF x me k As w (some (.int r)) u) (hR : k + 1 ≤ R.frames ∧ 19 + me.2.2.1 + 40 * k ≤ R.locals) (hf : cells ≤ R.cells ∧ slots ≤ R.slots) (hw : zHw x A s.heap w H locs) (hn : As.length = n) (hst : st0 = As.reverse ++ rest) (hcat : (rest.map fun v => v.category).sum ≤ 8) (hdg : decode cc pc = .ok (.invokestatic i, 3))
    (kk : ∀ (H1 : Heap) (locs1 : List Loc), zHw x A s.heap u H1 locs1 → W p x.1 e R s m args below meth c H1 locs1 cells slots Q (F0 m (pc + 3) ls (.int r :: rest))) : W p x.1 e R s m args below meth c H locs cells slots Q (F0 m pc ls st0) :=
  zcNw hx hb hml hown hts hl hK hE hA lk hN F hR hf hw hn hst hcat hdg (fun v u' H1 locs1 hp hw => by obtain ⟨rfl, rfl⟩ := hp; exact kk H1 locs1 hw)
theorem zcNwl {me : zMe} {n k i nL : Nat} {own : String} {As st0 : List Value} {host : String} {w : va_W} {u : va_W} {r : Int64} (hx : p.tables.exec = Jvm.exec) (hb : c.code = cc) (hml : c.maxLocals = nL) (hown : s.vm.findClass own = some m.cls) (hts : ∀ w ∈ zGW, w.before args s = true) (hl : ls.size = nL) (hK : va_K (zD x) vwCl (zTy x) s) (hE : zE x A s) (hA : ∀ q, s.heap.size ≤ q → A q) (lk : zLSN own i host me n) (hN : va_Nw (.methodLinkNest own i me.1 host) s) (F : zFF x me k As w (some (.long r)) u) (hR : k + 1 ≤ R.frames ∧ 19 + me.2.2.1 + 40 * k ≤ R.locals) (hf : cells ≤ R.cells ∧ slots ≤ R.slots) (hw : zHw x A s.heap w H locs) (hn : As.length = n) (hst : st0 = As.reverse ++ rest) (hcat : (rest.map fun v => v.category).sum ≤ 8) (hdg : decode cc pc = .ok (.invokestatic i, 3))
    (kk : ∀ (H1 : Heap) (locs1 : List Loc), zHw x A s.heap u H1 locs1 → W p x.1 e R s m args below meth c H1 locs1 cells slots Q (F0 m (pc + 3) ls (.long r :: rest))) : W p x.1 e R s m args below meth c H locs cells slots Q (F0 m pc ls st0) :=
  zcNw hx hb hml hown hts hl hK hE hA lk hN F hR hf hw hn hst hcat hdg (fun v u' H1 locs1 hp hw => by obtain ⟨rfl, rfl⟩ := hp; exact kk H1 locs1 hw)
theorem zcNwv {me : zMe} {n k i nL : Nat} {own : String} {As st0 : List Value} {host : String} {w : va_W} {u : va_W}  (hx : p.tables.exec = Jvm.exec) (hb : c.code = cc) (hml : c.maxLocals = nL) (hown : s.vm.findClass own = some m.cls) (hts : ∀ w ∈ zGW, w.before args s = true) (hl : ls.size = nL) (hK : va_K (zD x) vwCl (zTy x) s) (hE : zE x A s) (hA : ∀ q, s.heap.size ≤ q → A q) (lk : zLSN own i host me n) (hN : va_Nw (.methodLinkNest own i me.1 host) s) (F : zFF x me k As w none u) (hR : k + 1 ≤ R.frames ∧ 19 + me.2.2.1 + 40 * k ≤ R.locals) (hf : cells ≤ R.cells ∧ slots ≤ R.slots) (hw : zHw x A s.heap w H locs) (hn : As.length = n) (hst : st0 = As.reverse ++ rest) (hcat : (rest.map fun v => v.category).sum ≤ 8) (hdg : decode cc pc = .ok (.invokestatic i, 3))
    (kk : ∀ (H1 : Heap) (locs1 : List Loc), zHw x A s.heap u H1 locs1 → W p x.1 e R s m args below meth c H1 locs1 cells slots Q (F0 m (pc + 3) ls rest)) : W p x.1 e R s m args below meth c H locs cells slots Q (F0 m pc ls st0) :=
  zcNw hx hb hml hown hts hl hK hE hA lk hN F hR hf hw hn hst hcat hdg (fun v u' H1 locs1 hp hw => by obtain ⟨rfl, rfl⟩ := hp; exact kk H1 locs1 hw)
theorem zcNwa {me : zMe} {n k i nL : Nat} {own : String} {As st0 : List Value} {host : String} {w : va_W} {u : va_W} {r : Value} (hx : p.tables.exec = Jvm.exec) (hb : c.code = cc) (hml : c.maxLocals = nL) (hown : s.vm.findClass own = some m.cls) (hts : ∀ w ∈ zGW, w.before args s = true) (hl : ls.size = nL) (hK : va_K (zD x) vwCl (zTy x) s) (hE : zE x A s) (hA : ∀ q, s.heap.size ≤ q → A q) (lk : zLSN own i host me n) (hN : va_Nw (.methodLinkNest own i me.1 host) s) (F : zFF x me k As w (some r) u) (hR : k + 1 ≤ R.frames ∧ 19 + me.2.2.1 + 40 * k ≤ R.locals) (hf : cells ≤ R.cells ∧ slots ≤ R.slots) (hw : zHw x A s.heap w H locs) (hn : As.length = n) (hst : st0 = As.reverse ++ rest) (hcat : (rest.map fun v => v.category).sum ≤ 8) (hdg : decode cc pc = .ok (.invokestatic i, 3))
    (kk : ∀ (H1 : Heap) (locs1 : List Loc), zHw x A s.heap u H1 locs1 → W p x.1 e R s m args below meth c H1 locs1 cells slots Q (F0 m (pc + 3) ls (r :: rest))) : W p x.1 e R s m args below meth c H locs cells slots Q (F0 m pc ls st0) :=
  zcNw hx hb hml hown hts hl hK hE hA lk hN F hR hf hw hn hst hcat hdg (fun v u' H1 locs1 hp hw => by obtain ⟨rfl, rfl⟩ := hp; exact kk H1 locs1 hw)
theorem gfX3_9 {fs : List Value} {v : Value} (hx : p.tables.exec = Jvm.exec) (hb : c.code = cc) (hown : s.vm.findClass RX3 = some m.cls) (hts : ∀ w ∈ zGW, w.before args s = true) (hK : va_K (zD x) vwCl (zTy x) s) (hw : zHw x A H0 ws H locs) (q0 : Nat) (he : ws[q0]? = some (a, .inr (2, fs))) (hv : fs[0]? = some v) (hdg : decode cc pc = .ok (.getfield 9, 3)) (kk : W p x.1 e R s m args below meth c H locs cells slots Q (F0 m (pc + 3) ls (v :: rest))) : W p x.1 e R s m args below meth c H locs cells slots Q (F0 m pc ls (.ref a :: rest)) :=
  va_get (D := zD x) (ci := 2) (v := v) (C := RX3) (T := TX3) (N := 16) hx hb hts inX3 hown hK hw.P q0 he rfl 0 (Nat.le_of_ble_eq_true rfl) (hts _ fkX3_9) (fun _ h9 => h9) hv hdg kk
theorem pfX3_9 {fs : List Value} {z : Int32} (hx : p.tables.exec = Jvm.exec) (hb : c.code = cc) (hown : s.vm.findClass RX3 = some m.cls) (hts : ∀ w ∈ zGW, w.before args s = true) (hK : va_K (zD x) vwCl (zTy x) s) (hw : zHw x A H0 ws H locs) (q0 : Nat) (he : ws[q0]? = some (a, .inr (2, fs))) (hl : 0 < fs.length) (hdg : decode cc pc = .ok (.putfield 9, 3)) (kk : ∀ (H1 : Heap) (locs1 : List Loc), zHw x A H0 (ws.set q0 (a, .inr (2, fs.set 0 (.int z)))) H1 locs1 → W p x.1 e R s m args below meth c H1 locs1 cells slots Q (F0 m (pc + 3) ls rest)) : W p x.1 e R s m args below meth c H locs cells slots Q (F0 m pc ls (.int z :: .ref a :: rest)) :=
  va_put (D := zD x) (ci := 2) (v := .int z) (ty := .int) (C := RX3) (T := TX3) (N := 16) hx hb hts inX3 tyX3 tyX3_ok nmX3 hown hK hw.P hw.D hw.S q0 he rfl 0 (Nat.le_of_ble_eq_true rfl) (hts _ fkX3_9) (fun _ h9 => h9) rfl (by decide +kernel) rfl rfl hl hdg (fun H1 l1 h1 h2 h3 => kk H1 l1 ⟨h1, h2, h3⟩)
theorem gfX5_143 {fs : List Value} {v : Value} (hx : p.tables.exec = Jvm.exec) (hb : c.code = cc) (hown : s.vm.findClass RX5 = some m.cls) (hts : ∀ w ∈ zGW, w.before args s = true) (hK : va_K (zD x) vwCl (zTy x) s) (hw : zHw x A H0 ws H locs) (q0 : Nat) (he : ws[q0]? = some (a, .inr (2, fs))) (hv : fs[0]? = some v) (hdg : decode cc pc = .ok (.getfield 143, 3)) (kk : W p x.1 e R s m args below meth c H locs cells slots Q (F0 m (pc + 3) ls (v :: rest))) : W p x.1 e R s m args below meth c H locs cells slots Q (F0 m pc ls (.ref a :: rest)) :=
  va_get (D := zD x) (ci := 2) (v := v) (C := RX3) (T := TX3) (N := 16) hx hb hts inX3 hown hK hw.P q0 he rfl 0 (Nat.le_of_ble_eq_true rfl) (hts _ fkX5_143) (fun _ h9 => h9) hv hdg kk
theorem gfX3_15 {fs : List Value} {v : Value} (hx : p.tables.exec = Jvm.exec) (hb : c.code = cc) (hown : s.vm.findClass RX3 = some m.cls) (hts : ∀ w ∈ zGW, w.before args s = true) (hK : va_K (zD x) vwCl (zTy x) s) (hw : zHw x A H0 ws H locs) (q0 : Nat) (he : ws[q0]? = some (a, .inr (2, fs))) (hv : fs[1]? = some v) (hdg : decode cc pc = .ok (.getfield 15, 3)) (kk : W p x.1 e R s m args below meth c H locs cells slots Q (F0 m (pc + 3) ls (v :: rest))) : W p x.1 e R s m args below meth c H locs cells slots Q (F0 m pc ls (.ref a :: rest)) :=
  va_get (D := zD x) (ci := 2) (v := v) (C := RX3) (T := TX3) (N := 16) hx hb hts inX3 hown hK hw.P q0 he rfl 1 (Nat.le_of_ble_eq_true rfl) (hts _ fkX3_15) (fun _ h9 => h9) hv hdg kk
theorem pfX3_15 {fs : List Value} {z : Int32} (hx : p.tables.exec = Jvm.exec) (hb : c.code = cc) (hown : s.vm.findClass RX3 = some m.cls) (hts : ∀ w ∈ zGW, w.before args s = true) (hK : va_K (zD x) vwCl (zTy x) s) (hw : zHw x A H0 ws H locs) (q0 : Nat) (he : ws[q0]? = some (a, .inr (2, fs))) (hl : 1 < fs.length) (hdg : decode cc pc = .ok (.putfield 15, 3)) (kk : ∀ (H1 : Heap) (locs1 : List Loc), zHw x A H0 (ws.set q0 (a, .inr (2, fs.set 1 (.int z)))) H1 locs1 → W p x.1 e R s m args below meth c H1 locs1 cells slots Q (F0 m (pc + 3) ls rest)) : W p x.1 e R s m args below meth c H locs cells slots Q (F0 m pc ls (.int z :: .ref a :: rest)) :=
  va_put (D := zD x) (ci := 2) (v := .int z) (ty := .int) (C := RX3) (T := TX3) (N := 16) hx hb hts inX3 tyX3 tyX3_ok nmX3 hown hK hw.P hw.D hw.S q0 he rfl 1 (Nat.le_of_ble_eq_true rfl) (hts _ fkX3_15) (fun _ h9 => h9) rfl (by decide +kernel) rfl rfl hl hdg (fun H1 l1 h1 h2 h3 => kk H1 l1 ⟨h1, h2, h3⟩)
theorem gfX4_58 {fs : List Value} {v : Value} (hx : p.tables.exec = Jvm.exec) (hb : c.code = cc) (hown : s.vm.findClass RX4 = some m.cls) (hts : ∀ w ∈ zGW, w.before args s = true) (hK : va_K (zD x) vwCl (zTy x) s) (hw : zHw x A H0 ws H locs) (q0 : Nat) (he : ws[q0]? = some (a, .inr (2, fs))) (hv : fs[1]? = some v) (hdg : decode cc pc = .ok (.getfield 58, 3)) (kk : W p x.1 e R s m args below meth c H locs cells slots Q (F0 m (pc + 3) ls (v :: rest))) : W p x.1 e R s m args below meth c H locs cells slots Q (F0 m pc ls (.ref a :: rest)) :=
  va_get (D := zD x) (ci := 2) (v := v) (C := RX3) (T := TX3) (N := 16) hx hb hts inX3 hown hK hw.P q0 he rfl 1 (Nat.le_of_ble_eq_true rfl) (hts _ fkX4_58) (fun _ h9 => h9) hv hdg kk
theorem pfX4_58 {fs : List Value} {z : Int32} (hx : p.tables.exec = Jvm.exec) (hb : c.code = cc) (hown : s.vm.findClass RX4 = some m.cls) (hts : ∀ w ∈ zGW, w.before args s = true) (hK : va_K (zD x) vwCl (zTy x) s) (hw : zHw x A H0 ws H locs) (q0 : Nat) (he : ws[q0]? = some (a, .inr (2, fs))) (hl : 1 < fs.length) (hdg : decode cc pc = .ok (.putfield 58, 3)) (kk : ∀ (H1 : Heap) (locs1 : List Loc), zHw x A H0 (ws.set q0 (a, .inr (2, fs.set 1 (.int z)))) H1 locs1 → W p x.1 e R s m args below meth c H1 locs1 cells slots Q (F0 m (pc + 3) ls rest)) : W p x.1 e R s m args below meth c H locs cells slots Q (F0 m pc ls (.int z :: .ref a :: rest)) :=
  va_put (D := zD x) (ci := 2) (v := .int z) (ty := .int) (C := RX3) (T := TX3) (N := 16) hx hb hts inX3 tyX3 tyX3_ok nmX3 hown hK hw.P hw.D hw.S q0 he rfl 1 (Nat.le_of_ble_eq_true rfl) (hts _ fkX4_58) (fun _ h9 => h9) rfl (by decide +kernel) rfl rfl hl hdg (fun H1 l1 h1 h2 h3 => kk H1 l1 ⟨h1, h2, h3⟩)
theorem gfX5_130 {fs : List Value} {v : Value} (hx : p.tables.exec = Jvm.exec) (hb : c.code = cc) (hown : s.vm.findClass RX5 = some m.cls) (hts : ∀ w ∈ zGW, w.before args s = true) (hK : va_K (zD x) vwCl (zTy x) s) (hw : zHw x A H0 ws H locs) (q0 : Nat) (he : ws[q0]? = some (a, .inr (2, fs))) (hv : fs[1]? = some v) (hdg : decode cc pc = .ok (.getfield 130, 3)) (kk : W p x.1 e R s m args below meth c H locs cells slots Q (F0 m (pc + 3) ls (v :: rest))) : W p x.1 e R s m args below meth c H locs cells slots Q (F0 m pc ls (.ref a :: rest)) :=
  va_get (D := zD x) (ci := 2) (v := v) (C := RX3) (T := TX3) (N := 16) hx hb hts inX3 hown hK hw.P q0 he rfl 1 (Nat.le_of_ble_eq_true rfl) (hts _ fkX5_130) (fun _ h9 => h9) hv hdg kk
theorem pfX5_130 {fs : List Value} {z : Int32} (hx : p.tables.exec = Jvm.exec) (hb : c.code = cc) (hown : s.vm.findClass RX5 = some m.cls) (hts : ∀ w ∈ zGW, w.before args s = true) (hK : va_K (zD x) vwCl (zTy x) s) (hw : zHw x A H0 ws H locs) (q0 : Nat) (he : ws[q0]? = some (a, .inr (2, fs))) (hl : 1 < fs.length) (hdg : decode cc pc = .ok (.putfield 130, 3)) (kk : ∀ (H1 : Heap) (locs1 : List Loc), zHw x A H0 (ws.set q0 (a, .inr (2, fs.set 1 (.int z)))) H1 locs1 → W p x.1 e R s m args below meth c H1 locs1 cells slots Q (F0 m (pc + 3) ls rest)) : W p x.1 e R s m args below meth c H locs cells slots Q (F0 m pc ls (.int z :: .ref a :: rest)) :=
  va_put (D := zD x) (ci := 2) (v := .int z) (ty := .int) (C := RX3) (T := TX3) (N := 16) hx hb hts inX3 tyX3 tyX3_ok nmX3 hown hK hw.P hw.D hw.S q0 he rfl 1 (Nat.le_of_ble_eq_true rfl) (hts _ fkX5_130) (fun _ h9 => h9) rfl (by decide +kernel) rfl rfl hl hdg (fun H1 l1 h1 h2 h3 => kk H1 l1 ⟨h1, h2, h3⟩)
theorem gfX3_18 {fs : List Value} {v : Value} (hx : p.tables.exec = Jvm.exec) (hb : c.code = cc) (hown : s.vm.findClass RX3 = some m.cls) (hts : ∀ w ∈ zGW, w.before args s = true) (hK : va_K (zD x) vwCl (zTy x) s) (hw : zHw x A H0 ws H locs) (q0 : Nat) (he : ws[q0]? = some (a, .inr (2, fs))) (hv : fs[2]? = some v) (hdg : decode cc pc = .ok (.getfield 18, 3)) (kk : W p x.1 e R s m args below meth c H locs cells slots Q (F0 m (pc + 3) ls (v :: rest))) : W p x.1 e R s m args below meth c H locs cells slots Q (F0 m pc ls (.ref a :: rest)) :=
  va_get (D := zD x) (ci := 2) (v := v) (C := RX3) (T := TX3) (N := 16) hx hb hts inX3 hown hK hw.P q0 he rfl 2 (Nat.le_of_ble_eq_true rfl) (hts _ fkX3_18) (fun _ h9 => h9) hv hdg kk
theorem pfX3_18 {fs : List Value} {z : Int32} (hx : p.tables.exec = Jvm.exec) (hb : c.code = cc) (hown : s.vm.findClass RX3 = some m.cls) (hts : ∀ w ∈ zGW, w.before args s = true) (hK : va_K (zD x) vwCl (zTy x) s) (hw : zHw x A H0 ws H locs) (q0 : Nat) (he : ws[q0]? = some (a, .inr (2, fs))) (hl : 2 < fs.length) (hdg : decode cc pc = .ok (.putfield 18, 3)) (kk : ∀ (H1 : Heap) (locs1 : List Loc), zHw x A H0 (ws.set q0 (a, .inr (2, fs.set 2 (.int z)))) H1 locs1 → W p x.1 e R s m args below meth c H1 locs1 cells slots Q (F0 m (pc + 3) ls rest)) : W p x.1 e R s m args below meth c H locs cells slots Q (F0 m pc ls (.int z :: .ref a :: rest)) :=
  va_put (D := zD x) (ci := 2) (v := .int z) (ty := .int) (C := RX3) (T := TX3) (N := 16) hx hb hts inX3 tyX3 tyX3_ok nmX3 hown hK hw.P hw.D hw.S q0 he rfl 2 (Nat.le_of_ble_eq_true rfl) (hts _ fkX3_18) (fun _ h9 => h9) rfl (by decide +kernel) rfl rfl hl hdg (fun H1 l1 h1 h2 h3 => kk H1 l1 ⟨h1, h2, h3⟩)
theorem gfX5_150 {fs : List Value} {v : Value} (hx : p.tables.exec = Jvm.exec) (hb : c.code = cc) (hown : s.vm.findClass RX5 = some m.cls) (hts : ∀ w ∈ zGW, w.before args s = true) (hK : va_K (zD x) vwCl (zTy x) s) (hw : zHw x A H0 ws H locs) (q0 : Nat) (he : ws[q0]? = some (a, .inr (2, fs))) (hv : fs[2]? = some v) (hdg : decode cc pc = .ok (.getfield 150, 3)) (kk : W p x.1 e R s m args below meth c H locs cells slots Q (F0 m (pc + 3) ls (v :: rest))) : W p x.1 e R s m args below meth c H locs cells slots Q (F0 m pc ls (.ref a :: rest)) :=
  va_get (D := zD x) (ci := 2) (v := v) (C := RX3) (T := TX3) (N := 16) hx hb hts inX3 hown hK hw.P q0 he rfl 2 (Nat.le_of_ble_eq_true rfl) (hts _ fkX5_150) (fun _ h9 => h9) hv hdg kk
theorem gfX3_21 {fs : List Value} {v : Value} (hx : p.tables.exec = Jvm.exec) (hb : c.code = cc) (hown : s.vm.findClass RX3 = some m.cls) (hts : ∀ w ∈ zGW, w.before args s = true) (hK : va_K (zD x) vwCl (zTy x) s) (hw : zHw x A H0 ws H locs) (q0 : Nat) (he : ws[q0]? = some (a, .inr (2, fs))) (hv : fs[3]? = some v) (hdg : decode cc pc = .ok (.getfield 21, 3)) (kk : W p x.1 e R s m args below meth c H locs cells slots Q (F0 m (pc + 3) ls (v :: rest))) : W p x.1 e R s m args below meth c H locs cells slots Q (F0 m pc ls (.ref a :: rest)) :=
  va_get (D := zD x) (ci := 2) (v := v) (C := RX3) (T := TX3) (N := 16) hx hb hts inX3 hown hK hw.P q0 he rfl 3 (Nat.le_of_ble_eq_true rfl) (hts _ fkX3_21) (fun _ h9 => h9) hv hdg kk
theorem pfX3_21 {fs : List Value} {z : Int32} (hx : p.tables.exec = Jvm.exec) (hb : c.code = cc) (hown : s.vm.findClass RX3 = some m.cls) (hts : ∀ w ∈ zGW, w.before args s = true) (hK : va_K (zD x) vwCl (zTy x) s) (hw : zHw x A H0 ws H locs) (q0 : Nat) (he : ws[q0]? = some (a, .inr (2, fs))) (hl : 3 < fs.length) (hdg : decode cc pc = .ok (.putfield 21, 3)) (kk : ∀ (H1 : Heap) (locs1 : List Loc), zHw x A H0 (ws.set q0 (a, .inr (2, fs.set 3 (.int z)))) H1 locs1 → W p x.1 e R s m args below meth c H1 locs1 cells slots Q (F0 m (pc + 3) ls rest)) : W p x.1 e R s m args below meth c H locs cells slots Q (F0 m pc ls (.int z :: .ref a :: rest)) :=
  va_put (D := zD x) (ci := 2) (v := .int z) (ty := .int) (C := RX3) (T := TX3) (N := 16) hx hb hts inX3 tyX3 tyX3_ok nmX3 hown hK hw.P hw.D hw.S q0 he rfl 3 (Nat.le_of_ble_eq_true rfl) (hts _ fkX3_21) (fun _ h9 => h9) rfl (by decide +kernel) rfl rfl hl hdg (fun H1 l1 h1 h2 h3 => kk H1 l1 ⟨h1, h2, h3⟩)
theorem gfX4_64 {fs : List Value} {v : Value} (hx : p.tables.exec = Jvm.exec) (hb : c.code = cc) (hown : s.vm.findClass RX4 = some m.cls) (hts : ∀ w ∈ zGW, w.before args s = true) (hK : va_K (zD x) vwCl (zTy x) s) (hw : zHw x A H0 ws H locs) (q0 : Nat) (he : ws[q0]? = some (a, .inr (2, fs))) (hv : fs[3]? = some v) (hdg : decode cc pc = .ok (.getfield 64, 3)) (kk : W p x.1 e R s m args below meth c H locs cells slots Q (F0 m (pc + 3) ls (v :: rest))) : W p x.1 e R s m args below meth c H locs cells slots Q (F0 m pc ls (.ref a :: rest)) :=
  va_get (D := zD x) (ci := 2) (v := v) (C := RX3) (T := TX3) (N := 16) hx hb hts inX3 hown hK hw.P q0 he rfl 3 (Nat.le_of_ble_eq_true rfl) (hts _ fkX4_64) (fun _ h9 => h9) hv hdg kk
theorem pfX4_64 {fs : List Value} {z : Int32} (hx : p.tables.exec = Jvm.exec) (hb : c.code = cc) (hown : s.vm.findClass RX4 = some m.cls) (hts : ∀ w ∈ zGW, w.before args s = true) (hK : va_K (zD x) vwCl (zTy x) s) (hw : zHw x A H0 ws H locs) (q0 : Nat) (he : ws[q0]? = some (a, .inr (2, fs))) (hl : 3 < fs.length) (hdg : decode cc pc = .ok (.putfield 64, 3)) (kk : ∀ (H1 : Heap) (locs1 : List Loc), zHw x A H0 (ws.set q0 (a, .inr (2, fs.set 3 (.int z)))) H1 locs1 → W p x.1 e R s m args below meth c H1 locs1 cells slots Q (F0 m (pc + 3) ls rest)) : W p x.1 e R s m args below meth c H locs cells slots Q (F0 m pc ls (.int z :: .ref a :: rest)) :=
  va_put (D := zD x) (ci := 2) (v := .int z) (ty := .int) (C := RX3) (T := TX3) (N := 16) hx hb hts inX3 tyX3 tyX3_ok nmX3 hown hK hw.P hw.D hw.S q0 he rfl 3 (Nat.le_of_ble_eq_true rfl) (hts _ fkX4_64) (fun _ h9 => h9) rfl (by decide +kernel) rfl rfl hl hdg (fun H1 l1 h1 h2 h3 => kk H1 l1 ⟨h1, h2, h3⟩)
theorem gfX5_153 {fs : List Value} {v : Value} (hx : p.tables.exec = Jvm.exec) (hb : c.code = cc) (hown : s.vm.findClass RX5 = some m.cls) (hts : ∀ w ∈ zGW, w.before args s = true) (hK : va_K (zD x) vwCl (zTy x) s) (hw : zHw x A H0 ws H locs) (q0 : Nat) (he : ws[q0]? = some (a, .inr (2, fs))) (hv : fs[3]? = some v) (hdg : decode cc pc = .ok (.getfield 153, 3)) (kk : W p x.1 e R s m args below meth c H locs cells slots Q (F0 m (pc + 3) ls (v :: rest))) : W p x.1 e R s m args below meth c H locs cells slots Q (F0 m pc ls (.ref a :: rest)) :=
  va_get (D := zD x) (ci := 2) (v := v) (C := RX3) (T := TX3) (N := 16) hx hb hts inX3 hown hK hw.P q0 he rfl 3 (Nat.le_of_ble_eq_true rfl) (hts _ fkX5_153) (fun _ h9 => h9) hv hdg kk
theorem pfX5_153 {fs : List Value} {z : Int32} (hx : p.tables.exec = Jvm.exec) (hb : c.code = cc) (hown : s.vm.findClass RX5 = some m.cls) (hts : ∀ w ∈ zGW, w.before args s = true) (hK : va_K (zD x) vwCl (zTy x) s) (hw : zHw x A H0 ws H locs) (q0 : Nat) (he : ws[q0]? = some (a, .inr (2, fs))) (hl : 3 < fs.length) (hdg : decode cc pc = .ok (.putfield 153, 3)) (kk : ∀ (H1 : Heap) (locs1 : List Loc), zHw x A H0 (ws.set q0 (a, .inr (2, fs.set 3 (.int z)))) H1 locs1 → W p x.1 e R s m args below meth c H1 locs1 cells slots Q (F0 m (pc + 3) ls rest)) : W p x.1 e R s m args below meth c H locs cells slots Q (F0 m pc ls (.int z :: .ref a :: rest)) :=
  va_put (D := zD x) (ci := 2) (v := .int z) (ty := .int) (C := RX3) (T := TX3) (N := 16) hx hb hts inX3 tyX3 tyX3_ok nmX3 hown hK hw.P hw.D hw.S q0 he rfl 3 (Nat.le_of_ble_eq_true rfl) (hts _ fkX5_153) (fun _ h9 => h9) rfl (by decide +kernel) rfl rfl hl hdg (fun H1 l1 h1 h2 h3 => kk H1 l1 ⟨h1, h2, h3⟩)
theorem gfX3_24 {fs : List Value} {v : Value} (hx : p.tables.exec = Jvm.exec) (hb : c.code = cc) (hown : s.vm.findClass RX3 = some m.cls) (hts : ∀ w ∈ zGW, w.before args s = true) (hK : va_K (zD x) vwCl (zTy x) s) (hw : zHw x A H0 ws H locs) (q0 : Nat) (he : ws[q0]? = some (a, .inr (2, fs))) (hv : fs[4]? = some v) (hdg : decode cc pc = .ok (.getfield 24, 3)) (kk : W p x.1 e R s m args below meth c H locs cells slots Q (F0 m (pc + 3) ls (v :: rest))) : W p x.1 e R s m args below meth c H locs cells slots Q (F0 m pc ls (.ref a :: rest)) :=
  va_get (D := zD x) (ci := 2) (v := v) (C := RX3) (T := TX3) (N := 16) hx hb hts inX3 hown hK hw.P q0 he rfl 4 (Nat.le_of_ble_eq_true rfl) (hts _ fkX3_24) (fun _ h9 => h9) hv hdg kk
theorem pfX3_24 {fs : List Value} {z : Int32} (hx : p.tables.exec = Jvm.exec) (hb : c.code = cc) (hown : s.vm.findClass RX3 = some m.cls) (hts : ∀ w ∈ zGW, w.before args s = true) (hK : va_K (zD x) vwCl (zTy x) s) (hw : zHw x A H0 ws H locs) (q0 : Nat) (he : ws[q0]? = some (a, .inr (2, fs))) (hl : 4 < fs.length) (hdg : decode cc pc = .ok (.putfield 24, 3)) (kk : ∀ (H1 : Heap) (locs1 : List Loc), zHw x A H0 (ws.set q0 (a, .inr (2, fs.set 4 (.int z)))) H1 locs1 → W p x.1 e R s m args below meth c H1 locs1 cells slots Q (F0 m (pc + 3) ls rest)) : W p x.1 e R s m args below meth c H locs cells slots Q (F0 m pc ls (.int z :: .ref a :: rest)) :=
  va_put (D := zD x) (ci := 2) (v := .int z) (ty := .int) (C := RX3) (T := TX3) (N := 16) hx hb hts inX3 tyX3 tyX3_ok nmX3 hown hK hw.P hw.D hw.S q0 he rfl 4 (Nat.le_of_ble_eq_true rfl) (hts _ fkX3_24) (fun _ h9 => h9) rfl (by decide +kernel) rfl rfl hl hdg (fun H1 l1 h1 h2 h3 => kk H1 l1 ⟨h1, h2, h3⟩)
theorem gfX5_156 {fs : List Value} {v : Value} (hx : p.tables.exec = Jvm.exec) (hb : c.code = cc) (hown : s.vm.findClass RX5 = some m.cls) (hts : ∀ w ∈ zGW, w.before args s = true) (hK : va_K (zD x) vwCl (zTy x) s) (hw : zHw x A H0 ws H locs) (q0 : Nat) (he : ws[q0]? = some (a, .inr (2, fs))) (hv : fs[4]? = some v) (hdg : decode cc pc = .ok (.getfield 156, 3)) (kk : W p x.1 e R s m args below meth c H locs cells slots Q (F0 m (pc + 3) ls (v :: rest))) : W p x.1 e R s m args below meth c H locs cells slots Q (F0 m pc ls (.ref a :: rest)) :=
  va_get (D := zD x) (ci := 2) (v := v) (C := RX3) (T := TX3) (N := 16) hx hb hts inX3 hown hK hw.P q0 he rfl 4 (Nat.le_of_ble_eq_true rfl) (hts _ fkX5_156) (fun _ h9 => h9) hv hdg kk
theorem pfX5_156 {fs : List Value} {z : Int32} (hx : p.tables.exec = Jvm.exec) (hb : c.code = cc) (hown : s.vm.findClass RX5 = some m.cls) (hts : ∀ w ∈ zGW, w.before args s = true) (hK : va_K (zD x) vwCl (zTy x) s) (hw : zHw x A H0 ws H locs) (q0 : Nat) (he : ws[q0]? = some (a, .inr (2, fs))) (hl : 4 < fs.length) (hdg : decode cc pc = .ok (.putfield 156, 3)) (kk : ∀ (H1 : Heap) (locs1 : List Loc), zHw x A H0 (ws.set q0 (a, .inr (2, fs.set 4 (.int z)))) H1 locs1 → W p x.1 e R s m args below meth c H1 locs1 cells slots Q (F0 m (pc + 3) ls rest)) : W p x.1 e R s m args below meth c H locs cells slots Q (F0 m pc ls (.int z :: .ref a :: rest)) :=
  va_put (D := zD x) (ci := 2) (v := .int z) (ty := .int) (C := RX3) (T := TX3) (N := 16) hx hb hts inX3 tyX3 tyX3_ok nmX3 hown hK hw.P hw.D hw.S q0 he rfl 4 (Nat.le_of_ble_eq_true rfl) (hts _ fkX5_156) (fun _ h9 => h9) rfl (by decide +kernel) rfl rfl hl hdg (fun H1 l1 h1 h2 h3 => kk H1 l1 ⟨h1, h2, h3⟩)
theorem gfX3_27 {fs : List Value} {v : Value} (hx : p.tables.exec = Jvm.exec) (hb : c.code = cc) (hown : s.vm.findClass RX3 = some m.cls) (hts : ∀ w ∈ zGW, w.before args s = true) (hK : va_K (zD x) vwCl (zTy x) s) (hw : zHw x A H0 ws H locs) (q0 : Nat) (he : ws[q0]? = some (a, .inr (2, fs))) (hv : fs[5]? = some v) (hdg : decode cc pc = .ok (.getfield 27, 3)) (kk : W p x.1 e R s m args below meth c H locs cells slots Q (F0 m (pc + 3) ls (v :: rest))) : W p x.1 e R s m args below meth c H locs cells slots Q (F0 m pc ls (.ref a :: rest)) :=
  va_get (D := zD x) (ci := 2) (v := v) (C := RX3) (T := TX3) (N := 16) hx hb hts inX3 hown hK hw.P q0 he rfl 5 (Nat.le_of_ble_eq_true rfl) (hts _ fkX3_27) (fun _ h9 => h9) hv hdg kk
theorem pfX3_27 {fs : List Value} {z : Int32} (hx : p.tables.exec = Jvm.exec) (hb : c.code = cc) (hown : s.vm.findClass RX3 = some m.cls) (hts : ∀ w ∈ zGW, w.before args s = true) (hK : va_K (zD x) vwCl (zTy x) s) (hw : zHw x A H0 ws H locs) (q0 : Nat) (he : ws[q0]? = some (a, .inr (2, fs))) (hl : 5 < fs.length) (hdg : decode cc pc = .ok (.putfield 27, 3)) (kk : ∀ (H1 : Heap) (locs1 : List Loc), zHw x A H0 (ws.set q0 (a, .inr (2, fs.set 5 (.int z)))) H1 locs1 → W p x.1 e R s m args below meth c H1 locs1 cells slots Q (F0 m (pc + 3) ls rest)) : W p x.1 e R s m args below meth c H locs cells slots Q (F0 m pc ls (.int z :: .ref a :: rest)) :=
  va_put (D := zD x) (ci := 2) (v := .int z) (ty := .int) (C := RX3) (T := TX3) (N := 16) hx hb hts inX3 tyX3 tyX3_ok nmX3 hown hK hw.P hw.D hw.S q0 he rfl 5 (Nat.le_of_ble_eq_true rfl) (hts _ fkX3_27) (fun _ h9 => h9) rfl (by decide +kernel) rfl rfl hl hdg (fun H1 l1 h1 h2 h3 => kk H1 l1 ⟨h1, h2, h3⟩)
theorem gfX5_159 {fs : List Value} {v : Value} (hx : p.tables.exec = Jvm.exec) (hb : c.code = cc) (hown : s.vm.findClass RX5 = some m.cls) (hts : ∀ w ∈ zGW, w.before args s = true) (hK : va_K (zD x) vwCl (zTy x) s) (hw : zHw x A H0 ws H locs) (q0 : Nat) (he : ws[q0]? = some (a, .inr (2, fs))) (hv : fs[5]? = some v) (hdg : decode cc pc = .ok (.getfield 159, 3)) (kk : W p x.1 e R s m args below meth c H locs cells slots Q (F0 m (pc + 3) ls (v :: rest))) : W p x.1 e R s m args below meth c H locs cells slots Q (F0 m pc ls (.ref a :: rest)) :=
  va_get (D := zD x) (ci := 2) (v := v) (C := RX3) (T := TX3) (N := 16) hx hb hts inX3 hown hK hw.P q0 he rfl 5 (Nat.le_of_ble_eq_true rfl) (hts _ fkX5_159) (fun _ h9 => h9) hv hdg kk
theorem gfX3_30 {fs : List Value} {v : Value} (hx : p.tables.exec = Jvm.exec) (hb : c.code = cc) (hown : s.vm.findClass RX3 = some m.cls) (hts : ∀ w ∈ zGW, w.before args s = true) (hK : va_K (zD x) vwCl (zTy x) s) (hw : zHw x A H0 ws H locs) (q0 : Nat) (he : ws[q0]? = some (a, .inr (2, fs))) (hv : fs[6]? = some v) (hdg : decode cc pc = .ok (.getfield 30, 3)) (kk : W p x.1 e R s m args below meth c H locs cells slots Q (F0 m (pc + 3) ls (v :: rest))) : W p x.1 e R s m args below meth c H locs cells slots Q (F0 m pc ls (.ref a :: rest)) :=
  va_get (D := zD x) (ci := 2) (v := v) (C := RX3) (T := TX3) (N := 16) hx hb hts inX3 hown hK hw.P q0 he rfl 6 (Nat.le_of_ble_eq_true rfl) (hts _ fkX3_30) (fun _ h9 => h9) hv hdg kk
theorem pfX3_30 {fs : List Value} {z : Int32} (hx : p.tables.exec = Jvm.exec) (hb : c.code = cc) (hown : s.vm.findClass RX3 = some m.cls) (hts : ∀ w ∈ zGW, w.before args s = true) (hK : va_K (zD x) vwCl (zTy x) s) (hw : zHw x A H0 ws H locs) (q0 : Nat) (he : ws[q0]? = some (a, .inr (2, fs))) (hl : 6 < fs.length) (hdg : decode cc pc = .ok (.putfield 30, 3)) (kk : ∀ (H1 : Heap) (locs1 : List Loc), zHw x A H0 (ws.set q0 (a, .inr (2, fs.set 6 (.int z)))) H1 locs1 → W p x.1 e R s m args below meth c H1 locs1 cells slots Q (F0 m (pc + 3) ls rest)) : W p x.1 e R s m args below meth c H locs cells slots Q (F0 m pc ls (.int z :: .ref a :: rest)) :=
  va_put (D := zD x) (ci := 2) (v := .int z) (ty := .int) (C := RX3) (T := TX3) (N := 16) hx hb hts inX3 tyX3 tyX3_ok nmX3 hown hK hw.P hw.D hw.S q0 he rfl 6 (Nat.le_of_ble_eq_true rfl) (hts _ fkX3_30) (fun _ h9 => h9) rfl (by decide +kernel) rfl rfl hl hdg (fun H1 l1 h1 h2 h3 => kk H1 l1 ⟨h1, h2, h3⟩)
theorem gfX5_185 {fs : List Value} {v : Value} (hx : p.tables.exec = Jvm.exec) (hb : c.code = cc) (hown : s.vm.findClass RX5 = some m.cls) (hts : ∀ w ∈ zGW, w.before args s = true) (hK : va_K (zD x) vwCl (zTy x) s) (hw : zHw x A H0 ws H locs) (q0 : Nat) (he : ws[q0]? = some (a, .inr (2, fs))) (hv : fs[6]? = some v) (hdg : decode cc pc = .ok (.getfield 185, 3)) (kk : W p x.1 e R s m args below meth c H locs cells slots Q (F0 m (pc + 3) ls (v :: rest))) : W p x.1 e R s m args below meth c H locs cells slots Q (F0 m pc ls (.ref a :: rest)) :=
  va_get (D := zD x) (ci := 2) (v := v) (C := RX3) (T := TX3) (N := 16) hx hb hts inX3 hown hK hw.P q0 he rfl 6 (Nat.le_of_ble_eq_true rfl) (hts _ fkX5_185) (fun _ h9 => h9) hv hdg kk
theorem gfX3_33 {fs : List Value} {v : Value} (hx : p.tables.exec = Jvm.exec) (hb : c.code = cc) (hown : s.vm.findClass RX3 = some m.cls) (hts : ∀ w ∈ zGW, w.before args s = true) (hK : va_K (zD x) vwCl (zTy x) s) (hw : zHw x A H0 ws H locs) (q0 : Nat) (he : ws[q0]? = some (a, .inr (2, fs))) (hv : fs[7]? = some v) (hdg : decode cc pc = .ok (.getfield 33, 3)) (kk : W p x.1 e R s m args below meth c H locs cells slots Q (F0 m (pc + 3) ls (v :: rest))) : W p x.1 e R s m args below meth c H locs cells slots Q (F0 m pc ls (.ref a :: rest)) :=
  va_get (D := zD x) (ci := 2) (v := v) (C := RX3) (T := TX3) (N := 16) hx hb hts inX3 hown hK hw.P q0 he rfl 7 (Nat.le_of_ble_eq_true rfl) (hts _ fkX3_33) (fun _ h9 => h9) hv hdg kk
theorem gfX5_67 {fs : List Value} {v : Value} (hx : p.tables.exec = Jvm.exec) (hb : c.code = cc) (hown : s.vm.findClass RX5 = some m.cls) (hts : ∀ w ∈ zGW, w.before args s = true) (hK : va_K (zD x) vwCl (zTy x) s) (hw : zHw x A H0 ws H locs) (q0 : Nat) (he : ws[q0]? = some (a, .inr (2, fs))) (hv : fs[7]? = some v) (hdg : decode cc pc = .ok (.getfield 67, 3)) (kk : W p x.1 e R s m args below meth c H locs cells slots Q (F0 m (pc + 3) ls (v :: rest))) : W p x.1 e R s m args below meth c H locs cells slots Q (F0 m pc ls (.ref a :: rest)) :=
  va_get (D := zD x) (ci := 2) (v := v) (C := RX3) (T := TX3) (N := 16) hx hb hts inX3 hown hK hw.P q0 he rfl 7 (Nat.le_of_ble_eq_true rfl) (hts _ fkX5_67) (fun _ h9 => h9) hv hdg kk
theorem gfX4_100 {fs : List Value} {v : Value} (hx : p.tables.exec = Jvm.exec) (hb : c.code = cc) (hown : s.vm.findClass RX4 = some m.cls) (hts : ∀ w ∈ zGW, w.before args s = true) (hK : va_K (zD x) vwCl (zTy x) s) (hw : zHw x A H0 ws H locs) (q0 : Nat) (he : ws[q0]? = some (a, .inr (2, fs))) (hv : fs[7]? = some v) (hdg : decode cc pc = .ok (.getfield 100, 3)) (kk : W p x.1 e R s m args below meth c H locs cells slots Q (F0 m (pc + 3) ls (v :: rest))) : W p x.1 e R s m args below meth c H locs cells slots Q (F0 m pc ls (.ref a :: rest)) :=
  va_get (D := zD x) (ci := 2) (v := v) (C := RX3) (T := TX3) (N := 16) hx hb hts inX3 hown hK hw.P q0 he rfl 7 (Nat.le_of_ble_eq_true rfl) (hts _ fkX4_100) (fun _ h9 => h9) hv hdg kk
theorem gfX3_37 {fs : List Value} {v : Value} (hx : p.tables.exec = Jvm.exec) (hb : c.code = cc) (hown : s.vm.findClass RX3 = some m.cls) (hts : ∀ w ∈ zGW, w.before args s = true) (hK : va_K (zD x) vwCl (zTy x) s) (hw : zHw x A H0 ws H locs) (q0 : Nat) (he : ws[q0]? = some (a, .inr (2, fs))) (hv : fs[8]? = some v) (hdg : decode cc pc = .ok (.getfield 37, 3)) (kk : W p x.1 e R s m args below meth c H locs cells slots Q (F0 m (pc + 3) ls (v :: rest))) : W p x.1 e R s m args below meth c H locs cells slots Q (F0 m pc ls (.ref a :: rest)) :=
  va_get (D := zD x) (ci := 2) (v := v) (C := RX3) (T := TX3) (N := 16) hx hb hts inX3 hown hK hw.P q0 he rfl 8 (Nat.le_of_ble_eq_true rfl) (hts _ fkX3_37) (fun _ h9 => h9) hv hdg kk
theorem gfX5_70 {fs : List Value} {v : Value} (hx : p.tables.exec = Jvm.exec) (hb : c.code = cc) (hown : s.vm.findClass RX5 = some m.cls) (hts : ∀ w ∈ zGW, w.before args s = true) (hK : va_K (zD x) vwCl (zTy x) s) (hw : zHw x A H0 ws H locs) (q0 : Nat) (he : ws[q0]? = some (a, .inr (2, fs))) (hv : fs[8]? = some v) (hdg : decode cc pc = .ok (.getfield 70, 3)) (kk : W p x.1 e R s m args below meth c H locs cells slots Q (F0 m (pc + 3) ls (v :: rest))) : W p x.1 e R s m args below meth c H locs cells slots Q (F0 m pc ls (.ref a :: rest)) :=
  va_get (D := zD x) (ci := 2) (v := v) (C := RX3) (T := TX3) (N := 16) hx hb hts inX3 hown hK hw.P q0 he rfl 8 (Nat.le_of_ble_eq_true rfl) (hts _ fkX5_70) (fun _ h9 => h9) hv hdg kk
theorem gfX4_102 {fs : List Value} {v : Value} (hx : p.tables.exec = Jvm.exec) (hb : c.code = cc) (hown : s.vm.findClass RX4 = some m.cls) (hts : ∀ w ∈ zGW, w.before args s = true) (hK : va_K (zD x) vwCl (zTy x) s) (hw : zHw x A H0 ws H locs) (q0 : Nat) (he : ws[q0]? = some (a, .inr (2, fs))) (hv : fs[8]? = some v) (hdg : decode cc pc = .ok (.getfield 102, 3)) (kk : W p x.1 e R s m args below meth c H locs cells slots Q (F0 m (pc + 3) ls (v :: rest))) : W p x.1 e R s m args below meth c H locs cells slots Q (F0 m pc ls (.ref a :: rest)) :=
  va_get (D := zD x) (ci := 2) (v := v) (C := RX3) (T := TX3) (N := 16) hx hb hts inX3 hown hK hw.P q0 he rfl 8 (Nat.le_of_ble_eq_true rfl) (hts _ fkX4_102) (fun _ h9 => h9) hv hdg kk
theorem gfX3_40 {fs : List Value} {v : Value} (hx : p.tables.exec = Jvm.exec) (hb : c.code = cc) (hown : s.vm.findClass RX3 = some m.cls) (hts : ∀ w ∈ zGW, w.before args s = true) (hK : va_K (zD x) vwCl (zTy x) s) (hw : zHw x A H0 ws H locs) (q0 : Nat) (he : ws[q0]? = some (a, .inr (2, fs))) (hv : fs[9]? = some v) (hdg : decode cc pc = .ok (.getfield 40, 3)) (kk : W p x.1 e R s m args below meth c H locs cells slots Q (F0 m (pc + 3) ls (v :: rest))) : W p x.1 e R s m args below meth c H locs cells slots Q (F0 m pc ls (.ref a :: rest)) :=
  va_get (D := zD x) (ci := 2) (v := v) (C := RX3) (T := TX3) (N := 16) hx hb hts inX3 hown hK hw.P q0 he rfl 9 (Nat.le_of_ble_eq_true rfl) (hts _ fkX3_40) (fun _ h9 => h9) hv hdg kk
theorem pfX3_40 {fs : List Value} {z : Int32} (hx : p.tables.exec = Jvm.exec) (hb : c.code = cc) (hown : s.vm.findClass RX3 = some m.cls) (hts : ∀ w ∈ zGW, w.before args s = true) (hK : va_K (zD x) vwCl (zTy x) s) (hw : zHw x A H0 ws H locs) (q0 : Nat) (he : ws[q0]? = some (a, .inr (2, fs))) (hl : 9 < fs.length) (hdg : decode cc pc = .ok (.putfield 40, 3)) (kk : ∀ (H1 : Heap) (locs1 : List Loc), zHw x A H0 (ws.set q0 (a, .inr (2, fs.set 9 (.int z)))) H1 locs1 → W p x.1 e R s m args below meth c H1 locs1 cells slots Q (F0 m (pc + 3) ls rest)) : W p x.1 e R s m args below meth c H locs cells slots Q (F0 m pc ls (.int z :: .ref a :: rest)) :=
  va_put (D := zD x) (ci := 2) (v := .int z) (ty := .int) (C := RX3) (T := TX3) (N := 16) hx hb hts inX3 tyX3 tyX3_ok nmX3 hown hK hw.P hw.D hw.S q0 he rfl 9 (Nat.le_of_ble_eq_true rfl) (hts _ fkX3_40) (fun _ h9 => h9) rfl (by decide +kernel) rfl rfl hl hdg (fun H1 l1 h1 h2 h3 => kk H1 l1 ⟨h1, h2, h3⟩)
theorem gfX5_179 {fs : List Value} {v : Value} (hx : p.tables.exec = Jvm.exec) (hb : c.code = cc) (hown : s.vm.findClass RX5 = some m.cls) (hts : ∀ w ∈ zGW, w.before args s = true) (hK : va_K (zD x) vwCl (zTy x) s) (hw : zHw x A H0 ws H locs) (q0 : Nat) (he : ws[q0]? = some (a, .inr (2, fs))) (hv : fs[9]? = some v) (hdg : decode cc pc = .ok (.getfield 179, 3)) (kk : W p x.1 e R s m args below meth c H locs cells slots Q (F0 m (pc + 3) ls (v :: rest))) : W p x.1 e R s m args below meth c H locs cells slots Q (F0 m pc ls (.ref a :: rest)) :=
  va_get (D := zD x) (ci := 2) (v := v) (C := RX3) (T := TX3) (N := 16) hx hb hts inX3 hown hK hw.P q0 he rfl 9 (Nat.le_of_ble_eq_true rfl) (hts _ fkX5_179) (fun _ h9 => h9) hv hdg kk
theorem gfX3_43 {fs : List Value} {v : Value} (hx : p.tables.exec = Jvm.exec) (hb : c.code = cc) (hown : s.vm.findClass RX3 = some m.cls) (hts : ∀ w ∈ zGW, w.before args s = true) (hK : va_K (zD x) vwCl (zTy x) s) (hw : zHw x A H0 ws H locs) (q0 : Nat) (he : ws[q0]? = some (a, .inr (2, fs))) (hv : fs[10]? = some v) (hdg : decode cc pc = .ok (.getfield 43, 3)) (kk : W p x.1 e R s m args below meth c H locs cells slots Q (F0 m (pc + 3) ls (v :: rest))) : W p x.1 e R s m args below meth c H locs cells slots Q (F0 m pc ls (.ref a :: rest)) :=
  va_get (D := zD x) (ci := 2) (v := v) (C := RX3) (T := TX3) (N := 16) hx hb hts inX3 hown hK hw.P q0 he rfl 10 (Nat.le_of_ble_eq_true rfl) (hts _ fkX3_43) (fun _ h9 => h9) hv hdg kk
theorem gfX5_104 {fs : List Value} {v : Value} (hx : p.tables.exec = Jvm.exec) (hb : c.code = cc) (hown : s.vm.findClass RX5 = some m.cls) (hts : ∀ w ∈ zGW, w.before args s = true) (hK : va_K (zD x) vwCl (zTy x) s) (hw : zHw x A H0 ws H locs) (q0 : Nat) (he : ws[q0]? = some (a, .inr (2, fs))) (hv : fs[10]? = some v) (hdg : decode cc pc = .ok (.getfield 104, 3)) (kk : W p x.1 e R s m args below meth c H locs cells slots Q (F0 m (pc + 3) ls (v :: rest))) : W p x.1 e R s m args below meth c H locs cells slots Q (F0 m pc ls (.ref a :: rest)) :=
  va_get (D := zD x) (ci := 2) (v := v) (C := RX3) (T := TX3) (N := 16) hx hb hts inX3 hown hK hw.P q0 he rfl 10 (Nat.le_of_ble_eq_true rfl) (hts _ fkX5_104) (fun _ h9 => h9) hv hdg kk
theorem gfX3_46 {fs : List Value} {v : Value} (hx : p.tables.exec = Jvm.exec) (hb : c.code = cc) (hown : s.vm.findClass RX3 = some m.cls) (hts : ∀ w ∈ zGW, w.before args s = true) (hK : va_K (zD x) vwCl (zTy x) s) (hw : zHw x A H0 ws H locs) (q0 : Nat) (he : ws[q0]? = some (a, .inr (2, fs))) (hv : fs[11]? = some v) (hdg : decode cc pc = .ok (.getfield 46, 3)) (kk : W p x.1 e R s m args below meth c H locs cells slots Q (F0 m (pc + 3) ls (v :: rest))) : W p x.1 e R s m args below meth c H locs cells slots Q (F0 m pc ls (.ref a :: rest)) :=
  va_get (D := zD x) (ci := 2) (v := v) (C := RX3) (T := TX3) (N := 16) hx hb hts inX3 hown hK hw.P q0 he rfl 11 (Nat.le_of_ble_eq_true rfl) (hts _ fkX3_46) (fun _ h9 => h9) hv hdg kk
theorem gfX3_49 {fs : List Value} {v : Value} (hx : p.tables.exec = Jvm.exec) (hb : c.code = cc) (hown : s.vm.findClass RX3 = some m.cls) (hts : ∀ w ∈ zGW, w.before args s = true) (hK : va_K (zD x) vwCl (zTy x) s) (hw : zHw x A H0 ws H locs) (q0 : Nat) (he : ws[q0]? = some (a, .inr (2, fs))) (hv : fs[12]? = some v) (hdg : decode cc pc = .ok (.getfield 49, 3)) (kk : W p x.1 e R s m args below meth c H locs cells slots Q (F0 m (pc + 3) ls (v :: rest))) : W p x.1 e R s m args below meth c H locs cells slots Q (F0 m pc ls (.ref a :: rest)) :=
  va_get (D := zD x) (ci := 2) (v := v) (C := RX3) (T := TX3) (N := 16) hx hb hts inX3 hown hK hw.P q0 he rfl 12 (Nat.le_of_ble_eq_true rfl) (hts _ fkX3_49) (fun _ h9 => h9) hv hdg kk
theorem gfX4_78 {fs : List Value} {v : Value} (hx : p.tables.exec = Jvm.exec) (hb : c.code = cc) (hown : s.vm.findClass RX4 = some m.cls) (hts : ∀ w ∈ zGW, w.before args s = true) (hK : va_K (zD x) vwCl (zTy x) s) (hw : zHw x A H0 ws H locs) (q0 : Nat) (he : ws[q0]? = some (a, .inr (2, fs))) (hv : fs[12]? = some v) (hdg : decode cc pc = .ok (.getfield 78, 3)) (kk : W p x.1 e R s m args below meth c H locs cells slots Q (F0 m (pc + 3) ls (v :: rest))) : W p x.1 e R s m args below meth c H locs cells slots Q (F0 m pc ls (.ref a :: rest)) :=
  va_get (D := zD x) (ci := 2) (v := v) (C := RX3) (T := TX3) (N := 16) hx hb hts inX3 hown hK hw.P q0 he rfl 12 (Nat.le_of_ble_eq_true rfl) (hts _ fkX4_78) (fun _ h9 => h9) hv hdg kk
theorem gfX5_124 {fs : List Value} {v : Value} (hx : p.tables.exec = Jvm.exec) (hb : c.code = cc) (hown : s.vm.findClass RX5 = some m.cls) (hts : ∀ w ∈ zGW, w.before args s = true) (hK : va_K (zD x) vwCl (zTy x) s) (hw : zHw x A H0 ws H locs) (q0 : Nat) (he : ws[q0]? = some (a, .inr (2, fs))) (hv : fs[12]? = some v) (hdg : decode cc pc = .ok (.getfield 124, 3)) (kk : W p x.1 e R s m args below meth c H locs cells slots Q (F0 m (pc + 3) ls (v :: rest))) : W p x.1 e R s m args below meth c H locs cells slots Q (F0 m pc ls (.ref a :: rest)) :=
  va_get (D := zD x) (ci := 2) (v := v) (C := RX3) (T := TX3) (N := 16) hx hb hts inX3 hown hK hw.P q0 he rfl 12 (Nat.le_of_ble_eq_true rfl) (hts _ fkX5_124) (fun _ h9 => h9) hv hdg kk
theorem gfX3_52 {fs : List Value} {v : Value} (hx : p.tables.exec = Jvm.exec) (hb : c.code = cc) (hown : s.vm.findClass RX3 = some m.cls) (hts : ∀ w ∈ zGW, w.before args s = true) (hK : va_K (zD x) vwCl (zTy x) s) (hw : zHw x A H0 ws H locs) (q0 : Nat) (he : ws[q0]? = some (a, .inr (2, fs))) (hv : fs[13]? = some v) (hdg : decode cc pc = .ok (.getfield 52, 3)) (kk : W p x.1 e R s m args below meth c H locs cells slots Q (F0 m (pc + 3) ls (v :: rest))) : W p x.1 e R s m args below meth c H locs cells slots Q (F0 m pc ls (.ref a :: rest)) :=
  va_get (D := zD x) (ci := 2) (v := v) (C := RX3) (T := TX3) (N := 16) hx hb hts inX3 hown hK hw.P q0 he rfl 13 (Nat.le_of_ble_eq_true rfl) (hts _ fkX3_52) (fun _ h9 => h9) hv hdg kk
theorem gfX4_84 {fs : List Value} {v : Value} (hx : p.tables.exec = Jvm.exec) (hb : c.code = cc) (hown : s.vm.findClass RX4 = some m.cls) (hts : ∀ w ∈ zGW, w.before args s = true) (hK : va_K (zD x) vwCl (zTy x) s) (hw : zHw x A H0 ws H locs) (q0 : Nat) (he : ws[q0]? = some (a, .inr (2, fs))) (hv : fs[13]? = some v) (hdg : decode cc pc = .ok (.getfield 84, 3)) (kk : W p x.1 e R s m args below meth c H locs cells slots Q (F0 m (pc + 3) ls (v :: rest))) : W p x.1 e R s m args below meth c H locs cells slots Q (F0 m pc ls (.ref a :: rest)) :=
  va_get (D := zD x) (ci := 2) (v := v) (C := RX3) (T := TX3) (N := 16) hx hb hts inX3 hown hK hw.P q0 he rfl 13 (Nat.le_of_ble_eq_true rfl) (hts _ fkX4_84) (fun _ h9 => h9) hv hdg kk
theorem gfX5_127 {fs : List Value} {v : Value} (hx : p.tables.exec = Jvm.exec) (hb : c.code = cc) (hown : s.vm.findClass RX5 = some m.cls) (hts : ∀ w ∈ zGW, w.before args s = true) (hK : va_K (zD x) vwCl (zTy x) s) (hw : zHw x A H0 ws H locs) (q0 : Nat) (he : ws[q0]? = some (a, .inr (2, fs))) (hv : fs[13]? = some v) (hdg : decode cc pc = .ok (.getfield 127, 3)) (kk : W p x.1 e R s m args below meth c H locs cells slots Q (F0 m (pc + 3) ls (v :: rest))) : W p x.1 e R s m args below meth c H locs cells slots Q (F0 m pc ls (.ref a :: rest)) :=
  va_get (D := zD x) (ci := 2) (v := v) (C := RX3) (T := TX3) (N := 16) hx hb hts inX3 hown hK hw.P q0 he rfl 13 (Nat.le_of_ble_eq_true rfl) (hts _ fkX5_127) (fun _ h9 => h9) hv hdg kk
theorem gfX3_55 {fs : List Value} {v : Value} (hx : p.tables.exec = Jvm.exec) (hb : c.code = cc) (hown : s.vm.findClass RX3 = some m.cls) (hts : ∀ w ∈ zGW, w.before args s = true) (hK : va_K (zD x) vwCl (zTy x) s) (hw : zHw x A H0 ws H locs) (q0 : Nat) (he : ws[q0]? = some (a, .inr (2, fs))) (hv : fs[14]? = some v) (hdg : decode cc pc = .ok (.getfield 55, 3)) (kk : W p x.1 e R s m args below meth c H locs cells slots Q (F0 m (pc + 3) ls (v :: rest))) : W p x.1 e R s m args below meth c H locs cells slots Q (F0 m pc ls (.ref a :: rest)) :=
  va_get (D := zD x) (ci := 2) (v := v) (C := RX3) (T := TX3) (N := 16) hx hb hts inX3 hown hK hw.P q0 he rfl 14 (Nat.le_of_ble_eq_true rfl) (hts _ fkX3_55) (fun _ h9 => h9) hv hdg kk
theorem gfX5_256 {fs : List Value} {v : Value} (hx : p.tables.exec = Jvm.exec) (hb : c.code = cc) (hown : s.vm.findClass RX5 = some m.cls) (hts : ∀ w ∈ zGW, w.before args s = true) (hK : va_K (zD x) vwCl (zTy x) s) (hw : zHw x A H0 ws H locs) (q0 : Nat) (he : ws[q0]? = some (a, .inr (2, fs))) (hv : fs[14]? = some v) (hdg : decode cc pc = .ok (.getfield 256, 3)) (kk : W p x.1 e R s m args below meth c H locs cells slots Q (F0 m (pc + 3) ls (v :: rest))) : W p x.1 e R s m args below meth c H locs cells slots Q (F0 m pc ls (.ref a :: rest)) :=
  va_get (D := zD x) (ci := 2) (v := v) (C := RX3) (T := TX3) (N := 16) hx hb hts inX3 hown hK hw.P q0 he rfl 14 (Nat.le_of_ble_eq_true rfl) (hts _ fkX5_256) (fun _ h9 => h9) hv hdg kk
theorem gfX3_58 {fs : List Value} {v : Value} (hx : p.tables.exec = Jvm.exec) (hb : c.code = cc) (hown : s.vm.findClass RX3 = some m.cls) (hts : ∀ w ∈ zGW, w.before args s = true) (hK : va_K (zD x) vwCl (zTy x) s) (hw : zHw x A H0 ws H locs) (q0 : Nat) (he : ws[q0]? = some (a, .inr (2, fs))) (hv : fs[15]? = some v) (hdg : decode cc pc = .ok (.getfield 58, 3)) (kk : W p x.1 e R s m args below meth c H locs cells slots Q (F0 m (pc + 3) ls (v :: rest))) : W p x.1 e R s m args below meth c H locs cells slots Q (F0 m pc ls (.ref a :: rest)) :=
  va_get (D := zD x) (ci := 2) (v := v) (C := RX3) (T := TX3) (N := 16) hx hb hts inX3 hown hK hw.P q0 he rfl 15 (Nat.le_of_ble_eq_true rfl) (hts _ fkX3_58) (fun _ h9 => h9) hv hdg kk
theorem gfX4_89 {fs : List Value} {v : Value} (hx : p.tables.exec = Jvm.exec) (hb : c.code = cc) (hown : s.vm.findClass RX4 = some m.cls) (hts : ∀ w ∈ zGW, w.before args s = true) (hK : va_K (zD x) vwCl (zTy x) s) (hw : zHw x A H0 ws H locs) (q0 : Nat) (he : ws[q0]? = some (a, .inr (2, fs))) (hv : fs[15]? = some v) (hdg : decode cc pc = .ok (.getfield 89, 3)) (kk : W p x.1 e R s m args below meth c H locs cells slots Q (F0 m (pc + 3) ls (v :: rest))) : W p x.1 e R s m args below meth c H locs cells slots Q (F0 m pc ls (.ref a :: rest)) :=
  va_get (D := zD x) (ci := 2) (v := v) (C := RX3) (T := TX3) (N := 16) hx hb hts inX3 hown hK hw.P q0 he rfl 15 (Nat.le_of_ble_eq_true rfl) (hts _ fkX4_89) (fun _ h9 => h9) hv hdg kk
theorem gfX5_182 {fs : List Value} {v : Value} (hx : p.tables.exec = Jvm.exec) (hb : c.code = cc) (hown : s.vm.findClass RX5 = some m.cls) (hts : ∀ w ∈ zGW, w.before args s = true) (hK : va_K (zD x) vwCl (zTy x) s) (hw : zHw x A H0 ws H locs) (q0 : Nat) (he : ws[q0]? = some (a, .inr (2, fs))) (hv : fs[15]? = some v) (hdg : decode cc pc = .ok (.getfield 182, 3)) (kk : W p x.1 e R s m args below meth c H locs cells slots Q (F0 m (pc + 3) ls (v :: rest))) : W p x.1 e R s m args below meth c H locs cells slots Q (F0 m pc ls (.ref a :: rest)) :=
  va_get (D := zD x) (ci := 2) (v := v) (C := RX3) (T := TX3) (N := 16) hx hb hts inX3 hown hK hw.P q0 he rfl 15 (Nat.le_of_ble_eq_true rfl) (hts _ fkX5_182) (fun _ h9 => h9) hv hdg kk
theorem gfX2_9 {fs : List Value} {v : Value} (hx : p.tables.exec = Jvm.exec) (hb : c.code = cc) (hown : s.vm.findClass RX2 = some m.cls) (hts : ∀ w ∈ zGW, w.before args s = true) (hK : va_K (zD x) vwCl (zTy x) s) (hw : zHw x A H0 ws H locs) (q0 : Nat) (he : ws[q0]? = some (a, .inr (1, fs))) (hv : fs[0]? = some v) (hdg : decode cc pc = .ok (.getfield 9, 3)) (kk : W p x.1 e R s m args below meth c H locs cells slots Q (F0 m (pc + 3) ls (v :: rest))) : W p x.1 e R s m args below meth c H locs cells slots Q (F0 m pc ls (.ref a :: rest)) :=
  va_get (D := zD x) (ci := 1) (v := v) (C := RX2) (T := TX2) (N := 6) hx hb hts inX2 hown hK hw.P q0 he rfl 0 (Nat.le_of_ble_eq_true rfl) (hts _ fkX2_9) (fun _ h9 => h9) hv hdg kk
theorem gfX2_15 {fs : List Value} {v : Value} (hx : p.tables.exec = Jvm.exec) (hb : c.code = cc) (hown : s.vm.findClass RX2 = some m.cls) (hts : ∀ w ∈ zGW, w.before args s = true) (hK : va_K (zD x) vwCl (zTy x) s) (hw : zHw x A H0 ws H locs) (q0 : Nat) (he : ws[q0]? = some (a, .inr (1, fs))) (hv : fs[1]? = some v) (hdg : decode cc pc = .ok (.getfield 15, 3)) (kk : W p x.1 e R s m args below meth c H locs cells slots Q (F0 m (pc + 3) ls (v :: rest))) : W p x.1 e R s m args below meth c H locs cells slots Q (F0 m pc ls (.ref a :: rest)) :=
  va_get (D := zD x) (ci := 1) (v := v) (C := RX2) (T := TX2) (N := 6) hx hb hts inX2 hown hK hw.P q0 he rfl 1 (Nat.le_of_ble_eq_true rfl) (hts _ fkX2_15) (fun _ h9 => h9) hv hdg kk
theorem pfX2_15 {fs : List Value} {z : Int32} (hx : p.tables.exec = Jvm.exec) (hb : c.code = cc) (hown : s.vm.findClass RX2 = some m.cls) (hts : ∀ w ∈ zGW, w.before args s = true) (hK : va_K (zD x) vwCl (zTy x) s) (hw : zHw x A H0 ws H locs) (q0 : Nat) (he : ws[q0]? = some (a, .inr (1, fs))) (hl : 1 < fs.length) (hdg : decode cc pc = .ok (.putfield 15, 3)) (kk : ∀ (H1 : Heap) (locs1 : List Loc), zHw x A H0 (ws.set q0 (a, .inr (1, fs.set 1 (.int z)))) H1 locs1 → W p x.1 e R s m args below meth c H1 locs1 cells slots Q (F0 m (pc + 3) ls rest)) : W p x.1 e R s m args below meth c H locs cells slots Q (F0 m pc ls (.int z :: .ref a :: rest)) :=
  va_put (D := zD x) (ci := 1) (v := .int z) (ty := .int) (C := RX2) (T := TX2) (N := 6) hx hb hts inX2 tyX2 tyX2_ok nmX2 hown hK hw.P hw.D hw.S q0 he rfl 1 (Nat.le_of_ble_eq_true rfl) (hts _ fkX2_15) (fun _ h9 => h9) rfl (by decide +kernel) rfl rfl hl hdg (fun H1 l1 h1 h2 h3 => kk H1 l1 ⟨h1, h2, h3⟩)
theorem gfX5_200 {fs : List Value} {v : Value} (hx : p.tables.exec = Jvm.exec) (hb : c.code = cc) (hown : s.vm.findClass RX5 = some m.cls) (hts : ∀ w ∈ zGW, w.before args s = true) (hK : va_K (zD x) vwCl (zTy x) s) (hw : zHw x A H0 ws H locs) (q0 : Nat) (he : ws[q0]? = some (a, .inr (1, fs))) (hv : fs[1]? = some v) (hdg : decode cc pc = .ok (.getfield 200, 3)) (kk : W p x.1 e R s m args below meth c H locs cells slots Q (F0 m (pc + 3) ls (v :: rest))) : W p x.1 e R s m args below meth c H locs cells slots Q (F0 m pc ls (.ref a :: rest)) :=
  va_get (D := zD x) (ci := 1) (v := v) (C := RX2) (T := TX2) (N := 6) hx hb hts inX2 hown hK hw.P q0 he rfl 1 (Nat.le_of_ble_eq_true rfl) (hts _ fkX5_200) (fun _ h9 => h9) hv hdg kk
theorem gfX2_19 {fs : List Value} {v : Value} (hx : p.tables.exec = Jvm.exec) (hb : c.code = cc) (hown : s.vm.findClass RX2 = some m.cls) (hts : ∀ w ∈ zGW, w.before args s = true) (hK : va_K (zD x) vwCl (zTy x) s) (hw : zHw x A H0 ws H locs) (q0 : Nat) (he : ws[q0]? = some (a, .inr (1, fs))) (hv : fs[2]? = some v) (hdg : decode cc pc = .ok (.getfield 19, 3)) (kk : W p x.1 e R s m args below meth c H locs cells slots Q (F0 m (pc + 3) ls (v :: rest))) : W p x.1 e R s m args below meth c H locs cells slots Q (F0 m pc ls (.ref a :: rest)) :=
  va_get (D := zD x) (ci := 1) (v := v) (C := RX2) (T := TX2) (N := 6) hx hb hts inX2 hown hK hw.P q0 he rfl 2 (Nat.le_of_ble_eq_true rfl) (hts _ fkX2_19) (fun _ h9 => h9) hv hdg kk
theorem pfX2_19 {fs : List Value} {z : Int32} (hx : p.tables.exec = Jvm.exec) (hb : c.code = cc) (hown : s.vm.findClass RX2 = some m.cls) (hts : ∀ w ∈ zGW, w.before args s = true) (hK : va_K (zD x) vwCl (zTy x) s) (hw : zHw x A H0 ws H locs) (q0 : Nat) (he : ws[q0]? = some (a, .inr (1, fs))) (hl : 2 < fs.length) (hdg : decode cc pc = .ok (.putfield 19, 3)) (kk : ∀ (H1 : Heap) (locs1 : List Loc), zHw x A H0 (ws.set q0 (a, .inr (1, fs.set 2 (.int z)))) H1 locs1 → W p x.1 e R s m args below meth c H1 locs1 cells slots Q (F0 m (pc + 3) ls rest)) : W p x.1 e R s m args below meth c H locs cells slots Q (F0 m pc ls (.int z :: .ref a :: rest)) :=
  va_put (D := zD x) (ci := 1) (v := .int z) (ty := .int) (C := RX2) (T := TX2) (N := 6) hx hb hts inX2 tyX2 tyX2_ok nmX2 hown hK hw.P hw.D hw.S q0 he rfl 2 (Nat.le_of_ble_eq_true rfl) (hts _ fkX2_19) (fun _ h9 => h9) rfl (by decide +kernel) rfl rfl hl hdg (fun H1 l1 h1 h2 h3 => kk H1 l1 ⟨h1, h2, h3⟩)
theorem gfX4_20 {fs : List Value} {v : Value} (hx : p.tables.exec = Jvm.exec) (hb : c.code = cc) (hown : s.vm.findClass RX4 = some m.cls) (hts : ∀ w ∈ zGW, w.before args s = true) (hK : va_K (zD x) vwCl (zTy x) s) (hw : zHw x A H0 ws H locs) (q0 : Nat) (he : ws[q0]? = some (a, .inr (1, fs))) (hv : fs[2]? = some v) (hdg : decode cc pc = .ok (.getfield 20, 3)) (kk : W p x.1 e R s m args below meth c H locs cells slots Q (F0 m (pc + 3) ls (v :: rest))) : W p x.1 e R s m args below meth c H locs cells slots Q (F0 m pc ls (.ref a :: rest)) :=
  va_get (D := zD x) (ci := 1) (v := v) (C := RX2) (T := TX2) (N := 6) hx hb hts inX2 hown hK hw.P q0 he rfl 2 (Nat.le_of_ble_eq_true rfl) (hts _ fkX4_20) (fun _ h9 => h9) hv hdg kk
theorem gfX2_22 {fs : List Value} {v : Value} (hx : p.tables.exec = Jvm.exec) (hb : c.code = cc) (hown : s.vm.findClass RX2 = some m.cls) (hts : ∀ w ∈ zGW, w.before args s = true) (hK : va_K (zD x) vwCl (zTy x) s) (hw : zHw x A H0 ws H locs) (q0 : Nat) (he : ws[q0]? = some (a, .inr (1, fs))) (hv : fs[3]? = some v) (hdg : decode cc pc = .ok (.getfield 22, 3)) (kk : W p x.1 e R s m args below meth c H locs cells slots Q (F0 m (pc + 3) ls (v :: rest))) : W p x.1 e R s m args below meth c H locs cells slots Q (F0 m pc ls (.ref a :: rest)) :=
  va_get (D := zD x) (ci := 1) (v := v) (C := RX2) (T := TX2) (N := 6) hx hb hts inX2 hown hK hw.P q0 he rfl 3 (Nat.le_of_ble_eq_true rfl) (hts _ fkX2_22) (fun _ h9 => h9) hv hdg kk
theorem pfX2_22 {fs : List Value} {z : Int32} (hx : p.tables.exec = Jvm.exec) (hb : c.code = cc) (hown : s.vm.findClass RX2 = some m.cls) (hts : ∀ w ∈ zGW, w.before args s = true) (hK : va_K (zD x) vwCl (zTy x) s) (hw : zHw x A H0 ws H locs) (q0 : Nat) (he : ws[q0]? = some (a, .inr (1, fs))) (hl : 3 < fs.length) (hdg : decode cc pc = .ok (.putfield 22, 3)) (kk : ∀ (H1 : Heap) (locs1 : List Loc), zHw x A H0 (ws.set q0 (a, .inr (1, fs.set 3 (.int z)))) H1 locs1 → W p x.1 e R s m args below meth c H1 locs1 cells slots Q (F0 m (pc + 3) ls rest)) : W p x.1 e R s m args below meth c H locs cells slots Q (F0 m pc ls (.int z :: .ref a :: rest)) :=
  va_put (D := zD x) (ci := 1) (v := .int z) (ty := .int) (C := RX2) (T := TX2) (N := 6) hx hb hts inX2 tyX2 tyX2_ok nmX2 hown hK hw.P hw.D hw.S q0 he rfl 3 (Nat.le_of_ble_eq_true rfl) (hts _ fkX2_22) (fun _ h9 => h9) rfl (by decide +kernel) rfl rfl hl hdg (fun H1 l1 h1 h2 h3 => kk H1 l1 ⟨h1, h2, h3⟩)
theorem gfX4_27 {fs : List Value} {v : Value} (hx : p.tables.exec = Jvm.exec) (hb : c.code = cc) (hown : s.vm.findClass RX4 = some m.cls) (hts : ∀ w ∈ zGW, w.before args s = true) (hK : va_K (zD x) vwCl (zTy x) s) (hw : zHw x A H0 ws H locs) (q0 : Nat) (he : ws[q0]? = some (a, .inr (1, fs))) (hv : fs[3]? = some v) (hdg : decode cc pc = .ok (.getfield 27, 3)) (kk : W p x.1 e R s m args below meth c H locs cells slots Q (F0 m (pc + 3) ls (v :: rest))) : W p x.1 e R s m args below meth c H locs cells slots Q (F0 m pc ls (.ref a :: rest)) :=
  va_get (D := zD x) (ci := 1) (v := v) (C := RX2) (T := TX2) (N := 6) hx hb hts inX2 hown hK hw.P q0 he rfl 3 (Nat.le_of_ble_eq_true rfl) (hts _ fkX4_27) (fun _ h9 => h9) hv hdg kk
theorem gfX2_25 {fs : List Value} {v : Value} (hx : p.tables.exec = Jvm.exec) (hb : c.code = cc) (hown : s.vm.findClass RX2 = some m.cls) (hts : ∀ w ∈ zGW, w.before args s = true) (hK : va_K (zD x) vwCl (zTy x) s) (hw : zHw x A H0 ws H locs) (q0 : Nat) (he : ws[q0]? = some (a, .inr (1, fs))) (hv : fs[4]? = some v) (hdg : decode cc pc = .ok (.getfield 25, 3)) (kk : W p x.1 e R s m args below meth c H locs cells slots Q (F0 m (pc + 3) ls (v :: rest))) : W p x.1 e R s m args below meth c H locs cells slots Q (F0 m pc ls (.ref a :: rest)) :=
  va_get (D := zD x) (ci := 1) (v := v) (C := RX2) (T := TX2) (N := 6) hx hb hts inX2 hown hK hw.P q0 he rfl 4 (Nat.le_of_ble_eq_true rfl) (hts _ fkX2_25) (fun _ h9 => h9) hv hdg kk
theorem pfX2_25 {fs : List Value} {z : Int32} (hx : p.tables.exec = Jvm.exec) (hb : c.code = cc) (hown : s.vm.findClass RX2 = some m.cls) (hts : ∀ w ∈ zGW, w.before args s = true) (hK : va_K (zD x) vwCl (zTy x) s) (hw : zHw x A H0 ws H locs) (q0 : Nat) (he : ws[q0]? = some (a, .inr (1, fs))) (hl : 4 < fs.length) (hdg : decode cc pc = .ok (.putfield 25, 3)) (kk : ∀ (H1 : Heap) (locs1 : List Loc), zHw x A H0 (ws.set q0 (a, .inr (1, fs.set 4 (.int z)))) H1 locs1 → W p x.1 e R s m args below meth c H1 locs1 cells slots Q (F0 m (pc + 3) ls rest)) : W p x.1 e R s m args below meth c H locs cells slots Q (F0 m pc ls (.int z :: .ref a :: rest)) :=
  va_put (D := zD x) (ci := 1) (v := .int z) (ty := .int) (C := RX2) (T := TX2) (N := 6) hx hb hts inX2 tyX2 tyX2_ok nmX2 hown hK hw.P hw.D hw.S q0 he rfl 4 (Nat.le_of_ble_eq_true rfl) (hts _ fkX2_25) (fun _ h9 => h9) rfl (by decide +kernel) rfl rfl hl hdg (fun H1 l1 h1 h2 h3 => kk H1 l1 ⟨h1, h2, h3⟩)
theorem gfX2_28 {fs : List Value} {v : Value} (hx : p.tables.exec = Jvm.exec) (hb : c.code = cc) (hown : s.vm.findClass RX2 = some m.cls) (hts : ∀ w ∈ zGW, w.before args s = true) (hK : va_K (zD x) vwCl (zTy x) s) (hw : zHw x A H0 ws H locs) (q0 : Nat) (he : ws[q0]? = some (a, .inr (1, fs))) (hv : fs[5]? = some v) (hdg : decode cc pc = .ok (.getfield 28, 3)) (kk : W p x.1 e R s m args below meth c H locs cells slots Q (F0 m (pc + 3) ls (v :: rest))) : W p x.1 e R s m args below meth c H locs cells slots Q (F0 m pc ls (.ref a :: rest)) :=
  va_get (D := zD x) (ci := 1) (v := v) (C := RX2) (T := TX2) (N := 6) hx hb hts inX2 hown hK hw.P q0 he rfl 5 (Nat.le_of_ble_eq_true rfl) (hts _ fkX2_28) (fun _ h9 => h9) hv hdg kk
theorem pfX2_28 {fs : List Value} {z : Int32} (hx : p.tables.exec = Jvm.exec) (hb : c.code = cc) (hown : s.vm.findClass RX2 = some m.cls) (hts : ∀ w ∈ zGW, w.before args s = true) (hK : va_K (zD x) vwCl (zTy x) s) (hw : zHw x A H0 ws H locs) (q0 : Nat) (he : ws[q0]? = some (a, .inr (1, fs))) (hl : 5 < fs.length) (hdg : decode cc pc = .ok (.putfield 28, 3)) (kk : ∀ (H1 : Heap) (locs1 : List Loc), zHw x A H0 (ws.set q0 (a, .inr (1, fs.set 5 (.int z)))) H1 locs1 → W p x.1 e R s m args below meth c H1 locs1 cells slots Q (F0 m (pc + 3) ls rest)) : W p x.1 e R s m args below meth c H locs cells slots Q (F0 m pc ls (.int z :: .ref a :: rest)) :=
  va_put (D := zD x) (ci := 1) (v := .int z) (ty := .int) (C := RX2) (T := TX2) (N := 6) hx hb hts inX2 tyX2 tyX2_ok nmX2 hown hK hw.P hw.D hw.S q0 he rfl 5 (Nat.le_of_ble_eq_true rfl) (hts _ fkX2_28) (fun _ h9 => h9) rfl (by decide +kernel) rfl rfl hl hdg (fun H1 l1 h1 h2 h3 => kk H1 l1 ⟨h1, h2, h3⟩)
theorem gfX1_9 {fs : List Value} {v : Value} (hx : p.tables.exec = Jvm.exec) (hb : c.code = cc) (hown : s.vm.findClass RX1 = some m.cls) (hts : ∀ w ∈ zGW, w.before args s = true) (hK : va_K (zD x) vwCl (zTy x) s) (hw : zHw x A H0 ws H locs) (q0 : Nat) (he : ws[q0]? = some (a, .inr (0, fs))) (hv : fs[0]? = some v) (hdg : decode cc pc = .ok (.getfield 9, 3)) (kk : W p x.1 e R s m args below meth c H locs cells slots Q (F0 m (pc + 3) ls (v :: rest))) : W p x.1 e R s m args below meth c H locs cells slots Q (F0 m pc ls (.ref a :: rest)) :=
  va_get (D := zD x) (ci := 0) (v := v) (C := RX1) (T := TX1) (N := 3) hx hb hts inX1 hown hK hw.P q0 he rfl 0 (Nat.le_of_ble_eq_true rfl) (hts _ fkX1_9) (fun _ h9 => h9) hv hdg kk
theorem pfX1_9 {fs : List Value} {z : Int32} (hx : p.tables.exec = Jvm.exec) (hb : c.code = cc) (hown : s.vm.findClass RX1 = some m.cls) (hts : ∀ w ∈ zGW, w.before args s = true) (hK : va_K (zD x) vwCl (zTy x) s) (hw : zHw x A H0 ws H locs) (q0 : Nat) (he : ws[q0]? = some (a, .inr (0, fs))) (hl : 0 < fs.length) (hdg : decode cc pc = .ok (.putfield 9, 3)) (kk : ∀ (H1 : Heap) (locs1 : List Loc), zHw x A H0 (ws.set q0 (a, .inr (0, fs.set 0 (.int z)))) H1 locs1 → W p x.1 e R s m args below meth c H1 locs1 cells slots Q (F0 m (pc + 3) ls rest)) : W p x.1 e R s m args below meth c H locs cells slots Q (F0 m pc ls (.int z :: .ref a :: rest)) :=
  va_put (D := zD x) (ci := 0) (v := .int z) (ty := .int) (C := RX1) (T := TX1) (N := 3) hx hb hts inX1 tyX1 tyX1_ok nmX1 hown hK hw.P hw.D hw.S q0 he rfl 0 (Nat.le_of_ble_eq_true rfl) (hts _ fkX1_9) (fun _ h9 => h9) rfl (by decide +kernel) rfl rfl hl hdg (fun H1 l1 h1 h2 h3 => kk H1 l1 ⟨h1, h2, h3⟩)
theorem gfX5_239 {fs : List Value} {v : Value} (hx : p.tables.exec = Jvm.exec) (hb : c.code = cc) (hown : s.vm.findClass RX5 = some m.cls) (hts : ∀ w ∈ zGW, w.before args s = true) (hK : va_K (zD x) vwCl (zTy x) s) (hw : zHw x A H0 ws H locs) (q0 : Nat) (he : ws[q0]? = some (a, .inr (0, fs))) (hv : fs[0]? = some v) (hdg : decode cc pc = .ok (.getfield 239, 3)) (kk : W p x.1 e R s m args below meth c H locs cells slots Q (F0 m (pc + 3) ls (v :: rest))) : W p x.1 e R s m args below meth c H locs cells slots Q (F0 m pc ls (.ref a :: rest)) :=
  va_get (D := zD x) (ci := 0) (v := v) (C := RX1) (T := TX1) (N := 3) hx hb hts inX1 hown hK hw.P q0 he rfl 0 (Nat.le_of_ble_eq_true rfl) (hts _ fkX5_239) (fun _ h9 => h9) hv hdg kk
theorem gfX1_15 {fs : List Value} {v : Value} (hx : p.tables.exec = Jvm.exec) (hb : c.code = cc) (hown : s.vm.findClass RX1 = some m.cls) (hts : ∀ w ∈ zGW, w.before args s = true) (hK : va_K (zD x) vwCl (zTy x) s) (hw : zHw x A H0 ws H locs) (q0 : Nat) (he : ws[q0]? = some (a, .inr (0, fs))) (hv : fs[1]? = some v) (hdg : decode cc pc = .ok (.getfield 15, 3)) (kk : W p x.1 e R s m args below meth c H locs cells slots Q (F0 m (pc + 3) ls (v :: rest))) : W p x.1 e R s m args below meth c H locs cells slots Q (F0 m pc ls (.ref a :: rest)) :=
  va_get (D := zD x) (ci := 0) (v := v) (C := RX1) (T := TX1) (N := 3) hx hb hts inX1 hown hK hw.P q0 he rfl 1 (Nat.le_of_ble_eq_true rfl) (hts _ fkX1_15) (fun _ h9 => h9) hv hdg kk
theorem pfX1_15 {fs : List Value} {z : Int32} (hx : p.tables.exec = Jvm.exec) (hb : c.code = cc) (hown : s.vm.findClass RX1 = some m.cls) (hts : ∀ w ∈ zGW, w.before args s = true) (hK : va_K (zD x) vwCl (zTy x) s) (hw : zHw x A H0 ws H locs) (q0 : Nat) (he : ws[q0]? = some (a, .inr (0, fs))) (hl : 1 < fs.length) (hdg : decode cc pc = .ok (.putfield 15, 3)) (kk : ∀ (H1 : Heap) (locs1 : List Loc), zHw x A H0 (ws.set q0 (a, .inr (0, fs.set 1 (.int z)))) H1 locs1 → W p x.1 e R s m args below meth c H1 locs1 cells slots Q (F0 m (pc + 3) ls rest)) : W p x.1 e R s m args below meth c H locs cells slots Q (F0 m pc ls (.int z :: .ref a :: rest)) :=
  va_put (D := zD x) (ci := 0) (v := .int z) (ty := .int) (C := RX1) (T := TX1) (N := 3) hx hb hts inX1 tyX1 tyX1_ok nmX1 hown hK hw.P hw.D hw.S q0 he rfl 1 (Nat.le_of_ble_eq_true rfl) (hts _ fkX1_15) (fun _ h9 => h9) rfl (by decide +kernel) rfl rfl hl hdg (fun H1 l1 h1 h2 h3 => kk H1 l1 ⟨h1, h2, h3⟩)
theorem gfX5_227 {fs : List Value} {v : Value} (hx : p.tables.exec = Jvm.exec) (hb : c.code = cc) (hown : s.vm.findClass RX5 = some m.cls) (hts : ∀ w ∈ zGW, w.before args s = true) (hK : va_K (zD x) vwCl (zTy x) s) (hw : zHw x A H0 ws H locs) (q0 : Nat) (he : ws[q0]? = some (a, .inr (0, fs))) (hv : fs[1]? = some v) (hdg : decode cc pc = .ok (.getfield 227, 3)) (kk : W p x.1 e R s m args below meth c H locs cells slots Q (F0 m (pc + 3) ls (v :: rest))) : W p x.1 e R s m args below meth c H locs cells slots Q (F0 m pc ls (.ref a :: rest)) :=
  va_get (D := zD x) (ci := 0) (v := v) (C := RX1) (T := TX1) (N := 3) hx hb hts inX1 hown hK hw.P q0 he rfl 1 (Nat.le_of_ble_eq_true rfl) (hts _ fkX5_227) (fun _ h9 => h9) hv hdg kk
theorem gfX1_18 {fs : List Value} {v : Value} (hx : p.tables.exec = Jvm.exec) (hb : c.code = cc) (hown : s.vm.findClass RX1 = some m.cls) (hts : ∀ w ∈ zGW, w.before args s = true) (hK : va_K (zD x) vwCl (zTy x) s) (hw : zHw x A H0 ws H locs) (q0 : Nat) (he : ws[q0]? = some (a, .inr (0, fs))) (hv : fs[2]? = some v) (hdg : decode cc pc = .ok (.getfield 18, 3)) (kk : W p x.1 e R s m args below meth c H locs cells slots Q (F0 m (pc + 3) ls (v :: rest))) : W p x.1 e R s m args below meth c H locs cells slots Q (F0 m pc ls (.ref a :: rest)) :=
  va_get (D := zD x) (ci := 0) (v := v) (C := RX1) (T := TX1) (N := 3) hx hb hts inX1 hown hK hw.P q0 he rfl 2 (Nat.le_of_ble_eq_true rfl) (hts _ fkX1_18) (fun _ h9 => h9) hv hdg kk
theorem gfX5_232 {fs : List Value} {v : Value} (hx : p.tables.exec = Jvm.exec) (hb : c.code = cc) (hown : s.vm.findClass RX5 = some m.cls) (hts : ∀ w ∈ zGW, w.before args s = true) (hK : va_K (zD x) vwCl (zTy x) s) (hw : zHw x A H0 ws H locs) (q0 : Nat) (he : ws[q0]? = some (a, .inr (0, fs))) (hv : fs[2]? = some v) (hdg : decode cc pc = .ok (.getfield 232, 3)) (kk : W p x.1 e R s m args below meth c H locs cells slots Q (F0 m (pc + 3) ls (v :: rest))) : W p x.1 e R s m args below meth c H locs cells slots Q (F0 m pc ls (.ref a :: rest)) :=
  va_get (D := zD x) (ci := 0) (v := v) (C := RX1) (T := TX1) (N := 3) hx hb hts inX1 hown hK hw.P q0 he rfl 2 (Nat.le_of_ble_eq_true rfl) (hts _ fkX5_232) (fun _ h9 => h9) hv hdg kk
theorem gfX5_10 {fs : List Value} {v : Value} (hx : p.tables.exec = Jvm.exec) (hb : c.code = cc) (hown : s.vm.findClass RX5 = some m.cls) (hts : ∀ w ∈ zGW, w.before args s = true) (hK : va_K (zD x) vwCl (zTy x) s) (hw : zHw x A H0 ws H locs) (q0 : Nat) (he : ws[q0]? = some (a, .inr (3, fs))) (hv : fs[0]? = some v) (hdg : decode cc pc = .ok (.getfield 10, 3)) (kk : W p x.1 e R s m args below meth c H locs cells slots Q (F0 m (pc + 3) ls (v :: rest))) : W p x.1 e R s m args below meth c H locs cells slots Q (F0 m pc ls (.ref a :: rest)) :=
  va_get (D := zD x) (ci := 3) (v := v) (C := RX5) (T := TX5) (N := 7) hx hb hts inX5 hown hK hw.P q0 he rfl 0 (Nat.le_of_ble_eq_true rfl) (hts _ fkX5_10) (fun _ h9 => h9) hv hdg kk
theorem gfX5_16 {fs : List Value} {v : Value} (hx : p.tables.exec = Jvm.exec) (hb : c.code = cc) (hown : s.vm.findClass RX5 = some m.cls) (hts : ∀ w ∈ zGW, w.before args s = true) (hK : va_K (zD x) vwCl (zTy x) s) (hw : zHw x A H0 ws H locs) (q0 : Nat) (he : ws[q0]? = some (a, .inr (3, fs))) (hv : fs[1]? = some v) (hdg : decode cc pc = .ok (.getfield 16, 3)) (kk : W p x.1 e R s m args below meth c H locs cells slots Q (F0 m (pc + 3) ls (v :: rest))) : W p x.1 e R s m args below meth c H locs cells slots Q (F0 m pc ls (.ref a :: rest)) :=
  va_get (D := zD x) (ci := 3) (v := v) (C := RX5) (T := TX5) (N := 7) hx hb hts inX5 hown hK hw.P q0 he rfl 1 (Nat.le_of_ble_eq_true rfl) (hts _ fkX5_16) (fun _ h9 => h9) hv hdg kk
theorem gfX5_19 {fs : List Value} {v : Value} (hx : p.tables.exec = Jvm.exec) (hb : c.code = cc) (hown : s.vm.findClass RX5 = some m.cls) (hts : ∀ w ∈ zGW, w.before args s = true) (hK : va_K (zD x) vwCl (zTy x) s) (hw : zHw x A H0 ws H locs) (q0 : Nat) (he : ws[q0]? = some (a, .inr (3, fs))) (hv : fs[2]? = some v) (hdg : decode cc pc = .ok (.getfield 19, 3)) (kk : W p x.1 e R s m args below meth c H locs cells slots Q (F0 m (pc + 3) ls (v :: rest))) : W p x.1 e R s m args below meth c H locs cells slots Q (F0 m pc ls (.ref a :: rest)) :=
  va_get (D := zD x) (ci := 3) (v := v) (C := RX5) (T := TX5) (N := 7) hx hb hts inX5 hown hK hw.P q0 he rfl 2 (Nat.le_of_ble_eq_true rfl) (hts _ fkX5_19) (fun _ h9 => h9) hv hdg kk
theorem gfX5_22 {fs : List Value} {v : Value} (hx : p.tables.exec = Jvm.exec) (hb : c.code = cc) (hown : s.vm.findClass RX5 = some m.cls) (hts : ∀ w ∈ zGW, w.before args s = true) (hK : va_K (zD x) vwCl (zTy x) s) (hw : zHw x A H0 ws H locs) (q0 : Nat) (he : ws[q0]? = some (a, .inr (3, fs))) (hv : fs[3]? = some v) (hdg : decode cc pc = .ok (.getfield 22, 3)) (kk : W p x.1 e R s m args below meth c H locs cells slots Q (F0 m (pc + 3) ls (v :: rest))) : W p x.1 e R s m args below meth c H locs cells slots Q (F0 m pc ls (.ref a :: rest)) :=
  va_get (D := zD x) (ci := 3) (v := v) (C := RX5) (T := TX5) (N := 7) hx hb hts inX5 hown hK hw.P q0 he rfl 3 (Nat.le_of_ble_eq_true rfl) (hts _ fkX5_22) (fun _ h9 => h9) hv hdg kk
theorem pfX5_22 {fs : List Value} {z : Int32} (hx : p.tables.exec = Jvm.exec) (hb : c.code = cc) (hown : s.vm.findClass RX5 = some m.cls) (hts : ∀ w ∈ zGW, w.before args s = true) (hK : va_K (zD x) vwCl (zTy x) s) (hw : zHw x A H0 ws H locs) (q0 : Nat) (he : ws[q0]? = some (a, .inr (3, fs))) (hl : 3 < fs.length) (hz : narrow .boolean (.int z) = .int z ∧ fits .boolean (.int z) = true) (hdg : decode cc pc = .ok (.putfield 22, 3)) (kk : ∀ (H1 : Heap) (locs1 : List Loc), zHw x A H0 (ws.set q0 (a, .inr (3, fs.set 3 (.int z)))) H1 locs1 → W p x.1 e R s m args below meth c H1 locs1 cells slots Q (F0 m (pc + 3) ls rest)) : W p x.1 e R s m args below meth c H locs cells slots Q (F0 m pc ls (.int z :: .ref a :: rest)) :=
  va_put (D := zD x) (ci := 3) (v := .int z) (ty := .boolean) (C := RX5) (T := TX5) (N := 7) hx hb hts inX5 tyX5 tyX5_ok nmX5 hown hK hw.P hw.D hw.S q0 he rfl 3 (Nat.le_of_ble_eq_true rfl) (hts _ fkX5_22) (fun _ h9 => h9) rfl (by decide +kernel) hz.1 hz.2 hl hdg (fun H1 l1 h1 h2 h3 => kk H1 l1 ⟨h1, h2, h3⟩)
theorem gfX5_29 {fs : List Value} {v : Value} (hx : p.tables.exec = Jvm.exec) (hb : c.code = cc) (hown : s.vm.findClass RX5 = some m.cls) (hts : ∀ w ∈ zGW, w.before args s = true) (hK : va_K (zD x) vwCl (zTy x) s) (hw : zHw x A H0 ws H locs) (q0 : Nat) (he : ws[q0]? = some (a, .inr (3, fs))) (hv : fs[4]? = some v) (hdg : decode cc pc = .ok (.getfield 29, 3)) (kk : W p x.1 e R s m args below meth c H locs cells slots Q (F0 m (pc + 3) ls (v :: rest))) : W p x.1 e R s m args below meth c H locs cells slots Q (F0 m pc ls (.ref a :: rest)) :=
  va_get (D := zD x) (ci := 3) (v := v) (C := RX5) (T := TX5) (N := 7) hx hb hts inX5 hown hK hw.P q0 he rfl 4 (Nat.le_of_ble_eq_true rfl) (hts _ fkX5_29) (fun _ h9 => h9) hv hdg kk
theorem gfX5_35 {fs : List Value} {v : Value} (hx : p.tables.exec = Jvm.exec) (hb : c.code = cc) (hown : s.vm.findClass RX5 = some m.cls) (hts : ∀ w ∈ zGW, w.before args s = true) (hK : va_K (zD x) vwCl (zTy x) s) (hw : zHw x A H0 ws H locs) (q0 : Nat) (he : ws[q0]? = some (a, .inr (3, fs))) (hv : fs[5]? = some v) (hdg : decode cc pc = .ok (.getfield 35, 3)) (kk : W p x.1 e R s m args below meth c H locs cells slots Q (F0 m (pc + 3) ls (v :: rest))) : W p x.1 e R s m args below meth c H locs cells slots Q (F0 m pc ls (.ref a :: rest)) :=
  va_get (D := zD x) (ci := 3) (v := v) (C := RX5) (T := TX5) (N := 7) hx hb hts inX5 hown hK hw.P q0 he rfl 5 (Nat.le_of_ble_eq_true rfl) (hts _ fkX5_35) (fun _ h9 => h9) hv hdg kk
theorem gfX5_39 {fs : List Value} {v : Value} (hx : p.tables.exec = Jvm.exec) (hb : c.code = cc) (hown : s.vm.findClass RX5 = some m.cls) (hts : ∀ w ∈ zGW, w.before args s = true) (hK : va_K (zD x) vwCl (zTy x) s) (hw : zHw x A H0 ws H locs) (q0 : Nat) (he : ws[q0]? = some (a, .inr (3, fs))) (hv : fs[6]? = some v) (hdg : decode cc pc = .ok (.getfield 39, 3)) (kk : W p x.1 e R s m args below meth c H locs cells slots Q (F0 m (pc + 3) ls (v :: rest))) : W p x.1 e R s m args below meth c H locs cells slots Q (F0 m pc ls (.ref a :: rest)) :=
  va_get (D := zD x) (ci := 3) (v := v) (C := RX5) (T := TX5) (N := 7) hx hb hts inX5 hown hK hw.P q0 he rfl 6 (Nat.le_of_ble_eq_true rfl) (hts _ fkX5_39) (fun _ h9 => h9) hv hdg kk
theorem gfX6_7 {fs : List Value} {v : Value} (hx : p.tables.exec = Jvm.exec) (hb : c.code = cc) (hown : s.vm.findClass RX6 = some m.cls) (hts : ∀ w ∈ zGW, w.before args s = true) (hK : va_K (zD x) vwCl (zTy x) s) (hw : zHw x A H0 ws H locs) (q0 : Nat) (he : ws[q0]? = some (a, .inr (4, fs))) (hv : fs[0]? = some v) (hdg : decode cc pc = .ok (.getfield 7, 3)) (kk : W p x.1 e R s m args below meth c H locs cells slots Q (F0 m (pc + 3) ls (v :: rest))) : W p x.1 e R s m args below meth c H locs cells slots Q (F0 m pc ls (.ref a :: rest)) :=
  va_get (D := zD x) (ci := 4) (v := v) (C := RX6) (T := TX6) (N := 16) hx hb hts inX6 hown hK hw.P q0 he rfl 0 (Nat.le_of_ble_eq_true rfl) (hts _ fkX6_7) (fun _ h9 => h9) hv hdg kk
theorem gfX6_13 {fs : List Value} {v : Value} (hx : p.tables.exec = Jvm.exec) (hb : c.code = cc) (hown : s.vm.findClass RX6 = some m.cls) (hts : ∀ w ∈ zGW, w.before args s = true) (hK : va_K (zD x) vwCl (zTy x) s) (hw : zHw x A H0 ws H locs) (q0 : Nat) (he : ws[q0]? = some (a, .inr (4, fs))) (hv : fs[1]? = some v) (hdg : decode cc pc = .ok (.getfield 13, 3)) (kk : W p x.1 e R s m args below meth c H locs cells slots Q (F0 m (pc + 3) ls (v :: rest))) : W p x.1 e R s m args below meth c H locs cells slots Q (F0 m pc ls (.ref a :: rest)) :=
  va_get (D := zD x) (ci := 4) (v := v) (C := RX6) (T := TX6) (N := 16) hx hb hts inX6 hown hK hw.P q0 he rfl 1 (Nat.le_of_ble_eq_true rfl) (hts _ fkX6_13) (fun _ h9 => h9) hv hdg kk
theorem gfX6_16 {fs : List Value} {v : Value} (hx : p.tables.exec = Jvm.exec) (hb : c.code = cc) (hown : s.vm.findClass RX6 = some m.cls) (hts : ∀ w ∈ zGW, w.before args s = true) (hK : va_K (zD x) vwCl (zTy x) s) (hw : zHw x A H0 ws H locs) (q0 : Nat) (he : ws[q0]? = some (a, .inr (4, fs))) (hv : fs[2]? = some v) (hdg : decode cc pc = .ok (.getfield 16, 3)) (kk : W p x.1 e R s m args below meth c H locs cells slots Q (F0 m (pc + 3) ls (v :: rest))) : W p x.1 e R s m args below meth c H locs cells slots Q (F0 m pc ls (.ref a :: rest)) :=
  va_get (D := zD x) (ci := 4) (v := v) (C := RX6) (T := TX6) (N := 16) hx hb hts inX6 hown hK hw.P q0 he rfl 2 (Nat.le_of_ble_eq_true rfl) (hts _ fkX6_16) (fun _ h9 => h9) hv hdg kk
theorem gfX6_19 {fs : List Value} {v : Value} (hx : p.tables.exec = Jvm.exec) (hb : c.code = cc) (hown : s.vm.findClass RX6 = some m.cls) (hts : ∀ w ∈ zGW, w.before args s = true) (hK : va_K (zD x) vwCl (zTy x) s) (hw : zHw x A H0 ws H locs) (q0 : Nat) (he : ws[q0]? = some (a, .inr (4, fs))) (hv : fs[3]? = some v) (hdg : decode cc pc = .ok (.getfield 19, 3)) (kk : W p x.1 e R s m args below meth c H locs cells slots Q (F0 m (pc + 3) ls (v :: rest))) : W p x.1 e R s m args below meth c H locs cells slots Q (F0 m pc ls (.ref a :: rest)) :=
  va_get (D := zD x) (ci := 4) (v := v) (C := RX6) (T := TX6) (N := 16) hx hb hts inX6 hown hK hw.P q0 he rfl 3 (Nat.le_of_ble_eq_true rfl) (hts _ fkX6_19) (fun _ h9 => h9) hv hdg kk
theorem gfX6_22 {fs : List Value} {v : Value} (hx : p.tables.exec = Jvm.exec) (hb : c.code = cc) (hown : s.vm.findClass RX6 = some m.cls) (hts : ∀ w ∈ zGW, w.before args s = true) (hK : va_K (zD x) vwCl (zTy x) s) (hw : zHw x A H0 ws H locs) (q0 : Nat) (he : ws[q0]? = some (a, .inr (4, fs))) (hv : fs[4]? = some v) (hdg : decode cc pc = .ok (.getfield 22, 3)) (kk : W p x.1 e R s m args below meth c H locs cells slots Q (F0 m (pc + 3) ls (v :: rest))) : W p x.1 e R s m args below meth c H locs cells slots Q (F0 m pc ls (.ref a :: rest)) :=
  va_get (D := zD x) (ci := 4) (v := v) (C := RX6) (T := TX6) (N := 16) hx hb hts inX6 hown hK hw.P q0 he rfl 4 (Nat.le_of_ble_eq_true rfl) (hts _ fkX6_22) (fun _ h9 => h9) hv hdg kk
theorem gfX6_311 {fs : List Value} {v : Value} (hx : p.tables.exec = Jvm.exec) (hb : c.code = cc) (hown : s.vm.findClass RX6 = some m.cls) (hts : ∀ w ∈ zGW, w.before args s = true) (hK : va_K (zD x) vwCl (zTy x) s) (hw : zHw x A H0 ws H locs) (q0 : Nat) (he : ws[q0]? = some (a, .inr (4, fs))) (hv : fs[5]? = some v) (hdg : decode cc pc = .ok (.getfield 311, 3)) (kk : W p x.1 e R s m args below meth c H locs cells slots Q (F0 m (pc + 3) ls (v :: rest))) : W p x.1 e R s m args below meth c H locs cells slots Q (F0 m pc ls (.ref a :: rest)) :=
  va_get (D := zD x) (ci := 4) (v := v) (C := RX6) (T := TX6) (N := 16) hx hb hts inX6 hown hK hw.P q0 he rfl 5 (Nat.le_of_ble_eq_true rfl) (hts _ fkX6_311) (fun _ h9 => h9) hv hdg kk
theorem pfX6_311 {fs : List Value} {z : Int32} (hx : p.tables.exec = Jvm.exec) (hb : c.code = cc) (hown : s.vm.findClass RX6 = some m.cls) (hts : ∀ w ∈ zGW, w.before args s = true) (hK : va_K (zD x) vwCl (zTy x) s) (hw : zHw x A H0 ws H locs) (q0 : Nat) (he : ws[q0]? = some (a, .inr (4, fs))) (hl : 5 < fs.length) (hz : narrow .boolean (.int z) = .int z ∧ fits .boolean (.int z) = true) (hdg : decode cc pc = .ok (.putfield 311, 3)) (kk : ∀ (H1 : Heap) (locs1 : List Loc), zHw x A H0 (ws.set q0 (a, .inr (4, fs.set 5 (.int z)))) H1 locs1 → W p x.1 e R s m args below meth c H1 locs1 cells slots Q (F0 m (pc + 3) ls rest)) : W p x.1 e R s m args below meth c H locs cells slots Q (F0 m pc ls (.int z :: .ref a :: rest)) :=
  va_put (D := zD x) (ci := 4) (v := .int z) (ty := .boolean) (C := RX6) (T := TX6) (N := 16) hx hb hts inX6 tyX6 tyX6_ok nmX6 hown hK hw.P hw.D hw.S q0 he rfl 5 (Nat.le_of_ble_eq_true rfl) (hts _ fkX6_311) (fun _ h9 => h9) rfl (by decide +kernel) hz.1 hz.2 hl hdg (fun H1 l1 h1 h2 h3 => kk H1 l1 ⟨h1, h2, h3⟩)
theorem gfX6_25 {fs : List Value} {v : Value} (hx : p.tables.exec = Jvm.exec) (hb : c.code = cc) (hown : s.vm.findClass RX6 = some m.cls) (hts : ∀ w ∈ zGW, w.before args s = true) (hK : va_K (zD x) vwCl (zTy x) s) (hw : zHw x A H0 ws H locs) (q0 : Nat) (he : ws[q0]? = some (a, .inr (4, fs))) (hv : fs[6]? = some v) (hdg : decode cc pc = .ok (.getfield 25, 3)) (kk : W p x.1 e R s m args below meth c H locs cells slots Q (F0 m (pc + 3) ls (v :: rest))) : W p x.1 e R s m args below meth c H locs cells slots Q (F0 m pc ls (.ref a :: rest)) :=
  va_get (D := zD x) (ci := 4) (v := v) (C := RX6) (T := TX6) (N := 16) hx hb hts inX6 hown hK hw.P q0 he rfl 6 (Nat.le_of_ble_eq_true rfl) (hts _ fkX6_25) (fun _ h9 => h9) hv hdg kk
theorem gfX6_183 {fs : List Value} {v : Value} (hx : p.tables.exec = Jvm.exec) (hb : c.code = cc) (hown : s.vm.findClass RX6 = some m.cls) (hts : ∀ w ∈ zGW, w.before args s = true) (hK : va_K (zD x) vwCl (zTy x) s) (hw : zHw x A H0 ws H locs) (q0 : Nat) (he : ws[q0]? = some (a, .inr (4, fs))) (hv : fs[7]? = some v) (hdg : decode cc pc = .ok (.getfield 183, 3)) (kk : W p x.1 e R s m args below meth c H locs cells slots Q (F0 m (pc + 3) ls (v :: rest))) : W p x.1 e R s m args below meth c H locs cells slots Q (F0 m pc ls (.ref a :: rest)) :=
  va_get (D := zD x) (ci := 4) (v := v) (C := RX6) (T := TX6) (N := 16) hx hb hts inX6 hown hK hw.P q0 he rfl 7 (Nat.le_of_ble_eq_true rfl) (hts _ fkX6_183) (fun _ h9 => h9) hv hdg kk
theorem pfX6_183 {fs : List Value} {z : Int32} (hx : p.tables.exec = Jvm.exec) (hb : c.code = cc) (hown : s.vm.findClass RX6 = some m.cls) (hts : ∀ w ∈ zGW, w.before args s = true) (hK : va_K (zD x) vwCl (zTy x) s) (hw : zHw x A H0 ws H locs) (q0 : Nat) (he : ws[q0]? = some (a, .inr (4, fs))) (hl : 7 < fs.length) (hdg : decode cc pc = .ok (.putfield 183, 3)) (kk : ∀ (H1 : Heap) (locs1 : List Loc), zHw x A H0 (ws.set q0 (a, .inr (4, fs.set 7 (.int z)))) H1 locs1 → W p x.1 e R s m args below meth c H1 locs1 cells slots Q (F0 m (pc + 3) ls rest)) : W p x.1 e R s m args below meth c H locs cells slots Q (F0 m pc ls (.int z :: .ref a :: rest)) :=
  va_put (D := zD x) (ci := 4) (v := .int z) (ty := .int) (C := RX6) (T := TX6) (N := 16) hx hb hts inX6 tyX6 tyX6_ok nmX6 hown hK hw.P hw.D hw.S q0 he rfl 7 (Nat.le_of_ble_eq_true rfl) (hts _ fkX6_183) (fun _ h9 => h9) rfl (by decide +kernel) rfl rfl hl hdg (fun H1 l1 h1 h2 h3 => kk H1 l1 ⟨h1, h2, h3⟩)
theorem gfX6_198 {fs : List Value} {v : Value} (hx : p.tables.exec = Jvm.exec) (hb : c.code = cc) (hown : s.vm.findClass RX6 = some m.cls) (hts : ∀ w ∈ zGW, w.before args s = true) (hK : va_K (zD x) vwCl (zTy x) s) (hw : zHw x A H0 ws H locs) (q0 : Nat) (he : ws[q0]? = some (a, .inr (4, fs))) (hv : fs[8]? = some v) (hdg : decode cc pc = .ok (.getfield 198, 3)) (kk : W p x.1 e R s m args below meth c H locs cells slots Q (F0 m (pc + 3) ls (v :: rest))) : W p x.1 e R s m args below meth c H locs cells slots Q (F0 m pc ls (.ref a :: rest)) :=
  va_get (D := zD x) (ci := 4) (v := v) (C := RX6) (T := TX6) (N := 16) hx hb hts inX6 hown hK hw.P q0 he rfl 8 (Nat.le_of_ble_eq_true rfl) (hts _ fkX6_198) (fun _ h9 => h9) hv hdg kk
theorem pfX6_198 {fs : List Value} {z : Int32} (hx : p.tables.exec = Jvm.exec) (hb : c.code = cc) (hown : s.vm.findClass RX6 = some m.cls) (hts : ∀ w ∈ zGW, w.before args s = true) (hK : va_K (zD x) vwCl (zTy x) s) (hw : zHw x A H0 ws H locs) (q0 : Nat) (he : ws[q0]? = some (a, .inr (4, fs))) (hl : 8 < fs.length) (hdg : decode cc pc = .ok (.putfield 198, 3)) (kk : ∀ (H1 : Heap) (locs1 : List Loc), zHw x A H0 (ws.set q0 (a, .inr (4, fs.set 8 (.int z)))) H1 locs1 → W p x.1 e R s m args below meth c H1 locs1 cells slots Q (F0 m (pc + 3) ls rest)) : W p x.1 e R s m args below meth c H locs cells slots Q (F0 m pc ls (.int z :: .ref a :: rest)) :=
  va_put (D := zD x) (ci := 4) (v := .int z) (ty := .int) (C := RX6) (T := TX6) (N := 16) hx hb hts inX6 tyX6 tyX6_ok nmX6 hown hK hw.P hw.D hw.S q0 he rfl 8 (Nat.le_of_ble_eq_true rfl) (hts _ fkX6_198) (fun _ h9 => h9) rfl (by decide +kernel) rfl rfl hl hdg (fun H1 l1 h1 h2 h3 => kk H1 l1 ⟨h1, h2, h3⟩)
theorem gfX6_195 {fs : List Value} {v : Value} (hx : p.tables.exec = Jvm.exec) (hb : c.code = cc) (hown : s.vm.findClass RX6 = some m.cls) (hts : ∀ w ∈ zGW, w.before args s = true) (hK : va_K (zD x) vwCl (zTy x) s) (hw : zHw x A H0 ws H locs) (q0 : Nat) (he : ws[q0]? = some (a, .inr (4, fs))) (hv : fs[9]? = some v) (hdg : decode cc pc = .ok (.getfield 195, 3)) (kk : W p x.1 e R s m args below meth c H locs cells slots Q (F0 m (pc + 3) ls (v :: rest))) : W p x.1 e R s m args below meth c H locs cells slots Q (F0 m pc ls (.ref a :: rest)) :=
  va_get (D := zD x) (ci := 4) (v := v) (C := RX6) (T := TX6) (N := 16) hx hb hts inX6 hown hK hw.P q0 he rfl 9 (Nat.le_of_ble_eq_true rfl) (hts _ fkX6_195) (fun _ h9 => h9) hv hdg kk
theorem pfX6_195 {fs : List Value} {z : Int32} (hx : p.tables.exec = Jvm.exec) (hb : c.code = cc) (hown : s.vm.findClass RX6 = some m.cls) (hts : ∀ w ∈ zGW, w.before args s = true) (hK : va_K (zD x) vwCl (zTy x) s) (hw : zHw x A H0 ws H locs) (q0 : Nat) (he : ws[q0]? = some (a, .inr (4, fs))) (hl : 9 < fs.length) (hdg : decode cc pc = .ok (.putfield 195, 3)) (kk : ∀ (H1 : Heap) (locs1 : List Loc), zHw x A H0 (ws.set q0 (a, .inr (4, fs.set 9 (.int z)))) H1 locs1 → W p x.1 e R s m args below meth c H1 locs1 cells slots Q (F0 m (pc + 3) ls rest)) : W p x.1 e R s m args below meth c H locs cells slots Q (F0 m pc ls (.int z :: .ref a :: rest)) :=
  va_put (D := zD x) (ci := 4) (v := .int z) (ty := .int) (C := RX6) (T := TX6) (N := 16) hx hb hts inX6 tyX6 tyX6_ok nmX6 hown hK hw.P hw.D hw.S q0 he rfl 9 (Nat.le_of_ble_eq_true rfl) (hts _ fkX6_195) (fun _ h9 => h9) rfl (by decide +kernel) rfl rfl hl hdg (fun H1 l1 h1 h2 h3 => kk H1 l1 ⟨h1, h2, h3⟩)
theorem gfX6_221 {fs : List Value} {v : Value} (hx : p.tables.exec = Jvm.exec) (hb : c.code = cc) (hown : s.vm.findClass RX6 = some m.cls) (hts : ∀ w ∈ zGW, w.before args s = true) (hK : va_K (zD x) vwCl (zTy x) s) (hw : zHw x A H0 ws H locs) (q0 : Nat) (he : ws[q0]? = some (a, .inr (4, fs))) (hv : fs[10]? = some v) (hdg : decode cc pc = .ok (.getfield 221, 3)) (kk : W p x.1 e R s m args below meth c H locs cells slots Q (F0 m (pc + 3) ls (v :: rest))) : W p x.1 e R s m args below meth c H locs cells slots Q (F0 m pc ls (.ref a :: rest)) :=
  va_get (D := zD x) (ci := 4) (v := v) (C := RX6) (T := TX6) (N := 16) hx hb hts inX6 hown hK hw.P q0 he rfl 10 (Nat.le_of_ble_eq_true rfl) (hts _ fkX6_221) (fun _ h9 => h9) hv hdg kk
theorem pfX6_221 {fs : List Value} {z : Int32} (hx : p.tables.exec = Jvm.exec) (hb : c.code = cc) (hown : s.vm.findClass RX6 = some m.cls) (hts : ∀ w ∈ zGW, w.before args s = true) (hK : va_K (zD x) vwCl (zTy x) s) (hw : zHw x A H0 ws H locs) (q0 : Nat) (he : ws[q0]? = some (a, .inr (4, fs))) (hl : 10 < fs.length) (hdg : decode cc pc = .ok (.putfield 221, 3)) (kk : ∀ (H1 : Heap) (locs1 : List Loc), zHw x A H0 (ws.set q0 (a, .inr (4, fs.set 10 (.int z)))) H1 locs1 → W p x.1 e R s m args below meth c H1 locs1 cells slots Q (F0 m (pc + 3) ls rest)) : W p x.1 e R s m args below meth c H locs cells slots Q (F0 m pc ls (.int z :: .ref a :: rest)) :=
  va_put (D := zD x) (ci := 4) (v := .int z) (ty := .int) (C := RX6) (T := TX6) (N := 16) hx hb hts inX6 tyX6 tyX6_ok nmX6 hown hK hw.P hw.D hw.S q0 he rfl 10 (Nat.le_of_ble_eq_true rfl) (hts _ fkX6_221) (fun _ h9 => h9) rfl (by decide +kernel) rfl rfl hl hdg (fun H1 l1 h1 h2 h3 => kk H1 l1 ⟨h1, h2, h3⟩)
theorem gfX6_210 {fs : List Value} {v : Value} (hx : p.tables.exec = Jvm.exec) (hb : c.code = cc) (hown : s.vm.findClass RX6 = some m.cls) (hts : ∀ w ∈ zGW, w.before args s = true) (hK : va_K (zD x) vwCl (zTy x) s) (hw : zHw x A H0 ws H locs) (q0 : Nat) (he : ws[q0]? = some (a, .inr (4, fs))) (hv : fs[11]? = some v) (hdg : decode cc pc = .ok (.getfield 210, 3)) (kk : W p x.1 e R s m args below meth c H locs cells slots Q (F0 m (pc + 3) ls (v :: rest))) : W p x.1 e R s m args below meth c H locs cells slots Q (F0 m pc ls (.ref a :: rest)) :=
  va_get (D := zD x) (ci := 4) (v := v) (C := RX6) (T := TX6) (N := 16) hx hb hts inX6 hown hK hw.P q0 he rfl 11 (Nat.le_of_ble_eq_true rfl) (hts _ fkX6_210) (fun _ h9 => h9) hv hdg kk
theorem pfX6_210 {fs : List Value} {z : Int32} (hx : p.tables.exec = Jvm.exec) (hb : c.code = cc) (hown : s.vm.findClass RX6 = some m.cls) (hts : ∀ w ∈ zGW, w.before args s = true) (hK : va_K (zD x) vwCl (zTy x) s) (hw : zHw x A H0 ws H locs) (q0 : Nat) (he : ws[q0]? = some (a, .inr (4, fs))) (hl : 11 < fs.length) (hz : narrow .boolean (.int z) = .int z ∧ fits .boolean (.int z) = true) (hdg : decode cc pc = .ok (.putfield 210, 3)) (kk : ∀ (H1 : Heap) (locs1 : List Loc), zHw x A H0 (ws.set q0 (a, .inr (4, fs.set 11 (.int z)))) H1 locs1 → W p x.1 e R s m args below meth c H1 locs1 cells slots Q (F0 m (pc + 3) ls rest)) : W p x.1 e R s m args below meth c H locs cells slots Q (F0 m pc ls (.int z :: .ref a :: rest)) :=
  va_put (D := zD x) (ci := 4) (v := .int z) (ty := .boolean) (C := RX6) (T := TX6) (N := 16) hx hb hts inX6 tyX6 tyX6_ok nmX6 hown hK hw.P hw.D hw.S q0 he rfl 11 (Nat.le_of_ble_eq_true rfl) (hts _ fkX6_210) (fun _ h9 => h9) rfl (by decide +kernel) hz.1 hz.2 hl hdg (fun H1 l1 h1 h2 h3 => kk H1 l1 ⟨h1, h2, h3⟩)
theorem gfX6_28 {fs : List Value} {v : Value} (hx : p.tables.exec = Jvm.exec) (hb : c.code = cc) (hown : s.vm.findClass RX6 = some m.cls) (hts : ∀ w ∈ zGW, w.before args s = true) (hK : va_K (zD x) vwCl (zTy x) s) (hw : zHw x A H0 ws H locs) (q0 : Nat) (he : ws[q0]? = some (a, .inr (4, fs))) (hv : fs[12]? = some v) (hdg : decode cc pc = .ok (.getfield 28, 3)) (kk : W p x.1 e R s m args below meth c H locs cells slots Q (F0 m (pc + 3) ls (v :: rest))) : W p x.1 e R s m args below meth c H locs cells slots Q (F0 m pc ls (.ref a :: rest)) :=
  va_get (D := zD x) (ci := 4) (v := v) (C := RX6) (T := TX6) (N := 16) hx hb hts inX6 hown hK hw.P q0 he rfl 12 (Nat.le_of_ble_eq_true rfl) (hts _ fkX6_28) (fun _ h9 => h9) hv hdg kk
theorem gfX6_31 {fs : List Value} {v : Value} (hx : p.tables.exec = Jvm.exec) (hb : c.code = cc) (hown : s.vm.findClass RX6 = some m.cls) (hts : ∀ w ∈ zGW, w.before args s = true) (hK : va_K (zD x) vwCl (zTy x) s) (hw : zHw x A H0 ws H locs) (q0 : Nat) (he : ws[q0]? = some (a, .inr (4, fs))) (hv : fs[13]? = some v) (hdg : decode cc pc = .ok (.getfield 31, 3)) (kk : W p x.1 e R s m args below meth c H locs cells slots Q (F0 m (pc + 3) ls (v :: rest))) : W p x.1 e R s m args below meth c H locs cells slots Q (F0 m pc ls (.ref a :: rest)) :=
  va_get (D := zD x) (ci := 4) (v := v) (C := RX6) (T := TX6) (N := 16) hx hb hts inX6 hown hK hw.P q0 he rfl 13 (Nat.le_of_ble_eq_true rfl) (hts _ fkX6_31) (fun _ h9 => h9) hv hdg kk
theorem gfX6_34 {fs : List Value} {v : Value} (hx : p.tables.exec = Jvm.exec) (hb : c.code = cc) (hown : s.vm.findClass RX6 = some m.cls) (hts : ∀ w ∈ zGW, w.before args s = true) (hK : va_K (zD x) vwCl (zTy x) s) (hw : zHw x A H0 ws H locs) (q0 : Nat) (he : ws[q0]? = some (a, .inr (4, fs))) (hv : fs[14]? = some v) (hdg : decode cc pc = .ok (.getfield 34, 3)) (kk : W p x.1 e R s m args below meth c H locs cells slots Q (F0 m (pc + 3) ls (v :: rest))) : W p x.1 e R s m args below meth c H locs cells slots Q (F0 m pc ls (.ref a :: rest)) :=
  va_get (D := zD x) (ci := 4) (v := v) (C := RX6) (T := TX6) (N := 16) hx hb hts inX6 hown hK hw.P q0 he rfl 14 (Nat.le_of_ble_eq_true rfl) (hts _ fkX6_34) (fun _ h9 => h9) hv hdg kk
theorem gfX6_38 {fs : List Value} {v : Value} (hx : p.tables.exec = Jvm.exec) (hb : c.code = cc) (hown : s.vm.findClass RX6 = some m.cls) (hts : ∀ w ∈ zGW, w.before args s = true) (hK : va_K (zD x) vwCl (zTy x) s) (hw : zHw x A H0 ws H locs) (q0 : Nat) (he : ws[q0]? = some (a, .inr (4, fs))) (hv : fs[15]? = some v) (hdg : decode cc pc = .ok (.getfield 38, 3)) (kk : W p x.1 e R s m args below meth c H locs cells slots Q (F0 m (pc + 3) ls (v :: rest))) : W p x.1 e R s m args below meth c H locs cells slots Q (F0 m pc ls (.ref a :: rest)) :=
  va_get (D := zD x) (ci := 4) (v := v) (C := RX6) (T := TX6) (N := 16) hx hb hts inX6 hown hK hw.P q0 he rfl 15 (Nat.le_of_ble_eq_true rfl) (hts _ fkX6_38) (fun _ h9 => h9) hv hdg kk
end ROWS
end
section
/-! THE STATE: what a town is, for both; the cells that hold it. -/
/-- (0, k): holes, week, budget, yearly, men, hot, spent; (1, r) traffic, (2, r) let; (3 .. 8, h): kind, street, size, fill, age, rung -/
abbrev zT : Type := Nat → Nat → Int32
def zU (S : zT) (c j : Nat) (v : Int32) : zT := fun c' => if c' = c then upd (S c) j v else S c'
def zUL (S : Nat → Nat → Int64) (c j : Nat) (v : Int64) : Nat → Nat → Int64 := fun c' => if c' = c then vp_updL (S c) j v else S c'
/-- the same in one row -/
def zflat (S : zT) : Nat → Int32 := fun k => if k < 7 then S 0 k else if k < 19 then S (1 + (k - 7) % 2) ((k - 7) / 2) else S (3 + (k - 19) % 6) ((k - 19) / 6)
theorem zU_at (S : zT) (c j : Nat) (v : Int32) : zU S c j v c j = v := by simp [zU, upd]
theorem zU_ne (S : zT) {c j c' j' : Nat} (v : Int32) (h : ¬ (c' = c ∧ j' = j)) : zU S c j v c' j' = S c' j' := by
  by_cases hc : c' = c
  · subst hc
    have hj : ¬ j' = j := fun e => h ⟨rfl, e⟩
    simp [zU, upd, hj]
  · simp [zU, hc]
theorem zflat_sc (S : zT) {k : Nat} (h : k < 7) : zflat S k = S 0 k := by simp [zflat, h]
theorem zflat_ro (S : zT) {r w : Nat} (hr : r < 6) (hw : w < 2) : zflat S (7 + 2 * r + w) = S (1 + w) r := by
  have h1 : ¬ (7 + 2 * r + w < 7) := by omega
  have h2 : 7 + 2 * r + w < 19 := by omega
  have h3 : (7 + 2 * r + w - 7) % 2 = w := by omega
  have h4 : (7 + 2 * r + w - 7) / 2 = r := by omega
  simp only [zflat, h1, h2, h3, h4, if_true, if_false]
theorem zflat_it (S : zT) {h w : Nat} (hw : w < 6) : zflat S (19 + 6 * h + w) = S (3 + w) h := by
  have h1 : ¬ (19 + 6 * h + w < 7) := by omega
  have h2 : ¬ (19 + 6 * h + w < 19) := by omega
  have h3 : (19 + 6 * h + w - 19) % 6 = w := by omega
  have h4 : (19 + 6 * h + w - 19) / 6 = h := by omega
  simp only [zflat, h1, h2, h3, h4, if_false]
theorem zflat_u (S : zT) {k c j : Nat} (v : Int32) (hs : ∀ T : zT, zflat T k = T c j) (ho : ∀ i, i ≠ k → ∃ c' j', (∀ T : zT, zflat T i = T c' j') ∧ ¬ (c' = c ∧ j' = j)) : upd (zflat S) k v = zflat (zU S c j v) := by
  funext i
  by_cases hi : i = k
  · subst hi; rw [hs, zU_at]; simp [upd]
  · obtain ⟨c', j', h1, h2⟩ := ho i hi
    rw [h1, zU_ne S v h2, ← h1 S]; simp [upd, hi]
theorem zflat_ix (i : Nat) : ∃ c' j', (∀ T : zT, zflat T i = T c' j') ∧ ((i < 7 ∧ c' = 0 ∧ j' = i) ∨ (7 ≤ i ∧ i < 19 ∧ c' = 1 + (i - 7) % 2 ∧ j' = (i - 7) / 2) ∨ (19 ≤ i ∧ c' = 3 + (i - 19) % 6 ∧ j' = (i - 19) / 6)) := by
  by_cases h1 : i < 7
  · exact ⟨0, i, fun T => by simp [zflat, h1], Or.inl ⟨h1, rfl, rfl⟩⟩
  · by_cases h2 : i < 19
    · exact ⟨_, _, fun T => by simp only [zflat, h1, h2, if_true, if_false], Or.inr (Or.inl ⟨by omega, h2, rfl, rfl⟩)⟩
    · exact ⟨_, _, fun T => by simp only [zflat, h1, h2, if_false], Or.inr (Or.inr ⟨by omega, rfl, rfl⟩)⟩
theorem zflat_usc (S : zT) {k : Nat} (v : Int32) (h : k < 7) : upd (zflat S) k v = zflat (zU S 0 k v) := by
  refine zflat_u S v (fun T => zflat_sc T h) (fun i hi => ?_)
  obtain ⟨c', j', h1, h2⟩ := zflat_ix i
  exact ⟨c', j', h1, by omega⟩
theorem zflat_uro (S : zT) {r w : Nat} (v : Int32) (hr : r < 6) (hw : w < 2) : upd (zflat S) (7 + 2 * r + w) v = zflat (zU S (1 + w) r v) := by
  refine zflat_u S v (fun T => zflat_ro T hr hw) (fun i hi => ?_)
  obtain ⟨c', j', h1, h2⟩ := zflat_ix i
  exact ⟨c', j', h1, by omega⟩
theorem zflat_uit (S : zT) {h w : Nat} (v : Int32) (hw : w < 6) : upd (zflat S) (19 + 6 * h + w) v = zflat (zU S (3 + w) h v) := by
  refine zflat_u S v (fun T => zflat_it T hw) (fun i hi => ?_)
  obtain ⟨c', j', h1, h2⟩ := zflat_ix i
  exact ⟨c', j', h1, by omega⟩
/-- a town of the class -/
def zTW (x : zX) (t : Nat → Nat) (S : zT) (lk : Int32) : va_W := [(t 0, .inr (2, [.int (S 0 1), .int (S 0 2), .int (S 0 3), .int (S 0 4), .int (S 0 5), .int (S 0 6), .int lk, .ref (t 1), .ref (t 2), .int (S 0 0), .ref (t 3), .ref (t 4), .ref (t 5), .ref (t 6), .ref (t 7), .ref (t 8)])), (t 1, .inl (zI x, 6, .inl (S 1))), (t 2, .inl (zI x, 6, .inl (S 2))), (t 3, .inl (zI x, 8, .inl (S 3))), (t 4, .inl (zI x, 8, .inl (S 4))), (t 5, .inl (zI x, 8, .inl (S 5))), (t 6, .inl (zI x, 8, .inl (S 6))), (t 7, .inl (zI x, 8, .inl (S 7))), (t 8, .inl (zI x, 8, .inl (S 8)))]
/-- the reference: f what s holds; g 2 keptS, 3 other, 4 aside, 5 statuses, 6 tape, 7 bitsOf, 8 sizeOf; nu 0 numbers, 1 moved; q 0 isKept, 1 taped, 2 from, 3 to, 4 value, 5 isWrong -/
def zMW (x : zX) (a : Nat → Nat) (q : Nat → Int32) (g : zT) (nu : Nat → Nat → Int64) (f : Nat → Int32) : va_W := [(a 0, .inr (4, [.ref (a 1), .ref (a 2), .ref (a 3), .ref (a 4), .ref (a 5), .int (q 0), .ref (a 6), .int (q 1), .int (q 2), .int (q 3), .int (q 4), .int (q 5), .ref (a 7), .ref (a 8), .ref (a 9), .ref (a 10)])), (a 1, .inl (zI x, 67, .inl f)), (a 2, .inl (zI x, 67, .inl (g 2))), (a 3, .inl (zI x, 67, .inl (g 3))), (a 4, .inl (zI x, 67, .inl (g 4))), (a 5, .inl (zI x, 7, .inl (g 5))), (a 6, .inl (zI x, 120, .inl (g 6))), (a 7, .inl (zI x, 4, .inl (g 7))), (a 8, .inl (zI x, 4, .inl (g 8))), (a 9, .inl (zJ x, 160, .inr (.inl (nu 0)))), (a 10, .inl (zJ x, 40, .inr (.inl (nu 1))))]
/-- numbers within bounds -/
def zIn (v : Int32) (b : Nat) : Prop := ∃ n : Nat, n ≤ b ∧ v = nI n
def zbd (c j : Nat) : Nat := if c = 0 then (if j = 0 then 8 else if j = 4 then 6 else if j = 5 then 1 else 99999) else if c = 1 then 99 else if c = 2 then 1 else if c = 3 then 5 else if c = 4 then 5 else if c = 5 then 99 else if c = 6 then 2 else if c = 7 then 999 else 1
def zln (c : Nat) : Nat := if c = 0 then 7 else if c < 3 then 6 else 8
def zInv (S : zT) : Prop := ∀ c j, c < 9 → j < zln c → ¬ (c = 0 ∧ (j = 1 ∨ j = 6)) → zIn (S c j) (zbd c j)
theorem zInv.u {S : zT} (h : zInv S) {c j : Nat} {v : Int32} (hv : (c = 0 ∧ (j = 1 ∨ j = 6)) ∨ zIn v (zbd c j)) : zInv (zU S c j v) := by
  intro c' j' h1 h2 h3
  by_cases e : c' = c ∧ j' = j
  · obtain ⟨rfl, rfl⟩ := e
    rw [zU_at]
    rcases hv with hv | hv
    · exact absurd hv h3
    · exact hv
  · rw [zU_ne S v e]; exact h c' j' h1 h2 h3
theorem zInv.holes {S : zT} (h : zInv S) : ∃ n : Nat, n ≤ 8 ∧ S 0 0 = nI n := h 0 0 (by decide) (by decide) (by decide)
theorem zInv.col {S : zT} (h : zInv S) (c j : Nat) (hc : 0 < c) (hc2 : c < 9) (hj : j < zln c) : ∃ n : Nat, n ≤ zbd c j ∧ S c j = nI n := h c j hc2 hj (by omega)
/-- answers of tests -/
def zb (p : Prop) [Decidable p] : Int32 := if p then 1 else 0
theorem zb_t {p : Prop} [Decidable p] (h : p) : zb p = 1 := if_pos h
theorem zb_f {p : Prop} [Decidable p] (h : ¬ p) : zb p = 0 := if_neg h
theorem zb_0 {p : Prop} [Decidable p] : zb p = 0 ↔ ¬ p := by unfold zb; by_cases h : p <;> simp [h]
theorem zb_n0 {p : Prop} [Decidable p] : ¬ zb p = 0 ↔ p := by unfold zb; by_cases h : p <;> simp [h]
theorem zb2i_nar (p : Prop) [Decidable p] : narrow .boolean (.int (zb p)) = .int (zb p) := by unfold zb; by_cases h : p <;> simp [h] <;> decide
theorem zmath : Cond.initialized "java/lang/Math" ∈ zGW := zgw (i := 59) (by decide +kernel) rfl
theorem zti {y z : Int32} (h : ¬ y = z) : y.toInt ≠ z.toInt := fun e => h (Int32.toInt_inj.mp e)
theorem zout1 {y : Int32} (k0 : ¬ y = 0) : y.toInt < 0 ∨ 0 < y.toInt := by
  have h0 : y.toInt ≠ 0 := zti k0
  omega
theorem zout2 {y : Int32} (k0 : ¬ y = 0) (k1 : ¬ y = 1) : y.toInt < 0 ∨ 1 < y.toInt := by
  have h0 : y.toInt ≠ 0 := zti k0
  have h1 : y.toInt ≠ 1 := zti k1
  omega
theorem zout3 {y : Int32} (k0 : ¬ y = 0) (k1 : ¬ y = 1) (k2 : ¬ y = 2) : y.toInt < 0 ∨ 2 < y.toInt := by
  have h0 : y.toInt ≠ 0 := zti k0
  have h1 : y.toInt ≠ 1 := zti k1
  have h2 : y.toInt ≠ 2 := zti k2
  omega
theorem zout4 {y : Int32} (k0 : ¬ y = 0) (k1 : ¬ y = 1) (k2 : ¬ y = 2) (k3 : ¬ y = 3) : y.toInt < 0 ∨ 3 < y.toInt := by
  have h0 : y.toInt ≠ 0 := zti k0
  have h1 : y.toInt ≠ 1 := zti k1
  have h2 : y.toInt ≠ 2 := zti k2
  have h3 : y.toInt ≠ 3 := zti k3
  omega
theorem zout5 {y : Int32} (k0 : ¬ y = 0) (k1 : ¬ y = 1) (k2 : ¬ y = 2) (k3 : ¬ y = 3) (k4 : ¬ y = 4) : y.toInt < 0 ∨ 4 < y.toInt := by
  have h0 : y.toInt ≠ 0 := zti k0
  have h1 : y.toInt ≠ 1 := zti k1
  have h2 : y.toInt ≠ 2 := zti k2
  have h3 : y.toInt ≠ 3 := zti k3
  have h4 : y.toInt ≠ 4 := zti k4
  omega
theorem zout6 {y : Int32} (k0 : ¬ y = 0) (k1 : ¬ y = 1) (k2 : ¬ y = 2) (k3 : ¬ y = 3) (k4 : ¬ y = 4) (k5 : ¬ y = 5) : y.toInt < 0 ∨ 5 < y.toInt := by
  have h0 : y.toInt ≠ 0 := zti k0
  have h1 : y.toInt ≠ 1 := zti k1
  have h2 : y.toInt ≠ 2 := zti k2
  have h3 : y.toInt ≠ 3 := zti k3
  have h4 : y.toInt ≠ 4 := zti k4
  have h5 : y.toInt ≠ 5 := zti k5
  omega
theorem zout7 {y : Int32} (k0 : ¬ y = 0) (k1 : ¬ y = 1) (k2 : ¬ y = 2) (k3 : ¬ y = 3) (k4 : ¬ y = 4) (k5 : ¬ y = 5) (k6 : ¬ y = 6) : y.toInt < 0 ∨ 6 < y.toInt := by
  have h0 : y.toInt ≠ 0 := zti k0
  have h1 : y.toInt ≠ 1 := zti k1
  have h2 : y.toInt ≠ 2 := zti k2
  have h3 : y.toInt ≠ 3 := zti k3
  have h4 : y.toInt ≠ 4 := zti k4
  have h5 : y.toInt ≠ 5 := zti k5
  have h6 : y.toInt ≠ 6 := zti k6
  omega
theorem zout8 {y : Int32} (k0 : ¬ y = 0) (k1 : ¬ y = 1) (k2 : ¬ y = 2) (k3 : ¬ y = 3) (k4 : ¬ y = 4) (k5 : ¬ y = 5) (k6 : ¬ y = 6) (k7 : ¬ y = 7) : y.toInt < 0 ∨ 7 < y.toInt := by
  have h0 : y.toInt ≠ 0 := zti k0
  have h1 : y.toInt ≠ 1 := zti k1
  have h2 : y.toInt ≠ 2 := zti k2
  have h3 : y.toInt ≠ 3 := zti k3
  have h4 : y.toInt ≠ 4 := zti k4
  have h5 : y.toInt ≠ 5 := zti k5
  have h6 : y.toInt ≠ 6 := zti k6
  have h7 : y.toInt ≠ 7 := zti k7
  omega
theorem zout9 {y : Int32} (k0 : ¬ y = 0) (k1 : ¬ y = 1) (k2 : ¬ y = 2) (k3 : ¬ y = 3) (k4 : ¬ y = 4) (k5 : ¬ y = 5) (k6 : ¬ y = 6) (k7 : ¬ y = 7) (k8 : ¬ y = 8) : y.toInt < 0 ∨ 8 < y.toInt := by
  have h0 : y.toInt ≠ 0 := zti k0
  have h1 : y.toInt ≠ 1 := zti k1
  have h2 : y.toInt ≠ 2 := zti k2
  have h3 : y.toInt ≠ 3 := zti k3
  have h4 : y.toInt ≠ 4 := zti k4
  have h5 : y.toInt ≠ 5 := zti k5
  have h6 : y.toInt ≠ 6 := zti k6
  have h7 : y.toInt ≠ 7 := zti k7
  have h8 : y.toInt ≠ 8 := zti k8
  omega
theorem zout10 {y : Int32} (k0 : ¬ y = 0) (k1 : ¬ y = 1) (k2 : ¬ y = 2) (k3 : ¬ y = 3) (k4 : ¬ y = 4) (k5 : ¬ y = 5) (k6 : ¬ y = 6) (k7 : ¬ y = 7) (k8 : ¬ y = 8) (k9 : ¬ y = 9) : y.toInt < 0 ∨ 9 < y.toInt := by
  have h0 : y.toInt ≠ 0 := zti k0
  have h1 : y.toInt ≠ 1 := zti k1
  have h2 : y.toInt ≠ 2 := zti k2
  have h3 : y.toInt ≠ 3 := zti k3
  have h4 : y.toInt ≠ 4 := zti k4
  have h5 : y.toInt ≠ 5 := zti k5
  have h6 : y.toInt ≠ 6 := zti k6
  have h7 : y.toInt ≠ 7 := zti k7
  have h8 : y.toInt ≠ 8 := zti k8
  have h9 : y.toInt ≠ 9 := zti k9
  omega
theorem zout11 {y : Int32} (k0 : ¬ y = 0) (k1 : ¬ y = 1) (k2 : ¬ y = 2) (k3 : ¬ y = 3) (k4 : ¬ y = 4) (k5 : ¬ y = 5) (k6 : ¬ y = 6) (k7 : ¬ y = 7) (k8 : ¬ y = 8) (k9 : ¬ y = 9) (k10 : ¬ y = 10) : y.toInt < 0 ∨ 10 < y.toInt := by
  have h0 : y.toInt ≠ 0 := zti k0
  have h1 : y.toInt ≠ 1 := zti k1
  have h2 : y.toInt ≠ 2 := zti k2
  have h3 : y.toInt ≠ 3 := zti k3
  have h4 : y.toInt ≠ 4 := zti k4
  have h5 : y.toInt ≠ 5 := zti k5
  have h6 : y.toInt ≠ 6 := zti k6
  have h7 : y.toInt ≠ 7 := zti k7
  have h8 : y.toInt ≠ 8 := zti k8
  have h9 : y.toInt ≠ 9 := zti k9
  have h10 : y.toInt ≠ 10 := zti k10
  omega
theorem zoutp1 {y : Int32} (k1 : ¬ y = 1) : y.toInt < 1 ∨ 1 < y.toInt := by
  have h1 : y.toInt ≠ 1 := zti k1
  omega
theorem zoutp2 {y : Int32} (k1 : ¬ y = 1) (k2 : ¬ y = 2) : y.toInt < 1 ∨ 2 < y.toInt := by
  have h1 : y.toInt ≠ 1 := zti k1
  have h2 : y.toInt ≠ 2 := zti k2
  omega
theorem zoutp3 {y : Int32} (k1 : ¬ y = 1) (k2 : ¬ y = 2) (k3 : ¬ y = 3) : y.toInt < 1 ∨ 3 < y.toInt := by
  have h1 : y.toInt ≠ 1 := zti k1
  have h2 : y.toInt ≠ 2 := zti k2
  have h3 : y.toInt ≠ 3 := zti k3
  omega
theorem zoutp4 {y : Int32} (k1 : ¬ y = 1) (k2 : ¬ y = 2) (k3 : ¬ y = 3) (k4 : ¬ y = 4) : y.toInt < 1 ∨ 4 < y.toInt := by
  have h1 : y.toInt ≠ 1 := zti k1
  have h2 : y.toInt ≠ 2 := zti k2
  have h3 : y.toInt ≠ 3 := zti k3
  have h4 : y.toInt ≠ 4 := zti k4
  omega
theorem zoutp5 {y : Int32} (k1 : ¬ y = 1) (k2 : ¬ y = 2) (k3 : ¬ y = 3) (k4 : ¬ y = 4) (k5 : ¬ y = 5) : y.toInt < 1 ∨ 5 < y.toInt := by
  have h1 : y.toInt ≠ 1 := zti k1
  have h2 : y.toInt ≠ 2 := zti k2
  have h3 : y.toInt ≠ 3 := zti k3
  have h4 : y.toInt ≠ 4 := zti k4
  have h5 : y.toInt ≠ 5 := zti k5
  omega
theorem zoutp6 {y : Int32} (k1 : ¬ y = 1) (k2 : ¬ y = 2) (k3 : ¬ y = 3) (k4 : ¬ y = 4) (k5 : ¬ y = 5) (k6 : ¬ y = 6) : y.toInt < 1 ∨ 6 < y.toInt := by
  have h1 : y.toInt ≠ 1 := zti k1
  have h2 : y.toInt ≠ 2 := zti k2
  have h3 : y.toInt ≠ 3 := zti k3
  have h4 : y.toInt ≠ 4 := zti k4
  have h5 : y.toInt ≠ 5 := zti k5
  have h6 : y.toInt ≠ 6 := zti k6
  omega
theorem zoutp7 {y : Int32} (k1 : ¬ y = 1) (k2 : ¬ y = 2) (k3 : ¬ y = 3) (k4 : ¬ y = 4) (k5 : ¬ y = 5) (k6 : ¬ y = 6) (k7 : ¬ y = 7) : y.toInt < 1 ∨ 7 < y.toInt := by
  have h1 : y.toInt ≠ 1 := zti k1
  have h2 : y.toInt ≠ 2 := zti k2
  have h3 : y.toInt ≠ 3 := zti k3
  have h4 : y.toInt ≠ 4 := zti k4
  have h5 : y.toInt ≠ 5 := zti k5
  have h6 : y.toInt ≠ 6 := zti k6
  have h7 : y.toInt ≠ 7 := zti k7
  omega
theorem zoutp8 {y : Int32} (k1 : ¬ y = 1) (k2 : ¬ y = 2) (k3 : ¬ y = 3) (k4 : ¬ y = 4) (k5 : ¬ y = 5) (k6 : ¬ y = 6) (k7 : ¬ y = 7) (k8 : ¬ y = 8) : y.toInt < 1 ∨ 8 < y.toInt := by
  have h1 : y.toInt ≠ 1 := zti k1
  have h2 : y.toInt ≠ 2 := zti k2
  have h3 : y.toInt ≠ 3 := zti k3
  have h4 : y.toInt ≠ 4 := zti k4
  have h5 : y.toInt ≠ 5 := zti k5
  have h6 : y.toInt ≠ 6 := zti k6
  have h7 : y.toInt ≠ 7 := zti k7
  have h8 : y.toInt ≠ 8 := zti k8
  omega
theorem zoutp9 {y : Int32} (k1 : ¬ y = 1) (k2 : ¬ y = 2) (k3 : ¬ y = 3) (k4 : ¬ y = 4) (k5 : ¬ y = 5) (k6 : ¬ y = 6) (k7 : ¬ y = 7) (k8 : ¬ y = 8) (k9 : ¬ y = 9) : y.toInt < 1 ∨ 9 < y.toInt := by
  have h1 : y.toInt ≠ 1 := zti k1
  have h2 : y.toInt ≠ 2 := zti k2
  have h3 : y.toInt ≠ 3 := zti k3
  have h4 : y.toInt ≠ 4 := zti k4
  have h5 : y.toInt ≠ 5 := zti k5
  have h6 : y.toInt ≠ 6 := zti k6
  have h7 : y.toInt ≠ 7 := zti k7
  have h8 : y.toInt ≠ 8 := zti k8
  have h9 : y.toInt ≠ 9 := zti k9
  omega
theorem zoutp10 {y : Int32} (k1 : ¬ y = 1) (k2 : ¬ y = 2) (k3 : ¬ y = 3) (k4 : ¬ y = 4) (k5 : ¬ y = 5) (k6 : ¬ y = 6) (k7 : ¬ y = 7) (k8 : ¬ y = 8) (k9 : ¬ y = 9) (k10 : ¬ y = 10) : y.toInt < 1 ∨ 10 < y.toInt := by
  have h1 : y.toInt ≠ 1 := zti k1
  have h2 : y.toInt ≠ 2 := zti k2
  have h3 : y.toInt ≠ 3 := zti k3
  have h4 : y.toInt ≠ 4 := zti k4
  have h5 : y.toInt ≠ 5 := zti k5
  have h6 : y.toInt ≠ 6 := zti k6
  have h7 : y.toInt ≠ 7 := zti k7
  have h8 : y.toInt ≠ 8 := zti k8
  have h9 : y.toInt ≠ 9 := zti k9
  have h10 : y.toInt ≠ 10 := zti k10
  omega
theorem zoutp11 {y : Int32} (k1 : ¬ y = 1) (k2 : ¬ y = 2) (k3 : ¬ y = 3) (k4 : ¬ y = 4) (k5 : ¬ y = 5) (k6 : ¬ y = 6) (k7 : ¬ y = 7) (k8 : ¬ y = 8) (k9 : ¬ y = 9) (k10 : ¬ y = 10) (k11 : ¬ y = 11) : y.toInt < 1 ∨ 11 < y.toInt := by
  have h1 : y.toInt ≠ 1 := zti k1
  have h2 : y.toInt ≠ 2 := zti k2
  have h3 : y.toInt ≠ 3 := zti k3
  have h4 : y.toInt ≠ 4 := zti k4
  have h5 : y.toInt ≠ 5 := zti k5
  have h6 : y.toInt ≠ 6 := zti k6
  have h7 : y.toInt ≠ 7 := zti k7
  have h8 : y.toInt ≠ 8 := zti k8
  have h9 : y.toInt ≠ 9 := zti k9
  have h10 : y.toInt ≠ 10 := zti k10
  have h11 : y.toInt ≠ 11 := zti k11
  omega
end
section
/-! WHAT THE KINDS DIFFER IN -/
abbrev zFr (w : Int32) : Prop := w < 10 ∨ 46 ≤ w
def zPl (w t : Int32) : Int32 := 1 + t / 10 + (if zFr w then 2 else 0)
def zGr (k z w t : Int32) : Int32 := if k = 1 then zPl w t + z / 20 else if k = 2 then 1 else if k = 3 then zPl w t + (if w - w / 9 * 9 = 0 then 3 else 0) else if k = 4 then zPl w t + z / 20 - 1 else if k = 5 then (if zFr w then 2 else 1) else zPl w t
def zHp (f : Int32) : Int32 := if f = 2 then 40 else 3
def zHd (k f : Int32) : Int32 := if k = 1 then zHp f - 1 else if k = 2 then zHp f + 5 else if k = 3 then zHp f / 2 else if k = 4 then zHp f - 1 else if k = 5 then (zHp f + 5) * 2 else zHp f
def zCp (k z : Int32) : Int32 := if k = 1 then 5 + z / 10 + 3 else if k = 2 then 2 else if k = 4 then 5 + z / 10 + 1 else if k = 5 then 3 else 5 + z / 10
def zPr (k z how : Int32) : Int32 := if how = 0 then zCp k z else 11 * zCp k z
abbrev zUn (k a : Int32) : Prop := a = 0 ∨ k = a ∨ (a = 1 ∧ k = 4) ∨ (a = 2 ∧ k = 5)
theorem zPl_pos {w t : Int32} (ht : zIn t 99) : ∃ n : Nat, 1 ≤ n ∧ n ≤ 12 ∧ zPl w t = nI n := by
  obtain ⟨n, hn, rfl⟩ := ht
  have e : nI n / 10 = nI (n / 10) := pk_div (a := n) (d := 10) (by omega) (by omega) (by omega)
  unfold zPl
  rw [e]
  by_cases h : zFr w
  · rw [if_pos h]; exact ⟨1 + n / 10 + 2, by omega, by omega, by rw [show (1 : Int32) = nI 1 from rfl, show (2 : Int32) = nI 2 from rfl, nI_add, nI_add]⟩
  · rw [if_neg h]; exact ⟨1 + n / 10 + 0, by omega, by omega, by rw [show (1 : Int32) = nI 1 from rfl, show (0 : Int32) = nI 0 from rfl, nI_add, nI_add]⟩
theorem zBa_pos {w t z : Int32} (ht : zIn t 99) (hz : zIn z 99) : ∃ n : Nat, 1 ≤ n ∧ n ≤ 16 ∧ zPl w t + z / 20 = nI n := by
  obtain ⟨n, h1, h2, e⟩ := zPl_pos (w := w) ht
  obtain ⟨k, hk, rfl⟩ := hz
  have e2 : nI k / 20 = nI (k / 20) := pk_div (a := k) (d := 20) (by omega) (by omega) (by omega)
  exact ⟨n + k / 20, by omega, by omega, by rw [e, e2, nI_add]⟩
theorem zDu {w t z : Int32} (ht : zIn t 99) (hz : zIn z 99) : (if (0 : Int32) < zPl w t + z / 20 - 1 then zPl w t + z / 20 - 1 else 0) = zPl w t + z / 20 - 1 := by
  obtain ⟨n, h1, h2, e⟩ := zBa_pos (w := w) ht hz
  obtain ⟨k, rfl⟩ : ∃ k, n = k + 1 := ⟨n - 1, by omega⟩
  rw [e, nI_pred]
  by_cases h : (0 : Int32) < nI k
  · rw [if_pos h]
  · rw [if_neg h]
    rcases Nat.eq_zero_or_pos k with rfl | hp
    · rfl
    · exact absurd (nI_lt (a := 0) (b := k) hp (by omega)) h
theorem zsi {y z : Int32} (h : y = z) : some (Value.int y) = some (Value.int z) := by rw [h]
theorem zsl {y z : Int64} (h : y = z) : some (Value.long y) = some (Value.long z) := by rw [h]
end
section
set_option maxHeartbeats 4000000 in
set_option maxRecDepth 100000 in
theorem c_X0_isFrost (x : zX) (w : va_W) (v : Int32) : zFF x mX0_isFrost 0 [.int v] (w) (some (.int (zb (zFr v)))) (w) := by
  refine zFG.start RX0 cX0_isFrost 1 (some .boolean) rfl rfl (by decide +kernel) (Nat.le_of_ble_eq_true rfl) ?_
  intro p e s m ar below meth c ls A Q hx hb hr hml hown hts hlocks hK hE hA hQ hl hw
  have hl : lv_has ls 1 [(0, .int v)] := hl
  have hw : zHw x A s.heap (w) s.heap [] := hw
  refine lv_iload_n hx hb dX0_isFrost_0 rfl (lv_at hl 0 rfl) ?_
  refine lv_bipush (v := 10) hx hb dX0_isFrost_1 (by decide) ?_
  refine lv_icmp_lt (tgt := 12) hx hb dX0_isFrost_3 (by decide) (fun c3 => ?_) (fun c3 => ?_)
  · refine lv_iconst (v := 1) hx hb dX0_isFrost_12 (by decide) ?_
    refine lv_goto (tgt := 17) hx hb dX0_isFrost_13 (by decide) ?_
    exact zFG.zret hx hb hr hlocks hQ hw rfl dX0_isFrost_17 (by decide) ⟨by simp [zb, zFr, c3], rfl⟩
  · refine lv_iload_n hx hb dX0_isFrost_6 rfl (lv_at hl 0 rfl) ?_
    refine lv_bipush (v := 46) hx hb dX0_isFrost_7 (by decide) ?_
    refine lv_icmp_lt (tgt := 16) hx hb dX0_isFrost_9 (by decide) (fun c9 => ?_) (fun c9 => ?_)
    · refine lv_iconst (v := 0) hx hb dX0_isFrost_16 (by decide) ?_
      exact zFG.zret hx hb hr hlocks hQ hw rfl dX0_isFrost_17 (by decide) ⟨by simp [zb, zFr, c3, c9], rfl⟩
    · refine lv_iconst (v := 1) hx hb dX0_isFrost_12 (by decide) ?_
      refine lv_goto (tgt := 17) hx hb dX0_isFrost_13 (by decide) ?_
      exact zFG.zret hx hb hr hlocks hQ hw rfl dX0_isFrost_17 (by decide) ⟨by simp [zb, zFr, c3, c9], rfl⟩

set_option maxHeartbeats 4000000 in
set_option maxRecDepth 100000 in
theorem c_X0_growth (x : zX) (w : va_W) (k z v t : Int32) (ht : zIn t 99) (hz : zIn z 99) : zFF x mX0_growth 1 [.int k, .int z, .int v, .int t] (w) (some (.int (zGr k z v t))) (w) := by
  refine zFG.start RX0 cX0_growth 7 (some .int) rfl rfl (by decide +kernel) (Nat.le_of_ble_eq_true rfl) ?_
  intro p e s m ar below meth c ls A Q hx hb hr hml hown hts hlocks hK hE hA hQ hl hw
  have hl : lv_has ls 7 [(0, .int k), (1, .int z), (2, .int v), (3, .int t)] := hl
  have hw : zHw x A s.heap (w) s.heap [] := hw
  refine lv_iload_n hx hb dX0_growth_0 rfl (lv_at hl 2 rfl) ?_
  refine zcSwi hx hb hml hown hts hl.1 hK hE hA lkX0_9 (c_X0_isFrost x (w) v) ⟨Nat.le_of_ble_eq_true rfl, Nat.le_of_ble_eq_true rfl⟩ ⟨Nat.zero_le _, Nat.zero_le _⟩ hw rfl rfl (Nat.le_of_ble_eq_true rfl) dX0_growth_1 (fun H locs hw => ?_)
  have hw : zHw x A s.heap (w) H locs := hw
  refine lv_istore (lv' := [(4, .int (zb (zFr v))), (0, .int k), (1, .int z), (2, .int v), (3, .int t)]) hx hb dX0_growth_4 hl (by decide) rfl (fun ls hl => ?_)
  refine lv_iconst (v := 1) hx hb dX0_growth_6 (by decide) ?_
  refine lv_iload_n hx hb dX0_growth_7 rfl (lv_at hl 4 rfl) ?_
  refine lv_bipush (v := 10) hx hb dX0_growth_8 (by decide) ?_
  refine lv_idiv hx hb dX0_growth_10 (by decide) ?_
  refine lv_iadd hx hb dX0_growth_11 ?_
  refine lv_iload hx hb dX0_growth_12 (lv_at hl 0 rfl) ?_
  refine lv_if_eq (tgt := 21) hx hb dX0_growth_14 (by decide) (fun c14 => ?_) (fun c14 => ?_)
  · have c14 := zb_0.mp c14
    refine lv_iconst (v := 0) hx hb dX0_growth_21 (by decide) ?_
    refine lv_iadd hx hb dX0_growth_22 ?_
    refine lv_istore (lv' := [(5, .int ((1 + (t / 10)) + 0)), (4, .int (zb (zFr v))), (0, .int k), (1, .int z), (2, .int v), (3, .int t)]) hx hb dX0_growth_23 hl (by decide) rfl (fun ls hl => ?_)
    refine lv_iload hx hb dX0_growth_25 (lv_at hl 0 rfl) ?_
    refine lv_iload_n hx hb dX0_growth_27 rfl (lv_at hl 3 rfl) ?_
    refine lv_bipush (v := 20) hx hb dX0_growth_28 (by decide) ?_
    refine lv_idiv hx hb dX0_growth_30 (by decide) ?_
    refine lv_iadd hx hb dX0_growth_31 ?_
    refine lv_istore (lv' := [(6, .int (((1 + (t / 10)) + 0) + (z / 20))), (5, .int ((1 + (t / 10)) + 0)), (4, .int (zb (zFr v))), (0, .int k), (1, .int z), (2, .int v), (3, .int t)]) hx hb dX0_growth_32 hl (by decide) rfl (fun ls hl => ?_)
    refine lv_iload_n hx hb dX0_growth_34 rfl (lv_at hl 3 rfl) ?_
    rcases Decidable.em (k = 1) with k1 | k1
    · refine W.eq (g2 := F0 m 35 ls (.int 1 :: [])) (by rw [k1]) ?_
      refine lv_tableIn (off := 33) (tgt := 68) hx hb dX0_growth_35 (by decide) (by decide) (by decide) (by decide) ?_
      refine lv_iload hx hb dX0_growth_68 (lv_at hl 0 rfl) ?_
      exact zFG.iret hx hb hr hlocks hQ hw rfl dX0_growth_70 ⟨by simp [zGr, zPl, c14, k1], rfl⟩
    rcases Decidable.em (k = 2) with k2 | k2
    · refine W.eq (g2 := F0 m 35 ls (.int 2 :: [])) (by rw [k2]) ?_
      refine lv_tableIn (off := 36) (tgt := 71) hx hb dX0_growth_35 (by decide) (by decide) (by decide) (by decide) ?_
      refine lv_iconst (v := 1) hx hb dX0_growth_71 (by decide) ?_
      exact zFG.iret hx hb hr hlocks hQ hw rfl dX0_growth_72 ⟨by simp [zGr, zPl, c14, k1, k2], rfl⟩
    rcases Decidable.em (k = 3) with k3 | k3
    · refine W.eq (g2 := F0 m 35 ls (.int 3 :: [])) (by rw [k3]) ?_
      refine lv_tableIn (off := 38) (tgt := 73) hx hb dX0_growth_35 (by decide) (by decide) (by decide) (by decide) ?_
      refine lv_iload hx hb dX0_growth_73 (lv_at hl 1 rfl) ?_
      refine lv_iload_n hx hb dX0_growth_75 rfl (lv_at hl 5 rfl) ?_
      refine lv_bipush (v := 9) hx hb dX0_growth_76 (by decide) ?_
      refine lv_irem hx hb dX0_growth_78 (by decide) ?_
      refine lv_if_ne (tgt := 86) hx hb dX0_growth_79 (by decide) (fun c79 => ?_) (fun c79 => ?_)
      · refine lv_iconst (v := 0) hx hb dX0_growth_86 (by decide) ?_
        refine lv_iadd hx hb dX0_growth_87 ?_
        exact zFG.iret hx hb hr hlocks hQ hw rfl dX0_growth_88 ⟨by simp [zGr, zPl, c14, k1, k2, k3, c79], rfl⟩
      · refine lv_iconst (v := 3) hx hb dX0_growth_82 (by decide) ?_
        refine lv_goto (tgt := 87) hx hb dX0_growth_83 (by decide) ?_
        refine lv_iadd hx hb dX0_growth_87 ?_
        exact zFG.iret hx hb hr hlocks hQ hw rfl dX0_growth_88 ⟨by simp [zGr, zPl, c14, k1, k2, k3, c79], rfl⟩
    rcases Decidable.em (k = 4) with k4 | k4
    · refine W.eq (g2 := F0 m 35 ls (.int 4 :: [])) (by rw [k4]) ?_
      refine lv_tableIn (off := 54) (tgt := 89) hx hb dX0_growth_35 (by decide) (by decide) (by decide) (by decide) ?_
      refine lv_iconst (v := 0) hx hb dX0_growth_89 (by decide) ?_
      refine lv_iload hx hb dX0_growth_90 (lv_at hl 0 rfl) ?_
      refine lv_iconst (v := 1) hx hb dX0_growth_92 (by decide) ?_
      refine lv_isub hx hb dX0_growth_93 ?_
      refine zmax hx hb (hml.trans hl.1.symm) hown hts lkX0_15 zmath ⟨Nat.le_of_ble_eq_true rfl, Nat.le_of_ble_eq_true rfl, Nat.zero_le _, Nat.zero_le _⟩ dX0_growth_94 ?_
      exact zFG.iret hx hb hr hlocks hQ hw rfl dX0_growth_97 ⟨by have := zDu (w := v) (t := t) (z := z) ht hz; simp [zGr, zPl, c14, k1, k2, k3, k4] at this ⊢; exact this, rfl⟩
    rcases Decidable.em (k = 5) with k5 | k5
    · refine W.eq (g2 := F0 m 35 ls (.int 5 :: [])) (by rw [k5]) ?_
      refine lv_tableIn (off := 63) (tgt := 98) hx hb dX0_growth_35 (by decide) (by decide) (by decide) (by decide) ?_
      refine lv_iload hx hb dX0_growth_98 (lv_at hl 2 rfl) ?_
      refine lv_if_eq (tgt := 107) hx hb dX0_growth_100 (by decide) (fun c100 => ?_) (fun c100 => absurd (zb_0.mpr c14) c100)
      refine lv_iconst (v := 1) hx hb dX0_growth_107 (by decide) ?_
      exact zFG.iret hx hb hr hlocks hQ hw rfl dX0_growth_108 ⟨by simp [zGr, zPl, c14, k1, k2, k3, k4, k5], rfl⟩
    refine lv_tableOut (tgt := 109) hx hb dX0_growth_35 (zoutp5 k1 k2 k3 k4 k5) (by decide) ?_
    refine lv_iload hx hb dX0_growth_109 (lv_at hl 1 rfl) ?_
    exact zFG.iret hx hb hr hlocks hQ hw rfl dX0_growth_111 ⟨by simp [zGr, zPl, c14, k1, k2, k3, k4, k5], rfl⟩
  · have c14 := zb_n0.mp c14
    refine lv_iconst (v := 2) hx hb dX0_growth_17 (by decide) ?_
    refine lv_goto (tgt := 22) hx hb dX0_growth_18 (by decide) ?_
    refine lv_iadd hx hb dX0_growth_22 ?_
    refine lv_istore (lv' := [(5, .int ((1 + (t / 10)) + 2)), (4, .int (zb (zFr v))), (0, .int k), (1, .int z), (2, .int v), (3, .int t)]) hx hb dX0_growth_23 hl (by decide) rfl (fun ls hl => ?_)
    refine lv_iload hx hb dX0_growth_25 (lv_at hl 0 rfl) ?_
    refine lv_iload_n hx hb dX0_growth_27 rfl (lv_at hl 3 rfl) ?_
    refine lv_bipush (v := 20) hx hb dX0_growth_28 (by decide) ?_
    refine lv_idiv hx hb dX0_growth_30 (by decide) ?_
    refine lv_iadd hx hb dX0_growth_31 ?_
    refine lv_istore (lv' := [(6, .int (((1 + (t / 10)) + 2) + (z / 20))), (5, .int ((1 + (t / 10)) + 2)), (4, .int (zb (zFr v))), (0, .int k), (1, .int z), (2, .int v), (3, .int t)]) hx hb dX0_growth_32 hl (by decide) rfl (fun ls hl => ?_)
    refine lv_iload_n hx hb dX0_growth_34 rfl (lv_at hl 3 rfl) ?_
    rcases Decidable.em (k = 1) with k1 | k1
    · refine W.eq (g2 := F0 m 35 ls (.int 1 :: [])) (by rw [k1]) ?_
      refine lv_tableIn (off := 33) (tgt := 68) hx hb dX0_growth_35 (by decide) (by decide) (by decide) (by decide) ?_
      refine lv_iload hx hb dX0_growth_68 (lv_at hl 0 rfl) ?_
      exact zFG.iret hx hb hr hlocks hQ hw rfl dX0_growth_70 ⟨by simp [zGr, zPl, c14, k1], rfl⟩
    rcases Decidable.em (k = 2) with k2 | k2
    · refine W.eq (g2 := F0 m 35 ls (.int 2 :: [])) (by rw [k2]) ?_
      refine lv_tableIn (off := 36) (tgt := 71) hx hb dX0_growth_35 (by decide) (by decide) (by decide) (by decide) ?_
      refine lv_iconst (v := 1) hx hb dX0_growth_71 (by decide) ?_
      exact zFG.iret hx hb hr hlocks hQ hw rfl dX0_growth_72 ⟨by simp [zGr, zPl, c14, k1, k2], rfl⟩
    rcases Decidable.em (k = 3) with k3 | k3
    · refine W.eq (g2 := F0 m 35 ls (.int 3 :: [])) (by rw [k3]) ?_
      refine lv_tableIn (off := 38) (tgt := 73) hx hb dX0_growth_35 (by decide) (by decide) (by decide) (by decide) ?_
      refine lv_iload hx hb dX0_growth_73 (lv_at hl 1 rfl) ?_
      refine lv_iload_n hx hb dX0_growth_75 rfl (lv_at hl 5 rfl) ?_
      refine lv_bipush (v := 9) hx hb dX0_growth_76 (by decide) ?_
      refine lv_irem hx hb dX0_growth_78 (by decide) ?_
      refine lv_if_ne (tgt := 86) hx hb dX0_growth_79 (by decide) (fun c79 => ?_) (fun c79 => ?_)
      · refine lv_iconst (v := 0) hx hb dX0_growth_86 (by decide) ?_
        refine lv_iadd hx hb dX0_growth_87 ?_
        exact zFG.iret hx hb hr hlocks hQ hw rfl dX0_growth_88 ⟨by simp [zGr, zPl, c14, k1, k2, k3, c79], rfl⟩
      · refine lv_iconst (v := 3) hx hb dX0_growth_82 (by decide) ?_
        refine lv_goto (tgt := 87) hx hb dX0_growth_83 (by decide) ?_
        refine lv_iadd hx hb dX0_growth_87 ?_
        exact zFG.iret hx hb hr hlocks hQ hw rfl dX0_growth_88 ⟨by simp [zGr, zPl, c14, k1, k2, k3, c79], rfl⟩
    rcases Decidable.em (k = 4) with k4 | k4
    · refine W.eq (g2 := F0 m 35 ls (.int 4 :: [])) (by rw [k4]) ?_
      refine lv_tableIn (off := 54) (tgt := 89) hx hb dX0_growth_35 (by decide) (by decide) (by decide) (by decide) ?_
      refine lv_iconst (v := 0) hx hb dX0_growth_89 (by decide) ?_
      refine lv_iload hx hb dX0_growth_90 (lv_at hl 0 rfl) ?_
      refine lv_iconst (v := 1) hx hb dX0_growth_92 (by decide) ?_
      refine lv_isub hx hb dX0_growth_93 ?_
      refine zmax hx hb (hml.trans hl.1.symm) hown hts lkX0_15 zmath ⟨Nat.le_of_ble_eq_true rfl, Nat.le_of_ble_eq_true rfl, Nat.zero_le _, Nat.zero_le _⟩ dX0_growth_94 ?_
      exact zFG.iret hx hb hr hlocks hQ hw rfl dX0_growth_97 ⟨by have := zDu (w := v) (t := t) (z := z) ht hz; simp [zGr, zPl, c14, k1, k2, k3, k4] at this ⊢; exact this, rfl⟩
    rcases Decidable.em (k = 5) with k5 | k5
    · refine W.eq (g2 := F0 m 35 ls (.int 5 :: [])) (by rw [k5]) ?_
      refine lv_tableIn (off := 63) (tgt := 98) hx hb dX0_growth_35 (by decide) (by decide) (by decide) (by decide) ?_
      refine lv_iload hx hb dX0_growth_98 (lv_at hl 2 rfl) ?_
      refine lv_if_eq (tgt := 107) hx hb dX0_growth_100 (by decide) (fun c100 => absurd c100 (zb_n0.mpr c14)) (fun c100 => ?_)
      refine lv_iconst (v := 2) hx hb dX0_growth_103 (by decide) ?_
      refine lv_goto (tgt := 108) hx hb dX0_growth_104 (by decide) ?_
      exact zFG.iret hx hb hr hlocks hQ hw rfl dX0_growth_108 ⟨by simp [zGr, zPl, c14, k1, k2, k3, k4, k5], rfl⟩
    refine lv_tableOut (tgt := 109) hx hb dX0_growth_35 (zoutp5 k1 k2 k3 k4 k5) (by decide) ?_
    refine lv_iload hx hb dX0_growth_109 (lv_at hl 1 rfl) ?_
    exact zFG.iret hx hb hr hlocks hQ hw rfl dX0_growth_111 ⟨by simp [zGr, zPl, c14, k1, k2, k3, k4, k5], rfl⟩

set_option maxHeartbeats 4000000 in
set_option maxRecDepth 100000 in
theorem c_X0_holds (x : zX) (w : va_W) (k f : Int32) : zFF x mX0_holds 0 [.int k, .int f] (w) (some (.int (zHd k f))) (w) := by
  refine zFG.start RX0 cX0_holds 3 (some .int) rfl rfl (by decide +kernel) (Nat.le_of_ble_eq_true rfl) ?_
  intro p e s m ar below meth c ls A Q hx hb hr hml hown hts hlocks hK hE hA hQ hl hw
  have hl : lv_has ls 3 [(0, .int k), (1, .int f)] := hl
  have hw : zHw x A s.heap (w) s.heap [] := hw
  refine lv_iload_n hx hb dX0_holds_0 rfl (lv_at hl 1 rfl) ?_
  refine lv_iconst (v := 2) hx hb dX0_holds_1 (by decide) ?_
  refine lv_icmp_ne (tgt := 10) hx hb dX0_holds_2 (by decide) (fun c2 => ?_) (fun c2 => ?_)
  · refine lv_iconst (v := 3) hx hb dX0_holds_10 (by decide) ?_
    refine lv_istore_n (lv' := [(2, .int 3), (0, .int k), (1, .int f)]) hx hb dX0_holds_11 rfl hl (by decide) rfl (fun ls hl => ?_)
    refine lv_iload_n hx hb dX0_holds_12 rfl (lv_at hl 1 rfl) ?_
    rcases Decidable.em (k = 1) with k1 | k1
    · refine W.eq (g2 := F0 m 13 ls (.int 1 :: [])) (by rw [k1]) ?_
      refine lv_tableIn (off := 35) (tgt := 48) hx hb dX0_holds_13 (by decide) (by decide) (by decide) (by decide) ?_
      refine lv_iload_n hx hb dX0_holds_48 rfl (lv_at hl 0 rfl) ?_
      refine lv_iconst (v := 1) hx hb dX0_holds_49 (by decide) ?_
      refine lv_isub hx hb dX0_holds_50 ?_
      exact zFG.iret hx hb hr hlocks hQ hw rfl dX0_holds_51 ⟨by simp [zHd, zHp, c2, k1], rfl⟩
    rcases Decidable.em (k = 2) with k2 | k2
    · refine W.eq (g2 := F0 m 13 ls (.int 2 :: [])) (by rw [k2]) ?_
      refine lv_tableIn (off := 39) (tgt := 52) hx hb dX0_holds_13 (by decide) (by decide) (by decide) (by decide) ?_
      refine lv_iload_n hx hb dX0_holds_52 rfl (lv_at hl 0 rfl) ?_
      refine lv_iconst (v := 5) hx hb dX0_holds_53 (by decide) ?_
      refine lv_iadd hx hb dX0_holds_54 ?_
      exact zFG.iret hx hb hr hlocks hQ hw rfl dX0_holds_55 ⟨by simp [zHd, zHp, c2, k1, k2], rfl⟩
    rcases Decidable.em (k = 3) with k3 | k3
    · refine W.eq (g2 := F0 m 13 ls (.int 3 :: [])) (by rw [k3]) ?_
      refine lv_tableIn (off := 43) (tgt := 56) hx hb dX0_holds_13 (by decide) (by decide) (by decide) (by decide) ?_
      refine lv_iload_n hx hb dX0_holds_56 rfl (lv_at hl 0 rfl) ?_
      refine lv_iconst (v := 2) hx hb dX0_holds_57 (by decide) ?_
      refine lv_idiv hx hb dX0_holds_58 (by decide) ?_
      exact zFG.iret hx hb hr hlocks hQ hw rfl dX0_holds_59 ⟨by simp [zHd, zHp, c2, k1, k2, k3], rfl⟩
    rcases Decidable.em (k = 4) with k4 | k4
    · refine W.eq (g2 := F0 m 13 ls (.int 4 :: [])) (by rw [k4]) ?_
      refine lv_tableIn (off := 35) (tgt := 48) hx hb dX0_holds_13 (by decide) (by decide) (by decide) (by decide) ?_
      refine lv_iload_n hx hb dX0_holds_48 rfl (lv_at hl 0 rfl) ?_
      refine lv_iconst (v := 1) hx hb dX0_holds_49 (by decide) ?_
      refine lv_isub hx hb dX0_holds_50 ?_
      exact zFG.iret hx hb hr hlocks hQ hw rfl dX0_holds_51 ⟨by simp [zHd, zHp, c2, k1, k2, k3, k4], rfl⟩
    rcases Decidable.em (k = 5) with k5 | k5
    · refine W.eq (g2 := F0 m 13 ls (.int 5 :: [])) (by rw [k5]) ?_
      refine lv_tableIn (off := 47) (tgt := 60) hx hb dX0_holds_13 (by decide) (by decide) (by decide) (by decide) ?_
      refine lv_iload_n hx hb dX0_holds_60 rfl (lv_at hl 0 rfl) ?_
      refine lv_iconst (v := 5) hx hb dX0_holds_61 (by decide) ?_
      refine lv_iadd hx hb dX0_holds_62 ?_
      refine lv_iconst (v := 2) hx hb dX0_holds_63 (by decide) ?_
      refine lv_imul hx hb dX0_holds_64 ?_
      exact zFG.iret hx hb hr hlocks hQ hw rfl dX0_holds_65 ⟨by simp [zHd, zHp, c2, k1, k2, k3, k4, k5], rfl⟩
    refine lv_tableOut (tgt := 66) hx hb dX0_holds_13 (zoutp5 k1 k2 k3 k4 k5) (by decide) ?_
    refine lv_iload_n hx hb dX0_holds_66 rfl (lv_at hl 0 rfl) ?_
    exact zFG.iret hx hb hr hlocks hQ hw rfl dX0_holds_67 ⟨by simp [zHd, zHp, c2, k1, k2, k3, k4, k5], rfl⟩
  · refine lv_bipush (v := 40) hx hb dX0_holds_5 (by decide) ?_
    refine lv_goto (tgt := 11) hx hb dX0_holds_7 (by decide) ?_
    refine lv_istore_n (lv' := [(2, .int 40), (0, .int k), (1, .int f)]) hx hb dX0_holds_11 rfl hl (by decide) rfl (fun ls hl => ?_)
    refine lv_iload_n hx hb dX0_holds_12 rfl (lv_at hl 1 rfl) ?_
    rcases Decidable.em (k = 1) with k1 | k1
    · refine W.eq (g2 := F0 m 13 ls (.int 1 :: [])) (by rw [k1]) ?_
      refine lv_tableIn (off := 35) (tgt := 48) hx hb dX0_holds_13 (by decide) (by decide) (by decide) (by decide) ?_
      refine lv_iload_n hx hb dX0_holds_48 rfl (lv_at hl 0 rfl) ?_
      refine lv_iconst (v := 1) hx hb dX0_holds_49 (by decide) ?_
      refine lv_isub hx hb dX0_holds_50 ?_
      exact zFG.iret hx hb hr hlocks hQ hw rfl dX0_holds_51 ⟨by simp [zHd, zHp, c2, k1], rfl⟩
    rcases Decidable.em (k = 2) with k2 | k2
    · refine W.eq (g2 := F0 m 13 ls (.int 2 :: [])) (by rw [k2]) ?_
      refine lv_tableIn (off := 39) (tgt := 52) hx hb dX0_holds_13 (by decide) (by decide) (by decide) (by decide) ?_
      refine lv_iload_n hx hb dX0_holds_52 rfl (lv_at hl 0 rfl) ?_
      refine lv_iconst (v := 5) hx hb dX0_holds_53 (by decide) ?_
      refine lv_iadd hx hb dX0_holds_54 ?_
      exact zFG.iret hx hb hr hlocks hQ hw rfl dX0_holds_55 ⟨by simp [zHd, zHp, c2, k1, k2], rfl⟩
    rcases Decidable.em (k = 3) with k3 | k3
    · refine W.eq (g2 := F0 m 13 ls (.int 3 :: [])) (by rw [k3]) ?_
      refine lv_tableIn (off := 43) (tgt := 56) hx hb dX0_holds_13 (by decide) (by decide) (by decide) (by decide) ?_
      refine lv_iload_n hx hb dX0_holds_56 rfl (lv_at hl 0 rfl) ?_
      refine lv_iconst (v := 2) hx hb dX0_holds_57 (by decide) ?_
      refine lv_idiv hx hb dX0_holds_58 (by decide) ?_
      exact zFG.iret hx hb hr hlocks hQ hw rfl dX0_holds_59 ⟨by simp [zHd, zHp, c2, k1, k2, k3], rfl⟩
    rcases Decidable.em (k = 4) with k4 | k4
    · refine W.eq (g2 := F0 m 13 ls (.int 4 :: [])) (by rw [k4]) ?_
      refine lv_tableIn (off := 35) (tgt := 48) hx hb dX0_holds_13 (by decide) (by decide) (by decide) (by decide) ?_
      refine lv_iload_n hx hb dX0_holds_48 rfl (lv_at hl 0 rfl) ?_
      refine lv_iconst (v := 1) hx hb dX0_holds_49 (by decide) ?_
      refine lv_isub hx hb dX0_holds_50 ?_
      exact zFG.iret hx hb hr hlocks hQ hw rfl dX0_holds_51 ⟨by simp [zHd, zHp, c2, k1, k2, k3, k4], rfl⟩
    rcases Decidable.em (k = 5) with k5 | k5
    · refine W.eq (g2 := F0 m 13 ls (.int 5 :: [])) (by rw [k5]) ?_
      refine lv_tableIn (off := 47) (tgt := 60) hx hb dX0_holds_13 (by decide) (by decide) (by decide) (by decide) ?_
      refine lv_iload_n hx hb dX0_holds_60 rfl (lv_at hl 0 rfl) ?_
      refine lv_iconst (v := 5) hx hb dX0_holds_61 (by decide) ?_
      refine lv_iadd hx hb dX0_holds_62 ?_
      refine lv_iconst (v := 2) hx hb dX0_holds_63 (by decide) ?_
      refine lv_imul hx hb dX0_holds_64 ?_
      exact zFG.iret hx hb hr hlocks hQ hw rfl dX0_holds_65 ⟨by simp [zHd, zHp, c2, k1, k2, k3, k4, k5], rfl⟩
    refine lv_tableOut (tgt := 66) hx hb dX0_holds_13 (zoutp5 k1 k2 k3 k4 k5) (by decide) ?_
    refine lv_iload_n hx hb dX0_holds_66 rfl (lv_at hl 0 rfl) ?_
    exact zFG.iret hx hb hr hlocks hQ hw rfl dX0_holds_67 ⟨by simp [zHd, zHp, c2, k1, k2, k3, k4, k5], rfl⟩

set_option maxHeartbeats 4000000 in
set_option maxRecDepth 100000 in
theorem c_X0_coldPrice (x : zX) (w : va_W) (k z : Int32) : zFF x mX0_coldPrice 0 [.int k, .int z] (w) (some (.int (zCp k z))) (w) := by
  refine zFG.start RX0 cX0_coldPrice 3 (some .int) rfl rfl (by decide +kernel) (Nat.le_of_ble_eq_true rfl) ?_
  intro p e s m ar below meth c ls A Q hx hb hr hml hown hts hlocks hK hE hA hQ hl hw
  have hl : lv_has ls 3 [(0, .int k), (1, .int z)] := hl
  have hw : zHw x A s.heap (w) s.heap [] := hw
  refine lv_iconst (v := 5) hx hb dX0_coldPrice_0 (by decide) ?_
  refine lv_iload_n hx hb dX0_coldPrice_1 rfl (lv_at hl 1 rfl) ?_
  refine lv_bipush (v := 10) hx hb dX0_coldPrice_2 (by decide) ?_
  refine lv_idiv hx hb dX0_coldPrice_4 (by decide) ?_
  refine lv_iadd hx hb dX0_coldPrice_5 ?_
  refine lv_istore_n (lv' := [(2, .int (5 + (z / 10))), (0, .int k), (1, .int z)]) hx hb dX0_coldPrice_6 rfl hl (by decide) rfl (fun ls hl => ?_)
  refine lv_iload_n hx hb dX0_coldPrice_7 rfl (lv_at hl 1 rfl) ?_
  rcases Decidable.em (k = 1) with k1 | k1
  · refine W.eq (g2 := F0 m 8 ls (.int 1 :: [])) (by rw [k1]) ?_
    refine lv_tableIn (off := 36) (tgt := 44) hx hb dX0_coldPrice_8 (by decide) (by decide) (by decide) (by decide) ?_
    refine lv_iload_n hx hb dX0_coldPrice_44 rfl (lv_at hl 0 rfl) ?_
    refine lv_iconst (v := 3) hx hb dX0_coldPrice_45 (by decide) ?_
    refine lv_iadd hx hb dX0_coldPrice_46 ?_
    exact zFG.iret hx hb hr hlocks hQ hw rfl dX0_coldPrice_47 ⟨by simp [zCp, k1], rfl⟩
  rcases Decidable.em (k = 2) with k2 | k2
  · refine W.eq (g2 := F0 m 8 ls (.int 2 :: [])) (by rw [k2]) ?_
    refine lv_tableIn (off := 40) (tgt := 48) hx hb dX0_coldPrice_8 (by decide) (by decide) (by decide) (by decide) ?_
    refine lv_iconst (v := 2) hx hb dX0_coldPrice_48 (by decide) ?_
    exact zFG.iret hx hb hr hlocks hQ hw rfl dX0_coldPrice_49 ⟨by simp [zCp, k1, k2], rfl⟩
  rcases Decidable.em (k = 4) with k4 | k4
  · refine W.eq (g2 := F0 m 8 ls (.int 4 :: [])) (by rw [k4]) ?_
    refine lv_tableIn (off := 42) (tgt := 50) hx hb dX0_coldPrice_8 (by decide) (by decide) (by decide) (by decide) ?_
    refine lv_iload_n hx hb dX0_coldPrice_50 rfl (lv_at hl 0 rfl) ?_
    refine lv_iconst (v := 1) hx hb dX0_coldPrice_51 (by decide) ?_
    refine lv_iadd hx hb dX0_coldPrice_52 ?_
    exact zFG.iret hx hb hr hlocks hQ hw rfl dX0_coldPrice_53 ⟨by simp [zCp, k1, k2, k4], rfl⟩
  rcases Decidable.em (k = 5) with k5 | k5
  · refine W.eq (g2 := F0 m 8 ls (.int 5 :: [])) (by rw [k5]) ?_
    refine lv_tableIn (off := 46) (tgt := 54) hx hb dX0_coldPrice_8 (by decide) (by decide) (by decide) (by decide) ?_
    refine lv_iconst (v := 3) hx hb dX0_coldPrice_54 (by decide) ?_
    exact zFG.iret hx hb hr hlocks hQ hw rfl dX0_coldPrice_55 ⟨by simp [zCp, k1, k2, k4, k5], rfl⟩
  rcases Decidable.em (k = 3) with k3 | k3
  · refine W.eq (g2 := F0 m 8 ls (.int 3 :: [])) (by rw [k3]) ?_
    refine lv_tableIn (off := 48) (tgt := 56) hx hb dX0_coldPrice_8 (by decide) (by decide) (by decide) (by decide) ?_
    refine lv_iload_n hx hb dX0_coldPrice_56 rfl (lv_at hl 0 rfl) ?_
    exact zFG.iret hx hb hr hlocks hQ hw rfl dX0_coldPrice_57 ⟨by simp [zCp, k1, k2, k4, k5, k3], rfl⟩
  refine lv_tableOut (tgt := 56) hx hb dX0_coldPrice_8 (zoutp5 k1 k2 k3 k4 k5) (by decide) ?_
  refine lv_iload_n hx hb dX0_coldPrice_56 rfl (lv_at hl 0 rfl) ?_
  exact zFG.iret hx hb hr hlocks hQ hw rfl dX0_coldPrice_57 ⟨by simp [zCp, k1, k2, k4, k5, k3], rfl⟩

set_option maxHeartbeats 4000000 in
set_option maxRecDepth 100000 in
theorem c_X0_isUnder (x : zX) (w : va_W) (k a : Int32) : zFF x mX0_isUnder 0 [.int k, .int a] (w) (some (.int (zb (zUn k a)))) (w) := by
  refine zFG.start RX0 cX0_isUnder 2 (some .boolean) rfl rfl (by decide +kernel) (Nat.le_of_ble_eq_true rfl) ?_
  intro p e s m ar below meth c ls A Q hx hb hr hml hown hts hlocks hK hE hA hQ hl hw
  have hl : lv_has ls 2 [(0, .int k), (1, .int a)] := hl
  have hw : zHw x A s.heap (w) s.heap [] := hw
  refine lv_iload_n hx hb dX0_isUnder_0 rfl (lv_at hl 1 rfl) ?_
  rcases Decidable.em (a = 0) with k0 | k0
  · refine W.eq (g2 := F0 m 1 ls (.int 0 :: [])) (by rw [k0]) ?_
    refine lv_tableIn (off := 27) (tgt := 28) hx hb dX0_isUnder_1 (by decide) (by decide) (by decide) (by decide) ?_
    refine lv_iconst (v := 1) hx hb dX0_isUnder_28 (by decide) ?_
    exact zFG.zret hx hb hr hlocks hQ hw rfl dX0_isUnder_29 (by decide) ⟨by simp [zb, zUn, k0], rfl⟩
  rcases Decidable.em (a = 1) with k1 | k1
  · refine W.eq (g2 := F0 m 1 ls (.int 1 :: [])) (by rw [k1]) ?_
    refine lv_tableIn (off := 29) (tgt := 30) hx hb dX0_isUnder_1 (by decide) (by decide) (by decide) (by decide) ?_
    refine lv_iload_n hx hb dX0_isUnder_30 rfl (lv_at hl 0 rfl) ?_
    refine lv_iconst (v := 1) hx hb dX0_isUnder_31 (by decide) ?_
    refine lv_icmp_eq (tgt := 40) hx hb dX0_isUnder_32 (by decide) (fun c32 => ?_) (fun c32 => ?_)
    · refine lv_iconst (v := 1) hx hb dX0_isUnder_40 (by decide) ?_
      refine lv_goto (tgt := 45) hx hb dX0_isUnder_41 (by decide) ?_
      exact zFG.zret hx hb hr hlocks hQ hw rfl dX0_isUnder_45 (by decide) ⟨by simp [zb, zUn, k0, k1, c32], rfl⟩
    · refine lv_iload_n hx hb dX0_isUnder_35 rfl (lv_at hl 0 rfl) ?_
      refine lv_iconst (v := 4) hx hb dX0_isUnder_36 (by decide) ?_
      refine lv_icmp_ne (tgt := 44) hx hb dX0_isUnder_37 (by decide) (fun c37 => ?_) (fun c37 => ?_)
      · refine lv_iconst (v := 0) hx hb dX0_isUnder_44 (by decide) ?_
        exact zFG.zret hx hb hr hlocks hQ hw rfl dX0_isUnder_45 (by decide) ⟨by simp [zb, zUn, k0, k1, c32, c37], rfl⟩
      · refine lv_iconst (v := 1) hx hb dX0_isUnder_40 (by decide) ?_
        refine lv_goto (tgt := 45) hx hb dX0_isUnder_41 (by decide) ?_
        exact zFG.zret hx hb hr hlocks hQ hw rfl dX0_isUnder_45 (by decide) ⟨by simp [zb, zUn, k0, k1, c32, c37], rfl⟩
  rcases Decidable.em (a = 2) with k2 | k2
  · refine W.eq (g2 := F0 m 1 ls (.int 2 :: [])) (by rw [k2]) ?_
    refine lv_tableIn (off := 45) (tgt := 46) hx hb dX0_isUnder_1 (by decide) (by decide) (by decide) (by decide) ?_
    refine lv_iload_n hx hb dX0_isUnder_46 rfl (lv_at hl 0 rfl) ?_
    refine lv_iconst (v := 2) hx hb dX0_isUnder_47 (by decide) ?_
    refine lv_icmp_eq (tgt := 56) hx hb dX0_isUnder_48 (by decide) (fun c48 => ?_) (fun c48 => ?_)
    · refine lv_iconst (v := 1) hx hb dX0_isUnder_56 (by decide) ?_
      refine lv_goto (tgt := 61) hx hb dX0_isUnder_57 (by decide) ?_
      exact zFG.zret hx hb hr hlocks hQ hw rfl dX0_isUnder_61 (by decide) ⟨by simp [zb, zUn, k0, k1, k2, c48], rfl⟩
    · refine lv_iload_n hx hb dX0_isUnder_51 rfl (lv_at hl 0 rfl) ?_
      refine lv_iconst (v := 5) hx hb dX0_isUnder_52 (by decide) ?_
      refine lv_icmp_ne (tgt := 60) hx hb dX0_isUnder_53 (by decide) (fun c53 => ?_) (fun c53 => ?_)
      · refine lv_iconst (v := 0) hx hb dX0_isUnder_60 (by decide) ?_
        exact zFG.zret hx hb hr hlocks hQ hw rfl dX0_isUnder_61 (by decide) ⟨by simp [zb, zUn, k0, k1, k2, c48, c53], rfl⟩
      · refine lv_iconst (v := 1) hx hb dX0_isUnder_56 (by decide) ?_
        refine lv_goto (tgt := 61) hx hb dX0_isUnder_57 (by decide) ?_
        exact zFG.zret hx hb hr hlocks hQ hw rfl dX0_isUnder_61 (by decide) ⟨by simp [zb, zUn, k0, k1, k2, c48, c53], rfl⟩
  refine lv_tableOut (tgt := 62) hx hb dX0_isUnder_1 (zout3 k0 k1 k2) (by decide) ?_
  refine lv_iload_n hx hb dX0_isUnder_62 rfl (lv_at hl 0 rfl) ?_
  refine lv_iload_n hx hb dX0_isUnder_63 rfl (lv_at hl 1 rfl) ?_
  refine lv_icmp_ne (tgt := 71) hx hb dX0_isUnder_64 (by decide) (fun c64 => ?_) (fun c64 => ?_)
  · refine lv_iconst (v := 0) hx hb dX0_isUnder_71 (by decide) ?_
    exact zFG.zret hx hb hr hlocks hQ hw rfl dX0_isUnder_72 (by decide) ⟨by simp [zb, zUn, k0, k1, k2, c64], rfl⟩
  · refine lv_iconst (v := 1) hx hb dX0_isUnder_67 (by decide) ?_
    refine lv_goto (tgt := 72) hx hb dX0_isUnder_68 (by decide) ?_
    exact zFG.zret hx hb hr hlocks hQ hw rfl dX0_isUnder_72 (by decide) ⟨by simp [zb, zUn, k0, k1, k2, c64], rfl⟩

set_option maxHeartbeats 4000000 in
set_option maxRecDepth 100000 in
theorem c_X5_within (x : zX) (w : va_W) (v lo hi : Int32) : zFF x mX5_within 0 [.int v, .int lo, .int hi] (w) (some (.int (zb (lo ≤ v ∧ v ≤ hi)))) (w) := by
  refine zFG.start RX5 cX5_within 3 (some .boolean) rfl rfl (by decide +kernel) (Nat.le_of_ble_eq_true rfl) ?_
  intro p e s m ar below meth c ls A Q hx hb hr hml hown hts hlocks hK hE hA hQ hl hw
  have hl : lv_has ls 3 [(0, .int v), (1, .int lo), (2, .int hi)] := hl
  have hw : zHw x A s.heap (w) s.heap [] := hw
  refine lv_iload_n hx hb dX5_within_0 rfl (lv_at hl 0 rfl) ?_
  refine lv_iload_n hx hb dX5_within_1 rfl (lv_at hl 1 rfl) ?_
  refine lv_icmp_lt (tgt := 14) hx hb dX5_within_2 (by decide) (fun c2 => ?_) (fun c2 => ?_)
  · refine lv_iconst (v := 0) hx hb dX5_within_14 (by decide) ?_
    exact zFG.zret hx hb hr hlocks hQ hw rfl dX5_within_15 (by decide) ⟨zsi (by first | (simp [zb, Int32.not_lt, Int32.not_le, c2]; done) | (symm; refine zb_f (fun h => ?_); simp only [Int32.lt_iff_toInt_lt, Int32.le_iff_toInt_le] at h c2; omega)), rfl⟩
  · refine lv_iload_n hx hb dX5_within_5 rfl (lv_at hl 0 rfl) ?_
    refine lv_iload_n hx hb dX5_within_6 rfl (lv_at hl 2 rfl) ?_
    refine lv_icmp_gt (tgt := 14) hx hb dX5_within_7 (by decide) (fun c7 => ?_) (fun c7 => ?_)
    · refine lv_iconst (v := 0) hx hb dX5_within_14 (by decide) ?_
      exact zFG.zret hx hb hr hlocks hQ hw rfl dX5_within_15 (by decide) ⟨zsi (by first | (simp [zb, Int32.not_lt, Int32.not_le, c2, c7]; done) | (symm; refine zb_f (fun h => ?_); simp only [Int32.lt_iff_toInt_lt, Int32.le_iff_toInt_le] at h c2 c7; omega)), rfl⟩
    · refine lv_iconst (v := 1) hx hb dX5_within_10 (by decide) ?_
      refine lv_goto (tgt := 15) hx hb dX5_within_11 (by decide) ?_
      exact zFG.zret hx hb hr hlocks hQ hw rfl dX5_within_15 (by decide) ⟨zsi (by first | (simp [zb, Int32.not_lt, Int32.not_le, c2, c7]; done) | (symm; refine zb_f (fun h => ?_); simp only [Int32.lt_iff_toInt_lt, Int32.le_iff_toInt_le] at h c2 c7; omega)), rfl⟩

set_option maxHeartbeats 4000000 in
set_option maxRecDepth 100000 in
theorem c_X5_isStreet (x : zX) (w : va_W) (v : Int32) : zFF x mX5_isStreet 0 [.int v] (w) (some (.int (zb (0 ≤ v ∧ v < 6)))) (w) := by
  refine zFG.start RX5 cX5_isStreet 1 (some .boolean) rfl rfl (by decide +kernel) (Nat.le_of_ble_eq_true rfl) ?_
  intro p e s m ar below meth c ls A Q hx hb hr hml hown hts hlocks hK hE hA hQ hl hw
  have hl : lv_has ls 1 [(0, .int v)] := hl
  have hw : zHw x A s.heap (w) s.heap [] := hw
  refine lv_iload_n hx hb dX5_isStreet_0 rfl (lv_at hl 0 rfl) ?_
  refine lv_if_lt (tgt := 14) hx hb dX5_isStreet_1 (by decide) (fun c1 => ?_) (fun c1 => ?_)
  · refine lv_iconst (v := 0) hx hb dX5_isStreet_14 (by decide) ?_
    exact zFG.zret hx hb hr hlocks hQ hw rfl dX5_isStreet_15 (by decide) ⟨zsi (by first | (simp [zb, c1]; done) | (symm; refine zb_f (fun h => ?_); simp only [Int32.lt_iff_toInt_lt, Int32.le_iff_toInt_le] at h c1; omega)), rfl⟩
  · refine lv_iload_n hx hb dX5_isStreet_4 rfl (lv_at hl 0 rfl) ?_
    refine lv_bipush (v := 6) hx hb dX5_isStreet_5 (by decide) ?_
    refine lv_icmp_ge (tgt := 14) hx hb dX5_isStreet_7 (by decide) (fun c7 => ?_) (fun c7 => ?_)
    · refine lv_iconst (v := 0) hx hb dX5_isStreet_14 (by decide) ?_
      exact zFG.zret hx hb hr hlocks hQ hw rfl dX5_isStreet_15 (by decide) ⟨zsi (by first | (simp [zb, c1, c7]; done) | (symm; refine zb_f (fun h => ?_); simp only [Int32.lt_iff_toInt_lt, Int32.le_iff_toInt_le] at h c1 c7; omega)), rfl⟩
    · refine lv_iconst (v := 1) hx hb dX5_isStreet_10 (by decide) ?_
      refine lv_goto (tgt := 15) hx hb dX5_isStreet_11 (by decide) ?_
      exact zFG.zret hx hb hr hlocks hQ hw rfl dX5_isStreet_15 (by decide) ⟨zsi (by first | (simp [zb, c1, c7]; done) | (symm; refine zb_f (fun h => ?_); simp only [Int32.lt_iff_toInt_lt, Int32.le_iff_toInt_le] at h c1 c7; omega)), rfl⟩

set_option maxHeartbeats 4000000 in
set_option maxRecDepth 100000 in
theorem c_X5_isKind (x : zX) (w : va_W) (v : Int32) : zFF x mX5_isKind 0 [.int v] (w) (some (.int (zb (0 ≤ v ∧ v < 6)))) (w) := by
  refine zFG.start RX5 cX5_isKind 1 (some .boolean) rfl rfl (by decide +kernel) (Nat.le_of_ble_eq_true rfl) ?_
  intro p e s m ar below meth c ls A Q hx hb hr hml hown hts hlocks hK hE hA hQ hl hw
  have hl : lv_has ls 1 [(0, .int v)] := hl
  have hw : zHw x A s.heap (w) s.heap [] := hw
  refine lv_iload_n hx hb dX5_isKind_0 rfl (lv_at hl 0 rfl) ?_
  refine lv_if_lt (tgt := 14) hx hb dX5_isKind_1 (by decide) (fun c1 => ?_) (fun c1 => ?_)
  · refine lv_iconst (v := 0) hx hb dX5_isKind_14 (by decide) ?_
    exact zFG.zret hx hb hr hlocks hQ hw rfl dX5_isKind_15 (by decide) ⟨zsi (by first | (simp [zb, c1]; done) | (symm; refine zb_f (fun h => ?_); simp only [Int32.lt_iff_toInt_lt, Int32.le_iff_toInt_le] at h c1; omega)), rfl⟩
  · refine lv_iload_n hx hb dX5_isKind_4 rfl (lv_at hl 0 rfl) ?_
    refine lv_bipush (v := 6) hx hb dX5_isKind_5 (by decide) ?_
    refine lv_icmp_ge (tgt := 14) hx hb dX5_isKind_7 (by decide) (fun c7 => ?_) (fun c7 => ?_)
    · refine lv_iconst (v := 0) hx hb dX5_isKind_14 (by decide) ?_
      exact zFG.zret hx hb hr hlocks hQ hw rfl dX5_isKind_15 (by decide) ⟨zsi (by first | (simp [zb, c1, c7]; done) | (symm; refine zb_f (fun h => ?_); simp only [Int32.lt_iff_toInt_lt, Int32.le_iff_toInt_le] at h c1 c7; omega)), rfl⟩
    · refine lv_iconst (v := 1) hx hb dX5_isKind_10 (by decide) ?_
      refine lv_goto (tgt := 15) hx hb dX5_isKind_11 (by decide) ?_
      exact zFG.zret hx hb hr hlocks hQ hw rfl dX5_isKind_15 (by decide) ⟨zsi (by first | (simp [zb, c1, c7]; done) | (symm; refine zb_f (fun h => ?_); simp only [Int32.lt_iff_toInt_lt, Int32.le_iff_toInt_le] at h c1 c7; omega)), rfl⟩
end
