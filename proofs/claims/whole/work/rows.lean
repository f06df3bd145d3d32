section
-- ===== PART A: goes FIRST, ahead of the names: the tables' words, and 'selects' of the private methods out of them =====
/-- a private method of a class that the tables say can be made, by its rows of tables_1 -/
def lw_okq (q : MethodName × Nat) : Prop := (q.1.cls ≠ "java/lang/invoke/MethodHandle" ∧ q.1.cls ≠ "java/lang/invoke/VarHandle") ∧ Cond.instantiable q.1.cls q.2 ∈ tables_1 ∧ Cond.privateMethod q.1 ∈ tables_1 ∧ Cond.instanceMethod q.1 ∈ tables_1
theorem lw_p0 : lw_okq (⟨"HotPanLocks", "numberOf", "(I)I"⟩, 4) := ⟨⟨by decide +kernel, by decide +kernel⟩, List.mem_of_getElem? (i := 17) (by decide +kernel), List.mem_of_getElem? (i := 218) (by decide +kernel), List.mem_of_getElem? (i := 219) (by decide +kernel)⟩
theorem lw_p1 : lw_okq (⟨"HotPanLocks", "mixHand", "(JI)J"⟩, 4) := ⟨⟨by decide +kernel, by decide +kernel⟩, List.mem_of_getElem? (i := 17) (by decide +kernel), List.mem_of_getElem? (i := 247) (by decide +kernel), List.mem_of_getElem? (i := 248) (by decide +kernel)⟩
theorem lw_p2 : lw_okq (⟨"HotPanLocks", "tryAsking", "(III)I"⟩, 4) := ⟨⟨by decide +kernel, by decide +kernel⟩, List.mem_of_getElem? (i := 17) (by decide +kernel), List.mem_of_getElem? (i := 261) (by decide +kernel), List.mem_of_getElem? (i := 262) (by decide +kernel)⟩
theorem lw_p3 : lw_okq (⟨"HotPanLocks", "mixRow", "(JII)J"⟩, 4) := ⟨⟨by decide +kernel, by decide +kernel⟩, List.mem_of_getElem? (i := 17) (by decide +kernel), List.mem_of_getElem? (i := 330) (by decide +kernel), List.mem_of_getElem? (i := 331) (by decide +kernel)⟩
theorem lw_p4 : lw_okq (⟨"HotPanLocks", "trialPart", "(II)I"⟩, 4) := ⟨⟨by decide +kernel, by decide +kernel⟩, List.mem_of_getElem? (i := 17) (by decide +kernel), List.mem_of_getElem? (i := 358) (by decide +kernel), List.mem_of_getElem? (i := 359) (by decide +kernel)⟩
theorem lw_p5 : lw_okq (⟨"java/lang/Throwable", "fillInStackTrace", "(I)Ljava/lang/Throwable;"⟩, 6) := ⟨⟨by decide +kernel, by decide +kernel⟩, List.mem_of_getElem? (i := 436) (by decide +kernel), List.mem_of_getElem? (i := 434) (by decide +kernel), List.mem_of_getElem? (i := 435) (by decide +kernel)⟩
theorem lw_p6 : lw_okq (⟨"HotPanLocks$History", "slotAt", "(I)LHotPanLocks$State;"⟩, 3) := ⟨⟨by decide +kernel, by decide +kernel⟩, List.mem_of_getElem? (i := 87) (by decide +kernel), List.mem_of_getElem? (i := 505) (by decide +kernel), List.mem_of_getElem? (i := 506) (by decide +kernel)⟩
theorem lw_p7 : lw_okq (⟨"HotPanLocks", "carryOut", "(II)Z"⟩, 4) := ⟨⟨by decide +kernel, by decide +kernel⟩, List.mem_of_getElem? (i := 17) (by decide +kernel), List.mem_of_getElem? (i := 625) (by decide +kernel), List.mem_of_getElem? (i := 626) (by decide +kernel)⟩
theorem lw_p8 : lw_okq (⟨"HotPanLocksModel", "waits", "(I)Z"⟩, 12) := ⟨⟨by decide +kernel, by decide +kernel⟩, List.mem_of_getElem? (i := 723) (by decide +kernel), List.mem_of_getElem? (i := 789) (by decide +kernel), List.mem_of_getElem? (i := 790) (by decide +kernel)⟩
theorem lw_p9 : lw_okq (⟨"HotPanLocksModel", "rowOf", "(I)I"⟩, 12) := ⟨⟨by decide +kernel, by decide +kernel⟩, List.mem_of_getElem? (i := 723) (by decide +kernel), List.mem_of_getElem? (i := 793) (by decide +kernel), List.mem_of_getElem? (i := 794) (by decide +kernel)⟩
theorem lw_p10 : lw_okq (⟨"HotPanLocksModel", "placeIn", "(II)I"⟩, 12) := ⟨⟨by decide +kernel, by decide +kernel⟩, List.mem_of_getElem? (i := 723) (by decide +kernel), List.mem_of_getElem? (i := 797) (by decide +kernel), List.mem_of_getElem? (i := 798) (by decide +kernel)⟩
theorem lw_p11 : lw_okq (⟨"HotPanLocksModel", "whoAt", "(II)I"⟩, 12) := ⟨⟨by decide +kernel, by decide +kernel⟩, List.mem_of_getElem? (i := 723) (by decide +kernel), List.mem_of_getElem? (i := 801) (by decide +kernel), List.mem_of_getElem? (i := 802) (by decide +kernel)⟩
theorem lw_p12 : lw_okq (⟨"HotPanLocksModel", "save", "()V"⟩, 12) := ⟨⟨by decide +kernel, by decide +kernel⟩, List.mem_of_getElem? (i := 723) (by decide +kernel), List.mem_of_getElem? (i := 805) (by decide +kernel), List.mem_of_getElem? (i := 806) (by decide +kernel)⟩
theorem lw_p13 : lw_okq (⟨"HotPanLocksModel", "asks", "(III)I"⟩, 12) := ⟨⟨by decide +kernel, by decide +kernel⟩, List.mem_of_getElem? (i := 723) (by decide +kernel), List.mem_of_getElem? (i := 809) (by decide +kernel), List.mem_of_getElem? (i := 810) (by decide +kernel)⟩
theorem lw_p14 : lw_okq (⟨"HotPanLocksModel", "lockOf", "(II)I"⟩, 12) := ⟨⟨by decide +kernel, by decide +kernel⟩, List.mem_of_getElem? (i := 723) (by decide +kernel), List.mem_of_getElem? (i := 813) (by decide +kernel), List.mem_of_getElem? (i := 814) (by decide +kernel)⟩
theorem lw_p15 : lw_okq (⟨"HotPanLocksModel", "enqueue", "(III)V"⟩, 12) := ⟨⟨by decide +kernel, by decide +kernel⟩, List.mem_of_getElem? (i := 723) (by decide +kernel), List.mem_of_getElem? (i := 817) (by decide +kernel), List.mem_of_getElem? (i := 818) (by decide +kernel)⟩
def lw_privs_1 : List (MethodName × Nat) := [(⟨"HotPanLocks", "numberOf", "(I)I"⟩, 4), (⟨"HotPanLocks", "mixHand", "(JI)J"⟩, 4), (⟨"HotPanLocks", "tryAsking", "(III)I"⟩, 4), (⟨"HotPanLocks", "mixRow", "(JII)J"⟩, 4), (⟨"HotPanLocks", "trialPart", "(II)I"⟩, 4), (⟨"java/lang/Throwable", "fillInStackTrace", "(I)Ljava/lang/Throwable;"⟩, 6), (⟨"HotPanLocks$History", "slotAt", "(I)LHotPanLocks$State;"⟩, 3), (⟨"HotPanLocks", "carryOut", "(II)Z"⟩, 4), (⟨"HotPanLocksModel", "waits", "(I)Z"⟩, 12), (⟨"HotPanLocksModel", "rowOf", "(I)I"⟩, 12), (⟨"HotPanLocksModel", "placeIn", "(II)I"⟩, 12), (⟨"HotPanLocksModel", "whoAt", "(II)I"⟩, 12), (⟨"HotPanLocksModel", "save", "()V"⟩, 12), (⟨"HotPanLocksModel", "asks", "(III)I"⟩, 12), (⟨"HotPanLocksModel", "lockOf", "(II)I"⟩, 12), (⟨"HotPanLocksModel", "enqueue", "(III)V"⟩, 12)]
theorem lw_r1 : ∀ q ∈ lw_privs_1, lw_okq q := List.forall_mem_cons.mpr ⟨lw_p0, List.forall_mem_cons.mpr ⟨lw_p1, List.forall_mem_cons.mpr ⟨lw_p2, List.forall_mem_cons.mpr ⟨lw_p3, List.forall_mem_cons.mpr ⟨lw_p4, List.forall_mem_cons.mpr ⟨lw_p5, List.forall_mem_cons.mpr ⟨lw_p6, List.forall_mem_cons.mpr ⟨lw_p7, List.forall_mem_cons.mpr ⟨lw_p8, List.forall_mem_cons.mpr ⟨lw_p9, List.forall_mem_cons.mpr ⟨lw_p10, List.forall_mem_cons.mpr ⟨lw_p11, List.forall_mem_cons.mpr ⟨lw_p12, List.forall_mem_cons.mpr ⟨lw_p13, List.forall_mem_cons.mpr ⟨lw_p14, List.forall_mem_cons.mpr ⟨lw_p15, fun _ h => absurd h List.not_mem_nil⟩⟩⟩⟩⟩⟩⟩⟩⟩⟩⟩⟩⟩⟩⟩⟩
theorem lw_p16 : lw_okq (⟨"HotPanLocksModel", "modeAt", "(II)I"⟩, 12) := ⟨⟨by decide +kernel, by decide +kernel⟩, List.mem_of_getElem? (i := 723) (by decide +kernel), List.mem_of_getElem? (i := 821) (by decide +kernel), List.mem_of_getElem? (i := 822) (by decide +kernel)⟩
theorem lw_p17 : lw_okq (⟨"HotPanLocksModel", "settle", "(I)I"⟩, 12) := ⟨⟨by decide +kernel, by decide +kernel⟩, List.mem_of_getElem? (i := 723) (by decide +kernel), List.mem_of_getElem? (i := 825) (by decide +kernel), List.mem_of_getElem? (i := 826) (by decide +kernel)⟩
theorem lw_p18 : lw_okq (⟨"HotPanLocksModel", "clashing", "(III)I"⟩, 12) := ⟨⟨by decide +kernel, by decide +kernel⟩, List.mem_of_getElem? (i := 723) (by decide +kernel), List.mem_of_getElem? (i := 829) (by decide +kernel), List.mem_of_getElem? (i := 830) (by decide +kernel)⟩
theorem lw_p19 : lw_okq (⟨"HotPanLocksModel", "grant", "(II)V"⟩, 12) := ⟨⟨by decide +kernel, by decide +kernel⟩, List.mem_of_getElem? (i := 723) (by decide +kernel), List.mem_of_getElem? (i := 833) (by decide +kernel), List.mem_of_getElem? (i := 834) (by decide +kernel)⟩
theorem lw_p20 : lw_okq (⟨"HotPanLocksModel", "setLock", "(III)V"⟩, 12) := ⟨⟨by decide +kernel, by decide +kernel⟩, List.mem_of_getElem? (i := 723) (by decide +kernel), List.mem_of_getElem? (i := 837) (by decide +kernel), List.mem_of_getElem? (i := 838) (by decide +kernel)⟩
theorem lw_p21 : lw_okq (⟨"HotPanLocksModel", "unqueue", "(II)V"⟩, 12) := ⟨⟨by decide +kernel, by decide +kernel⟩, List.mem_of_getElem? (i := 723) (by decide +kernel), List.mem_of_getElem? (i := 841) (by decide +kernel), List.mem_of_getElem? (i := 842) (by decide +kernel)⟩
theorem lw_p22 : lw_okq (⟨"HotPanLocksModel", "isInRing", "(I)Z"⟩, 12) := ⟨⟨by decide +kernel, by decide +kernel⟩, List.mem_of_getElem? (i := 723) (by decide +kernel), List.mem_of_getElem? (i := 845) (by decide +kernel), List.mem_of_getElem? (i := 846) (by decide +kernel)⟩
theorem lw_p23 : lw_okq (⟨"HotPanLocksModel", "waitsOver", "(I)I"⟩, 12) := ⟨⟨by decide +kernel, by decide +kernel⟩, List.mem_of_getElem? (i := 723) (by decide +kernel), List.mem_of_getElem? (i := 849) (by decide +kernel), List.mem_of_getElem? (i := 850) (by decide +kernel)⟩
theorem lw_p24 : lw_okq (⟨"HotPanLocksModel", "waitsNow", "(I)I"⟩, 12) := ⟨⟨by decide +kernel, by decide +kernel⟩, List.mem_of_getElem? (i := 723) (by decide +kernel), List.mem_of_getElem? (i := 853) (by decide +kernel), List.mem_of_getElem? (i := 854) (by decide +kernel)⟩
theorem lw_p25 : lw_okq (⟨"HotPanLocksModel", "loserFor", "(I)I"⟩, 12) := ⟨⟨by decide +kernel, by decide +kernel⟩, List.mem_of_getElem? (i := 723) (by decide +kernel), List.mem_of_getElem? (i := 857) (by decide +kernel), List.mem_of_getElem? (i := 858) (by decide +kernel)⟩
theorem lw_p26 : lw_okq (⟨"HotPanLocksModel", "workOf", "(I)I"⟩, 12) := ⟨⟨by decide +kernel, by decide +kernel⟩, List.mem_of_getElem? (i := 723) (by decide +kernel), List.mem_of_getElem? (i := 861) (by decide +kernel), List.mem_of_getElem? (i := 862) (by decide +kernel)⟩
theorem lw_p27 : lw_okq (⟨"HotPanLocksModel", "lose", "(I)V"⟩, 12) := ⟨⟨by decide +kernel, by decide +kernel⟩, List.mem_of_getElem? (i := 723) (by decide +kernel), List.mem_of_getElem? (i := 865) (by decide +kernel), List.mem_of_getElem? (i := 866) (by decide +kernel)⟩
theorem lw_p28 : lw_okq (⟨"HotPanLocksModel", "canRelease", "(II)Z"⟩, 12) := ⟨⟨by decide +kernel, by decide +kernel⟩, List.mem_of_getElem? (i := 723) (by decide +kernel), List.mem_of_getElem? (i := 873) (by decide +kernel), List.mem_of_getElem? (i := 874) (by decide +kernel)⟩
theorem lw_p29 : lw_okq (⟨"HotPanLocksModel", "releases", "(II)I"⟩, 12) := ⟨⟨by decide +kernel, by decide +kernel⟩, List.mem_of_getElem? (i := 723) (by decide +kernel), List.mem_of_getElem? (i := 877) (by decide +kernel), List.mem_of_getElem? (i := 878) (by decide +kernel)⟩
theorem lw_p30 : lw_okq (⟨"HotPanLocksModel", "canHandOn", "(III)Z"⟩, 12) := ⟨⟨by decide +kernel, by decide +kernel⟩, List.mem_of_getElem? (i := 723) (by decide +kernel), List.mem_of_getElem? (i := 889) (by decide +kernel), List.mem_of_getElem? (i := 890) (by decide +kernel)⟩
theorem lw_p31 : lw_okq (⟨"HotPanLocksModel", "tick", "()I"⟩, 12) := ⟨⟨by decide +kernel, by decide +kernel⟩, List.mem_of_getElem? (i := 723) (by decide +kernel), List.mem_of_getElem? (i := 897) (by decide +kernel), List.mem_of_getElem? (i := 898) (by decide +kernel)⟩
def lw_privs_2 : List (MethodName × Nat) := [(⟨"HotPanLocksModel", "modeAt", "(II)I"⟩, 12), (⟨"HotPanLocksModel", "settle", "(I)I"⟩, 12), (⟨"HotPanLocksModel", "clashing", "(III)I"⟩, 12), (⟨"HotPanLocksModel", "grant", "(II)V"⟩, 12), (⟨"HotPanLocksModel", "setLock", "(III)V"⟩, 12), (⟨"HotPanLocksModel", "unqueue", "(II)V"⟩, 12), (⟨"HotPanLocksModel", "isInRing", "(I)Z"⟩, 12), (⟨"HotPanLocksModel", "waitsOver", "(I)I"⟩, 12), (⟨"HotPanLocksModel", "waitsNow", "(I)I"⟩, 12), (⟨"HotPanLocksModel", "loserFor", "(I)I"⟩, 12), (⟨"HotPanLocksModel", "workOf", "(I)I"⟩, 12), (⟨"HotPanLocksModel", "lose", "(I)V"⟩, 12), (⟨"HotPanLocksModel", "canRelease", "(II)Z"⟩, 12), (⟨"HotPanLocksModel", "releases", "(II)I"⟩, 12), (⟨"HotPanLocksModel", "canHandOn", "(III)Z"⟩, 12), (⟨"HotPanLocksModel", "tick", "()I"⟩, 12)]
theorem lw_r2 : ∀ q ∈ lw_privs_2, lw_okq q := List.forall_mem_cons.mpr ⟨lw_p16, List.forall_mem_cons.mpr ⟨lw_p17, List.forall_mem_cons.mpr ⟨lw_p18, List.forall_mem_cons.mpr ⟨lw_p19, List.forall_mem_cons.mpr ⟨lw_p20, List.forall_mem_cons.mpr ⟨lw_p21, List.forall_mem_cons.mpr ⟨lw_p22, List.forall_mem_cons.mpr ⟨lw_p23, List.forall_mem_cons.mpr ⟨lw_p24, List.forall_mem_cons.mpr ⟨lw_p25, List.forall_mem_cons.mpr ⟨lw_p26, List.forall_mem_cons.mpr ⟨lw_p27, List.forall_mem_cons.mpr ⟨lw_p28, List.forall_mem_cons.mpr ⟨lw_p29, List.forall_mem_cons.mpr ⟨lw_p30, List.forall_mem_cons.mpr ⟨lw_p31, fun _ h => absurd h List.not_mem_nil⟩⟩⟩⟩⟩⟩⟩⟩⟩⟩⟩⟩⟩⟩⟩⟩
theorem lw_p32 : lw_okq (⟨"HotPanLocksModel", "greatestOf", "(I)I"⟩, 12) := ⟨⟨by decide +kernel, by decide +kernel⟩, List.mem_of_getElem? (i := 723) (by decide +kernel), List.mem_of_getElem? (i := 901) (by decide +kernel), List.mem_of_getElem? (i := 902) (by decide +kernel)⟩
theorem lw_p33 : lw_okq (⟨"HotPanLocksModel", "burn", "(I)I"⟩, 12) := ⟨⟨by decide +kernel, by decide +kernel⟩, List.mem_of_getElem? (i := 723) (by decide +kernel), List.mem_of_getElem? (i := 905) (by decide +kernel), List.mem_of_getElem? (i := 906) (by decide +kernel)⟩
theorem lw_p34 : lw_okq (⟨"HotPanLocksModel", "holders", "(I)I"⟩, 12) := ⟨⟨by decide +kernel, by decide +kernel⟩, List.mem_of_getElem? (i := 723) (by decide +kernel), List.mem_of_getElem? (i := 913) (by decide +kernel), List.mem_of_getElem? (i := 914) (by decide +kernel)⟩
theorem lw_p35 : lw_okq (⟨"HotPanLocksModel", "rightUpTo", "()I"⟩, 12) := ⟨⟨by decide +kernel, by decide +kernel⟩, List.mem_of_getElem? (i := 723) (by decide +kernel), List.mem_of_getElem? (i := 939) (by decide +kernel), List.mem_of_getElem? (i := 940) (by decide +kernel)⟩
theorem lw_p36 : lw_okq (⟨"HotPanLocksModel", "takes", "(I)Z"⟩, 12) := ⟨⟨by decide +kernel, by decide +kernel⟩, List.mem_of_getElem? (i := 723) (by decide +kernel), List.mem_of_getElem? (i := 943) (by decide +kernel), List.mem_of_getElem? (i := 944) (by decide +kernel)⟩
theorem lw_p37 : lw_okq (⟨"HotPanLocksModel", "takesDigit", "(I)Z"⟩, 12) := ⟨⟨by decide +kernel, by decide +kernel⟩, List.mem_of_getElem? (i := 723) (by decide +kernel), List.mem_of_getElem? (i := 950) (by decide +kernel), List.mem_of_getElem? (i := 951) (by decide +kernel)⟩
theorem lw_p38 : lw_okq (⟨"HotPanLocksModel", "carries", "(I)Z"⟩, 12) := ⟨⟨by decide +kernel, by decide +kernel⟩, List.mem_of_getElem? (i := 723) (by decide +kernel), List.mem_of_getElem? (i := 958) (by decide +kernel), List.mem_of_getElem? (i := 959) (by decide +kernel)⟩
theorem lw_p39 : lw_okq (⟨"HotPanLocksModel", "handNow", "(II)I"⟩, 12) := ⟨⟨by decide +kernel, by decide +kernel⟩, List.mem_of_getElem? (i := 723) (by decide +kernel), List.mem_of_getElem? (i := 974) (by decide +kernel), List.mem_of_getElem? (i := 975) (by decide +kernel)⟩
theorem lw_p40 : lw_okq (⟨"HotPanLocksModel", "locksOf", "(I)I"⟩, 12) := ⟨⟨by decide +kernel, by decide +kernel⟩, List.mem_of_getElem? (i := 723) (by decide +kernel), List.mem_of_getElem? (i := 978) (by decide +kernel), List.mem_of_getElem? (i := 979) (by decide +kernel)⟩
theorem lw_p41 : lw_okq (⟨"HotPanLocksModel", "rowNow", "(II)I"⟩, 12) := ⟨⟨by decide +kernel, by decide +kernel⟩, List.mem_of_getElem? (i := 723) (by decide +kernel), List.mem_of_getElem? (i := 986) (by decide +kernel), List.mem_of_getElem? (i := 987) (by decide +kernel)⟩
theorem lw_p42 : lw_okq (⟨"HotPanLocksModel", "requestNow", "(III)I"⟩, 12) := ⟨⟨by decide +kernel, by decide +kernel⟩, List.mem_of_getElem? (i := 723) (by decide +kernel), List.mem_of_getElem? (i := 994) (by decide +kernel), List.mem_of_getElem? (i := 995) (by decide +kernel)⟩
theorem lw_p43 : lw_okq (⟨"HotPanLocksModel", "counted", "(I)I"⟩, 12) := ⟨⟨by decide +kernel, by decide +kernel⟩, List.mem_of_getElem? (i := 723) (by decide +kernel), List.mem_of_getElem? (i := 1002) (by decide +kernel), List.mem_of_getElem? (i := 1003) (by decide +kernel)⟩
theorem lw_p44 : lw_okq (⟨"HotPanLocksModel", "allLocks", "()I"⟩, 12) := ⟨⟨by decide +kernel, by decide +kernel⟩, List.mem_of_getElem? (i := 723) (by decide +kernel), List.mem_of_getElem? (i := 1006) (by decide +kernel), List.mem_of_getElem? (i := 1007) (by decide +kernel)⟩
theorem lw_p45 : lw_okq (⟨"HotPanLocksModel", "sumFrom", "(II)I"⟩, 12) := ⟨⟨by decide +kernel, by decide +kernel⟩, List.mem_of_getElem? (i := 723) (by decide +kernel), List.mem_of_getElem? (i := 1010) (by decide +kernel), List.mem_of_getElem? (i := 1011) (by decide +kernel)⟩
theorem lw_p46 : lw_okq (⟨"HotPanLocksModel", "heldRows", "()I"⟩, 12) := ⟨⟨by decide +kernel, by decide +kernel⟩, List.mem_of_getElem? (i := 723) (by decide +kernel), List.mem_of_getElem? (i := 1014) (by decide +kernel), List.mem_of_getElem? (i := 1015) (by decide +kernel)⟩
theorem lw_p47 : lw_okq (⟨"HotPanLocksModel", "askedThen", "(IIII)I"⟩, 12) := ⟨⟨by decide +kernel, by decide +kernel⟩, List.mem_of_getElem? (i := 723) (by decide +kernel), List.mem_of_getElem? (i := 1026) (by decide +kernel), List.mem_of_getElem? (i := 1027) (by decide +kernel)⟩
def lw_privs_3 : List (MethodName × Nat) := [(⟨"HotPanLocksModel", "greatestOf", "(I)I"⟩, 12), (⟨"HotPanLocksModel", "burn", "(I)I"⟩, 12), (⟨"HotPanLocksModel", "holders", "(I)I"⟩, 12), (⟨"HotPanLocksModel", "rightUpTo", "()I"⟩, 12), (⟨"HotPanLocksModel", "takes", "(I)Z"⟩, 12), (⟨"HotPanLocksModel", "takesDigit", "(I)Z"⟩, 12), (⟨"HotPanLocksModel", "carries", "(I)Z"⟩, 12), (⟨"HotPanLocksModel", "handNow", "(II)I"⟩, 12), (⟨"HotPanLocksModel", "locksOf", "(I)I"⟩, 12), (⟨"HotPanLocksModel", "rowNow", "(II)I"⟩, 12), (⟨"HotPanLocksModel", "requestNow", "(III)I"⟩, 12), (⟨"HotPanLocksModel", "counted", "(I)I"⟩, 12), (⟨"HotPanLocksModel", "allLocks", "()I"⟩, 12), (⟨"HotPanLocksModel", "sumFrom", "(II)I"⟩, 12), (⟨"HotPanLocksModel", "heldRows", "()I"⟩, 12), (⟨"HotPanLocksModel", "askedThen", "(IIII)I"⟩, 12)]
theorem lw_r3 : ∀ q ∈ lw_privs_3, lw_okq q := List.forall_mem_cons.mpr ⟨lw_p32, List.forall_mem_cons.mpr ⟨lw_p33, List.forall_mem_cons.mpr ⟨lw_p34, List.forall_mem_cons.mpr ⟨lw_p35, List.forall_mem_cons.mpr ⟨lw_p36, List.forall_mem_cons.mpr ⟨lw_p37, List.forall_mem_cons.mpr ⟨lw_p38, List.forall_mem_cons.mpr ⟨lw_p39, List.forall_mem_cons.mpr ⟨lw_p40, List.forall_mem_cons.mpr ⟨lw_p41, List.forall_mem_cons.mpr ⟨lw_p42, List.forall_mem_cons.mpr ⟨lw_p43, List.forall_mem_cons.mpr ⟨lw_p44, List.forall_mem_cons.mpr ⟨lw_p45, List.forall_mem_cons.mpr ⟨lw_p46, List.forall_mem_cons.mpr ⟨lw_p47, fun _ h => absurd h List.not_mem_nil⟩⟩⟩⟩⟩⟩⟩⟩⟩⟩⟩⟩⟩⟩⟩⟩
theorem lw_p48 : lw_okq (⟨"HotPanLocksModel", "keep", "()V"⟩, 12) := ⟨⟨by decide +kernel, by decide +kernel⟩, List.mem_of_getElem? (i := 723) (by decide +kernel), List.mem_of_getElem? (i := 1030) (by decide +kernel), List.mem_of_getElem? (i := 1031) (by decide +kernel)⟩
theorem lw_p49 : lw_okq (⟨"HotPanLocksModel", "layBack", "()V"⟩, 12) := ⟨⟨by decide +kernel, by decide +kernel⟩, List.mem_of_getElem? (i := 723) (by decide +kernel), List.mem_of_getElem? (i := 1034) (by decide +kernel), List.mem_of_getElem? (i := 1035) (by decide +kernel)⟩
theorem lw_p50 : lw_okq (⟨"HotPanLocksModel", "takersNow", "(II)I"⟩, 12) := ⟨⟨by decide +kernel, by decide +kernel⟩, List.mem_of_getElem? (i := 723) (by decide +kernel), List.mem_of_getElem? (i := 1042) (by decide +kernel), List.mem_of_getElem? (i := 1043) (by decide +kernel)⟩
theorem lw_p51 : lw_okq (⟨"HotPanLocksModel", "burnsNow", "(I)I"⟩, 12) := ⟨⟨by decide +kernel, by decide +kernel⟩, List.mem_of_getElem? (i := 723) (by decide +kernel), List.mem_of_getElem? (i := 1050) (by decide +kernel), List.mem_of_getElem? (i := 1051) (by decide +kernel)⟩
theorem lw_p52 : lw_okq (⟨"HotPanLocksModel", "busiestNow", "()I"⟩, 12) := ⟨⟨by decide +kernel, by decide +kernel⟩, List.mem_of_getElem? (i := 723) (by decide +kernel), List.mem_of_getElem? (i := 1062) (by decide +kernel), List.mem_of_getElem? (i := 1063) (by decide +kernel)⟩
theorem lw_p53 : lw_okq (⟨"HotPanLocksModel", "share", "()D"⟩, 12) := ⟨⟨by decide +kernel, by decide +kernel⟩, List.mem_of_getElem? (i := 723) (by decide +kernel), List.mem_of_getElem? (i := 1070) (by decide +kernel), List.mem_of_getElem? (i := 1071) (by decide +kernel)⟩
theorem lw_p54 : lw_okq (⟨"HotPanLocksModel", "mix", "(J)V"⟩, 12) := ⟨⟨by decide +kernel, by decide +kernel⟩, List.mem_of_getElem? (i := 723) (by decide +kernel), List.mem_of_getElem? (i := 1079) (by decide +kernel), List.mem_of_getElem? (i := 1080) (by decide +kernel)⟩
theorem lw_p55 : lw_okq (⟨"HotPanLocksModel", "mixHand", "(I)V"⟩, 12) := ⟨⟨by decide +kernel, by decide +kernel⟩, List.mem_of_getElem? (i := 723) (by decide +kernel), List.mem_of_getElem? (i := 1084) (by decide +kernel), List.mem_of_getElem? (i := 1085) (by decide +kernel)⟩
theorem lw_p56 : lw_okq (⟨"HotPanLocksModel", "mixRow", "(I)V"⟩, 12) := ⟨⟨by decide +kernel, by decide +kernel⟩, List.mem_of_getElem? (i := 723) (by decide +kernel), List.mem_of_getElem? (i := 1088) (by decide +kernel), List.mem_of_getElem? (i := 1089) (by decide +kernel)⟩
def lw_privs_4 : List (MethodName × Nat) := [(⟨"HotPanLocksModel", "keep", "()V"⟩, 12), (⟨"HotPanLocksModel", "layBack", "()V"⟩, 12), (⟨"HotPanLocksModel", "takersNow", "(II)I"⟩, 12), (⟨"HotPanLocksModel", "burnsNow", "(I)I"⟩, 12), (⟨"HotPanLocksModel", "busiestNow", "()I"⟩, 12), (⟨"HotPanLocksModel", "share", "()D"⟩, 12), (⟨"HotPanLocksModel", "mix", "(J)V"⟩, 12), (⟨"HotPanLocksModel", "mixHand", "(I)V"⟩, 12), (⟨"HotPanLocksModel", "mixRow", "(I)V"⟩, 12)]
theorem lw_r4 : ∀ q ∈ lw_privs_4, lw_okq q := List.forall_mem_cons.mpr ⟨lw_p48, List.forall_mem_cons.mpr ⟨lw_p49, List.forall_mem_cons.mpr ⟨lw_p50, List.forall_mem_cons.mpr ⟨lw_p51, List.forall_mem_cons.mpr ⟨lw_p52, List.forall_mem_cons.mpr ⟨lw_p53, List.forall_mem_cons.mpr ⟨lw_p54, List.forall_mem_cons.mpr ⟨lw_p55, List.forall_mem_cons.mpr ⟨lw_p56, fun _ h => absurd h List.not_mem_nil⟩⟩⟩⟩⟩⟩⟩⟩⟩
def lw_privs : List (MethodName × Nat) := lw_privs_1 ++ (lw_privs_2 ++ (lw_privs_3 ++ (lw_privs_4)))
def lw_tbl : List Cond := k2_sels lw_privs ++ tables_1
theorem lw_privs_ok : ∀ q ∈ lw_privs, lw_okq q := by
  show ∀ q ∈ lw_privs_1 ++ (lw_privs_2 ++ (lw_privs_3 ++ (lw_privs_4))), lw_okq q
  exact List.forall_mem_append.mpr ⟨lw_r1, List.forall_mem_append.mpr ⟨lw_r2, List.forall_mem_append.mpr ⟨lw_r3, lw_r4⟩⟩⟩
/-- the streams that the claim lets the run draw from -/
abbrev lw_cs : List Choice := [Jvm.Choice.named "NaN.bits"]
theorem lw_bits : nanBits ∈ lw_cs := by first | decide | exact List.mem_cons_self | simp [lw_cs, nanBits]
/-! ===== BEGIN words of one list among another's, by their places ===== -/
theorem goodIn_r {big : List Cond} (ws : List Cond) (ps : List Nat) (hp : ws = ps.filterMap (fun i => big[i]?)) (h : ws.all goodWord = true) : GoodIn big ws := by
  intro w hw
  have h1 := List.all_eq_true.mp h w hw
  rw [hp] at hw
  obtain ⟨i, -, hi⟩ := List.mem_filterMap.mp hw
  have hm : w ∈ big := by first | exact List.mem_of_getElem? hi | exact List.getElem?_mem hi
  exact ⟨hm, good_of_word h1⟩
theorem goodIn_app {big a b : List Cond} (ha : GoodIn big a) (hb : GoodIn big b) : GoodIn big (a ++ b) := fun w h => (List.mem_append.mp h).elim (ha w) (hb w)
theorem goodIn_ca {big a b : List Cond} {c : Cond} (ha : GoodIn big (c :: a)) (hb : GoodIn big b) : GoodIn big (c :: (a ++ b)) := fun w h => (List.mem_cons.mp h).elim (fun e => ha w (List.mem_cons.mpr (Or.inl e))) (fun h => (List.mem_append.mp h).elim (fun h => ha w (List.mem_cons.mpr (Or.inr h))) (hb w))
theorem goodIn_sub {big ws : List Cond} (hm : ∀ w ∈ ws, w ∈ big) (h : ws.all goodWord = true) : GoodIn big ws := fun w hw => ⟨hm w hw, good_of_word (List.all_eq_true.mp h w hw)⟩
/-! ===== END ===== -/

/-! ===== BEGIN exceptions that leave a method, and their catching by the caller (launches without stack traces) ===== -/
section VXA
/-! The laws vx_back, vx_callV, vx_callS, vx_callSW, vx_throw0, vx_throwS follow proofs of the library, with one case more: JvmDerived/Free/Laws.lean (Back.of_free), Shelf42/LK1.lean (callV, callS), Shelf/KitTraced.lean (throwNew0V, throwNewS). -/
/-- where a method has thrown q: the class by its name, the cell, what was written, the world -/
def vx_T (XC : String → State → State → Prop) (st : State) (q : Addr) (t : State) (mc ms : Nat) (free : Addr → Prop) : Prop :=
  ∃ (E : String) (ce : Cell) (L : List Loc), XC E st t ∧ t.heap[q]? = some ce ∧ ce.vm = .none ∧ st.vm.findClass E = some ce.cls ∧ st.WarmedH t.vm ∧ st.sameButNew ({ t with vm := st.vm } : State) L mc ms ∧ ∀ z ∈ L, free z.base
def vx_Q (Qc : Array Value → State → Outcome → State → Prop) (XC : String → State → State → Prop) (mc ms : Nat) (free : Addr → Prop) : Array Value → State → Outcome → State → Prop := fun a st o t =>
  (Qc a st o t ∧ ∃ L, FrameEnd st o t L mc ms ∧ ∀ q ∈ L, free q.base) ∨ ∃ q, o = .threw q ∧ vx_T XC st q t mc ms free
/-- a callee that returns or throws -/
def vx_Met (l : Launch) (y : MethodName) (ws : List Cond) (rm : Room) (Pc : Array Value → State → Prop) (Qc : Array Value → State → Outcome → State → Prop) (XC : String → State → State → Prop) (mc ms : Nat) (free : Addr → Prop) : Prop :=
  MetFree l y (headSpec ws rm) Pc (fun _ _ _ _ _ => True) (vx_Q Qc XC mc ms free)
def vx_Post (XC : String → State → State → Prop) (mc ms : Nat) (free : Addr → Prop) : Pt → Array Value → Addr → Pt → Prop := fun A a q B =>
  ∃ (g : JFrame) (mk : MethodId) (t : State) (L : List Loc) (E : String) (ce : Cell), B.U.heap = t.heap ∧ B.U.vm = t.vm ∧ XC E (A.U.calling g mk a) t ∧ t.heap[q]? = some ce ∧ ce.vm = .none ∧ A.U.vm.findClass E = some ce.cls ∧ B.locs = A.locs ++ L ∧ (∀ z ∈ L, free z.base) ∧ B.cells = A.cells + mc ∧ B.slots = A.slots + ms
def vx_Back (l : Launch) (R : Room) (p : Program) (e : Env) (below : List Frame) (s : State) (sargs : Array Value) (y : MethodName) (len W9 : Nat)
    (Pre : Pt → Array Value → Prop) (Post : Pt → Array Value → Option Value → Pt → Prop) (PostX : Pt → Array Value → Addr → Pt → Prop) : Prop :=
  ∀ (m : MethodId) (meth : Method) (c : Code) (A : Pt) (g : JFrame) (ig : Instr) (mk : MethodId) (a : Array Value),
    Stand p l e R s m sargs below meth c A.U A.locs A.cells A.slots → g.method = m → g.locals.size = c.maxLocals → decode c.code g.pc = .ok (ig, len) →
    2 * g.monitorRoom + (g.stack.map fun v => v.category).sum ≤ W9 → A.U.methodNamed? y = some mk → Pre A a →
    (∃ (v : Option Value) (B : Pt), Stand p l e R s m sargs below meth c B.U B.locs B.cells B.slots ∧ Post A a v B ∧
      Steps p.tables e below (doInvoke e (A.U.setTop g) [] mk a).1 (B.U.setTop { g with pc := g.pc + len, stack := v.toList ++ g.stack })) ∨
    (∃ (q : Addr) (B : Pt), Stand p l e R s m sargs below meth c B.U B.locs B.cells B.slots ∧ PostX A a q B ∧
      Steps p.tables e below (doInvoke e (A.U.setTop g) [] mk a).1 ((B.U.setTop g).pushFrame (.throwing q)))
section Payer
variable {l : Launch} {R : Room} {p : Program} {e : Env} {below : List Frame} {s : State} {sargs : Array Value} {y : MethodName} {len W9 : Nat}
theorem vx_back {ws : List Cond} {rm : Room} {Pc : Array Value → State → Prop} {Qc : Array Value → State → Outcome → State → Prop} {XC : String → State → State → Prop} {mc ms : Nat} {free : Addr → Prop} {bytes : ByteArray} {maxL : Nat} {ret : Option FieldType}
    (hM : vx_Met l y ws rm Pc Qc XC mc ms free) (hblind : FrameBlind Pc) (hrc : rm.cells = mc) (hrs : rm.slots = ms)
    (hframes : rm.frames + 1 ≤ R.frames) (hlocals : W9 + (maxL + 11) + rm.locals ≤ R.locals)
    (hws : ∀ w ∈ ws, ∀ a' U, s.WarmedH U.vm → w.before a' U = true) (hcode : Cond.code y bytes maxL ret ∈ ws) (hinit : ∀ a' U, s.WarmedH U.vm → (Cond.initialized y.cls).before a' U = true) :
    vx_Back l R p e below s sargs y len W9 (PreOf R mc ms Pc) (PostOf Qc mc ms free) (vx_Post XC mc ms free) := by
  intro m meth c A g ig mk a X hg hsize hdg hW hn hp
  have h1 : (headSpec ws rm).pre.before a A.U = true := atoms_intro fun w hw => hws w hw _ _ X.warmed
  have h2 : (Cond.code y bytes maxL ret).before a A.U = true := hws _ hcode _ _ X.warmed
  have h3 : (Cond.initialized y.cls).before a A.U = true := hinit _ _ X.warmed
  have h4 : A.cells + (headSpec ws rm).room.cells ≤ R.cells := by rw [show (headSpec ws rm).room.cells = mc from hrc]; exact hp.1
  have h5 : A.slots + (headSpec ws rm).room.slots ≤ R.slots := by rw [show (headSpec ws rm).room.slots = ms from hrs]; exact hp.2.1
  have hPc : Pc a (A.U.calling g mk a) := hblind _ _ _ _ hp.2.2
  obtain ⟨U, Ls, c0, s0⟩ := A
  dsimp only [Pt.U, Pt.locs, Pt.cells, Pt.slots] at h1 h2 h3 h4 h5 X hn hPc ⊢
  obtain ⟨methY, cY, hmY, hcY, -, hlY, -, -, -, -⟩ := Cond.code_spec hn h2
  obtain ⟨kY, hkY, -⟩ := className_of_methodNamed hn
  have hinitY : kY.init = .initialized := Cond.initialized_spec (findClass_of_methodNamed hn) hkY h3
  have h : At U g.method c below := by rw [hg]; exact X.here
  have hlocals9 : W9 + (maxL + 11) + (headSpec ws rm).room.locals ≤ R.locals := hlocals
  have happ : (headSpec ws rm).appliesLoose y e.platform (U.calling g mk a) = true :=
    Spec.appliesLoose_calling (g := g) h hdg hn hkY hinitY
      (X.room_calling (g := g) (R' := (headSpec ws rm).room) hsize hmY hcY hframes (by rw [hlY]; omega) h4 h5) h1
  obtain ⟨mid, hmid⟩ := h.above
  have hfr : (U.setTop g).frames = (.java g :: mid) ++ below := by rw [State.frames_setTop' g h.top, hmid]; rfl
  obtain ⟨o, s₂, hsteps, -, hend, hq⟩ := Steps.callFree hM p X.admits X.cas X.clock (acts := []) hfr happ hPc trivial
  have hq' : vx_Q Qc XC mc ms free a (U.calling g mk a) o s₂ := hq
  rw [State.frames_setTop' g h.top] at hend
  obtain ⟨g₀, hg0⟩ := Option.isSome_iff_exists.mp h.top
  obtain ⟨r, hr⟩ := State.topJava?_eq_some.mp hg0
  have hr' : (({ U with heap := s₂.heap, slotsUsed := s₂.slotsUsed } : State).setVm s₂.vm).frames = .java g₀ :: r := hr
  rcases hq' with ⟨hqc, L, hfe, hL⟩ | ⟨q, rfl, E, ce, L, hx, hce, hcv, hcl, hW₂, hsm, hL⟩
  · obtain ⟨⟨v, rfl⟩, hW₂, e2, q2, q3, q4, q5, q6⟩ := id hfe
    have e3 : s₂ = ({ (U.calling g mk a).setFrames s₂.frames with heap := s₂.heap, slotsUsed := s₂.slotsUsed } : State).setVm s₂.vm := by
      have : s₂ = ({ s₂ with vm := (U.calling g mk a).vm } : State).setVm s₂.vm := rfl
      rw [e2] at this
      exact this
    obtain ⟨c₂, i₂, len₂, hc₂, hd₂, hf₂⟩ := hend
    have hW' : U.WarmedH s₂.vm := hW₂
    have hcc : c₂ = c := by
      have h1 : s₂.code? g.method = U.code? g.method := by
        rw [State.code?_eq, State.code?_eq, hW'.alike.method?]
      exact Option.some.inj (hc₂.symm.trans (h1.trans h.code))
    subst hcc
    have hlen : len₂ = len := by rw [hdg] at hd₂; cases hd₂; rfl
    subst hlen
    have hs₂ : s₂ = (({ U with heap := s₂.heap, slotsUsed := s₂.slotsUsed } : State).setVm s₂.vm).setTop { g with pc := g.pc + len₂, stack := v.toList ++ g.stack } := by
      refine e3.trans ?_
      rw [hf₂, State.calling_eq h.top, State.setFrames_setFrames, State.setTop_of_frames _ hr', hr]
      rfl
    have hsame : U.sameButNew ({ U with heap := s₂.heap, slotsUsed := s₂.slotsUsed } : State) L mc ms := by
      refine ⟨?_, q2, q3, q4, q5, q6⟩
      obtain ⟨t, ht, -⟩ := State.frames_cons hr
      show ({ U with heap := s₂.heap, slotsUsed := s₂.slotsUsed } : State) = { U.setFrames U.frames with heap := s₂.heap, slotsUsed := s₂.slotsUsed }
      rw [State.setFrames_self ht]
    subst hg
    refine Or.inl ⟨v, ⟨(({ U with heap := s₂.heap, slotsUsed := s₂.slotsUsed } : State).setVm s₂.vm), Ls ++ L, c0 + mc, s0 + ms⟩,
      ⟨X.admits, X.cas, X.clock, X.frames, X.room, X.hears, X.method, X.code, (X.here.setHeapUsed s₂.heap s₂.slotsUsed).setVm hW'.alike, X.tail, State.WarmedH.trans X.warmed hW', X.limits, X.bytes, X.same.trans (hsame.setVm s.vm)⟩,
      ⟨g, mk, s₂, L, rfl, rfl, hqc, rfl, hL, rfl, rfl⟩, ?_⟩
    show Steps p.tables e below _ ((({ U with heap := s₂.heap, slotsUsed := s₂.slotsUsed } : State).setVm s₂.vm).setTop { g with pc := g.pc + len₂, stack := v.toList ++ g.stack })
    rw [← hs₂]
    exact hsteps
  · obtain ⟨e2, q2, q3, q4, q5, q6⟩ := id hsm
    have e3 : s₂ = ({ (U.calling g mk a).setFrames s₂.frames with heap := s₂.heap, slotsUsed := s₂.slotsUsed } : State).setVm s₂.vm := by
      have : s₂ = ({ s₂ with vm := (U.calling g mk a).vm } : State).setVm s₂.vm := rfl
      rw [e2] at this
      exact this
    have hf₂ : s₂.frames = .throwing q :: .java g :: U.frames.tail := hend
    have hW' : U.WarmedH s₂.vm := hW₂
    have hs₂ : s₂ = ((({ U with heap := s₂.heap, slotsUsed := s₂.slotsUsed } : State).setVm s₂.vm).setTop g).pushFrame (.throwing q) := by
      refine e3.trans ?_
      rw [hf₂, State.calling_eq h.top, State.setFrames_setFrames, State.pushFrame, State.frames_setTop _ hr', State.setTop_of_frames _ hr', State.setFrames_setFrames, hr]
      rfl
    have hsame : U.sameButNew ({ U with heap := s₂.heap, slotsUsed := s₂.slotsUsed } : State) L mc ms := by
      refine ⟨?_, q2, q3, q4, q5, q6⟩
      obtain ⟨t, ht, -⟩ := State.frames_cons hr
      show ({ U with heap := s₂.heap, slotsUsed := s₂.slotsUsed } : State) = { U.setFrames U.frames with heap := s₂.heap, slotsUsed := s₂.slotsUsed }
      rw [State.setFrames_self ht]
    subst hg
    refine Or.inr ⟨q, ⟨(({ U with heap := s₂.heap, slotsUsed := s₂.slotsUsed } : State).setVm s₂.vm), Ls ++ L, c0 + mc, s0 + ms⟩,
      ⟨X.admits, X.cas, X.clock, X.frames, X.room, X.hears, X.method, X.code, (X.here.setHeapUsed s₂.heap s₂.slotsUsed).setVm hW'.alike, X.tail, State.WarmedH.trans X.warmed hW', X.limits, X.bytes, X.same.trans (hsame.setVm s.vm)⟩,
      ⟨g, mk, s₂, L, E, ce, rfl, rfl, hx, hce, hcv, hcl, rfl, hL, rfl, rfl⟩, ?_⟩
    show Steps p.tables e below _ (((({ U with heap := s₂.heap, slotsUsed := s₂.slotsUsed } : State).setVm s₂.vm).setTop g).pushFrame (.throwing q))
    rw [← hs₂]
    exact hsteps
end Payer
section Calls
variable {p : Program} {l : Launch} {e : Env} {R : Room} {s : State} {m : MethodId} {args : Array Value} {below : List Frame} {meth : Method} {c : Code} {T : State} {locs : List Loc} {cells slots : Nat}
theorem vx_callV (X : Stand p l e R s m args below meth c T locs cells slots) (hexec : p.tables.exec = Jvm.exec) {own C : String} {index : Nat} {y : MethodName} {bytes : ByteArray} {maxL : Nat} {ret : Option FieldType}
    (hown : s.vm.findClass own = some m.cls) (hlink : (Cond.methodLink own index y).before args s = true) (hinst : (Cond.instanceMethod y).before args s = true) (hsel : (Cond.selects C y y).before args s = true)
    (hcode : (Cond.code y bytes maxL ret).before args s = true) (hy : y.cls ≠ "java/lang/invoke/MethodHandle" ∧ y.cls ≠ "java/lang/invoke/VarHandle")
    {W9 : Nat} {Pre : Pt → Array Value → Prop} {Post : Pt → Array Value → Option Value → Pt → Prop} {PostX : Pt → Array Value → Addr → Pt → Prop} (hK : vx_Back l R p e below s args y 3 W9 Pre Post PostX)
    {b : Addr} {cellB : Cell} (hcell : T.heap[b]? = some cellB) (hobj : cellB.vm.isStatics = false) (hcls : s.vm.findClass C = some cellB.cls)
    {g : JFrame} (hg : g.method = m) (hsize : g.locals.size = c.maxLocals) {argsL rest : List Value} (hlen : ∀ sig, parseMethodDescriptor y.desc = some sig → argsL.length = sig.parameters.length)
    (hstack : g.stack = argsL.reverse ++ .ref b :: rest) (hW : 2 * g.monitorRoom + (rest.map fun v => v.category).sum ≤ W9) (hdg : decode c.code g.pc = .ok (.invokevirtual index, 3))
    (hpre : ∀ vm₁, s.WarmedH vm₁ → Pre ⟨T.setVm vm₁, locs, cells, slots⟩ (Value.ref b :: argsL).toArray) :
    (∃ (v : Option Value) (vm₁ : Vm) (B : Pt), s.WarmedH vm₁ ∧ Stand p l e R s m args below meth c B.U B.locs B.cells B.slots ∧ Post ⟨T.setVm vm₁, locs, cells, slots⟩ (Value.ref b :: argsL).toArray v B ∧
      ∀ target, Steps p.tables e below (B.U.setTop { g with pc := g.pc + 3, stack := v.toList ++ rest }) target → Steps p.tables e below (T.setTop g) target) ∨
    (∃ (q : Addr) (vm₁ : Vm) (B : Pt), s.WarmedH vm₁ ∧ Stand p l e R s m args below meth c B.U B.locs B.cells B.slots ∧ PostX ⟨T.setVm vm₁, locs, cells, slots⟩ (Value.ref b :: argsL).toArray q B ∧
      Steps p.tables e below (T.setTop g) ((B.U.setTop { g with stack := rest }).pushFrame (.throwing q))) := by
  obtain ⟨mk, methM, hnamed, hmethM, hstM, habM⟩ := Cond.instanceMethod_spec hinst
  obtain ⟨methM', cM, hmethM', -, -, -, -, -, -, hsigM⟩ := Cond.code_spec hnamed hcode
  cases hmethM.symm.trans hmethM'
  obtain ⟨c2, r2, m2, q1, q2, q3, q4, kP, hkP, hkPi⟩ := Cond.selects_spec hsel
  cases hcls.symm.trans q1
  cases (State.methodFound?_of_named hnamed hy).symm.trans q2
  cases hnamed.symm.trans q3
  have hselP : selectMethod e.platform s.vm cellB.cls mk = .method mk := by rw [Launch.admits_selectMethod X.admits]; exact q4
  obtain ⟨vm₁, X₁, hstep₁⟩ := X.invokevirtual hexec hown hlink hnamed hmethM hstM hkP hkPi hy (a := b) (cell := cellB) hcell
    (fun z h => by rw [h] at hobj; cases hobj) hselP hmethM habM hkP hkPi (g := g) hg (argsL := argsL) (rest := rest) (hlen _ hsigM) hstack hdg
  rcases hK m meth c ⟨T.setVm vm₁, locs, cells, slots⟩ { g with stack := rest } (.invokevirtual index) mk (Value.ref b :: argsL).toArray X₁ hg hsize hdg hW (X₁.named hnamed) (hpre vm₁ X₁.warmed) with ⟨v, B, X', hpost, hsteps⟩ | ⟨q, B, X', hpost, hsteps⟩
  · exact Or.inl ⟨v, vm₁, B, X₁.warmed, X', hpost, fun target h => hstep₁ _ fun acts => by rw [doInvoke_state]; exact hsteps.trans h⟩
  · exact Or.inr ⟨q, vm₁, B, X₁.warmed, X', hpost, hstep₁ _ fun acts => by rw [doInvoke_state]; exact hsteps⟩
theorem vx_callS (X : Stand p l e R s m args below meth c T locs cells slots) (hexec : p.tables.exec = Jvm.exec) {own : String} {index : Nat} {y : MethodName} {bytes : ByteArray} {maxL : Nat} {ret : Option FieldType}
    (hown : s.vm.findClass own = some m.cls) (hlink : (Cond.methodLink own index y).before args s = true) (hstat : (Cond.static y).before args s = true) (hinit : (Cond.initialized y.cls).before args s = true)
    (hcode : (Cond.code y bytes maxL ret).before args s = true) (hy : y.cls ≠ "java/lang/invoke/MethodHandle" ∧ y.cls ≠ "java/lang/invoke/VarHandle")
    {W9 : Nat} {Pre : Pt → Array Value → Prop} {Post : Pt → Array Value → Option Value → Pt → Prop} {PostX : Pt → Array Value → Addr → Pt → Prop} (hK : vx_Back l R p e below s args y 3 W9 Pre Post PostX)
    {g : JFrame} (hg : g.method = m) (hsize : g.locals.size = c.maxLocals) {argsL rest : List Value} (hlen : ∀ sig, parseMethodDescriptor y.desc = some sig → argsL.length = sig.parameters.length)
    (hstack : g.stack = argsL.reverse ++ rest) (hW : 2 * g.monitorRoom + (rest.map fun v => v.category).sum ≤ W9) (hdg : decode c.code g.pc = .ok (.invokestatic index, 3))
    (hpre : ∀ vm₁, s.WarmedH vm₁ → Pre ⟨T.setVm vm₁, locs, cells, slots⟩ argsL.toArray) :
    (∃ (v : Option Value) (vm₁ : Vm) (B : Pt), s.WarmedH vm₁ ∧ Stand p l e R s m args below meth c B.U B.locs B.cells B.slots ∧ Post ⟨T.setVm vm₁, locs, cells, slots⟩ argsL.toArray v B ∧
      ∀ target, Steps p.tables e below (B.U.setTop { g with pc := g.pc + 3, stack := v.toList ++ rest }) target → Steps p.tables e below (T.setTop g) target) ∨
    (∃ (q : Addr) (vm₁ : Vm) (B : Pt), s.WarmedH vm₁ ∧ Stand p l e R s m args below meth c B.U B.locs B.cells B.slots ∧ PostX ⟨T.setVm vm₁, locs, cells, slots⟩ argsL.toArray q B ∧
      Steps p.tables e below (T.setTop g) ((B.U.setTop { g with stack := rest }).pushFrame (.throwing q))) := by
  obtain ⟨mk, hnamed⟩ := Cond.code_named hcode
  obtain ⟨methM, cM, hmethM, -, -, -, -, -, -, hsigM⟩ := Cond.code_spec hnamed hcode
  have hstatic : methM.isStatic = true := Cond.static_spec hnamed hmethM hstat
  obtain ⟨kP, hkP, -⟩ := className_of_methodNamed hnamed
  have hinitP : kP.init = .initialized := Cond.initialized_spec (findClass_of_methodNamed hnamed) hkP hinit
  obtain ⟨vm₁, X₁, hstep₁⟩ := X.invokestatic hexec hown hlink hnamed hmethM hstatic hkP hinitP hy (g := g) hg (argsL := argsL) (rest := rest) (hlen _ hsigM) hstack hdg
  rcases hK m meth c ⟨T.setVm vm₁, locs, cells, slots⟩ { g with stack := rest } (.invokestatic index) mk argsL.toArray X₁ hg hsize hdg hW (X₁.named hnamed) (hpre vm₁ X₁.warmed) with ⟨v, B, X', hpost, hsteps⟩ | ⟨q, B, X', hpost, hsteps⟩
  · exact Or.inl ⟨v, vm₁, B, X₁.warmed, X', hpost, fun target h => hstep₁ _ fun acts => by rw [doInvoke_state]; exact hsteps.trans h⟩
  · exact Or.inr ⟨q, vm₁, B, X₁.warmed, X', hpost, hstep₁ _ fun acts => by rw [doInvoke_state]; exact hsteps⟩
end Calls
theorem vx_cls {s : State} {T : State} {vm₁ : Vm} {E : String} {k : ClassId} (hW : s.WarmedH vm₁) (h : (T.setVm vm₁).vm.findClass E = some k) : s.vm.findClass E = some k := by
  have h1 : vm₁.findClass E = some k := h
  rw [hW.alike.findClass] at h1
  exact h1
/-- the method's frame g, with q thrown over it -/
def vx_W (p : Program) (l : Launch) (e : Env) (R : Room) (s : State) (m : MethodId) (args : Array Value) (below : List Frame) (meth : Method) (c : Code) (H : Heap) (locs : List Loc) (cells slots : Nat) (Q : State → Prop) (g : JFrame) (q : Addr) : Prop :=
  ∀ T : State, T.heap = H → Stand p l e R s m args below meth c T locs cells slots → ∃ t, Steps p.tables e below ((T.setTop g).pushFrame (.throwing q)) t ∧ Q t
def vx_Run (p : Program) (l : Launch) (e : Env) (R : Room) (s : State) (m : MethodId) (args : Array Value) (below : List Frame) (meth : Method) (c : Code) (H : Heap) (locs : List Loc) (cells slots mc ms : Nat) (g : JFrame) (rest : List Value) (Qa : State → Outcome → State → Prop) (XC : String → State → State → Prop) (free : Addr → Prop) : Prop :=
  ∀ T : State, T.heap = H → Stand p l e R s m args below meth c T locs cells slots →
    (∃ (v : Option Value) (st₀ t T' : State) (L : List Loc), st₀.heap = H ∧ Stand p l e R s m args below meth c T' (locs ++ L) (cells + mc) (slots + ms) ∧ (∀ q ∈ L, free q.base) ∧ T'.heap = t.heap ∧ T'.vm = t.vm ∧ Qa st₀ (.returned v) t ∧
      Goes p e below T g T' { g with pc := g.pc + 3, stack := v.toList ++ rest }) ∨
    (∃ (q : Addr) (st₀ t T' : State) (L : List Loc) (E : String) (ce : Cell), st₀.heap = H ∧ Stand p l e R s m args below meth c T' (locs ++ L) (cells + mc) (slots + ms) ∧ (∀ z ∈ L, free z.base) ∧ T'.heap = t.heap ∧ T'.vm = t.vm ∧ XC E st₀ t ∧ t.heap[q]? = some ce ∧ ce.vm = .none ∧ s.vm.findClass E = some ce.cls ∧
      Steps p.tables e below (T.setTop g) ((T'.setTop { g with stack := rest }).pushFrame (.throwing q)))
def vx_X {S : Type} (px : S → Prop) (B : String → S → State → Prop) (A : Nat → Prop) : String → State → State → Prop := fun E st t => ∃ u : S, px u ∧ B E u t ∧ va_F A st t
section Runs
variable {p : Program} {l : Launch} {e : Env} {R : Room} {s : State} {m : MethodId} {args : Array Value} {below : List Frame} {meth : Method} {c : Code} {H : Heap} {locs : List Loc} {cells slots : Nat}
variable {y : MethodName} {bytes cc : ByteArray} {maxL nL mc ms n index : Nat} {ret : Option FieldType} {ws : List Cond} {rm : Room} {Pc : Array Value → State → Prop} {Qc : Array Value → State → Outcome → State → Prop} {XC : String → State → State → Prop} {free : Addr → Prop} {Ts : List Cond} {own C : String} {b : Addr} {As rest : List Value} {g : JFrame}
theorem vx_callBack (cb : CallB R s args own index y bytes maxL ret ws rm mc ms n) (hM : vx_Met l y ws rm Pc Qc XC mc ms free) (hbl : FrameBlind Pc) : vx_Back l R p e below s args y 3 8 (PreOf R mc ms Pc) (PostOf Qc mc ms free) (vx_Post XC mc ms free) := by
  obtain ⟨hrc, hrs, hfr, hlo, hws, hcw, -, hini, -⟩ := cb
  exact vx_back (bytes := bytes) (maxL := maxL) (ret := ret) hM hbl hrc hrs hfr hlo hws hcw (fun a' U hW => word_at hW (Or.inl (by first | rfl | simp [Cond.onTables, Cond.keeps, Cond.steady])) hini)
theorem vx_runV (S : CallFix p m c cc nL s args Ts own) (hM : vx_Met l y ws rm Pc Qc XC mc ms free) (cw : CallW R s args own C index y bytes maxL ret ws rm mc ms n) (hp : PreV s H C b Pc As)
    (hg : g.method = m) (hn : As.length = n) (hsize : g.locals.size = nL) (hstack : g.stack = As.reverse ++ .ref b :: rest) (hW : 2 * g.monitorRoom + (rest.map fun v => v.category).sum ≤ 8) (hdg : decode cc g.pc = .ok (.invokevirtual index, 3)) (hf : cells + mc ≤ R.cells ∧ slots + ms ≤ R.slots) :
    vx_Run p l e R s m args below meth c H locs cells slots mc ms g rest (Qc (Value.ref b :: As).toArray) XC free := by
  have hK : vx_Back l R p e below s args y 3 8 (PreOf R mc ms Pc) (PostOf Qc mc ms free) (vx_Post XC mc ms free) := vx_callBack cw.1 hM hp.1
  obtain ⟨⟨-, -, -, -, -, -, hcode, -, hy, hlen, hl⟩, hin, hse⟩ := cw
  obtain ⟨hx, hb, hml, ho, -⟩ := S
  obtain ⟨-, ⟨cellB, hcB, hoB, hclB⟩, hPc⟩ := hp
  intro T hT X
  rcases vx_callV X hx (C := C) (bytes := bytes) (maxL := maxL) (ret := ret) ho hl hin hse hcode hy hK (by rw [hT]; exact hcB) hoB hclB hg (hsize.trans hml.symm) (argsL := As) (rest := rest) (fun sig h => hn.trans (hlen sig h)) hstack hW (by rw [hb]; exact hdg)
    (fun vm₁ hW₁ => ⟨hf.1, hf.2, hPc (T.setVm vm₁) hT hW₁⟩) with ⟨v, vm₁, ⟨U', l2, c2, s2⟩, hW₁, X', ⟨g', mk, t, L, e1, e2, hq, h1, hL, h2, h3⟩, st⟩ | ⟨q, vm₁, ⟨U', l2, c2, s2⟩, hW₁, X', ⟨g', mk, t, L, E, ce, e1, e2, hq, hce, hcv, hcl, h1, hL, h2, h3⟩, st⟩
  · dsimp only [Pt.U, Pt.locs, Pt.cells, Pt.slots] at X' e1 e2 h1 h2 h3 st
    subst h1; subst h2; subst h3
    exact Or.inl ⟨v, (T.setVm vm₁).calling g' mk (Value.ref b :: As).toArray, t, U', L, hT, X', hL, e1, e2, hq, st⟩
  · dsimp only [Pt.U, Pt.locs, Pt.cells, Pt.slots] at X' e1 e2 h1 h2 h3 st hcl
    subst h1; subst h2; subst h3
    exact Or.inr ⟨q, (T.setVm vm₁).calling g' mk (Value.ref b :: As).toArray, t, U', L, E, ce, hT, X', hL, e1, e2, hq, hce, hcv, vx_cls hW₁ hcl, st⟩
theorem vx_runS (S : CallFix p m c cc nL s args Ts own) (hM : vx_Met l y ws rm Pc Qc XC mc ms free) (cw : CallB R s args own index y bytes maxL ret ws rm mc ms n ∧ (Cond.static y).before args s = true) (hp : PreS s H Pc As)
    (hg : g.method = m) (hn : As.length = n) (hsize : g.locals.size = nL) (hstack : g.stack = As.reverse ++ rest) (hW : 2 * g.monitorRoom + (rest.map fun v => v.category).sum ≤ 8) (hdg : decode cc g.pc = .ok (.invokestatic index, 3)) (hf : cells + mc ≤ R.cells ∧ slots + ms ≤ R.slots) :
    vx_Run p l e R s m args below meth c H locs cells slots mc ms g rest (Qc As.toArray) XC free := by
  have hK : vx_Back l R p e below s args y 3 8 (PreOf R mc ms Pc) (PostOf Qc mc ms free) (vx_Post XC mc ms free) := vx_callBack cw.1 hM hp.1
  obtain ⟨⟨-, -, -, -, -, -, hcode, hini, hy, hlen, hl⟩, hstt⟩ := cw
  obtain ⟨hx, hb, hml, ho, -⟩ := S
  intro T hT X
  rcases vx_callS X hx (bytes := bytes) (maxL := maxL) (ret := ret) ho hl hstt hini hcode hy hK hg (hsize.trans hml.symm) (argsL := As) (rest := rest) (fun sig h => hn.trans (hlen sig h)) hstack hW (by rw [hb]; exact hdg)
    (fun vm₁ hW₁ => ⟨hf.1, hf.2, hp.2 (T.setVm vm₁) hT hW₁⟩) with ⟨v, vm₁, ⟨U', l2, c2, s2⟩, hW₁, X', ⟨g', mk, t, L, e1, e2, hq, h1, hL, h2, h3⟩, st⟩ | ⟨q, vm₁, ⟨U', l2, c2, s2⟩, hW₁, X', ⟨g', mk, t, L, E, ce, e1, e2, hq, hce, hcv, hcl, h1, hL, h2, h3⟩, st⟩
  · dsimp only [Pt.U, Pt.locs, Pt.cells, Pt.slots] at X' e1 e2 h1 h2 h3 st
    subst h1; subst h2; subst h3
    exact Or.inl ⟨v, (T.setVm vm₁).calling g' mk As.toArray, t, U', L, hT, X', hL, e1, e2, hq, st⟩
  · dsimp only [Pt.U, Pt.locs, Pt.cells, Pt.slots] at X' e1 e2 h1 h2 h3 st hcl
    subst h1; subst h2; subst h3
    exact Or.inr ⟨q, (T.setVm vm₁).calling g' mk As.toArray, t, U', L, E, ce, hT, X', hL, e1, e2, hq, hce, hcv, vx_cls hW₁ hcl, st⟩
end Runs
section Rows
variable {p : Program} {l : Launch} {e : Env} {R : Room} {s : State} {m : MethodId} {args : Array Value} {below : List Frame} {meth : Method} {c : Code} {H : Heap} {locs : List Loc} {cells slots : Nat} {Q : State → Prop}
variable {mc ms : Nat} {free : Addr → Prop} {A0 A1 : Nat → Prop} {H0 : Heap} {a : Array Value} {pc : Nat} {ls : Array Slot} {st0 rest : List Value}
theorem vx_keep {st₀ t T' : State} {L : List Loc} (h0 : st₀.heap = H) (e1 : T'.heap = t.heap) (hS : va_S A0 H0 H locs) (hA : ∀ q, q < H.size → A1 q → A0 q) (hf : ∀ q, free q → A0 q) (hL : ∀ q ∈ L, free q.base) (hF : va_F A1 st₀ t) :
    H.size ≤ T'.heap.size ∧ (∀ q : Nat, q < H.size → ¬ A1 q → T'.heap[q]? = H[q]?) ∧ va_S A0 H0 T'.heap (locs ++ L) := by
  obtain ⟨hz, hk⟩ := hF
  rw [h0] at hz hk
  exact ⟨by rw [e1]; exact hz, fun q h1 h2 => by rw [e1]; exact hk q h1 h2,
    ⟨Nat.le_trans hS.1 (by rw [e1]; exact hz), fun q h1 h2 => by rw [e1, hk q (Nat.lt_of_lt_of_le h1 hS.1) (fun z => h2 (hA q (Nat.lt_of_lt_of_le h1 hS.1) z))]; exact hS.2.1 q h1 h2, fun q hq => by
      rcases List.mem_append.mp hq with h | h
      · exact hS.2.2 q h
      · exact hf _ (hL q h)⟩⟩
theorem vx_calli {S SX : Type} {post : Int32 → S → Prop} {px : SX → Prop} {B : S → State → Prop} {BX : String → SX → State → Prop} {AX : Nat → Prop} (hr : vx_Run p l e R s m args below meth c H locs cells slots mc ms (F0 m pc ls st0) rest (va_Qi post B A1 a) (vx_X px BX AX) free) (hS : va_S A0 H0 H locs) (hA : ∀ q, q < H.size → A1 q → A0 q) (hf : ∀ q, free q → A0 q) (hAX : ∀ q, q < H.size → AX q → A0 q)
    (kx : ∀ (E : String) (ce : Cell) (q9 : Addr) (u : SX) (t : State) (H1 : Heap) (locs1 : List Loc), t.heap = H1 → s.vm.Alike t.vm → px u → BX E u t → H.size ≤ H1.size → (∀ q : Nat, q < H.size → ¬ AX q → H1[q]? = H[q]?) → va_S A0 H0 H1 locs1 → H1[q9]? = some ce → ce.vm = .none → s.vm.findClass E = some ce.cls → vx_W p l e R s m args below meth c H1 locs1 (cells + mc) (slots + ms) Q (F0 m pc ls rest) q9)
    (kk : ∀ (r : Int32) (u : S) (t : State) (H1 : Heap) (locs1 : List Loc), t.heap = H1 → s.vm.Alike t.vm → post r u → B u t → H.size ≤ H1.size → (∀ q : Nat, q < H.size → ¬ A1 q → H1[q]? = H[q]?) → va_S A0 H0 H1 locs1 → W p l e R s m args below meth c H1 locs1 (cells + mc) (slots + ms) Q (F0 m (pc + 3) ls (.int r :: rest))) : W p l e R s m args below meth c H locs cells slots Q (F0 m pc ls st0) := by
  intro T hT X
  rcases hr T hT X with ⟨v, st₀, t, T', L, h0, X', hL, e1, e2, ⟨⟨r, u, hv, hp, hb⟩, hF⟩, st⟩ | ⟨q, st₀, t, T', L, E, ce, h0, X', hL, e1, e2, ⟨u, hp, hb, hF⟩, hce, hcv, hcl, st⟩
  · cases hv
    obtain ⟨k1, k2, k3⟩ := vx_keep h0 e1 hS hA hf hL hF
    obtain ⟨t2, a1, b1⟩ := kk r u t T'.heap (locs ++ L) e1.symm (by rw [← e2]; exact X'.warmed.alike) hp hb k1 k2 k3 T' rfl X'
    exact ⟨t2, st t2 a1, b1⟩
  · obtain ⟨k1, k2, k3⟩ := vx_keep h0 e1 hS hAX hf hL hF
    obtain ⟨t2, a1, b1⟩ := kx E ce q u t T'.heap (locs ++ L) e1.symm (by rw [← e2]; exact X'.warmed.alike) hp hb k1 k2 k3 (by rw [e1]; exact hce) hcv hcl T' rfl X'
    exact ⟨t2, st.trans a1, b1⟩
theorem vx_calll {S SX : Type} {post : Int64 → S → Prop} {px : SX → Prop} {B : S → State → Prop} {BX : String → SX → State → Prop} {AX : Nat → Prop} (hr : vx_Run p l e R s m args below meth c H locs cells slots mc ms (F0 m pc ls st0) rest (va_Ql post B A1 a) (vx_X px BX AX) free) (hS : va_S A0 H0 H locs) (hA : ∀ q, q < H.size → A1 q → A0 q) (hf : ∀ q, free q → A0 q) (hAX : ∀ q, q < H.size → AX q → A0 q)
    (kx : ∀ (E : String) (ce : Cell) (q9 : Addr) (u : SX) (t : State) (H1 : Heap) (locs1 : List Loc), t.heap = H1 → s.vm.Alike t.vm → px u → BX E u t → H.size ≤ H1.size → (∀ q : Nat, q < H.size → ¬ AX q → H1[q]? = H[q]?) → va_S A0 H0 H1 locs1 → H1[q9]? = some ce → ce.vm = .none → s.vm.findClass E = some ce.cls → vx_W p l e R s m args below meth c H1 locs1 (cells + mc) (slots + ms) Q (F0 m pc ls rest) q9)
    (kk : ∀ (r : Int64) (u : S) (t : State) (H1 : Heap) (locs1 : List Loc), t.heap = H1 → s.vm.Alike t.vm → post r u → B u t → H.size ≤ H1.size → (∀ q : Nat, q < H.size → ¬ A1 q → H1[q]? = H[q]?) → va_S A0 H0 H1 locs1 → W p l e R s m args below meth c H1 locs1 (cells + mc) (slots + ms) Q (F0 m (pc + 3) ls (.long r :: rest))) : W p l e R s m args below meth c H locs cells slots Q (F0 m pc ls st0) := by
  intro T hT X
  rcases hr T hT X with ⟨v, st₀, t, T', L, h0, X', hL, e1, e2, ⟨⟨r, u, hv, hp, hb⟩, hF⟩, st⟩ | ⟨q, st₀, t, T', L, E, ce, h0, X', hL, e1, e2, ⟨u, hp, hb, hF⟩, hce, hcv, hcl, st⟩
  · cases hv
    obtain ⟨k1, k2, k3⟩ := vx_keep h0 e1 hS hA hf hL hF
    obtain ⟨t2, a1, b1⟩ := kk r u t T'.heap (locs ++ L) e1.symm (by rw [← e2]; exact X'.warmed.alike) hp hb k1 k2 k3 T' rfl X'
    exact ⟨t2, st t2 a1, b1⟩
  · obtain ⟨k1, k2, k3⟩ := vx_keep h0 e1 hS hAX hf hL hF
    obtain ⟨t2, a1, b1⟩ := kx E ce q u t T'.heap (locs ++ L) e1.symm (by rw [← e2]; exact X'.warmed.alike) hp hb k1 k2 k3 (by rw [e1]; exact hce) hcv hcl T' rfl X'
    exact ⟨t2, st.trans a1, b1⟩
theorem vx_callf {S SX : Type} {post : UInt32 → S → Prop} {px : SX → Prop} {B : S → State → Prop} {BX : String → SX → State → Prop} {AX : Nat → Prop} (hr : vx_Run p l e R s m args below meth c H locs cells slots mc ms (F0 m pc ls st0) rest (va_Qf post B A1 a) (vx_X px BX AX) free) (hS : va_S A0 H0 H locs) (hA : ∀ q, q < H.size → A1 q → A0 q) (hf : ∀ q, free q → A0 q) (hAX : ∀ q, q < H.size → AX q → A0 q)
    (kx : ∀ (E : String) (ce : Cell) (q9 : Addr) (u : SX) (t : State) (H1 : Heap) (locs1 : List Loc), t.heap = H1 → s.vm.Alike t.vm → px u → BX E u t → H.size ≤ H1.size → (∀ q : Nat, q < H.size → ¬ AX q → H1[q]? = H[q]?) → va_S A0 H0 H1 locs1 → H1[q9]? = some ce → ce.vm = .none → s.vm.findClass E = some ce.cls → vx_W p l e R s m args below meth c H1 locs1 (cells + mc) (slots + ms) Q (F0 m pc ls rest) q9)
    (kk : ∀ (r : UInt32) (u : S) (t : State) (H1 : Heap) (locs1 : List Loc), t.heap = H1 → s.vm.Alike t.vm → post r u → B u t → H.size ≤ H1.size → (∀ q : Nat, q < H.size → ¬ A1 q → H1[q]? = H[q]?) → va_S A0 H0 H1 locs1 → W p l e R s m args below meth c H1 locs1 (cells + mc) (slots + ms) Q (F0 m (pc + 3) ls (.float r :: rest))) : W p l e R s m args below meth c H locs cells slots Q (F0 m pc ls st0) := by
  intro T hT X
  rcases hr T hT X with ⟨v, st₀, t, T', L, h0, X', hL, e1, e2, ⟨⟨r, u, hv, hp, hb⟩, hF⟩, st⟩ | ⟨q, st₀, t, T', L, E, ce, h0, X', hL, e1, e2, ⟨u, hp, hb, hF⟩, hce, hcv, hcl, st⟩
  · cases hv
    obtain ⟨k1, k2, k3⟩ := vx_keep h0 e1 hS hA hf hL hF
    obtain ⟨t2, a1, b1⟩ := kk r u t T'.heap (locs ++ L) e1.symm (by rw [← e2]; exact X'.warmed.alike) hp hb k1 k2 k3 T' rfl X'
    exact ⟨t2, st t2 a1, b1⟩
  · obtain ⟨k1, k2, k3⟩ := vx_keep h0 e1 hS hAX hf hL hF
    obtain ⟨t2, a1, b1⟩ := kx E ce q u t T'.heap (locs ++ L) e1.symm (by rw [← e2]; exact X'.warmed.alike) hp hb k1 k2 k3 (by rw [e1]; exact hce) hcv hcl T' rfl X'
    exact ⟨t2, st.trans a1, b1⟩
theorem vx_calld {S SX : Type} {post : UInt64 → S → Prop} {px : SX → Prop} {B : S → State → Prop} {BX : String → SX → State → Prop} {AX : Nat → Prop} (hr : vx_Run p l e R s m args below meth c H locs cells slots mc ms (F0 m pc ls st0) rest (va_Qd post B A1 a) (vx_X px BX AX) free) (hS : va_S A0 H0 H locs) (hA : ∀ q, q < H.size → A1 q → A0 q) (hf : ∀ q, free q → A0 q) (hAX : ∀ q, q < H.size → AX q → A0 q)
    (kx : ∀ (E : String) (ce : Cell) (q9 : Addr) (u : SX) (t : State) (H1 : Heap) (locs1 : List Loc), t.heap = H1 → s.vm.Alike t.vm → px u → BX E u t → H.size ≤ H1.size → (∀ q : Nat, q < H.size → ¬ AX q → H1[q]? = H[q]?) → va_S A0 H0 H1 locs1 → H1[q9]? = some ce → ce.vm = .none → s.vm.findClass E = some ce.cls → vx_W p l e R s m args below meth c H1 locs1 (cells + mc) (slots + ms) Q (F0 m pc ls rest) q9)
    (kk : ∀ (r : UInt64) (u : S) (t : State) (H1 : Heap) (locs1 : List Loc), t.heap = H1 → s.vm.Alike t.vm → post r u → B u t → H.size ≤ H1.size → (∀ q : Nat, q < H.size → ¬ A1 q → H1[q]? = H[q]?) → va_S A0 H0 H1 locs1 → W p l e R s m args below meth c H1 locs1 (cells + mc) (slots + ms) Q (F0 m (pc + 3) ls (.double r :: rest))) : W p l e R s m args below meth c H locs cells slots Q (F0 m pc ls st0) := by
  intro T hT X
  rcases hr T hT X with ⟨v, st₀, t, T', L, h0, X', hL, e1, e2, ⟨⟨r, u, hv, hp, hb⟩, hF⟩, st⟩ | ⟨q, st₀, t, T', L, E, ce, h0, X', hL, e1, e2, ⟨u, hp, hb, hF⟩, hce, hcv, hcl, st⟩
  · cases hv
    obtain ⟨k1, k2, k3⟩ := vx_keep h0 e1 hS hA hf hL hF
    obtain ⟨t2, a1, b1⟩ := kk r u t T'.heap (locs ++ L) e1.symm (by rw [← e2]; exact X'.warmed.alike) hp hb k1 k2 k3 T' rfl X'
    exact ⟨t2, st t2 a1, b1⟩
  · obtain ⟨k1, k2, k3⟩ := vx_keep h0 e1 hS hAX hf hL hF
    obtain ⟨t2, a1, b1⟩ := kx E ce q u t T'.heap (locs ++ L) e1.symm (by rw [← e2]; exact X'.warmed.alike) hp hb k1 k2 k3 (by rw [e1]; exact hce) hcv hcl T' rfl X'
    exact ⟨t2, st.trans a1, b1⟩
theorem vx_callv {S SX : Type} {post : S → Prop} {px : SX → Prop} {B : S → State → Prop} {BX : String → SX → State → Prop} {AX : Nat → Prop} (hr : vx_Run p l e R s m args below meth c H locs cells slots mc ms (F0 m pc ls st0) rest (va_Qv post B A1 a) (vx_X px BX AX) free) (hS : va_S A0 H0 H locs) (hA : ∀ q, q < H.size → A1 q → A0 q) (hf : ∀ q, free q → A0 q) (hAX : ∀ q, q < H.size → AX q → A0 q)
    (kx : ∀ (E : String) (ce : Cell) (q9 : Addr) (u : SX) (t : State) (H1 : Heap) (locs1 : List Loc), t.heap = H1 → s.vm.Alike t.vm → px u → BX E u t → H.size ≤ H1.size → (∀ q : Nat, q < H.size → ¬ AX q → H1[q]? = H[q]?) → va_S A0 H0 H1 locs1 → H1[q9]? = some ce → ce.vm = .none → s.vm.findClass E = some ce.cls → vx_W p l e R s m args below meth c H1 locs1 (cells + mc) (slots + ms) Q (F0 m pc ls rest) q9)
    (kk : ∀ (u : S) (t : State) (H1 : Heap) (locs1 : List Loc), t.heap = H1 → s.vm.Alike t.vm → post u → B u t → H.size ≤ H1.size → (∀ q : Nat, q < H.size → ¬ A1 q → H1[q]? = H[q]?) → va_S A0 H0 H1 locs1 → W p l e R s m args below meth c H1 locs1 (cells + mc) (slots + ms) Q (F0 m (pc + 3) ls (rest))) : W p l e R s m args below meth c H locs cells slots Q (F0 m pc ls st0) := by
  intro T hT X
  rcases hr T hT X with ⟨v, st₀, t, T', L, h0, X', hL, e1, e2, ⟨⟨u, hv, hp, hb⟩, hF⟩, st⟩ | ⟨q, st₀, t, T', L, E, ce, h0, X', hL, e1, e2, ⟨u, hp, hb, hF⟩, hce, hcv, hcl, st⟩
  · cases hv
    obtain ⟨k1, k2, k3⟩ := vx_keep h0 e1 hS hA hf hL hF
    obtain ⟨t2, a1, b1⟩ := kk u t T'.heap (locs ++ L) e1.symm (by rw [← e2]; exact X'.warmed.alike) hp hb k1 k2 k3 T' rfl X'
    exact ⟨t2, st t2 a1, b1⟩
  · obtain ⟨k1, k2, k3⟩ := vx_keep h0 e1 hS hAX hf hL hF
    obtain ⟨t2, a1, b1⟩ := kx E ce q u t T'.heap (locs ++ L) e1.symm (by rw [← e2]; exact X'.warmed.alike) hp hb k1 k2 k3 (by rw [e1]; exact hce) hcv hcl T' rfl X'
    exact ⟨t2, st.trans a1, b1⟩
/-- caught by the row x of this method's table; the rows ahead don't take it -/
theorem vx_catch {own name : String} {E : String} {ce : Cell} {q : Addr} (hown : s.vm.findClass own = some m.cls) (pre : List ExceptionTableEntry) (x : ExceptionTableEntry) (suf : List ExceptionTableEntry) (hsplit : c.exceptionTable.toList = pre ++ x :: suf)
    (hpass : ∀ z ∈ pre, covers z pc = false ∨ (z.catchType ≠ 0 ∧ ∃ nm : String, (Cond.classLink own z.catchType nm).before args s = true ∧ va_Nc E nm s)) (hx : covers x pc = true) (h0 : x.catchType ≠ 0)
    (hlink : (Cond.classLink own x.catchType name).before args s = true) (hcast : (Cond.castable E name).before args s = true) (hcell : H[q]? = some ce) (hv : ce.vm = .none) (hcl : s.vm.findClass E = some ce.cls)
    (kk : W p l e R s m args below meth c H locs cells slots Q (F0 m x.handlerPc ls [.ref q])) : vx_W p l e R s m args below meth c H locs cells slots Q (F0 m pc ls rest) q := by
  intro T hT X
  have hpl : e.platform.magicAccessors = ({} : Platform).magicAccessors := by rw [X.admits.platform]
  obtain ⟨c3, c4, hc3, hc4, hasg⟩ := Cond.castable_spec hcast
  cases Option.some.inj (hc3.symm.trans hcl)
  obtain ⟨c5, hc5, hcl5⟩ := Cond.classLink_spec hown hlink e.platform hpl
  cases Option.some.inj (hc4.symm.trans hc5)
  obtain ⟨vm', X', st⟩ := X.thenCaughtThrough q (g := F0 m pc ls rest) rfl (Steps.refl _) (by rw [hT]; exact hcell) (by rw [hv]; rfl) (by obtain ⟨k9, h9, -⟩ := Vm.findClass_spec hcl; exact ⟨k9, h9⟩) pre x suf hsplit
    (fun z hz => by
      rcases hpass z hz with h | ⟨hz0, nm, hl1, hn1⟩
      · exact Or.inl h
      · obtain ⟨c6, hc6, hcl6⟩ := Cond.classLink_spec hown hl1 e.platform hpl
        obtain ⟨a8, b8, h1, h2, h3⟩ := hn1
        cases Option.some.inj (h1.symm.trans hcl)
        cases Option.some.inj (h2.symm.trans hc6)
        exact Or.inr ⟨hz0, _, hcl6, h3⟩) hx (Or.inr ⟨h0, c4, hcl5, hasg⟩)
  obtain ⟨t, a1, b1⟩ := kk (T.setVm vm') hT X'
  exact ⟨t, st.trans a1, b1⟩
end Rows
section Ends
variable {p : Program} {l : Launch} {e : Env} {R : Room} {s : State} {m : MethodId} {args : Array Value} {below : List Frame} {meth : Method} {c : Code} {H : Heap} {locs : List Loc} {cells slots : Nat} {Q : State → Prop}
variable {mc ms : Nat} {free : Addr → Prop} {A0 A1 : Nat → Prop} {H0 : Heap} {a : Array Value} {ls : Array Slot} {st0 rest : List Value}
variable {Qc : Array Value → State → Outcome → State → Prop} {XC : String → State → State → Prop}
/-- what a body that may throw owes at its end -/
def vx_MQ (below : List Frame) (Qc : Array Value → State → Outcome → State → Prop) (XC : String → State → State → Prop) (a : Array Value) (s : State) (mc ms : Nat) (free : Addr → Prop) : State → Prop := fun t =>
  ∃ o, t.status = .running ∧ Ended t below o ∧ vx_Q Qc XC mc ms free a s o t
theorem vx_ret {g : JFrame} {mc ms : Nat} (k : W p l e R s m args below meth c H locs cells slots (MQ below Qc args s mc ms free) g) : W p l e R s m args below meth c H locs cells slots (vx_MQ below Qc XC args s mc ms free) g := by
  intro T hT X
  obtain ⟨t, a1, o, b1, b2, b3, b4⟩ := k T hT X
  exact ⟨t, a1, o, b1, b2, Or.inl ⟨b3, b4⟩⟩
/-- not caught here: it goes on to the caller -/
theorem vx_widen {g : JFrame} {q : Addr} {k n : Nat} (h1 : cells ≤ k) (h2 : slots ≤ n) (kk : vx_W p l e R s m args below meth c H locs k n Q g q) : vx_W p l e R s m args below meth c H locs cells slots Q g q := fun T hT X => kk T hT (stand_widen X h1 h2)
theorem vx_out {pc : Nat} {E : String} {ce : Cell} {q : Addr} {mc ms : Nat} (hout : ∀ x ∈ c.exceptionTable.toList, covers x pc = false) (hlocks : meth.locks = false) (hcell : H[q]? = some ce) (hv : ce.vm = .none) (hcl : s.vm.findClass E = some ce.cls)
    (hx : ∀ t : State, t.heap = H → s.vm.Alike t.vm → XC E s t) (hf : ∀ z ∈ locs, free z.base) (hc : cells ≤ mc) (hs : slots ≤ ms) :
    vx_W p l e R s m args below meth c H locs cells slots (vx_MQ below Qc XC args s mc ms free) (F0 m pc ls rest) q := by
  intro T hT X
  obtain ⟨st1, hrun, hend, hW, hsm⟩ := X.leaveThrown q (g := F0 m pc ls rest) rfl rfl rfl hout hlocks
  have hcell9 : (T.setFrames (.throwing q :: below)).heap[q]? = some ce := by
    show T.heap[q]? = some ce
    rw [hT]; exact hcell
  exact ⟨_, st1, .threw q, hrun, hend, Or.inr ⟨q, rfl, E, ce, locs, hx _ hT hW.alike, hcell9, hv, hcl, hW, hsm.mono hc hs, hf⟩⟩
theorem vx_frame {U : State} {k n : Nat} (h : s.sameButNew ({ U with vm := s.vm } : State) locs k n) : s.heap.size ≤ U.heap.size ∧ ∀ q : Nat, q < s.heap.size → (∀ z ∈ locs, z.base ≠ q) → U.heap[q]? = s.heap[q]? := by
  obtain ⟨-, h2, -, -, -, h6⟩ := h
  refine ⟨h2, fun q hq hz => ?_⟩
  obtain ⟨c9, e1, e2, e3, e4⟩ := h6 q _ (Array.getElem?_eq_getElem hq)
  have hs : c9.slots = (s.heap[q]).slots := Array.ext_getElem? fun i => e4 i fun hm => hz _ hm rfl
  have h9 : c9 = s.heap[q] := by
    rw [hs] at e2
    exact e2
  have e5 : U.heap[q]? = some c9 := e1
  rw [e5, h9, Array.getElem?_eq_getElem hq]
/-- the words of a throw but the four that speak of the heap -/
def vx_no (w : Cond) : Bool := decide (w ≠ .isRef (.static Bundle.tN "UNASSIGNED_STACK" Bundle.steD)) && decide (w ≠ .isRef (.static Bundle.tN "SUPPRESSED_SENTINEL" Bundle.listD)) && decide (w ≠ .laysStatic Bundle.tN "UNASSIGNED_STACK" Bundle.steD) && decide (w ≠ .laysStatic Bundle.tN "SUPPRESSED_SENTINEL" Bundle.listD)
def vx_at0 (own : String) (ic : Nat) (X : String) (names : List String) : List Cond := (Bundle.ownAtoms0 own ic X names).filter vx_no
def vx_atS (own : String) (ic : Nat) (X : String) (names : List String) : List Cond := (Bundle.ownAtoms own ic X names).filter vx_no
/-- a word that the tables alone decide, or a good one -/
def vx_ot (w : Cond) : Bool := w.onTables || goodWord w
theorem vx_ot_at {args a' : Array Value} {s U : State} {w : Cond} (hW : s.WarmedH U.vm) (hvm : s.vm = U.vm) (hg : vx_ot w = true) (h : w.before args s = true) : w.before a' U = true := by
  simp only [vx_ot, Bool.or_eq_true] at hg
  rcases hg with hg | hg
  · exact va_tabs hg hvm h
  · exact word_at hW (good_of_word hg) h
/-- a list's words: the good ones out of the method's own list, the others by premises of their own -/
theorem vx_hat {args : Array Value} {s : State} {L B : List Cond} (h1 : ∀ w ∈ L.filter goodWord, w.before args s = true) (h2 : ∀ w ∈ L.filter (fun w => !goodWord w), w ∈ B) (h3 : ∀ w ∈ B, w.before args s = true) : ∀ w ∈ L, w.before args s = true := by
  intro w hw
  by_cases g : goodWord w = true
  · exact h1 w (List.mem_filter.mpr ⟨hw, g⟩)
  · refine h3 w (h2 w (List.mem_filter.mpr ⟨hw, ?_⟩))
    show (!goodWord w) = true
    cases hgw : goodWord w
    · rfl
    · exact absurd hgw g
theorem vx_c {args : Array Value} {s : State} {w : Cond} {B : List Cond} (h : w.before args s = true) (t : ∀ w ∈ B, w.before args s = true) : ∀ w' ∈ w :: B, w'.before args s = true := fun w' h' => (List.mem_cons.mp h').elim (fun e => by rw [e]; exact h) (t w')
theorem vx_n {args : Array Value} {s : State} : ∀ w ∈ ([] : List Cond), w.before args s = true := fun _ h => nomatch h
theorem vx_own {args : Array Value} {s : State} {L : List Cond} (h1 : ∀ w ∈ L.filter vx_no, w.before args s = true)
    (hU : (Cond.isRef (.static Bundle.tN "UNASSIGNED_STACK" Bundle.steD)).before args s = true) (hN : (Cond.isRef (.static Bundle.tN "SUPPRESSED_SENTINEL" Bundle.listD)).before args s = true)
    (lU : (Cond.laysStatic Bundle.tN "UNASSIGNED_STACK" Bundle.steD).before args s = true) (lN : (Cond.laysStatic Bundle.tN "SUPPRESSED_SENTINEL" Bundle.listD).before args s = true) : ∀ w ∈ L, w.before args s = true := by
  intro w hw
  by_cases e1 : w = .isRef (.static Bundle.tN "UNASSIGNED_STACK" Bundle.steD)
  · rw [e1]; exact hU
  · by_cases e2 : w = .isRef (.static Bundle.tN "SUPPRESSED_SENTINEL" Bundle.listD)
    · rw [e2]; exact hN
    · by_cases e3 : w = .laysStatic Bundle.tN "UNASSIGNED_STACK" Bundle.steD
      · rw [e3]; exact lU
      · by_cases e4 : w = .laysStatic Bundle.tN "SUPPRESSED_SENTINEL" Bundle.listD
        · rw [e4]; exact lN
        · exact h1 w (List.mem_filter.mpr ⟨hw, by unfold vx_no; rw [decide_eq_true e1, decide_eq_true e2, decide_eq_true e3, decide_eq_true e4]; rfl⟩)
/-- where a static field lies, its class's statics cell in H -/
def vx_L (C n d : String) (A : Nat → Prop) (U : State) (H : Heap) : Prop := ∃ (c : ClassId) (k : Class) (i : Nat) (f : Field) (a : Nat) (cell : Cell), U.vm.findClass C = some c ∧ U.fieldFound? C n d = some (c, k, i, f) ∧ f.isStatic = true ∧ k.statics = some a ∧ H[a]? = some cell ∧ cell.vm.isStatics = true ∧ cell.cls = c ∧ f.slot < cell.slots.size ∧ k.staticTypes[f.slot]? = some f.type ∧ ¬ A a
theorem vx_L.moved {C n d : String} {A : Nat → Prop} {u U : State} {H : Heap} (hvm : u.vm.Alike U.vm) (h : vx_L C n d A u H) : vx_L C n d A U H := by
  obtain ⟨c, k, i, f, a, cell, h1, h2, h3, h4, h5, h6, h7, h8, h9, h10⟩ := h
  obtain ⟨k', hi', he⟩ := State.fieldFound?_setVm hvm h2
  exact ⟨c, k', i, f, a, cell, by rw [hvm.findClass]; exact h1, hi', h3, by rw [he]; exact h4, h5, h6, h7, h8, by rw [he]; exact h9, h10⟩
theorem vx_L.kept {C n d : String} {A : Nat → Prop} {U : State} {H H1 : Heap} (h : vx_L C n d A U H) (hq : ∀ a : Nat, a < H.size → ¬ A a → H1[a]? = H[a]?) : vx_L C n d A U H1 := by
  obtain ⟨c, k, i, f, a, cell, h1, h2, h3, h4, h5, h6, h7, h8, h9, h10⟩ := h
  exact ⟨c, k, i, f, a, cell, h1, h2, h3, h4, by rw [hq a (Array.getElem?_eq_some_iff.mp h5).1 h10]; exact h5, h6, h7, h8, h9, h10⟩
theorem vx_L.narrow {C n d : String} {A B : Nat → Prop} {U : State} {H : Heap} (h : vx_L C n d A U H) (hAB : ∀ q, B q → A q) : vx_L C n d B U H := by
  obtain ⟨c, k, i, f, a, cell, h1, h2, h3, h4, h5, h6, h7, h8, h9, h10⟩ := h
  exact ⟨c, k, i, f, a, cell, h1, h2, h3, h4, h5, h6, h7, h8, h9, fun z => h10 (hAB _ z)⟩
theorem vx_L.word {C n d : String} {A : Nat → Prop} {s : State} {args : Array Value} (h : vx_L C n d A s s.heap) : (Cond.laysStatic C n d).before args s = true := by
  obtain ⟨c, k, i, f, a, cell, h1, h2, h3, h4, h5, h6, h7, h8, h9, -⟩ := h
  show (Cond.laysStatic C n d).holds args s none s [] = true
  exact Cond.laysStatic_of h1 h2 h3 h4 h5 h6 h7 h8 h9
/-- .. and what it holds: null or some reference -/
def vx_Zq (C n d : String) (A : Nat → Prop) (U : State) (H : Heap) : Prop := va_Zq C n d A U H ∧ vx_L C n d A U H
theorem vx_Zq.moved {C n d : String} {A : Nat → Prop} {u U : State} {H : Heap} (hvm : u.vm.Alike U.vm) (h : vx_Zq C n d A u H) : vx_Zq C n d A U H := ⟨va_Zq.moved hvm h.1, vx_L.moved hvm h.2⟩
theorem vx_Zq.kept {C n d : String} {A : Nat → Prop} {U : State} {H H1 : Heap} (h : vx_Zq C n d A U H) (hq : ∀ a : Nat, a < H.size → ¬ A a → H1[a]? = H[a]?) : vx_Zq C n d A U H1 := ⟨va_Zq.kept h.1 hq, vx_L.kept h.2 hq⟩
theorem vx_Zq.narrow {C n d : String} {A B : Nat → Prop} {U : State} {H : Heap} (h : vx_Zq C n d A U H) (hAB : ∀ q, B q → A q) : vx_Zq C n d B U H := ⟨va_Zq.narrow h.1 hAB, vx_L.narrow h.2 hAB⟩
theorem vx_Zqof {args : Array Value} {s : State} {C n d : String} {A : Nat → Prop} (hl : (Cond.laysStatic C n d).before args s = true) (hini : (Cond.initialized C).before args s = true) (h : (Cond.isRef (.static C n d)).before args s = true) (hA : ∀ a : Nat, a < s.heap.size → ¬ A a) : vx_Zq C n d A s s.heap := by
  refine ⟨va_Zqof hl hini h hA, ?_⟩
  obtain ⟨c, k, i, f, a, cell, h1, h2, h3, h4, h5, h6, h7, h8, h9⟩ := Cond.laysStatic_spec hl
  exact ⟨c, k, i, f, a, cell, h1, h2, h3, h4, h5, h6, h7, h8, h9, hA a (Array.getElem?_eq_some_iff.mp h5).1⟩
theorem vx_isRef {C n d : String} {v : Value} {A : Nat → Prop} {s : State} {args : Array Value} (h : va_Z C n d v A s s.heap) (hv : v.isRef = true) : (Cond.isRef (.static C n d)).before args s = true := by
  obtain ⟨cf, kf, fi, f, a, cell, h1, h2, h3, h4, h5, h6, h7, -⟩ := h
  have he : (Term.static C n d).eval args s none [] s = some v := by
    simp [Term.eval, State.fieldNamed?, h1, h2, h4, h5, h6, h7]
  simp only [Cond.before, Cond.holds, Cond.value, he]
  cases v <;> simp_all [Value.isRef]
theorem vx_isRefq {C n d : String} {A : Nat → Prop} {s : State} {args : Array Value} (h : va_Zq C n d A s s.heap) : (Cond.isRef (.static C n d)).before args s = true := by
  rcases h with h | ⟨t, h⟩
  · exact vx_isRef h rfl
  · exact vx_isRef h rfl
/-- the same frame, seen from here: as if the method were called anew in this heap -/
theorem vx_rebase {T : State} (X : Stand p l e R s m args below meth c T locs cells slots) {R' : Room} (hf : R'.frames ≤ R.frames) (hl : R'.locals ≤ R.locals) (hc : cells + R'.cells ≤ R.cells) (hs : slots + R'.slots ≤ R.slots) :
    Stand p l e R' ((T.setVm s.vm).setFrames (.invoking m args :: below)) m args below meth c T [] 0 0 := by
  have htop : (T.setVm s.vm).topJava?.isSome := X.here.top
  have hF : ((T.setVm s.vm).setFrames (.invoking m args :: below)).frames = .invoking m args :: below := State.frames_setFrames _ (State.cur_lt_of_top htop)
  obtain ⟨g₀, hg0⟩ := Option.isSome_iff_exists.mp htop
  obtain ⟨r, hr⟩ := State.topJava?_eq_some.mp hg0
  have hl9 : e.platform.stackLimits (T.setVm s.vm).me = e.platform.stackLimits s.me := X.limits
  have hb9 : (T.setVm s.vm).me.stackBytes = s.me.stackBytes := X.bytes
  refine ⟨X.admits, X.cas, X.clock, hF, ?_, X.hears, X.method, X.code, X.here, X.tail, X.warmed, ?_, ?_, ?_⟩
  · have h := X.room
    have hU : ((T.setVm s.vm).setFrames (.invoking m args :: below)).localsInUse = s.localsInUse := by
      rw [State.localsInUse_invoking hF (meth := meth) (c := c) X.method X.code, State.localsInUse_invoking X.frames X.method X.code]
    simp only [State.hasRoom, Bool.and_eq_true, decide_eq_true_eq] at h ⊢
    obtain ⟨⟨⟨⟨h1, h2, h3, h4, h5, h6⟩, h7⟩, h8⟩, h9⟩ := h
    rw [X.frames, List.length_cons] at h2 h3
    have q1 := X.heapSize
    have q2 := X.used
    simp only [hF, hU, List.length_cons, State.stackLimits_setFrames, State.stackBytes_setFrames, hl9, hb9]
    refine ⟨⟨⟨⟨by omega, by omega, by omega, by omega, by omega, h6⟩, ?_⟩, ?_⟩, X.book⟩
    · show T.heap.size + R'.cells ≤ e.platform.maxCells
      omega
    · show T.slotsUsed + R'.slots ≤ e.platform.maxSlots
      omega
  · rw [State.stackLimits_setFrames]; rfl
  · rw [State.stackBytes_setFrames]; rfl
  · refine ⟨?_, Nat.le_refl _, Nat.le_refl _, ?_, ?_, fun a c9 h9 => ⟨c9, h9, rfl, rfl, fun _ _ => rfl⟩⟩
    · obtain ⟨t, ht, -⟩ := State.frames_cons hr
      show T.setVm s.vm = { ((T.setVm s.vm).setFrames (.invoking m args :: below)).setFrames (T.setVm s.vm).frames with heap := T.heap, slotsUsed := T.slotsUsed }
      rw [State.setFrames_setFrames, State.setFrames_self ht]
      rfl
    · show T.slotsUsed = T.slotsUsed + ((T.heap.toList.drop T.heap.size).map (·.slots.size)).sum
      rw [List.drop_eq_nil_of_le (Nat.le_of_eq Array.length_toList)]
      rfl
    · show ((T.heap.toList.drop T.heap.size).map (·.slots.size)).sum ≤ 0
      rw [List.drop_eq_nil_of_le (Nat.le_of_eq Array.length_toList)]
      exact Nat.le_refl _
/-- 'throw new E()': new; dup; invokespecial; athrow -/
theorem vx_throw0 {cc : ByteArray} {pc : Nat} (hexec : p.tables.exec = Jvm.exec) (hb : c.code = cc) (hl : l.stackTraces = false) {own cls : String} {names : List String} {ik ic mc ms : Nat} {A : Nat → Prop}
    (hown : s.vm.findClass own = some m.cls) (hcls : Bundle.fit cls = true) (hnames : ∀ n ∈ names, Bundle.fit n = true)
    (hk : (Cond.classLink own ik cls).before args s = true) (hini : (Cond.initialized cls).before args s = true) (hat : ∀ w ∈ vx_at0 own ic cls names, w.before args s = true)
    (hgood : ∀ w ∈ Cond.classLink own ik cls :: Cond.initialized cls :: vx_at0 own ic cls names, vx_ot w = true)
    (hU : vx_Zq Bundle.tN "UNASSIGNED_STACK" Bundle.steD A s s.heap) (hN : vx_Zq Bundle.tN "SUPPRESSED_SENTINEL" Bundle.listD A s s.heap) (hS : va_S A s.heap H locs) (hsize : ls.size = c.maxLocals)
    (d0 : decode cc pc = .ok (.new ik, 3)) (d3 : decode cc (pc + 3) = .ok (.dup, 1)) (d4 : decode cc (pc + 4) = .ok (.invokespecial ic, 3)) (d7 : decode cc (pc + 7) = .ok (.athrow, 1))
    (hout : ∀ x ∈ c.exceptionTable.toList, covers x (pc + 7) = false)
    (hRframes : names.length + 3 < R.frames) (hRlocals : (rest.map fun v => v.category).sum + (13 * (names.length + 1) + 42) ≤ R.locals) (hRcells : cells + 1 ≤ R.cells) (hRslots : slots + 6 ≤ R.slots) (hlocks : meth.locks = false)
    (hx : ∀ t : State, s.vm.Alike t.vm → H.size ≤ t.heap.size → (∀ q : Nat, q < H.size → t.heap[q]? = H[q]?) → XC cls s t)
    (hf : ∀ z ∈ locs, free z.base) (hc : cells + 1 ≤ mc) (hs : slots + 6 ≤ ms) :
    W p l e R s m args below meth c H locs cells slots (vx_MQ below Qc XC args s mc ms free) (F0 m pc ls rest) := by
  intro T hT X
  have htr : e.platform.stackTraces = false := (show e.platform.stackTraces = l.stackTraces by rw [X.admits.platform]).trans hl
  have Y := vx_rebase X (R' := { frames := R.frames, locals := R.locals, cells := 1, slots := 6 }) (Nat.le_refl _) (Nat.le_refl _) hRcells hRslots
  obtain ⟨s', hA⟩ : ∃ z, z = (T.setVm s.vm).setFrames (.invoking m args :: below) := ⟨_, rfl⟩
  rw [← hA] at Y
  have hvm : s'.vm = s.vm := by rw [hA]; rfl
  have hhp : s'.heap = H := by rw [hA]; exact hT
  have hW0 : s.WarmedH s'.vm := by rw [hvm]; exact State.WarmedH.refl s
  have hat' : ∀ w ∈ vx_at0 own ic cls names, w.before args s' = true := fun w hw => vx_ot_at hW0 hvm.symm (hgood w (List.mem_cons_of_mem _ (List.mem_cons_of_mem _ hw))) (hat w hw)
  have hk' : (Cond.classLink own ik cls).before args s' = true := vx_ot_at hW0 hvm.symm (hgood _ List.mem_cons_self) hk
  have hini' : (Cond.initialized cls).before args s' = true := vx_ot_at hW0 hvm.symm (hgood _ (List.mem_cons_of_mem _ List.mem_cons_self)) hini
  have hU' : vx_Zq Bundle.tN "UNASSIGNED_STACK" Bundle.steD A s' s'.heap := by rw [hhp]; exact vx_Zq.moved hW0.alike (hU.kept hS.2.1)
  have hN' : vx_Zq Bundle.tN "SUPPRESSED_SENTINEL" Bundle.listD A s' s'.heap := by rw [hhp]; exact vx_Zq.moved hW0.alike (hN.kept hS.2.1)
  have h : ∀ w ∈ Bundle.ownAtoms0 own ic cls names, w.before args s' = true := vx_own hat' (vx_isRefq hU'.1) (vx_isRefq hN'.1) hU'.2.word hN'.2.word
  have hown' : s'.vm.findClass own = some m.cls := by rw [hvm]; exact hown
  have hins : (Cond.instantiable cls 6).before args s' = true := h _ (by simp [Bundle.ownAtoms0])
  obtain ⟨vm₁, cX, kX, hfX, hkX, -, -, X₁, st1⟩ := Y.newCold hexec (own := own) (C := cls) (index := ik) (n := 6) hown' hk' hins hini'
    (g := F0 m pc ls rest) rfl (by rw [hb]; exact d0) (Nat.le_refl _) (Nat.le_refl _)
  generalize hT1 : (T.setVm vm₁).pushCell { cls := cX, slots := kX.instanceTypes.map defaultValue, vm := .none } = T1 at X₁ st1
  have hcat : (Value.ref T.heap.size).category = 1 := rfl
  have hcellA : T1.heap[T.heap.size]? = some (freshCell cX kX) := by rw [← hT1]; exact State.heap_pushCell_size _ _
  have d3' : decode c.code (pc + 3) = .ok (.dup, 1) := by rw [hb]; exact d3
  obtain ⟨U, hsteps, hrun, hend, hW, hsame, ce, hce, hO⟩ := X₁.ctorThrow0 hexec htr (own := own) (cls := cls) (names := names) (ic := ic) hown' hcls hnames h (fun x hx => nomatch hx) hfX hkX hcellA (by rw [hhp, hT]; exact Nat.le_refl _)
    (g := { method := m, pc := pc + 4, locals := ls, stack := .ref T.heap.size :: .ref T.heap.size :: rest, locked := none }) rfl hsize rfl rfl (rest := rest) rfl
    (by rw [hb]; exact d4) (by rw [hb]; exact d7) hout hRframes (by simp only [List.map_cons, List.sum_cons, hcat]; omega) hlocks
  obtain ⟨f1, f2⟩ := vx_frame hsame
  rw [hhp] at f1 f2
  have hWs : s.WarmedH U.vm := State.WarmedH.trans hW0 hW
  have hcl : s.vm.findClass cls = some ce.cls := by
    have h9 := hO.cls
    rw [hvm] at h9
    exact h9
  have hall : s.sameButNew ({ U with vm := s.vm } : State) locs mc ms := by
    subst hA
    obtain ⟨e1, e2⟩ := hsame
    rw [State.setFrames_setFrames] at e1
    have h2 : (T.setVm s.vm).sameButNew ({ U with vm := s.vm } : State) [] (0 + 1) (0 + 6) := ⟨e1, e2⟩
    have h3 := X.same.trans h2
    rw [List.append_nil] at h3
    exact h3.mono hc hs
  refine ⟨U, ?_, .threw T.heap.size, hrun, hend, Or.inr ⟨T.heap.size, rfl, cls, ce, locs, hx U hWs.alike f1 (fun q hq => f2 q hq (fun z hz => nomatch hz)), hce, hO.vm, hcl, hWs, hall, hf⟩⟩
  refine st1 _ ?_
  show Steps p.tables e below (T1.setTop { method := m, pc := pc + 3, locals := ls, stack := .ref T.heap.size :: rest, locked := none }) _
  jvm_step X₁.here [X₁.here.top, hexec, d3', Value.category]
  exact hsteps
/-- 'throw new E("text")': new; dup; ldc; invokespecial; athrow -/
theorem vx_throwS {cc : ByteArray} {pc : Nat} (hexec : p.tables.exec = Jvm.exec) (hb : c.code = cc) (hl : l.stackTraces = false) {own cls text : String} {names : List String} {ik is ic mc ms sa : Nat} {A : Nat → Prop}
    (hown : s.vm.findClass own = some m.cls) (hcls : Bundle.fit cls = true) (hnames : ∀ n ∈ names, Bundle.fit n = true)
    (hk : (Cond.classLink own ik cls).before args s = true) (hini : (Cond.initialized cls).before args s = true) (hstr : vk_R own is text sa s) (hat : ∀ w ∈ vx_atS own ic cls names, w.before args s = true)
    (hgood : ∀ w ∈ Cond.classLink own ik cls :: Cond.initialized cls :: vx_atS own ic cls names, vx_ot w = true)
    (hU : vx_Zq Bundle.tN "UNASSIGNED_STACK" Bundle.steD A s s.heap) (hN : vx_Zq Bundle.tN "SUPPRESSED_SENTINEL" Bundle.listD A s s.heap) (hS : va_S A s.heap H locs) (hsize : ls.size = c.maxLocals)
    (d0 : decode cc pc = .ok (.new ik, 3)) (d3 : decode cc (pc + 3) = .ok (.dup, 1)) (d4 : decode cc (pc + 4) = .ok (.ldc is, 2)) (d6 : decode cc (pc + 6) = .ok (.invokespecial ic, 3)) (d9 : decode cc (pc + 9) = .ok (.athrow, 1))
    (hout : ∀ x ∈ c.exceptionTable.toList, covers x (pc + 9) = false)
    (hRframes : names.length + 3 < R.frames) (hRlocals : (rest.map fun v => v.category).sum + (13 * (names.length + 1) + 43) ≤ R.locals) (hRcells : cells + 1 ≤ R.cells) (hRslots : slots + 6 ≤ R.slots) (hlocks : meth.locks = false)
    (hx : ∀ t : State, s.vm.Alike t.vm → H.size ≤ t.heap.size → (∀ q : Nat, q < H.size → t.heap[q]? = H[q]?) → XC cls s t)
    (hf : ∀ z ∈ locs, free z.base) (hc : cells + 1 ≤ mc) (hs : slots + 6 ≤ ms) :
    W p l e R s m args below meth c H locs cells slots (vx_MQ below Qc XC args s mc ms free) (F0 m pc ls rest) := by
  intro T hT X
  have htr : e.platform.stackTraces = false := (show e.platform.stackTraces = l.stackTraces by rw [X.admits.platform]).trans hl
  have Y := vx_rebase X (R' := { frames := R.frames, locals := R.locals, cells := 1, slots := 6 }) (Nat.le_refl _) (Nat.le_refl _) hRcells hRslots
  obtain ⟨s', hA⟩ : ∃ z, z = (T.setVm s.vm).setFrames (.invoking m args :: below) := ⟨_, rfl⟩
  rw [← hA] at Y
  have hvm : s'.vm = s.vm := by rw [hA]; rfl
  have hhp : s'.heap = H := by rw [hA]; exact hT
  have hW0 : s.WarmedH s'.vm := by rw [hvm]; exact State.WarmedH.refl s
  have hat' : ∀ w ∈ vx_atS own ic cls names, w.before args s' = true := fun w hw => vx_ot_at hW0 hvm.symm (hgood w (List.mem_cons_of_mem _ (List.mem_cons_of_mem _ hw))) (hat w hw)
  have hk' : (Cond.classLink own ik cls).before args s' = true := vx_ot_at hW0 hvm.symm (hgood _ List.mem_cons_self) hk
  have hini' : (Cond.initialized cls).before args s' = true := vx_ot_at hW0 hvm.symm (hgood _ (List.mem_cons_of_mem _ List.mem_cons_self)) hini
  have hU' : vx_Zq Bundle.tN "UNASSIGNED_STACK" Bundle.steD A s' s'.heap := by rw [hhp]; exact vx_Zq.moved hW0.alike (hU.kept hS.2.1)
  have hN' : vx_Zq Bundle.tN "SUPPRESSED_SENTINEL" Bundle.listD A s' s'.heap := by rw [hhp]; exact vx_Zq.moved hW0.alike (hN.kept hS.2.1)
  have h : ∀ w ∈ Bundle.ownAtoms own ic cls names, w.before args s' = true := vx_own hat' (vx_isRefq hU'.1) (vx_isRefq hN'.1) hU'.2.word hN'.2.word
  have hown' : s'.vm.findClass own = some m.cls := by rw [hvm]; exact hown
  have hins : (Cond.instantiable cls 6).before args s' = true := h _ (by simp [Bundle.ownAtoms])
  obtain ⟨vm₁, cX, kX, hfX, hkX, -, -, X₁, st1⟩ := Y.newCold hexec (own := own) (C := cls) (index := ik) (n := 6) hown' hk' hins hini'
    (g := F0 m pc ls rest) rfl (by rw [hb]; exact d0) (Nat.le_refl _) (Nat.le_refl _)
  generalize hT1 : (T.setVm vm₁).pushCell { cls := cX, slots := kX.instanceTypes.map defaultValue, vm := .none } = T1 at X₁ st1
  have hcat : (Value.ref T.heap.size).category = 1 := rfl
  have hcellA : T1.heap[T.heap.size]? = some (freshCell cX kX) := by rw [← hT1]; exact State.heap_pushCell_size _ _
  have d3' : decode c.code (pc + 3) = .ok (.dup, 1) := by rw [hb]; exact d3
  have d4' : decode c.code (pc + 4) = .ok (.ldc is, 2) := by rw [hb]; exact d4
  have hstr' : vk_R own is text sa s' := vk_R.warm hW0 hstr
  obtain ⟨U, hsteps, hrun, hend, hW, hsame, ce, hce, hO⟩ := X₁.ctorThrowS hexec htr (own := own) (cls := cls) (names := names) (ic := ic) hown' hcls hnames h (fun x hx => nomatch hx) hfX hkX hcellA (by rw [hhp, hT]; exact Nat.le_refl _) (msg := .ref sa) rfl
    (g := { method := m, pc := pc + 6, locals := ls, stack := .ref sa :: .ref T.heap.size :: .ref T.heap.size :: rest, locked := none }) rfl hsize rfl rfl (rest := rest) rfl
    (by rw [hb]; exact d6) (by rw [hb]; exact d9) hout hRframes (by simp only [List.map_cons, List.sum_cons, hcat]; omega) hlocks
  obtain ⟨f1, f2⟩ := vx_frame hsame
  rw [hhp] at f1 f2
  have hWs : s.WarmedH U.vm := State.WarmedH.trans hW0 hW
  have hcl : s.vm.findClass cls = some ce.cls := by
    have h9 := hO.cls
    rw [hvm] at h9
    exact h9
  have hall : s.sameButNew ({ U with vm := s.vm } : State) locs mc ms := by
    subst hA
    obtain ⟨e1, e2⟩ := hsame
    rw [State.setFrames_setFrames] at e1
    have h2 : (T.setVm s.vm).sameButNew ({ U with vm := s.vm } : State) [] (0 + 1) (0 + 6) := ⟨e1, e2⟩
    have h3 := X.same.trans h2
    rw [List.append_nil] at h3
    exact h3.mono hc hs
  refine ⟨U, ?_, .threw T.heap.size, hrun, hend, Or.inr ⟨T.heap.size, rfl, cls, ce, locs, hx U hWs.alike f1 (fun q hq => f2 q hq (fun z hz => nomatch hz)), hce, hO.vm, hcl, hWs, hall, hf⟩⟩
  refine st1 _ ?_
  show Steps p.tables e below (T1.setTop { method := m, pc := pc + 3, locals := ls, stack := .ref T.heap.size :: rest, locked := none }) _
  jvm_step X₁.here [X₁.here.top, hexec, d3', Value.category]
  exact X₁.ldcString hexec (own := own) (text := text) (index := is) (a := sa) hown' hstr'.1 hstr'.2
    (g := { method := m, pc := pc + 4, locals := ls, stack := .ref T.heap.size :: .ref T.heap.size :: rest, locked := none }) rfl d4' _ hsteps
/-- 'throw new E("text")', the text by a wide index -/
theorem vx_throwSW {cc : ByteArray} {pc : Nat} (hexec : p.tables.exec = Jvm.exec) (hb : c.code = cc) (hl : l.stackTraces = false) {own cls text : String} {names : List String} {ik is ic mc ms sa : Nat} {A : Nat → Prop}
    (hown : s.vm.findClass own = some m.cls) (hcls : Bundle.fit cls = true) (hnames : ∀ n ∈ names, Bundle.fit n = true)
    (hk : (Cond.classLink own ik cls).before args s = true) (hini : (Cond.initialized cls).before args s = true) (hstr : vk_R own is text sa s) (hat : ∀ w ∈ vx_atS own ic cls names, w.before args s = true)
    (hgood : ∀ w ∈ Cond.classLink own ik cls :: Cond.initialized cls :: vx_atS own ic cls names, vx_ot w = true)
    (hU : vx_Zq Bundle.tN "UNASSIGNED_STACK" Bundle.steD A s s.heap) (hN : vx_Zq Bundle.tN "SUPPRESSED_SENTINEL" Bundle.listD A s s.heap) (hS : va_S A s.heap H locs) (hsize : ls.size = c.maxLocals)
    (d0 : decode cc pc = .ok (.new ik, 3)) (d3 : decode cc (pc + 3) = .ok (.dup, 1)) (d4 : decode cc (pc + 4) = .ok (.ldc_w is, 3)) (d7 : decode cc (pc + 7) = .ok (.invokespecial ic, 3)) (d10 : decode cc (pc + 10) = .ok (.athrow, 1))
    (hout : ∀ x ∈ c.exceptionTable.toList, covers x (pc + 10) = false)
    (hRframes : names.length + 3 < R.frames) (hRlocals : (rest.map fun v => v.category).sum + (13 * (names.length + 1) + 43) ≤ R.locals) (hRcells : cells + 1 ≤ R.cells) (hRslots : slots + 6 ≤ R.slots) (hlocks : meth.locks = false)
    (hx : ∀ t : State, s.vm.Alike t.vm → H.size ≤ t.heap.size → (∀ q : Nat, q < H.size → t.heap[q]? = H[q]?) → XC cls s t)
    (hf : ∀ z ∈ locs, free z.base) (hc : cells + 1 ≤ mc) (hs : slots + 6 ≤ ms) :
    W p l e R s m args below meth c H locs cells slots (vx_MQ below Qc XC args s mc ms free) (F0 m pc ls rest) := by
  intro T hT X
  have htr : e.platform.stackTraces = false := (show e.platform.stackTraces = l.stackTraces by rw [X.admits.platform]).trans hl
  have Y := vx_rebase X (R' := { frames := R.frames, locals := R.locals, cells := 1, slots := 6 }) (Nat.le_refl _) (Nat.le_refl _) hRcells hRslots
  obtain ⟨s', hA⟩ : ∃ z, z = (T.setVm s.vm).setFrames (.invoking m args :: below) := ⟨_, rfl⟩
  rw [← hA] at Y
  have hvm : s'.vm = s.vm := by rw [hA]; rfl
  have hhp : s'.heap = H := by rw [hA]; exact hT
  have hW0 : s.WarmedH s'.vm := by rw [hvm]; exact State.WarmedH.refl s
  have hat' : ∀ w ∈ vx_atS own ic cls names, w.before args s' = true := fun w hw => vx_ot_at hW0 hvm.symm (hgood w (List.mem_cons_of_mem _ (List.mem_cons_of_mem _ hw))) (hat w hw)
  have hk' : (Cond.classLink own ik cls).before args s' = true := vx_ot_at hW0 hvm.symm (hgood _ List.mem_cons_self) hk
  have hini' : (Cond.initialized cls).before args s' = true := vx_ot_at hW0 hvm.symm (hgood _ (List.mem_cons_of_mem _ List.mem_cons_self)) hini
  have hU' : vx_Zq Bundle.tN "UNASSIGNED_STACK" Bundle.steD A s' s'.heap := by rw [hhp]; exact vx_Zq.moved hW0.alike (hU.kept hS.2.1)
  have hN' : vx_Zq Bundle.tN "SUPPRESSED_SENTINEL" Bundle.listD A s' s'.heap := by rw [hhp]; exact vx_Zq.moved hW0.alike (hN.kept hS.2.1)
  have h : ∀ w ∈ Bundle.ownAtoms own ic cls names, w.before args s' = true := vx_own hat' (vx_isRefq hU'.1) (vx_isRefq hN'.1) hU'.2.word hN'.2.word
  have hown' : s'.vm.findClass own = some m.cls := by rw [hvm]; exact hown
  have hins : (Cond.instantiable cls 6).before args s' = true := h _ (by simp [Bundle.ownAtoms])
  obtain ⟨vm₁, cX, kX, hfX, hkX, -, -, X₁, st1⟩ := Y.newCold hexec (own := own) (C := cls) (index := ik) (n := 6) hown' hk' hins hini'
    (g := F0 m pc ls rest) rfl (by rw [hb]; exact d0) (Nat.le_refl _) (Nat.le_refl _)
  generalize hT1 : (T.setVm vm₁).pushCell { cls := cX, slots := kX.instanceTypes.map defaultValue, vm := .none } = T1 at X₁ st1
  have hcat : (Value.ref T.heap.size).category = 1 := rfl
  have hcellA : T1.heap[T.heap.size]? = some (freshCell cX kX) := by rw [← hT1]; exact State.heap_pushCell_size _ _
  have d3' : decode c.code (pc + 3) = .ok (.dup, 1) := by rw [hb]; exact d3
  have d4' : decode c.code (pc + 4) = .ok (.ldc_w is, 3) := by rw [hb]; exact d4
  have hstr' : vk_R own is text sa s' := vk_R.warm hW0 hstr
  obtain ⟨U, hsteps, hrun, hend, hW, hsame, ce, hce, hO⟩ := X₁.ctorThrowS hexec htr (own := own) (cls := cls) (names := names) (ic := ic) hown' hcls hnames h (fun x hx => nomatch hx) hfX hkX hcellA (by rw [hhp, hT]; exact Nat.le_refl _) (msg := .ref sa) rfl
    (g := { method := m, pc := pc + 7, locals := ls, stack := .ref sa :: .ref T.heap.size :: .ref T.heap.size :: rest, locked := none }) rfl hsize rfl rfl (rest := rest) rfl
    (by rw [hb]; exact d7) (by rw [hb]; exact d10) hout hRframes (by simp only [List.map_cons, List.sum_cons, hcat]; omega) hlocks
  obtain ⟨f1, f2⟩ := vx_frame hsame
  rw [hhp] at f1 f2
  have hWs : s.WarmedH U.vm := State.WarmedH.trans hW0 hW
  have hcl : s.vm.findClass cls = some ce.cls := by
    have h9 := hO.cls
    rw [hvm] at h9
    exact h9
  have hall : s.sameButNew ({ U with vm := s.vm } : State) locs mc ms := by
    subst hA
    obtain ⟨e1, e2⟩ := hsame
    rw [State.setFrames_setFrames] at e1
    have h2 : (T.setVm s.vm).sameButNew ({ U with vm := s.vm } : State) [] (0 + 1) (0 + 6) := ⟨e1, e2⟩
    have h3 := X.same.trans h2
    rw [List.append_nil] at h3
    exact h3.mono hc hs
  refine ⟨U, ?_, .threw T.heap.size, hrun, hend, Or.inr ⟨T.heap.size, rfl, cls, ce, locs, hx U hWs.alike f1 (fun q hq => f2 q hq (fun z hz => nomatch hz)), hce, hO.vm, hcl, hWs, hall, hf⟩⟩
  refine st1 _ ?_
  show Steps p.tables e below (T1.setTop { method := m, pc := pc + 3, locals := ls, stack := .ref T.heap.size :: rest, locked := none }) _
  jvm_step X₁.here [X₁.here.top, hexec, d3', Value.category]
  exact X₁.ldcStringW hexec (own := own) (text := text) (index := is) (a := sa) hown' hstr'.1 hstr'.2
    (g := { method := m, pc := pc + 4, locals := ls, stack := .ref T.heap.size :: .ref T.heap.size :: rest, locked := none }) rfl d4' _ hsteps
end Ends
section Bodies
variable {l : Launch}
theorem vx_ofW {y : MethodName} {ws ws' : List Cond} {rm : Room} {Pc : Array Value → State → Prop} {Qc : Array Value → State → Outcome → State → Prop} {XC : String → State → State → Prop} {mc ms : Nat} {free : Addr → Prop} {cc : ByteArray} {maxL : Nat} {ret : Option FieldType}
    (hy : plainName y.cls = true) (hw : ws = Cond.code y cc maxL ret :: ws')
    (body : ∀ p e s m args below meth c s₁, BodyLoose p l y (headSpec ws rm) cc maxL ret e s m args below meth c s₁ → c.maxLocals = maxL → (∀ x ∈ c.exceptionTable.toList, False) → Pc args s →
      W p l e (headSpec ws rm).room s m args below meth c s.heap [] 0 0 (vx_MQ below Qc XC args s mc ms free) (entryFrame m args maxL)) : vx_Met l y ws rm Pc Qc XC mc ms free := by
  refine MetFree.of_bodyS (code := cc) (maxLocals := maxL) (ret := ret) hy ?_ ?_
  · intro args s m h hn
    obtain ⟨meth, c, h1, h2, h3, h4, h5, h6, -, -⟩ := Cond.code_spec hn (atoms_spec (ws := ws) h _ (by rw [hw]; exact List.mem_cons_self))
    exact ⟨meth, c, h1, h2, h3, h4, h5, h6⟩
  · intro p e s m args below meth c s₁ B hml hP _
    have hh0 : s₁.heap = s.heap := by rw [B.state]; rfl
    have ht : ∀ x ∈ c.exceptionTable.toList, False := by
      obtain ⟨meth9, c9, h1, h2, -, -, -, -, h7, -⟩ := Cond.code_spec B.named (atoms_spec (ws := ws) B.pre _ (by rw [hw]; exact List.mem_cons_self))
      cases Option.some.inj (h1.symm.trans B.method)
      cases Option.some.inj (h2.symm.trans (Stand.of_body B).code)
      intro x hx
      rw [Array.isEmpty_iff.mp h7] at hx
      cases hx
    obtain ⟨t, a1, o, b1, b2, b3⟩ := body p e s m args below meth c s₁ B hml ht hP s₁ hh0 (Stand.of_body B)
    exact ⟨t, o, a1, b1, b2, b3⟩
/-- the table of a body with handlers -/
theorem vx_table {p : Program} {x y : MethodName} {S : Spec} {cc bytes : ByteArray} {maxL maxL' : Nat} {ret ret' : Option FieldType} {e : Env} {s s₁ : State} {m : MethodId} {args : Array Value} {below : List Frame} {meth : Method} {c : Code} {hh : List (Nat × Nat × Nat × Nat)}
    (B : BodyLoose p l y S cc maxL ret e s m args below meth c s₁) (h : (Cond.codeWith y bytes maxL' ret' hh).before args s = true) : c.exceptionTable.toList = tableOf hh := by
  obtain ⟨m9, meth9, c9, hn9, h1, h2, -, -, h6, -⟩ := Cond.codeWith_spec h
  cases Option.some.inj (hn9.symm.trans B.named)
  cases Option.some.inj (h1.symm.trans B.method)
  cases Option.some.inj (h2.symm.trans (Stand.of_body B).code)
  rw [← h6, table_eq]
end Bodies
end VXA
/-! ===== END ===== -/
/-! ===== BEGIN a static call of a method with an exception table ===== -/
section VXS
variable {p : Program} {l : Launch} {e : Env} {R : Room} {s : State} {m : MethodId} {args : Array Value} {below : List Frame} {meth : Method} {c : Code} {T : State} {H : Heap} {locs : List Loc} {cells slots : Nat}
abbrev vx_CSW (R : Room) (s : State) (args : Array Value) (own : String) (index : Nat) (y : MethodName) (bytes : ByteArray) (maxL : Nat) (ret : Option FieldType) (hh : List (Nat × Nat × Nat × Nat)) (ws : List Cond) (rm : Room) (mc ms n : Nat) : Prop :=
  (rm.cells = mc ∧ rm.slots = ms ∧ rm.frames + 1 ≤ R.frames ∧ 8 + (maxL + 11) + rm.locals ≤ R.locals ∧ (∀ w ∈ ws, ∀ (a' : Array Value) (U : State), s.WarmedH U.vm → w.before a' U = true) ∧ Cond.codeWith y bytes maxL ret hh ∈ ws) ∧
  (Cond.codeWith y bytes maxL ret hh).before args s = true ∧ (Cond.initialized y.cls).before args s = true ∧ (y.cls ≠ "java/lang/invoke/MethodHandle" ∧ y.cls ≠ "java/lang/invoke/VarHandle") ∧
  (∀ sig, parseMethodDescriptor y.desc = some sig → n = sig.parameters.length) ∧ (Cond.methodLink own index y).before args s = true ∧ (Cond.static y).before args s = true
theorem vx_cwSW {own : String} {index maxL mc ms : Nat} {y : MethodName} {bytes : ByteArray} {ret : Option FieldType} {hh : List (Nat × Nat × Nat × Nat)} {Ts ws ws' : List Cond} {rm : Room} (n : Nat) (ht : ∀ w ∈ Ts, w.before args s = true) (hT : GoodIn Ts (va_wsS own index y ws)) (hw : ws = Cond.codeWith y bytes maxL ret hh :: ws') (hrc : rm.cells = mc) (hrs : rm.slots = ms)
    (hd : y.cls ≠ "java/lang/invoke/MethodHandle" ∧ y.cls ≠ "java/lang/invoke/VarHandle" ∧ (parseMethodDescriptor y.desc).map (fun d => d.parameters.length) = some n) (hR : rm.frames + 1 ≤ R.frames ∧ 8 + (maxL + 11) + rm.locals ≤ R.locals) :
    vx_CSW R s args own index y bytes maxL ret hh ws rm mc ms n := by
  have ok : ∀ w ∈ va_wsS own index y ws, w.before args s = true := fun w h => ht w (hT w h).1
  have hG : GoodIn Ts ws := fun w h => hT w (by unfold va_wsS; exact List.mem_append_right _ h)
  have hc : Cond.codeWith y bytes maxL ret hh ∈ ws := by rw [hw]; exact List.mem_cons_self
  refine ⟨⟨hrc, hrs, hR.1, hR.2, pay_in ht hG, hc⟩, ht _ (hG _ hc).1, ok _ (by simp [va_wsS]), ⟨hd.1, hd.2.1⟩, fun sig h => ?_, ok _ (by simp [va_wsS]), ok _ (by simp [va_wsS])⟩
  have h2 := hd.2.2
  rw [h] at h2
  exact (Option.some.inj h2).symm
theorem vx_callSW (X : Stand p l e R s m args below meth c T locs cells slots) (hexec : p.tables.exec = Jvm.exec) {own : String} {index : Nat} {y : MethodName} {bytes : ByteArray} {maxL : Nat} {ret : Option FieldType} {hh : List (Nat × Nat × Nat × Nat)}
    (hown : s.vm.findClass own = some m.cls) (hlink : (Cond.methodLink own index y).before args s = true) (hstat : (Cond.static y).before args s = true) (hinit : (Cond.initialized y.cls).before args s = true)
    (hcode : (Cond.codeWith y bytes maxL ret hh).before args s = true) (hy : y.cls ≠ "java/lang/invoke/MethodHandle" ∧ y.cls ≠ "java/lang/invoke/VarHandle")
    {W9 : Nat} {Pre : Pt → Array Value → Prop} {Post : Pt → Array Value → Option Value → Pt → Prop} (hK : Back l R p e below s args y 3 W9 Pre Post)
    {g : JFrame} (hg : g.method = m) (hsize : g.locals.size = c.maxLocals) {argsL rest : List Value} (hlen : ∀ sig, parseMethodDescriptor y.desc = some sig → argsL.length = sig.parameters.length)
    (hstack : g.stack = argsL.reverse ++ rest) (hW : 2 * g.monitorRoom + (rest.map fun v => v.category).sum ≤ W9) (hdg : decode c.code g.pc = .ok (.invokestatic index, 3))
    (hpre : ∀ vm₁, s.WarmedH vm₁ → Pre ⟨T.setVm vm₁, locs, cells, slots⟩ argsL.toArray) :
    ∃ (v : Option Value) (vm₁ : Vm) (B : Pt), s.WarmedH vm₁ ∧ Stand p l e R s m args below meth c B.U B.locs B.cells B.slots ∧ Post ⟨T.setVm vm₁, locs, cells, slots⟩ argsL.toArray v B ∧
      ∀ target, Steps p.tables e below (B.U.setTop { g with pc := g.pc + 3, stack := v.toList ++ rest }) target → Steps p.tables e below (T.setTop g) target := by
  obtain ⟨mk, methM, cM, hnamed, hmethM, -, -, -, -, -, -, hsigM⟩ := Cond.codeWith_spec hcode
  have hstatic : methM.isStatic = true := Cond.static_spec hnamed hmethM hstat
  obtain ⟨kP, hkP, -⟩ := className_of_methodNamed hnamed
  have hinitP : kP.init = .initialized := Cond.initialized_spec (findClass_of_methodNamed hnamed) hkP hinit
  obtain ⟨vm₁, X₁, hstep₁⟩ := X.invokestatic hexec hown hlink hnamed hmethM hstatic hkP hinitP hy (g := g) hg (argsL := argsL) (rest := rest) (hlen _ hsigM) hstack hdg
  obtain ⟨v, B, X', hpost, hsteps⟩ := hK m meth c ⟨T.setVm vm₁, locs, cells, slots⟩ { g with stack := rest } (.invokestatic index) mk argsL.toArray X₁ hg hsize hdg hW (X₁.named hnamed) (hpre vm₁ X₁.warmed)
  exact ⟨v, vm₁, B, X₁.warmed, X', hpost, fun target h => hstep₁ _ fun acts => by rw [doInvoke_state]; exact hsteps.trans h⟩
theorem vx_runSW {y : MethodName} {bytes cc : ByteArray} {maxL nL mc ms n index : Nat} {ret : Option FieldType} {hh : List (Nat × Nat × Nat × Nat)} {ws : List Cond} {rm : Room} {Pc : Array Value → State → Prop} {Qc : Array Value → State → Outcome → State → Prop} {free : Addr → Prop} {Ts : List Cond} {own : String} {As rest : List Value} {g : JFrame}
    (S : CallFix p m c cc nL s args Ts own) (hM : Met l y ws rm Pc Qc mc ms free) (cw : vx_CSW R s args own index y bytes maxL ret hh ws rm mc ms n) (hp : PreS s H Pc As)
    (hg : g.method = m) (hn : As.length = n) (hsize : g.locals.size = nL) (hstack : g.stack = As.reverse ++ rest) (hW : 2 * g.monitorRoom + (rest.map fun v => v.category).sum ≤ 8) (hdg : decode cc g.pc = .ok (.invokestatic index, 3)) (hf : cells + mc ≤ R.cells ∧ slots + ms ≤ R.slots) :
    va_Run p l e R s m args below meth c H locs cells slots mc ms g rest (Qc As.toArray) (free) := by
  obtain ⟨⟨hrc, hrs, hfr, hlo, hws, hcw⟩, hcode, hini, hy, hlen, hl, hstt⟩ := cw
  have hK : Back l R p e below s args y 3 8 (PreOf R mc ms Pc) (PostOf Qc mc ms free) := va_backW (hh := hh) (bytes := bytes) (maxL := maxL) (ret := ret) hM hp.1 hrc hrs hfr hlo hws hcw (fun a' U hW => word_at hW (Or.inl (by first | rfl | simp [Cond.onTables, Cond.keeps, Cond.steady])) hini)
  obtain ⟨hx, hb, hml, ho, -⟩ := S
  intro T hT X
  obtain ⟨v, vm₁, ⟨U', l2, c2, s2⟩, hW₁, X', ⟨g', mk, t, L, e1, e2, hq, h1, hL, h2, h3⟩, st⟩ := vx_callSW X hx (hh := hh) (bytes := bytes) (maxL := maxL) (ret := ret) ho hl hstt hini hcode hy hK hg (hsize.trans hml.symm) (argsL := As) (rest := rest) (fun sig h => hn.trans (hlen sig h)) hstack hW (by rw [hb]; exact hdg)
    (fun vm₁ hW₁ => ⟨hf.1, hf.2, hp.2 (T.setVm vm₁) hT hW₁⟩)
  dsimp only [Pt.U, Pt.locs, Pt.cells, Pt.slots] at X' e1 e2 h1 h2 h3 st
  subst h1; subst h2; subst h3
  exact ⟨v, (T.setVm vm₁).calling g' mk As.toArray, t, U', L, hT, X', hL, e1, e2, hq, st⟩
/-- not caught here, past rows that name other classes: it goes on to the caller -/
theorem vx_outP {p : Program} {l : Launch} {e : Env} {R : Room} {s : State} {m : MethodId} {args : Array Value} {below : List Frame} {meth : Method} {c : Code} {H : Heap} {locs : List Loc} {cells slots : Nat} {free : Addr → Prop} {ls : Array Slot} {rest : List Value} {Qc : Array Value → State → Outcome → State → Prop} {XC : String → State → State → Prop}
    {pc : Nat} {own E : String} {ce : Cell} {q : Addr} {mc ms : Nat} (hown : s.vm.findClass own = some m.cls) (hlocks : meth.locks = false)
    (hpass : ∀ z ∈ c.exceptionTable.toList, covers z pc = false ∨ (z.catchType ≠ 0 ∧ ∃ nm : String, (Cond.classLink own z.catchType nm).before args s = true ∧ va_Nc E nm s)) (hcell : H[q]? = some ce) (hv : ce.vm = .none) (hcl : s.vm.findClass E = some ce.cls)
    (hx : ∀ t : State, t.heap = H → s.vm.Alike t.vm → XC E s t) (hf : ∀ z ∈ locs, free z.base) (hc : cells ≤ mc) (hs : slots ≤ ms) :
    vx_W p l e R s m args below meth c H locs cells slots (vx_MQ below Qc XC args s mc ms free) (F0 m pc ls rest) q := by
  intro T hT X
  have hpl : e.platform.magicAccessors = ({} : Platform).magicAccessors := by rw [X.admits.platform]
  obtain ⟨vm', hW', X', st⟩ := X.outThrough hlocks q (g := F0 m pc ls rest) rfl rfl rfl (cell := ce) (by rw [hT]; exact hcell) (by rw [hv]; rfl)
    (by obtain ⟨k9, h9, -⟩ := Vm.findClass_spec hcl; exact ⟨k9, h9⟩) (fun z hz => by
      rcases hpass z hz with h | ⟨hz0, nm, hl1, hn1⟩
      · exact Or.inl h
      · obtain ⟨c6, hc6, hcl6⟩ := Cond.classLink_spec hown hl1 e.platform hpl
        obtain ⟨a8, b8, h1, h2, h3⟩ := hn1
        cases Option.some.inj (h1.symm.trans hcl)
        cases Option.some.inj (h2.symm.trans hc6)
        exact Or.inr ⟨hz0, _, hcl6, h3⟩)
  obtain ⟨g₀, hfr⟩ := X'.frames_eq
  have hcell9 : ((T.setVm vm').setFrames (.throwing q :: below)).heap[q]? = some ce := by
    show T.heap[q]? = some ce
    rw [hT]; exact hcell
  have hend : Ended ((T.setVm vm').setFrames (.throwing q :: below)) below (.threw q) := State.frames_setFrames _ (State.cur_lt_of_frames hfr)
  refine ⟨(T.setVm vm').setFrames (.throwing q :: below), ?_, .threw q, X'.here.running, hend, Or.inr ⟨q, rfl, E, ce, locs, hx _ hT (X'.ends _).1.alike, hcell9, hv, hcl, (X'.ends _).1, (X'.ends _).2.mono hc hs, hf⟩⟩
  rw [X.pushThrowing_eq]
  exact st
/-- a thing of a world lies in the heap -/
theorem vx_lt {D : va_G} {cl : List vw_C} {ws : va_W} {H1 : Heap} (h : va_P D cl ws H1) {k : Nat} {q : Nat × va_E} (hk : ws[k]? = some q) : q.1 < H1.size := (h k q hk).lt
end VXS
/-! ===== END ===== -/
/-! ===== BEGIN methods with a table of their own: called by a name, returning or throwing ===== -/
section VXH
/-! vx_backW, vx_callVX, vx_callSX, vx_callVW, vx_runVW, vx_runVX, vx_runSX, vx_ofWH follow the same proofs as their sisters above (Free/Laws.lean, Shelf42/LK1.lean); vx_outP calls Shelf42/NT130.lean (outThrough). -/
section
variable {l : Launch} {R : Room} {p : Program} {e : Env} {below : List Frame} {s : State} {sargs : Array Value} {y : MethodName} {len W9 : Nat}
theorem vx_backW {ws : List Cond} {rm : Room} {Pc : Array Value → State → Prop} {Qc : Array Value → State → Outcome → State → Prop} {XC : String → State → State → Prop} {mc ms : Nat} {free : Addr → Prop} {bytes : ByteArray} {maxL : Nat} {ret : Option FieldType} {hh : List (Nat × Nat × Nat × Nat)}
    (hM : vx_Met l y ws rm Pc Qc XC mc ms free) (hblind : FrameBlind Pc) (hrc : rm.cells = mc) (hrs : rm.slots = ms)
    (hframes : rm.frames + 1 ≤ R.frames) (hlocals : W9 + (maxL + 11) + rm.locals ≤ R.locals)
    (hws : ∀ w ∈ ws, ∀ a' U, s.WarmedH U.vm → w.before a' U = true) (hcode : Cond.codeWith y bytes maxL ret hh ∈ ws) (hinit : ∀ a' U, s.WarmedH U.vm → (Cond.initialized y.cls).before a' U = true) :
    vx_Back l R p e below s sargs y len W9 (PreOf R mc ms Pc) (PostOf Qc mc ms free) (vx_Post XC mc ms free) := by
  intro m meth c A g ig mk a X hg hsize hdg hW hn hp
  have h1 : (headSpec ws rm).pre.before a A.U = true := atoms_intro fun w hw => hws w hw _ _ X.warmed
  have h2 : (Cond.codeWith y bytes maxL ret hh).before a A.U = true := hws _ hcode _ _ X.warmed
  have h3 : (Cond.initialized y.cls).before a A.U = true := hinit _ _ X.warmed
  have h4 : A.cells + (headSpec ws rm).room.cells ≤ R.cells := by rw [show (headSpec ws rm).room.cells = mc from hrc]; exact hp.1
  have h5 : A.slots + (headSpec ws rm).room.slots ≤ R.slots := by rw [show (headSpec ws rm).room.slots = ms from hrs]; exact hp.2.1
  have hPc : Pc a (A.U.calling g mk a) := hblind _ _ _ _ hp.2.2
  obtain ⟨U, Ls, c0, s0⟩ := A
  dsimp only [Pt.U, Pt.locs, Pt.cells, Pt.slots] at h1 h2 h3 h4 h5 X hn hPc ⊢
  obtain ⟨m9, methY, cY, hn9, hmY, hcY, -, hlY, -⟩ := Cond.codeWith_spec h2
  cases Option.some.inj (hn9.symm.trans hn)
  obtain ⟨kY, hkY, -⟩ := className_of_methodNamed hn
  have hinitY : kY.init = .initialized := Cond.initialized_spec (findClass_of_methodNamed hn) hkY h3
  have h : At U g.method c below := by rw [hg]; exact X.here
  have hlocals9 : W9 + (maxL + 11) + (headSpec ws rm).room.locals ≤ R.locals := hlocals
  have happ : (headSpec ws rm).appliesLoose y e.platform (U.calling g mk a) = true :=
    Spec.appliesLoose_calling (g := g) h hdg hn hkY hinitY
      (X.room_calling (g := g) (R' := (headSpec ws rm).room) hsize hmY hcY hframes (by rw [hlY]; omega) h4 h5) h1
  obtain ⟨mid, hmid⟩ := h.above
  have hfr : (U.setTop g).frames = (.java g :: mid) ++ below := by rw [State.frames_setTop' g h.top, hmid]; rfl
  obtain ⟨o, s₂, hsteps, -, hend, hq⟩ := Steps.callFree hM p X.admits X.cas X.clock (acts := []) hfr happ hPc trivial
  have hq' : vx_Q Qc XC mc ms free a (U.calling g mk a) o s₂ := hq
  rw [State.frames_setTop' g h.top] at hend
  obtain ⟨g₀, hg0⟩ := Option.isSome_iff_exists.mp h.top
  obtain ⟨r, hr⟩ := State.topJava?_eq_some.mp hg0
  have hr' : (({ U with heap := s₂.heap, slotsUsed := s₂.slotsUsed } : State).setVm s₂.vm).frames = .java g₀ :: r := hr
  rcases hq' with ⟨hqc, L, hfe, hL⟩ | ⟨q, rfl, E, ce, L, hx, hce, hcv, hcl, hW₂, hsm, hL⟩
  · obtain ⟨⟨v, rfl⟩, hW₂, e2, q2, q3, q4, q5, q6⟩ := id hfe
    have e3 : s₂ = ({ (U.calling g mk a).setFrames s₂.frames with heap := s₂.heap, slotsUsed := s₂.slotsUsed } : State).setVm s₂.vm := by
      have : s₂ = ({ s₂ with vm := (U.calling g mk a).vm } : State).setVm s₂.vm := rfl
      rw [e2] at this
      exact this
    obtain ⟨c₂, i₂, len₂, hc₂, hd₂, hf₂⟩ := hend
    have hW' : U.WarmedH s₂.vm := hW₂
    have hcc : c₂ = c := by
      have h1 : s₂.code? g.method = U.code? g.method := by
        rw [State.code?_eq, State.code?_eq, hW'.alike.method?]
      exact Option.some.inj (hc₂.symm.trans (h1.trans h.code))
    subst hcc
    have hlen : len₂ = len := by rw [hdg] at hd₂; cases hd₂; rfl
    subst hlen
    have hs₂ : s₂ = (({ U with heap := s₂.heap, slotsUsed := s₂.slotsUsed } : State).setVm s₂.vm).setTop { g with pc := g.pc + len₂, stack := v.toList ++ g.stack } := by
      refine e3.trans ?_
      rw [hf₂, State.calling_eq h.top, State.setFrames_setFrames, State.setTop_of_frames _ hr', hr]
      rfl
    have hsame : U.sameButNew ({ U with heap := s₂.heap, slotsUsed := s₂.slotsUsed } : State) L mc ms := by
      refine ⟨?_, q2, q3, q4, q5, q6⟩
      obtain ⟨t, ht, -⟩ := State.frames_cons hr
      show ({ U with heap := s₂.heap, slotsUsed := s₂.slotsUsed } : State) = { U.setFrames U.frames with heap := s₂.heap, slotsUsed := s₂.slotsUsed }
      rw [State.setFrames_self ht]
    subst hg
    refine Or.inl ⟨v, ⟨(({ U with heap := s₂.heap, slotsUsed := s₂.slotsUsed } : State).setVm s₂.vm), Ls ++ L, c0 + mc, s0 + ms⟩,
      ⟨X.admits, X.cas, X.clock, X.frames, X.room, X.hears, X.method, X.code, (X.here.setHeapUsed s₂.heap s₂.slotsUsed).setVm hW'.alike, X.tail, State.WarmedH.trans X.warmed hW', X.limits, X.bytes, X.same.trans (hsame.setVm s.vm)⟩,
      ⟨g, mk, s₂, L, rfl, rfl, hqc, rfl, hL, rfl, rfl⟩, ?_⟩
    show Steps p.tables e below _ ((({ U with heap := s₂.heap, slotsUsed := s₂.slotsUsed } : State).setVm s₂.vm).setTop { g with pc := g.pc + len₂, stack := v.toList ++ g.stack })
    rw [← hs₂]
    exact hsteps
  · obtain ⟨e2, q2, q3, q4, q5, q6⟩ := id hsm
    have e3 : s₂ = ({ (U.calling g mk a).setFrames s₂.frames with heap := s₂.heap, slotsUsed := s₂.slotsUsed } : State).setVm s₂.vm := by
      have : s₂ = ({ s₂ with vm := (U.calling g mk a).vm } : State).setVm s₂.vm := rfl
      rw [e2] at this
      exact this
    have hf₂ : s₂.frames = .throwing q :: .java g :: U.frames.tail := hend
    have hW' : U.WarmedH s₂.vm := hW₂
    have hs₂ : s₂ = ((({ U with heap := s₂.heap, slotsUsed := s₂.slotsUsed } : State).setVm s₂.vm).setTop g).pushFrame (.throwing q) := by
      refine e3.trans ?_
      rw [hf₂, State.calling_eq h.top, State.setFrames_setFrames, State.pushFrame, State.frames_setTop _ hr', State.setTop_of_frames _ hr', State.setFrames_setFrames, hr]
      rfl
    have hsame : U.sameButNew ({ U with heap := s₂.heap, slotsUsed := s₂.slotsUsed } : State) L mc ms := by
      refine ⟨?_, q2, q3, q4, q5, q6⟩
      obtain ⟨t, ht, -⟩ := State.frames_cons hr
      show ({ U with heap := s₂.heap, slotsUsed := s₂.slotsUsed } : State) = { U.setFrames U.frames with heap := s₂.heap, slotsUsed := s₂.slotsUsed }
      rw [State.setFrames_self ht]
    subst hg
    refine Or.inr ⟨q, ⟨(({ U with heap := s₂.heap, slotsUsed := s₂.slotsUsed } : State).setVm s₂.vm), Ls ++ L, c0 + mc, s0 + ms⟩,
      ⟨X.admits, X.cas, X.clock, X.frames, X.room, X.hears, X.method, X.code, (X.here.setHeapUsed s₂.heap s₂.slotsUsed).setVm hW'.alike, X.tail, State.WarmedH.trans X.warmed hW', X.limits, X.bytes, X.same.trans (hsame.setVm s.vm)⟩,
      ⟨g, mk, s₂, L, E, ce, rfl, rfl, hx, hce, hcv, hcl, rfl, hL, rfl, rfl⟩, ?_⟩
    show Steps p.tables e below _ (((({ U with heap := s₂.heap, slotsUsed := s₂.slotsUsed } : State).setVm s₂.vm).setTop g).pushFrame (.throwing q))
    rw [← hs₂]
    exact hsteps
end
variable {p : Program} {l : Launch} {e : Env} {R : Room} {s : State} {m : MethodId} {args : Array Value} {below : List Frame} {meth : Method} {c : Code} {T : State} {H : Heap} {locs : List Loc} {cells slots : Nat}
theorem vx_callVX (X : Stand p l e R s m args below meth c T locs cells slots) (hexec : p.tables.exec = Jvm.exec) {own C : String} {index : Nat} {y : MethodName} {bytes : ByteArray} {maxL : Nat} {ret : Option FieldType} {hh : List (Nat × Nat × Nat × Nat)}
    (hown : s.vm.findClass own = some m.cls) (hlink : (Cond.methodLink own index y).before args s = true) (hinst : (Cond.instanceMethod y).before args s = true) (hsel : (Cond.selects C y y).before args s = true)
    (hcode : (Cond.codeWith y bytes maxL ret hh).before args s = true) (hy : y.cls ≠ "java/lang/invoke/MethodHandle" ∧ y.cls ≠ "java/lang/invoke/VarHandle")
    {W9 : Nat} {Pre : Pt → Array Value → Prop} {Post : Pt → Array Value → Option Value → Pt → Prop} {PostX : Pt → Array Value → Addr → Pt → Prop} (hK : vx_Back l R p e below s args y 3 W9 Pre Post PostX)
    {b : Addr} {cellB : Cell} (hcell : T.heap[b]? = some cellB) (hobj : cellB.vm.isStatics = false) (hcls : s.vm.findClass C = some cellB.cls)
    {g : JFrame} (hg : g.method = m) (hsize : g.locals.size = c.maxLocals) {argsL rest : List Value} (hlen : ∀ sig, parseMethodDescriptor y.desc = some sig → argsL.length = sig.parameters.length)
    (hstack : g.stack = argsL.reverse ++ .ref b :: rest) (hW : 2 * g.monitorRoom + (rest.map fun v => v.category).sum ≤ W9) (hdg : decode c.code g.pc = .ok (.invokevirtual index, 3))
    (hpre : ∀ vm₁, s.WarmedH vm₁ → Pre ⟨T.setVm vm₁, locs, cells, slots⟩ (Value.ref b :: argsL).toArray) :
    (∃ (v : Option Value) (vm₁ : Vm) (B : Pt), s.WarmedH vm₁ ∧ Stand p l e R s m args below meth c B.U B.locs B.cells B.slots ∧ Post ⟨T.setVm vm₁, locs, cells, slots⟩ (Value.ref b :: argsL).toArray v B ∧
      ∀ target, Steps p.tables e below (B.U.setTop { g with pc := g.pc + 3, stack := v.toList ++ rest }) target → Steps p.tables e below (T.setTop g) target) ∨
    (∃ (q : Addr) (vm₁ : Vm) (B : Pt), s.WarmedH vm₁ ∧ Stand p l e R s m args below meth c B.U B.locs B.cells B.slots ∧ PostX ⟨T.setVm vm₁, locs, cells, slots⟩ (Value.ref b :: argsL).toArray q B ∧
      Steps p.tables e below (T.setTop g) ((B.U.setTop { g with stack := rest }).pushFrame (.throwing q))) := by
  obtain ⟨mk, methM, hnamed, hmethM, hstM, habM⟩ := Cond.instanceMethod_spec hinst
  obtain ⟨m8, methM', cM, hn8, hmethM', -, -, -, -, -, -, hsigM⟩ := Cond.codeWith_spec hcode
  cases Option.some.inj (hn8.symm.trans hnamed)
  cases hmethM.symm.trans hmethM'
  obtain ⟨c2, r2, m2, q1, q2, q3, q4, kP, hkP, hkPi⟩ := Cond.selects_spec hsel
  cases hcls.symm.trans q1
  cases (State.methodFound?_of_named hnamed hy).symm.trans q2
  cases hnamed.symm.trans q3
  have hselP : selectMethod e.platform s.vm cellB.cls mk = .method mk := by rw [Launch.admits_selectMethod X.admits]; exact q4
  obtain ⟨vm₁, X₁, hstep₁⟩ := X.invokevirtual hexec hown hlink hnamed hmethM hstM hkP hkPi hy (a := b) (cell := cellB) hcell
    (fun z h => by rw [h] at hobj; cases hobj) hselP hmethM habM hkP hkPi (g := g) hg (argsL := argsL) (rest := rest) (hlen _ hsigM) hstack hdg
  rcases hK m meth c ⟨T.setVm vm₁, locs, cells, slots⟩ { g with stack := rest } (.invokevirtual index) mk (Value.ref b :: argsL).toArray X₁ hg hsize hdg hW (X₁.named hnamed) (hpre vm₁ X₁.warmed) with ⟨v, B, X', hpost, hsteps⟩ | ⟨q, B, X', hpost, hsteps⟩
  · exact Or.inl ⟨v, vm₁, B, X₁.warmed, X', hpost, fun target h => hstep₁ _ fun acts => by rw [doInvoke_state]; exact hsteps.trans h⟩
  · exact Or.inr ⟨q, vm₁, B, X₁.warmed, X', hpost, hstep₁ _ fun acts => by rw [doInvoke_state]; exact hsteps⟩
theorem vx_callSX (X : Stand p l e R s m args below meth c T locs cells slots) (hexec : p.tables.exec = Jvm.exec) {own : String} {index : Nat} {y : MethodName} {bytes : ByteArray} {maxL : Nat} {ret : Option FieldType} {hh : List (Nat × Nat × Nat × Nat)}
    (hown : s.vm.findClass own = some m.cls) (hlink : (Cond.methodLink own index y).before args s = true) (hstat : (Cond.static y).before args s = true) (hinit : (Cond.initialized y.cls).before args s = true)
    (hcode : (Cond.codeWith y bytes maxL ret hh).before args s = true) (hy : y.cls ≠ "java/lang/invoke/MethodHandle" ∧ y.cls ≠ "java/lang/invoke/VarHandle")
    {W9 : Nat} {Pre : Pt → Array Value → Prop} {Post : Pt → Array Value → Option Value → Pt → Prop} {PostX : Pt → Array Value → Addr → Pt → Prop} (hK : vx_Back l R p e below s args y 3 W9 Pre Post PostX)
    {g : JFrame} (hg : g.method = m) (hsize : g.locals.size = c.maxLocals) {argsL rest : List Value} (hlen : ∀ sig, parseMethodDescriptor y.desc = some sig → argsL.length = sig.parameters.length)
    (hstack : g.stack = argsL.reverse ++ rest) (hW : 2 * g.monitorRoom + (rest.map fun v => v.category).sum ≤ W9) (hdg : decode c.code g.pc = .ok (.invokestatic index, 3))
    (hpre : ∀ vm₁, s.WarmedH vm₁ → Pre ⟨T.setVm vm₁, locs, cells, slots⟩ argsL.toArray) :
    (∃ (v : Option Value) (vm₁ : Vm) (B : Pt), s.WarmedH vm₁ ∧ Stand p l e R s m args below meth c B.U B.locs B.cells B.slots ∧ Post ⟨T.setVm vm₁, locs, cells, slots⟩ argsL.toArray v B ∧
      ∀ target, Steps p.tables e below (B.U.setTop { g with pc := g.pc + 3, stack := v.toList ++ rest }) target → Steps p.tables e below (T.setTop g) target) ∨
    (∃ (q : Addr) (vm₁ : Vm) (B : Pt), s.WarmedH vm₁ ∧ Stand p l e R s m args below meth c B.U B.locs B.cells B.slots ∧ PostX ⟨T.setVm vm₁, locs, cells, slots⟩ argsL.toArray q B ∧
      Steps p.tables e below (T.setTop g) ((B.U.setTop { g with stack := rest }).pushFrame (.throwing q))) := by
  obtain ⟨mk, methM, cM, hnamed, hmethM, -, -, -, -, -, -, hsigM⟩ := Cond.codeWith_spec hcode
  have hstatic : methM.isStatic = true := Cond.static_spec hnamed hmethM hstat
  obtain ⟨kP, hkP, -⟩ := className_of_methodNamed hnamed
  have hinitP : kP.init = .initialized := Cond.initialized_spec (findClass_of_methodNamed hnamed) hkP hinit
  obtain ⟨vm₁, X₁, hstep₁⟩ := X.invokestatic hexec hown hlink hnamed hmethM hstatic hkP hinitP hy (g := g) hg (argsL := argsL) (rest := rest) (hlen _ hsigM) hstack hdg
  rcases hK m meth c ⟨T.setVm vm₁, locs, cells, slots⟩ { g with stack := rest } (.invokestatic index) mk argsL.toArray X₁ hg hsize hdg hW (X₁.named hnamed) (hpre vm₁ X₁.warmed) with ⟨v, B, X', hpost, hsteps⟩ | ⟨q, B, X', hpost, hsteps⟩
  · exact Or.inl ⟨v, vm₁, B, X₁.warmed, X', hpost, fun target h => hstep₁ _ fun acts => by rw [doInvoke_state]; exact hsteps.trans h⟩
  · exact Or.inr ⟨q, vm₁, B, X₁.warmed, X', hpost, hstep₁ _ fun acts => by rw [doInvoke_state]; exact hsteps⟩
theorem vx_callVW (X : Stand p l e R s m args below meth c T locs cells slots) (hexec : p.tables.exec = Jvm.exec) {own C : String} {index : Nat} {y : MethodName} {bytes : ByteArray} {maxL : Nat} {ret : Option FieldType} {hh : List (Nat × Nat × Nat × Nat)}
    (hown : s.vm.findClass own = some m.cls) (hlink : (Cond.methodLink own index y).before args s = true) (hinst : (Cond.instanceMethod y).before args s = true) (hsel : (Cond.selects C y y).before args s = true)
    (hcode : (Cond.codeWith y bytes maxL ret hh).before args s = true) (hy : y.cls ≠ "java/lang/invoke/MethodHandle" ∧ y.cls ≠ "java/lang/invoke/VarHandle")
    {W9 : Nat} {Pre : Pt → Array Value → Prop} {Post : Pt → Array Value → Option Value → Pt → Prop} (hK : Back l R p e below s args y 3 W9 Pre Post)
    {b : Addr} {cellB : Cell} (hcell : T.heap[b]? = some cellB) (hobj : cellB.vm.isStatics = false) (hcls : s.vm.findClass C = some cellB.cls)
    {g : JFrame} (hg : g.method = m) (hsize : g.locals.size = c.maxLocals) {argsL rest : List Value} (hlen : ∀ sig, parseMethodDescriptor y.desc = some sig → argsL.length = sig.parameters.length)
    (hstack : g.stack = argsL.reverse ++ .ref b :: rest) (hW : 2 * g.monitorRoom + (rest.map fun v => v.category).sum ≤ W9) (hdg : decode c.code g.pc = .ok (.invokevirtual index, 3))
    (hpre : ∀ vm₁, s.WarmedH vm₁ → Pre ⟨T.setVm vm₁, locs, cells, slots⟩ (Value.ref b :: argsL).toArray) :
    ∃ (v : Option Value) (vm₁ : Vm) (B : Pt), s.WarmedH vm₁ ∧ Stand p l e R s m args below meth c B.U B.locs B.cells B.slots ∧ Post ⟨T.setVm vm₁, locs, cells, slots⟩ (Value.ref b :: argsL).toArray v B ∧
      ∀ target, Steps p.tables e below (B.U.setTop { g with pc := g.pc + 3, stack := v.toList ++ rest }) target → Steps p.tables e below (T.setTop g) target := by
  obtain ⟨mk, methM, hnamed, hmethM, hstM, habM⟩ := Cond.instanceMethod_spec hinst
  obtain ⟨m8, methM', cM, hn8, hmethM', -, -, -, -, -, -, hsigM⟩ := Cond.codeWith_spec hcode
  cases Option.some.inj (hn8.symm.trans hnamed)
  cases hmethM.symm.trans hmethM'
  obtain ⟨c2, r2, m2, q1, q2, q3, q4, kP, hkP, hkPi⟩ := Cond.selects_spec hsel
  cases hcls.symm.trans q1
  cases (State.methodFound?_of_named hnamed hy).symm.trans q2
  cases hnamed.symm.trans q3
  have hselP : selectMethod e.platform s.vm cellB.cls mk = .method mk := by rw [Launch.admits_selectMethod X.admits]; exact q4
  obtain ⟨vm₁, X₁, hstep₁⟩ := X.invokevirtual hexec hown hlink hnamed hmethM hstM hkP hkPi hy (a := b) (cell := cellB) hcell
    (fun z h => by rw [h] at hobj; cases hobj) hselP hmethM habM hkP hkPi (g := g) hg (argsL := argsL) (rest := rest) (hlen _ hsigM) hstack hdg
  obtain ⟨v, B, X', hpost, hsteps⟩ := hK m meth c ⟨T.setVm vm₁, locs, cells, slots⟩ { g with stack := rest } (.invokevirtual index) mk (Value.ref b :: argsL).toArray X₁ hg hsize hdg hW (X₁.named hnamed) (hpre vm₁ X₁.warmed)
  exact ⟨v, vm₁, B, X₁.warmed, X', hpost, fun target h => hstep₁ _ fun acts => by rw [doInvoke_state]; exact hsteps.trans h⟩
abbrev vx_CVW (R : Room) (s : State) (args : Array Value) (own C : String) (index : Nat) (y : MethodName) (bytes : ByteArray) (maxL : Nat) (ret : Option FieldType) (hh : List (Nat × Nat × Nat × Nat)) (ws : List Cond) (rm : Room) (mc ms n : Nat) : Prop :=
  (rm.cells = mc ∧ rm.slots = ms ∧ rm.frames + 1 ≤ R.frames ∧ 8 + (maxL + 11) + rm.locals ≤ R.locals ∧ (∀ w ∈ ws, ∀ (a' : Array Value) (U : State), s.WarmedH U.vm → w.before a' U = true) ∧ Cond.codeWith y bytes maxL ret hh ∈ ws) ∧
  (Cond.codeWith y bytes maxL ret hh).before args s = true ∧ (Cond.initialized y.cls).before args s = true ∧ (y.cls ≠ "java/lang/invoke/MethodHandle" ∧ y.cls ≠ "java/lang/invoke/VarHandle") ∧
  (∀ sig, parseMethodDescriptor y.desc = some sig → n = sig.parameters.length) ∧ (Cond.methodLink own index y).before args s = true ∧ (Cond.instanceMethod y).before args s = true ∧ (Cond.selects C y y).before args s = true
theorem vx_cwVW {own C : String} {index maxL mc ms : Nat} {y : MethodName} {bytes : ByteArray} {ret : Option FieldType} {hh : List (Nat × Nat × Nat × Nat)} {Ts ws ws' : List Cond} {rm : Room} (n : Nat) (ht : ∀ w ∈ Ts, w.before args s = true) (hT : GoodIn Ts (wsV own index C y ws)) (hw : ws = Cond.codeWith y bytes maxL ret hh :: ws') (hrc : rm.cells = mc) (hrs : rm.slots = ms)
    (hd : y.cls = C ∧ y.cls ≠ "java/lang/invoke/MethodHandle" ∧ y.cls ≠ "java/lang/invoke/VarHandle" ∧ (parseMethodDescriptor y.desc).map (fun d => d.parameters.length) = some n) (hR : rm.frames + 1 ≤ R.frames ∧ 8 + (maxL + 11) + rm.locals ≤ R.locals) :
    vx_CVW R s args own C index y bytes maxL ret hh ws rm mc ms n := by
  obtain ⟨hC, hd⟩ := hd
  subst hC
  have ok : ∀ w ∈ wsV own index y.cls y ws, w.before args s = true := fun w h => ht w (hT w h).1
  have hG : GoodIn Ts ws := fun w h => hT w (by unfold wsV; exact List.mem_append_right _ h)
  have hc : Cond.codeWith y bytes maxL ret hh ∈ ws := by rw [hw]; exact List.mem_cons_self
  refine ⟨⟨hrc, hrs, hR.1, hR.2, pay_in ht hG, hc⟩, ht _ (hG _ hc).1, ok _ (by simp [wsV]), ⟨hd.1, hd.2.1⟩, fun sig h => ?_, ok _ (by simp [wsV]), ok _ (by simp [wsV]), ok _ (by simp [wsV])⟩
  have h2 := hd.2.2
  rw [h] at h2
  exact (Option.some.inj h2).symm
theorem vx_runVW {y : MethodName} {bytes cc : ByteArray} {maxL nL mc ms n index : Nat} {ret : Option FieldType} {hh : List (Nat × Nat × Nat × Nat)} {ws : List Cond} {rm : Room} {Pc : Array Value → State → Prop} {Qc : Array Value → State → Outcome → State → Prop} {free : Addr → Prop} {Ts : List Cond} {own C : String} {b : Addr} {As rest : List Value} {g : JFrame}
    (S : CallFix p m c cc nL s args Ts own) (hM : Met l y ws rm Pc Qc mc ms free) (cw : vx_CVW R s args own C index y bytes maxL ret hh ws rm mc ms n) (hp : PreV s H C b Pc As)
    (hg : g.method = m) (hn : As.length = n) (hsize : g.locals.size = nL) (hstack : g.stack = As.reverse ++ .ref b :: rest) (hW : 2 * g.monitorRoom + (rest.map fun v => v.category).sum ≤ 8) (hdg : decode cc g.pc = .ok (.invokevirtual index, 3)) (hf : cells + mc ≤ R.cells ∧ slots + ms ≤ R.slots) :
    va_Run p l e R s m args below meth c H locs cells slots mc ms g rest (Qc (Value.ref b :: As).toArray) free := by
  obtain ⟨⟨hrc, hrs, hfr, hlo, hws, hcw⟩, hcode, hini, hy, hlen, hl, hin, hse⟩ := cw
  have hK : Back l R p e below s args y 3 8 (PreOf R mc ms Pc) (PostOf Qc mc ms free) := va_backW (hh := hh) (bytes := bytes) (maxL := maxL) (ret := ret) hM hp.1 hrc hrs hfr hlo hws hcw (fun a' U hW => word_at hW (Or.inl (by first | rfl | simp [Cond.onTables, Cond.keeps, Cond.steady])) hini)
  obtain ⟨hx, hb, hml, ho, -⟩ := S
  obtain ⟨-, ⟨cellB, hcB, hoB, hclB⟩, hPc⟩ := hp
  intro T hT X
  obtain ⟨v, vm₁, ⟨U', l2, c2, s2⟩, hW₁, X', ⟨g', mk, t, L, e1, e2, hq, h1, hL, h2, h3⟩, st⟩ := vx_callVW X hx (C := C) (hh := hh) (bytes := bytes) (maxL := maxL) (ret := ret) ho hl hin hse hcode hy hK (by rw [hT]; exact hcB) hoB hclB hg (hsize.trans hml.symm) (argsL := As) (rest := rest) (fun sig h => hn.trans (hlen sig h)) hstack hW (by rw [hb]; exact hdg)
    (fun vm₁ hW₁ => ⟨hf.1, hf.2, hPc (T.setVm vm₁) hT hW₁⟩)
  dsimp only [Pt.U, Pt.locs, Pt.cells, Pt.slots] at X' e1 e2 h1 h2 h3 st
  subst h1; subst h2; subst h3
  exact ⟨v, (T.setVm vm₁).calling g' mk (Value.ref b :: As).toArray, t, U', L, hT, X', hL, e1, e2, hq, st⟩
section
variable {y : MethodName} {bytes cc : ByteArray} {maxL nL mc ms n index : Nat} {ret : Option FieldType} {ws : List Cond} {rm : Room} {Pc : Array Value → State → Prop} {Qc : Array Value → State → Outcome → State → Prop} {XC : String → State → State → Prop} {free : Addr → Prop} {Ts : List Cond} {own C : String} {b : Addr} {As rest : List Value} {g : JFrame}
theorem vx_runVX {hh : List (Nat × Nat × Nat × Nat)} (S : CallFix p m c cc nL s args Ts own) (hM : vx_Met l y ws rm Pc Qc XC mc ms free) (cw : vx_CVW R s args own C index y bytes maxL ret hh ws rm mc ms n) (hp : PreV s H C b Pc As)
    (hg : g.method = m) (hn : As.length = n) (hsize : g.locals.size = nL) (hstack : g.stack = As.reverse ++ .ref b :: rest) (hW : 2 * g.monitorRoom + (rest.map fun v => v.category).sum ≤ 8) (hdg : decode cc g.pc = .ok (.invokevirtual index, 3)) (hf : cells + mc ≤ R.cells ∧ slots + ms ≤ R.slots) :
    vx_Run p l e R s m args below meth c H locs cells slots mc ms g rest (Qc (Value.ref b :: As).toArray) XC free := by
  obtain ⟨⟨hrc, hrs, hfr, hlo, hws, hcw⟩, hcode, hini, hy, hlen, hl, hin, hse⟩ := cw
  have hK : vx_Back l R p e below s args y 3 8 (PreOf R mc ms Pc) (PostOf Qc mc ms free) (vx_Post XC mc ms free) := vx_backW (hh := hh) (bytes := bytes) (maxL := maxL) (ret := ret) hM hp.1 hrc hrs hfr hlo hws hcw (fun a' U hW => word_at hW (Or.inl (by first | rfl | simp [Cond.onTables, Cond.keeps, Cond.steady])) hini)
  obtain ⟨hx, hb, hml, ho, -⟩ := S
  obtain ⟨-, ⟨cellB, hcB, hoB, hclB⟩, hPc⟩ := hp
  intro T hT X
  rcases vx_callVX X hx (C := C) (hh := hh) (bytes := bytes) (maxL := maxL) (ret := ret) ho hl hin hse hcode hy hK (by rw [hT]; exact hcB) hoB hclB hg (hsize.trans hml.symm) (argsL := As) (rest := rest) (fun sig h => hn.trans (hlen sig h)) hstack hW (by rw [hb]; exact hdg)
    (fun vm₁ hW₁ => ⟨hf.1, hf.2, hPc (T.setVm vm₁) hT hW₁⟩) with ⟨v, vm₁, ⟨U', l2, c2, s2⟩, hW₁, X', ⟨g', mk, t, L, e1, e2, hq, h1, hL, h2, h3⟩, st⟩ | ⟨q, vm₁, ⟨U', l2, c2, s2⟩, hW₁, X', ⟨g', mk, t, L, E, ce, e1, e2, hq, hce, hcv, hcl, h1, hL, h2, h3⟩, st⟩
  · dsimp only [Pt.U, Pt.locs, Pt.cells, Pt.slots] at X' e1 e2 h1 h2 h3 st
    subst h1; subst h2; subst h3
    exact Or.inl ⟨v, (T.setVm vm₁).calling g' mk (Value.ref b :: As).toArray, t, U', L, hT, X', hL, e1, e2, hq, st⟩
  · dsimp only [Pt.U, Pt.locs, Pt.cells, Pt.slots] at X' e1 e2 h1 h2 h3 st hcl
    subst h1; subst h2; subst h3
    exact Or.inr ⟨q, (T.setVm vm₁).calling g' mk (Value.ref b :: As).toArray, t, U', L, E, ce, hT, X', hL, e1, e2, hq, hce, hcv, vx_cls hW₁ hcl, st⟩
theorem vx_runSX {hh : List (Nat × Nat × Nat × Nat)} (S : CallFix p m c cc nL s args Ts own) (hM : vx_Met l y ws rm Pc Qc XC mc ms free) (cw : vx_CSW R s args own index y bytes maxL ret hh ws rm mc ms n) (hp : PreS s H Pc As)
    (hg : g.method = m) (hn : As.length = n) (hsize : g.locals.size = nL) (hstack : g.stack = As.reverse ++ rest) (hW : 2 * g.monitorRoom + (rest.map fun v => v.category).sum ≤ 8) (hdg : decode cc g.pc = .ok (.invokestatic index, 3)) (hf : cells + mc ≤ R.cells ∧ slots + ms ≤ R.slots) :
    vx_Run p l e R s m args below meth c H locs cells slots mc ms g rest (Qc As.toArray) XC free := by
  obtain ⟨⟨hrc, hrs, hfr, hlo, hws, hcw⟩, hcode, hini, hy, hlen, hl, hstt⟩ := cw
  have hK : vx_Back l R p e below s args y 3 8 (PreOf R mc ms Pc) (PostOf Qc mc ms free) (vx_Post XC mc ms free) := vx_backW (hh := hh) (bytes := bytes) (maxL := maxL) (ret := ret) hM hp.1 hrc hrs hfr hlo hws hcw (fun a' U hW => word_at hW (Or.inl (by first | rfl | simp [Cond.onTables, Cond.keeps, Cond.steady])) hini)
  obtain ⟨hx, hb, hml, ho, -⟩ := S
  intro T hT X
  rcases vx_callSX X hx (hh := hh) (bytes := bytes) (maxL := maxL) (ret := ret) ho hl hstt hini hcode hy hK hg (hsize.trans hml.symm) (argsL := As) (rest := rest) (fun sig h => hn.trans (hlen sig h)) hstack hW (by rw [hb]; exact hdg)
    (fun vm₁ hW₁ => ⟨hf.1, hf.2, hp.2 (T.setVm vm₁) hT hW₁⟩) with ⟨v, vm₁, ⟨U', l2, c2, s2⟩, hW₁, X', ⟨g', mk, t, L, e1, e2, hq, h1, hL, h2, h3⟩, st⟩ | ⟨q, vm₁, ⟨U', l2, c2, s2⟩, hW₁, X', ⟨g', mk, t, L, E, ce, e1, e2, hq, hce, hcv, hcl, h1, hL, h2, h3⟩, st⟩
  · dsimp only [Pt.U, Pt.locs, Pt.cells, Pt.slots] at X' e1 e2 h1 h2 h3 st
    subst h1; subst h2; subst h3
    exact Or.inl ⟨v, (T.setVm vm₁).calling g' mk As.toArray, t, U', L, hT, X', hL, e1, e2, hq, st⟩
  · dsimp only [Pt.U, Pt.locs, Pt.cells, Pt.slots] at X' e1 e2 h1 h2 h3 st hcl
    subst h1; subst h2; subst h3
    exact Or.inr ⟨q, (T.setVm vm₁).calling g' mk As.toArray, t, U', L, E, ce, hT, X', hL, e1, e2, hq, hce, hcv, vx_cls hW₁ hcl, st⟩
end
end VXH
theorem vx_ofWH {l : Launch} {y : MethodName} {ws ws' : List Cond} {rm : Room} {Pc : Array Value → State → Prop} {Qc : Array Value → State → Outcome → State → Prop} {XC : String → State → State → Prop} {mc ms : Nat} {free : Addr → Prop} {cc : ByteArray} {maxL : Nat} {ret : Option FieldType} {hh : List (Nat × Nat × Nat × Nat)}
    (hy : plainName y.cls = true) (hw : ws = Cond.codeWith y cc maxL ret hh :: ws')
    (body : ∀ p e s m args below meth c s₁, BodyLoose p l y (headSpec ws rm) cc maxL ret e s m args below meth c s₁ → c.maxLocals = maxL → Pc args s →
      W p l e (headSpec ws rm).room s m args below meth c s.heap [] 0 0 (vx_MQ below Qc XC args s mc ms free) (entryFrame m args maxL)) : vx_Met l y ws rm Pc Qc XC mc ms free := by
  refine MetFree.of_bodyS (code := cc) (maxLocals := maxL) (ret := ret) hy ?_ ?_
  · intro args s m h hn
    obtain ⟨m9, meth, c, hn9, h1, h2, h3, h4, -, h5, h6, -⟩ := Cond.codeWith_spec (atoms_spec (ws := ws) h _ (by rw [hw]; exact List.mem_cons_self))
    cases hn.symm.trans hn9
    exact ⟨meth, c, h1, h2, h3, h4, h5, h6⟩
  · intro p e s m args below meth c s₁ B hml hP _
    have hh0 : s₁.heap = s.heap := by rw [B.state]; rfl
    obtain ⟨t, a1, o, b1, b2, b3⟩ := body p e s m args below meth c s₁ B hml hP s₁ hh0 (Stand.of_body B)
    exact ⟨t, o, a1, b1, b2, b3⟩
/-! ===== END ===== -/
end
section
def RX0 : String := "HotPanLocks$History"
def TX0 : u_T := fun k => match k with
  | 0 => ("HotPanLocks$History", "slots", "[LHotPanLocks$State;", true)
  | 1 => ("HotPanLocks$History", "next", "I", false)
  | _ => ("HotPanLocks$History", "kept", "I", false)
def tyX0 : Nat → FieldType := fun k => match k with
  | 0 => .array (.object "HotPanLocks$State")
  | 1 => .int
  | _ => .int
abbrev wsX00 : List Cond := u_ws RX0 TX0 3
theorem nmX0 : ∀ a, a < 3 → ∀ b, b < 3 → a ≠ b → (TX0 a).2.1 ≠ (TX0 b).2.1 := by decide +kernel
theorem tyX0_ok : ∀ k, k < 3 → parseFieldDescriptor (TX0 k).2.2.1 = some (tyX0 k) := by decide +kernel
abbrev cX0_init : ByteArray := prog_2_method_1_code
def yX0_init : MethodName := ⟨RX0, "<init>", "()V"⟩
abbrev cX0_slotAt : ByteArray := prog_2_method_2_code
def yX0_slotAt : MethodName := ⟨RX0, "slotAt", "(I)LHotPanLocks$State;"⟩
abbrev cX0_save : ByteArray := prog_2_method_3_code
def yX0_save : MethodName := ⟨RX0, "save", "(LHotPanLocks$State;)V"⟩
abbrev cX0_restore : ByteArray := prog_2_method_4_code
def yX0_restore : MethodName := ⟨RX0, "restore", "(LHotPanLocks$State;)I"⟩
def RX1 : String := "HotPanLocks$Numbers"
def TX1 : u_T := fun k => match k with
  | _ => ("HotPanLocks$Numbers", "cells", "[I", true)
def tyX1 : Nat → FieldType := fun k => match k with
  | _ => .array .int
abbrev wsX10 : List Cond := u_ws RX1 TX1 1
theorem nmX1 : ∀ a, a < 1 → ∀ b, b < 1 → a ≠ b → (TX1 a).2.1 ≠ (TX1 b).2.1 := by decide +kernel
theorem tyX1_ok : ∀ k, k < 1 → parseFieldDescriptor (TX1 k).2.2.1 = some (tyX1 k) := by decide +kernel
abbrev cX1_init : ByteArray := prog_3_method_1_code
def yX1_init : MethodName := ⟨RX1, "<init>", "(I)V"⟩
abbrev cX1_at : ByteArray := prog_3_method_2_code
def yX1_at : MethodName := ⟨RX1, "at", "(I)I"⟩
abbrev cX1_put : ByteArray := prog_3_method_3_code
def yX1_put : MethodName := ⟨RX1, "put", "(II)V"⟩
abbrev cX1_raise : ByteArray := prog_3_method_4_code
def yX1_raise : MethodName := ⟨RX1, "raise", "(I)V"⟩
abbrev cX1_sum : ByteArray := prog_3_method_5_code
def yX1_sum : MethodName := ⟨RX1, "sum", "()I"⟩
abbrev cX1_copyFrom : ByteArray := prog_3_method_6_code
def yX1_copyFrom : MethodName := ⟨RX1, "copyFrom", "(LHotPanLocks$Numbers;)V"⟩
def RX2 : String := "HotPanLocks$State"
def TX2 : u_T := fun k => match k with
  | 0 => ("HotPanLocks$State", "locks", "LHotPanLocks$Numbers;", true)
  | 1 => ("HotPanLocks$State", "requestRow", "LHotPanLocks$Numbers;", true)
  | 2 => ("HotPanLocks$State", "requestMode", "LHotPanLocks$Numbers;", true)
  | 3 => ("HotPanLocks$State", "requestPlace", "LHotPanLocks$Numbers;", true)
  | 4 => ("HotPanLocks$State", "heat", "LHotPanLocks$Numbers;", true)
  | 5 => ("HotPanLocks$State", "handedOn", "LHotPanLocks$Numbers;", true)
  | 6 => ("HotPanLocks$State", "burnt", "LHotPanLocks$Numbers;", true)
  | 7 => ("HotPanLocks$State", "lost", "LHotPanLocks$Numbers;", true)
  | 8 => ("HotPanLocks$State", "granted", "LHotPanLocks$Numbers;", true)
  | 9 => ("HotPanLocks$State", "asked", "LHotPanLocks$Numbers;", true)
  | 10 => ("HotPanLocks$State", "settings", "LHotPanLocks$Numbers;", true)
  | _ => ("HotPanLocks$State", "ticks", "I", false)
def tyX2 : Nat → FieldType := fun k => match k with
  | 0 => .object "HotPanLocks$Numbers"
  | 1 => .object "HotPanLocks$Numbers"
  | 2 => .object "HotPanLocks$Numbers"
  | 3 => .object "HotPanLocks$Numbers"
  | 4 => .object "HotPanLocks$Numbers"
  | 5 => .object "HotPanLocks$Numbers"
  | 6 => .object "HotPanLocks$Numbers"
  | 7 => .object "HotPanLocks$Numbers"
  | 8 => .object "HotPanLocks$Numbers"
  | 9 => .object "HotPanLocks$Numbers"
  | 10 => .object "HotPanLocks$Numbers"
  | _ => .int
abbrev wsX20 : List Cond := u_ws RX2 TX2 12
theorem nmX2 : ∀ a, a < 12 → ∀ b, b < 12 → a ≠ b → (TX2 a).2.1 ≠ (TX2 b).2.1 := by decide +kernel
theorem tyX2_ok : ∀ k, k < 12 → parseFieldDescriptor (TX2 k).2.2.1 = some (tyX2 k) := by decide +kernel
abbrev cX2_init : ByteArray := prog_4_method_1_code
def yX2_init : MethodName := ⟨RX2, "<init>", "()V"⟩
abbrev cX2_copyFrom : ByteArray := prog_4_method_2_code
def yX2_copyFrom : MethodName := ⟨RX2, "copyFrom", "(LHotPanLocks$State;)V"⟩
abbrev cX2_isWaiting : ByteArray := prog_4_method_3_code
def yX2_isWaiting : MethodName := ⟨RX2, "isWaiting", "(I)Z"⟩
abbrev cX2_queueLength : ByteArray := prog_4_method_4_code
def yX2_queueLength : MethodName := ⟨RX2, "queueLength", "(I)I"⟩
abbrev cX2_handAt : ByteArray := prog_4_method_5_code
def yX2_handAt : MethodName := ⟨RX2, "handAt", "(II)I"⟩
abbrev cX2_enqueue : ByteArray := prog_4_method_6_code
def yX2_enqueue : MethodName := ⟨RX2, "enqueue", "(III)V"⟩
abbrev cX2_placeForHolder : ByteArray := prog_4_method_7_code
def yX2_placeForHolder : MethodName := ⟨RX2, "placeForHolder", "(I)I"⟩
abbrev cX2_dequeue : ByteArray := prog_4_method_8_code
def yX2_dequeue : MethodName := ⟨RX2, "dequeue", "(I)V"⟩
abbrev cX2_clashes : ByteArray := prog_4_method_9_code
def yX2_clashes : MethodName := ⟨RX2, "clashes", "(IIII)Z"⟩
abbrev cX2_grant : ByteArray := prog_4_method_10_code
def yX2_grant : MethodName := ⟨RX2, "grant", "(I)V"⟩
abbrev cX2_settle : ByteArray := prog_4_method_11_code
def yX2_settle : MethodName := ⟨RX2, "settle", "(I)I"⟩
abbrev cX2_direct : ByteArray := prog_4_method_12_code
def yX2_direct : MethodName := ⟨RX2, "direct", "(I)I"⟩
abbrev cX2_reach : ByteArray := prog_4_method_13_code
def yX2_reach : MethodName := ⟨RX2, "reach", "(I)I"⟩
abbrev cX2_loserFor : ByteArray := prog_4_method_14_code
def yX2_loserFor : MethodName := ⟨RX2, "loserFor", "(I)I"⟩
abbrev cX2_strip : ByteArray := prog_4_method_15_code
def yX2_strip : MethodName := ⟨RX2, "strip", "(I)I"⟩
abbrev cX2_takeAsking : ByteArray := prog_4_method_16_code
def yX2_takeAsking : MethodName := ⟨RX2, "takeAsking", "(III)I"⟩
abbrev cX2_canLetGo : ByteArray := prog_4_method_17_code
def yX2_canLetGo : MethodName := ⟨RX2, "canLetGo", "(II)Z"⟩
abbrev cX2_letGo : ByteArray := prog_4_method_18_code
def yX2_letGo : MethodName := ⟨RX2, "letGo", "(II)I"⟩
abbrev cX2_stopWaiting : ByteArray := prog_4_method_19_code
def yX2_stopWaiting : MethodName := ⟨RX2, "stopWaiting", "(I)I"⟩
abbrev cX2_canPassOver : ByteArray := prog_4_method_20_code
def yX2_canPassOver : MethodName := ⟨RX2, "canPassOver", "(III)Z"⟩
abbrev cX2_passOver : ByteArray := prog_4_method_21_code
def yX2_passOver : MethodName := ⟨RX2, "passOver", "(III)I"⟩
abbrev cX2_takersOf : ByteArray := prog_4_method_22_code
def yX2_takersOf : MethodName := ⟨RX2, "takersOf", "(II)I"⟩
abbrev cX2_heatAfter : ByteArray := prog_4_method_23_code
def yX2_heatAfter : MethodName := ⟨RX2, "heatAfter", "(II)I"⟩
abbrev cX2_tick : ByteArray := prog_4_method_24_code
def yX2_tick : MethodName := ⟨RX2, "tick", "()I"⟩
abbrev cX2_burn : ByteArray := prog_4_method_25_code
def yX2_burn : MethodName := ⟨RX2, "burn", "(I)I"⟩
abbrev cX2_ticksToBurn : ByteArray := prog_4_method_26_code
def yX2_ticksToBurn : MethodName := ⟨RX2, "ticksToBurn", "(I)I"⟩
abbrev cX2_greatestMode : ByteArray := prog_4_method_27_code
def yX2_greatestMode : MethodName := ⟨RX2, "greatestMode", "(I)I"⟩
abbrev cX2_holders : ByteArray := prog_4_method_28_code
def yX2_holders : MethodName := ⟨RX2, "holders", "(I)I"⟩
abbrev cX2_locksOf : ByteArray := prog_4_method_29_code
def yX2_locksOf : MethodName := ⟨RX2, "locksOf", "(I)I"⟩
abbrev cX2_work : ByteArray := prog_4_method_30_code
def yX2_work : MethodName := ⟨RX2, "work", "(I)I"⟩
abbrev cX2_lockCount : ByteArray := prog_4_method_31_code
def yX2_lockCount : MethodName := ⟨RX2, "lockCount", "()I"⟩
abbrev cX2_waitingCount : ByteArray := prog_4_method_32_code
def yX2_waitingCount : MethodName := ⟨RX2, "waitingCount", "()I"⟩
abbrev cX2_heldRows : ByteArray := prog_4_method_33_code
def yX2_heldRows : MethodName := ⟨RX2, "heldRows", "()I"⟩
abbrev cX2_handPart : ByteArray := prog_4_method_34_code
def yX2_handPart : MethodName := ⟨RX2, "handPart", "(II)I"⟩
abbrev cX2_rowPart : ByteArray := prog_4_method_35_code
def yX2_rowPart : MethodName := ⟨RX2, "rowPart", "(II)I"⟩
abbrev cX2_requestPart : ByteArray := prog_4_method_36_code
def yX2_requestPart : MethodName := ⟨RX2, "requestPart", "(III)I"⟩
abbrev cX2_total : ByteArray := prog_4_method_37_code
def yX2_total : MethodName := ⟨RX2, "total", "(I)I"⟩
abbrev cX2_mostWaitedFor : ByteArray := prog_4_method_38_code
def yX2_mostWaitedFor : MethodName := ⟨RX2, "mostWaitedFor", "()I"⟩
abbrev cX2_waitersFor : ByteArray := prog_4_method_39_code
def yX2_waitersFor : MethodName := ⟨RX2, "waitersFor", "(I)I"⟩
abbrev cX2_shareGranted : ByteArray := prog_4_method_40_code
def yX2_shareGranted : MethodName := ⟨RX2, "shareGranted", "()D"⟩
def RX3 : String := "HotPanLocks$Text"
def TX3 : u_T := fun k => match k with
  | 0 => ("HotPanLocks$Text", "codes", "LHotPanLocks$Numbers;", true)
  | _ => ("HotPanLocks$Text", "length", "I", false)
def tyX3 : Nat → FieldType := fun k => match k with
  | 0 => .object "HotPanLocks$Numbers"
  | _ => .int
abbrev wsX30 : List Cond := u_ws RX3 TX3 2
theorem nmX3 : ∀ a, a < 2 → ∀ b, b < 2 → a ≠ b → (TX3 a).2.1 ≠ (TX3 b).2.1 := by decide +kernel
theorem tyX3_ok : ∀ k, k < 2 → parseFieldDescriptor (TX3 k).2.2.1 = some (tyX3 k) := by decide +kernel
abbrev cX3_init : ByteArray := prog_5_method_1_code
def yX3_init : MethodName := ⟨RX3, "<init>", "()V"⟩
abbrev cX3_add : ByteArray := prog_5_method_2_code
def yX3_add : MethodName := ⟨RX3, "add", "(I)I"⟩
abbrev cX3_empty : ByteArray := prog_5_method_3_code
def yX3_empty : MethodName := ⟨RX3, "empty", "()I"⟩
abbrev cX3_firstFault : ByteArray := prog_5_method_4_code
def yX3_firstFault : MethodName := ⟨RX3, "firstFault", "()I"⟩
abbrev cX3_isComplete : ByteArray := prog_5_method_5_code
def yX3_isComplete : MethodName := ⟨RX3, "isComplete", "()Z"⟩
abbrev cX3_dueAfter : ByteArray := prog_5_method_6_code
def yX3_dueAfter : MethodName := ⟨RX3, "dueAfter", "(II)I"⟩
abbrev cX3_isDigit : ByteArray := prog_5_method_7_code
def yX3_isDigit : MethodName := ⟨RX3, "isDigit", "(I)Z"⟩
abbrev cX3_isDeed : ByteArray := prog_5_method_8_code
def yX3_isDeed : MethodName := ⟨RX3, "isDeed", "(I)Z"⟩
abbrev cX3_deedFrom : ByteArray := prog_5_method_9_code
def yX3_deedFrom : MethodName := ⟨RX3, "deedFrom", "(I)I"⟩
abbrev cX3_numberBetween : ByteArray := prog_5_method_10_code
def yX3_numberBetween : MethodName := ⟨RX3, "numberBetween", "(II)I"⟩
def RX4 : String := "HotPanLocks"
def TX4 : u_T := fun k => match k with
  | 0 => ("HotPanLocks", "state", "LHotPanLocks$State;", true)
  | 1 => ("HotPanLocks", "trial", "LHotPanLocks$State;", true)
  | 2 => ("HotPanLocks", "history", "LHotPanLocks$History;", true)
  | _ => ("HotPanLocks", "text", "LHotPanLocks$Text;", true)
def tyX4 : Nat → FieldType := fun k => match k with
  | 0 => .object "HotPanLocks$State"
  | 1 => .object "HotPanLocks$State"
  | 2 => .object "HotPanLocks$History"
  | _ => .object "HotPanLocks$Text"
abbrev wsX40 : List Cond := u_ws RX4 TX4 4
theorem nmX4 : ∀ a, a < 4 → ∀ b, b < 4 → a ≠ b → (TX4 a).2.1 ≠ (TX4 b).2.1 := by decide +kernel
theorem tyX4_ok : ∀ k, k < 4 → parseFieldDescriptor (TX4 k).2.2.1 = some (tyX4 k) := by decide +kernel
abbrev cX4_init : ByteArray := prog_1_method_1_code
def yX4_init : MethodName := ⟨RX4, "<init>", "()V"⟩
abbrev cX4_ask : ByteArray := prog_1_method_2_code
def yX4_ask : MethodName := ⟨RX4, "ask", "(III)I"⟩
abbrev cX4_release : ByteArray := prog_1_method_3_code
def yX4_release : MethodName := ⟨RX4, "release", "(II)I"⟩
abbrev cX4_giveUp : ByteArray := prog_1_method_4_code
def yX4_giveUp : MethodName := ⟨RX4, "giveUp", "(I)I"⟩
abbrev cX4_handOn : ByteArray := prog_1_method_5_code
def yX4_handOn : MethodName := ⟨RX4, "handOn", "(III)I"⟩
abbrev cX4_pass : ByteArray := prog_1_method_6_code
def yX4_pass : MethodName := ⟨RX4, "pass", "(I)I"⟩
abbrev cX4_cool : ByteArray := prog_1_method_7_code
def yX4_cool : MethodName := ⟨RX4, "cool", "(I)I"⟩
abbrev cX4_set : ByteArray := prog_1_method_8_code
def yX4_set : MethodName := ⟨RX4, "set", "(II)I"⟩
abbrev cX4_append : ByteArray := prog_1_method_9_code
def yX4_append : MethodName := ⟨RX4, "append", "(I)I"⟩
abbrev cX4_clearBuffer : ByteArray := prog_1_method_10_code
def yX4_clearBuffer : MethodName := ⟨RX4, "clearBuffer", "()I"⟩
abbrev cX4_firstError : ByteArray := prog_1_method_11_code
def yX4_firstError : MethodName := ⟨RX4, "firstError", "()I"⟩
abbrev cX4_run : ByteArray := prog_1_method_12_code
def yX4_run : MethodName := ⟨RX4, "run", "()I"⟩
abbrev cX4_undo : ByteArray := prog_1_method_13_code
def yX4_undo : MethodName := ⟨RX4, "undo", "()I"⟩
abbrev cX4_lock : ByteArray := prog_1_method_14_code
def yX4_lock : MethodName := ⟨RX4, "lock", "(II)I"⟩
abbrev cX4_hand : ByteArray := prog_1_method_15_code
def yX4_hand : MethodName := ⟨RX4, "hand", "(II)I"⟩
abbrev cX4_row : ByteArray := prog_1_method_16_code
def yX4_row : MethodName := ⟨RX4, "row", "(II)I"⟩
abbrev cX4_request : ByteArray := prog_1_method_17_code
def yX4_request : MethodName := ⟨RX4, "request", "(III)I"⟩
abbrev cX4_count : ByteArray := prog_1_method_18_code
def yX4_count : MethodName := ⟨RX4, "count", "(I)I"⟩
abbrev cX4_setting : ByteArray := prog_1_method_19_code
def yX4_setting : MethodName := ⟨RX4, "setting", "(I)I"⟩
abbrev cX4_ifAsked : ByteArray := prog_1_method_20_code
def yX4_ifAsked : MethodName := ⟨RX4, "ifAsked", "(IIII)I"⟩
abbrev cX4_takers : ByteArray := prog_1_method_21_code
def yX4_takers : MethodName := ⟨RX4, "takers", "(II)I"⟩
abbrev cX4_burnsIn : ByteArray := prog_1_method_22_code
def yX4_burnsIn : MethodName := ⟨RX4, "burnsIn", "(I)I"⟩
abbrev cX4_waitsFor : ByteArray := prog_1_method_23_code
def yX4_waitsFor : MethodName := ⟨RX4, "waitsFor", "(I)I"⟩
abbrev cX4_busiest : ByteArray := prog_1_method_24_code
def yX4_busiest : MethodName := ⟨RX4, "busiest", "()I"⟩
abbrev cX4_grantedShare : ByteArray := prog_1_method_25_code
def yX4_grantedShare : MethodName := ⟨RX4, "grantedShare", "()D"⟩
abbrev cX4_digest : ByteArray := prog_1_method_26_code
def yX4_digest : MethodName := ⟨RX4, "digest", "()J"⟩
abbrev cX4_isHand : ByteArray := prog_1_method_27_code
def yX4_isHand : MethodName := ⟨RX4, "isHand", "(I)Z"⟩
abbrev cX4_isRow : ByteArray := prog_1_method_28_code
def yX4_isRow : MethodName := ⟨RX4, "isRow", "(I)Z"⟩
abbrev cX4_isMode : ByteArray := prog_1_method_29_code
def yX4_isMode : MethodName := ⟨RX4, "isMode", "(I)Z"⟩
abbrev cX4_isSetting : ByteArray := prog_1_method_30_code
def yX4_isSetting : MethodName := ⟨RX4, "isSetting", "(I)Z"⟩
abbrev cX4_leastValue : ByteArray := prog_1_method_31_code
def yX4_leastValue : MethodName := ⟨RX4, "leastValue", "(I)I"⟩
abbrev cX4_greatestValue : ByteArray := prog_1_method_32_code
def yX4_greatestValue : MethodName := ⟨RX4, "greatestValue", "(I)I"⟩
abbrev cX4_cell : ByteArray := prog_1_method_33_code
def yX4_cell : MethodName := ⟨RX4, "cell", "(II)I"⟩
abbrev cX4_has : ByteArray := prog_1_method_34_code
def yX4_has : MethodName := ⟨RX4, "has", "(II)Z"⟩
abbrev cX4_carryOut : ByteArray := prog_1_method_35_code
def yX4_carryOut : MethodName := ⟨RX4, "carryOut", "(II)Z"⟩
abbrev cX4_modeOf : ByteArray := prog_1_method_36_code
def yX4_modeOf : MethodName := ⟨RX4, "modeOf", "(I)I"⟩
abbrev cX4_numberOf : ByteArray := prog_1_method_37_code
def yX4_numberOf : MethodName := ⟨RX4, "numberOf", "(I)I"⟩
abbrev cX4_tryAsking : ByteArray := prog_1_method_38_code
def yX4_tryAsking : MethodName := ⟨RX4, "tryAsking", "(III)I"⟩
abbrev cX4_trialPart : ByteArray := prog_1_method_39_code
def yX4_trialPart : MethodName := ⟨RX4, "trialPart", "(II)I"⟩
abbrev cX4_mix : ByteArray := prog_1_method_40_code
def yX4_mix : MethodName := ⟨RX4, "mix", "(JJ)J"⟩
abbrev cX4_mixHand : ByteArray := prog_1_method_41_code
def yX4_mixHand : MethodName := ⟨RX4, "mixHand", "(JI)J"⟩
abbrev cX4_mixRow : ByteArray := prog_1_method_42_code
def yX4_mixRow : MethodName := ⟨RX4, "mixRow", "(JII)J"⟩
abbrev cX4_bitsOfShare : ByteArray := prog_1_method_43_code
def yX4_bitsOfShare : MethodName := ⟨RX4, "bitsOfShare", "(D)J"⟩
def RX5 : String := "HotPanLocksModel"
def TX5 : u_T := fun k => match k with
  | 0 => ("HotPanLocksModel", "z", "[I", true)
  | 1 => ("HotPanLocksModel", "states", "I", false)
  | 2 => ("HotPanLocksModel", "history", "[I", true)
  | 3 => ("HotPanLocksModel", "length", "I", false)
  | 4 => ("HotPanLocksModel", "text", "[I", true)
  | 5 => ("HotPanLocksModel", "thrown", "I", false)
  | 6 => ("HotPanLocksModel", "parts", "[I", true)
  | 7 => ("HotPanLocksModel", "read", "I", false)
  | 8 => ("HotPanLocksModel", "number", "I", false)
  | 9 => ("HotPanLocksModel", "due", "I", false)
  | 10 => ("HotPanLocksModel", "kept", "[I", true)
  | _ => ("HotPanLocksModel", "hash", "J", false)
def tyX5 : Nat → FieldType := fun k => match k with
  | 0 => .array .int
  | 1 => .int
  | 2 => .array .int
  | 3 => .int
  | 4 => .array .int
  | 5 => .int
  | 6 => .array .int
  | 7 => .int
  | 8 => .int
  | 9 => .int
  | 10 => .array .int
  | _ => .long
abbrev wsX50 : List Cond := u_ws RX5 TX5 12
theorem nmX5 : ∀ a, a < 12 → ∀ b, b < 12 → a ≠ b → (TX5 a).2.1 ≠ (TX5 b).2.1 := by decide +kernel
theorem tyX5_ok : ∀ k, k < 12 → parseFieldDescriptor (TX5 k).2.2.1 = some (tyX5 k) := by decide +kernel
abbrev cX5_init : ByteArray := prog_7_method_1_code
def yX5_init : MethodName := ⟨RX5, "<init>", "()V"⟩
abbrev cX5_thrown : ByteArray := prog_7_method_2_code
def yX5_thrown : MethodName := ⟨RX5, "thrown", "()I"⟩
abbrev cX5_within : ByteArray := prog_7_method_3_code
def yX5_within : MethodName := ⟨RX5, "within", "(III)Z"⟩
abbrev cX5_save : ByteArray := prog_7_method_4_code
def yX5_save : MethodName := ⟨RX5, "save", "()V"⟩
abbrev cX5_isHand : ByteArray := prog_7_method_5_code
def yX5_isHand : MethodName := ⟨RX5, "isHand", "(I)Z"⟩
abbrev cX5_isRow : ByteArray := prog_7_method_6_code
def yX5_isRow : MethodName := ⟨RX5, "isRow", "(I)Z"⟩
abbrev cX5_areThere : ByteArray := prog_7_method_7_code
def yX5_areThere : MethodName := ⟨RX5, "areThere", "(II)Z"⟩
abbrev cX5_lockOf : ByteArray := prog_7_method_8_code
def yX5_lockOf : MethodName := ⟨RX5, "lockOf", "(II)I"⟩
abbrev cX5_setLock : ByteArray := prog_7_method_9_code
def yX5_setLock : MethodName := ⟨RX5, "setLock", "(III)V"⟩
abbrev cX5_whoAt : ByteArray := prog_7_method_10_code
def yX5_whoAt : MethodName := ⟨RX5, "whoAt", "(II)I"⟩
abbrev cX5_modeAt : ByteArray := prog_7_method_11_code
def yX5_modeAt : MethodName := ⟨RX5, "modeAt", "(II)I"⟩
abbrev cX5_placeIn : ByteArray := prog_7_method_12_code
def yX5_placeIn : MethodName := ⟨RX5, "placeIn", "(II)I"⟩
abbrev cX5_rowOf : ByteArray := prog_7_method_13_code
def yX5_rowOf : MethodName := ⟨RX5, "rowOf", "(I)I"⟩
abbrev cX5_waits : ByteArray := prog_7_method_14_code
def yX5_waits : MethodName := ⟨RX5, "waits", "(I)Z"⟩
abbrev cX5_workOf : ByteArray := prog_7_method_15_code
def yX5_workOf : MethodName := ⟨RX5, "workOf", "(I)I"⟩
abbrev cX5_holders : ByteArray := prog_7_method_16_code
def yX5_holders : MethodName := ⟨RX5, "holders", "(I)I"⟩
abbrev cX5_greatestOf : ByteArray := prog_7_method_17_code
def yX5_greatestOf : MethodName := ⟨RX5, "greatestOf", "(I)I"⟩
abbrev cX5_clashing : ByteArray := prog_7_method_18_code
def yX5_clashing : MethodName := ⟨RX5, "clashing", "(III)I"⟩
abbrev cX5_waitsNow : ByteArray := prog_7_method_19_code
def yX5_waitsNow : MethodName := ⟨RX5, "waitsNow", "(I)I"⟩
abbrev cX5_waitsOver : ByteArray := prog_7_method_20_code
def yX5_waitsOver : MethodName := ⟨RX5, "waitsOver", "(I)I"⟩
abbrev cX5_unqueue : ByteArray := prog_7_method_21_code
def yX5_unqueue : MethodName := ⟨RX5, "unqueue", "(II)V"⟩
abbrev cX5_enqueue : ByteArray := prog_7_method_22_code
def yX5_enqueue : MethodName := ⟨RX5, "enqueue", "(III)V"⟩
abbrev cX5_grant : ByteArray := prog_7_method_23_code
def yX5_grant : MethodName := ⟨RX5, "grant", "(II)V"⟩
abbrev cX5_settle : ByteArray := prog_7_method_24_code
def yX5_settle : MethodName := ⟨RX5, "settle", "(I)I"⟩
abbrev cX5_isInRing : ByteArray := prog_7_method_25_code
def yX5_isInRing : MethodName := ⟨RX5, "isInRing", "(I)Z"⟩
abbrev cX5_loserFor : ByteArray := prog_7_method_26_code
def yX5_loserFor : MethodName := ⟨RX5, "loserFor", "(I)I"⟩
abbrev cX5_lose : ByteArray := prog_7_method_27_code
def yX5_lose : MethodName := ⟨RX5, "lose", "(I)V"⟩
abbrev cX5_asks : ByteArray := prog_7_method_28_code
def yX5_asks : MethodName := ⟨RX5, "asks", "(III)I"⟩
abbrev cX5_isMode : ByteArray := prog_7_method_29_code
def yX5_isMode : MethodName := ⟨RX5, "isMode", "(I)Z"⟩
abbrev cX5_ask : ByteArray := prog_7_method_30_code
def yX5_ask : MethodName := ⟨RX5, "ask", "(III)I"⟩
abbrev cX5_canRelease : ByteArray := prog_7_method_31_code
def yX5_canRelease : MethodName := ⟨RX5, "canRelease", "(II)Z"⟩
abbrev cX5_releases : ByteArray := prog_7_method_32_code
def yX5_releases : MethodName := ⟨RX5, "releases", "(II)I"⟩
abbrev cX5_release : ByteArray := prog_7_method_33_code
def yX5_release : MethodName := ⟨RX5, "release", "(II)I"⟩
abbrev cX5_giveUp : ByteArray := prog_7_method_34_code
def yX5_giveUp : MethodName := ⟨RX5, "giveUp", "(I)I"⟩
abbrev cX5_canHandOn : ByteArray := prog_7_method_35_code
def yX5_canHandOn : MethodName := ⟨RX5, "canHandOn", "(III)Z"⟩
abbrev cX5_handOn : ByteArray := prog_7_method_36_code
def yX5_handOn : MethodName := ⟨RX5, "handOn", "(III)I"⟩
abbrev cX5_burn : ByteArray := prog_7_method_37_code
def yX5_burn : MethodName := ⟨RX5, "burn", "(I)I"⟩
abbrev cX5_tick : ByteArray := prog_7_method_38_code
def yX5_tick : MethodName := ⟨RX5, "tick", "()I"⟩
abbrev cX5_pass : ByteArray := prog_7_method_39_code
def yX5_pass : MethodName := ⟨RX5, "pass", "(I)I"⟩
abbrev cX5_cool : ByteArray := prog_7_method_40_code
def yX5_cool : MethodName := ⟨RX5, "cool", "(I)I"⟩
abbrev cX5_isSetting : ByteArray := prog_7_method_41_code
def yX5_isSetting : MethodName := ⟨RX5, "isSetting", "(I)Z"⟩
abbrev cX5_isValue : ByteArray := prog_7_method_42_code
def yX5_isValue : MethodName := ⟨RX5, "isValue", "(II)Z"⟩
abbrev cX5_set : ByteArray := prog_7_method_43_code
def yX5_set : MethodName := ⟨RX5, "set", "(II)I"⟩
abbrev cX5_append : ByteArray := prog_7_method_44_code
def yX5_append : MethodName := ⟨RX5, "append", "(I)I"⟩
abbrev cX5_clearBuffer : ByteArray := prog_7_method_45_code
def yX5_clearBuffer : MethodName := ⟨RX5, "clearBuffer", "()I"⟩
abbrev cX5_modeOf : ByteArray := prog_7_method_46_code
def yX5_modeOf : MethodName := ⟨RX5, "modeOf", "(I)I"⟩
abbrev cX5_takesDigit : ByteArray := prog_7_method_47_code
def yX5_takesDigit : MethodName := ⟨RX5, "takesDigit", "(I)Z"⟩
abbrev cX5_takes : ByteArray := prog_7_method_48_code
def yX5_takes : MethodName := ⟨RX5, "takes", "(I)Z"⟩
abbrev cX5_rightUpTo : ByteArray := prog_7_method_49_code
def yX5_rightUpTo : MethodName := ⟨RX5, "rightUpTo", "()I"⟩
abbrev cX5_firstError : ByteArray := prog_7_method_50_code
def yX5_firstError : MethodName := ⟨RX5, "firstError", "()I"⟩
abbrev cX5_carries : ByteArray := prog_7_method_51_code
def yX5_carries : MethodName := ⟨RX5, "carries", "(I)Z"⟩
abbrev cX5_run : ByteArray := prog_7_method_52_code
def yX5_run : MethodName := ⟨RX5, "run", "()I"⟩
abbrev cX5_undo : ByteArray := prog_7_method_53_code
def yX5_undo : MethodName := ⟨RX5, "undo", "()I"⟩
abbrev cX5_lock : ByteArray := prog_7_method_54_code
def yX5_lock : MethodName := ⟨RX5, "lock", "(II)I"⟩
abbrev cX5_locksOf : ByteArray := prog_7_method_55_code
def yX5_locksOf : MethodName := ⟨RX5, "locksOf", "(I)I"⟩
abbrev cX5_handNow : ByteArray := prog_7_method_56_code
def yX5_handNow : MethodName := ⟨RX5, "handNow", "(II)I"⟩
abbrev cX5_hand : ByteArray := prog_7_method_57_code
def yX5_hand : MethodName := ⟨RX5, "hand", "(II)I"⟩
abbrev cX5_rowNow : ByteArray := prog_7_method_58_code
def yX5_rowNow : MethodName := ⟨RX5, "rowNow", "(II)I"⟩
abbrev cX5_row : ByteArray := prog_7_method_59_code
def yX5_row : MethodName := ⟨RX5, "row", "(II)I"⟩
abbrev cX5_requestNow : ByteArray := prog_7_method_60_code
def yX5_requestNow : MethodName := ⟨RX5, "requestNow", "(III)I"⟩
abbrev cX5_request : ByteArray := prog_7_method_61_code
def yX5_request : MethodName := ⟨RX5, "request", "(III)I"⟩
abbrev cX5_sumFrom : ByteArray := prog_7_method_62_code
def yX5_sumFrom : MethodName := ⟨RX5, "sumFrom", "(II)I"⟩
abbrev cX5_allLocks : ByteArray := prog_7_method_63_code
def yX5_allLocks : MethodName := ⟨RX5, "allLocks", "()I"⟩
abbrev cX5_heldRows : ByteArray := prog_7_method_64_code
def yX5_heldRows : MethodName := ⟨RX5, "heldRows", "()I"⟩
abbrev cX5_counted : ByteArray := prog_7_method_65_code
def yX5_counted : MethodName := ⟨RX5, "counted", "(I)I"⟩
abbrev cX5_count : ByteArray := prog_7_method_66_code
def yX5_count : MethodName := ⟨RX5, "count", "(I)I"⟩
abbrev cX5_setting : ByteArray := prog_7_method_67_code
def yX5_setting : MethodName := ⟨RX5, "setting", "(I)I"⟩
abbrev cX5_keep : ByteArray := prog_7_method_68_code
def yX5_keep : MethodName := ⟨RX5, "keep", "()V"⟩
abbrev cX5_layBack : ByteArray := prog_7_method_69_code
def yX5_layBack : MethodName := ⟨RX5, "layBack", "()V"⟩
abbrev cX5_askedThen : ByteArray := prog_7_method_70_code
def yX5_askedThen : MethodName := ⟨RX5, "askedThen", "(IIII)I"⟩
abbrev cX5_ifAsked : ByteArray := prog_7_method_71_code
def yX5_ifAsked : MethodName := ⟨RX5, "ifAsked", "(IIII)I"⟩
abbrev cX5_takersNow : ByteArray := prog_7_method_72_code
def yX5_takersNow : MethodName := ⟨RX5, "takersNow", "(II)I"⟩
abbrev cX5_takers : ByteArray := prog_7_method_73_code
def yX5_takers : MethodName := ⟨RX5, "takers", "(II)I"⟩
abbrev cX5_burnsNow : ByteArray := prog_7_method_74_code
def yX5_burnsNow : MethodName := ⟨RX5, "burnsNow", "(I)I"⟩
abbrev cX5_burnsIn : ByteArray := prog_7_method_75_code
def yX5_burnsIn : MethodName := ⟨RX5, "burnsIn", "(I)I"⟩
abbrev cX5_waitsFor : ByteArray := prog_7_method_76_code
def yX5_waitsFor : MethodName := ⟨RX5, "waitsFor", "(I)I"⟩
abbrev cX5_busiestNow : ByteArray := prog_7_method_77_code
def yX5_busiestNow : MethodName := ⟨RX5, "busiestNow", "()I"⟩
abbrev cX5_busiest : ByteArray := prog_7_method_78_code
def yX5_busiest : MethodName := ⟨RX5, "busiest", "()I"⟩
abbrev cX5_share : ByteArray := prog_7_method_79_code
def yX5_share : MethodName := ⟨RX5, "share", "()D"⟩
abbrev cX5_grantedShare : ByteArray := prog_7_method_80_code
def yX5_grantedShare : MethodName := ⟨RX5, "grantedShare", "()D"⟩
abbrev cX5_mix : ByteArray := prog_7_method_81_code
def yX5_mix : MethodName := ⟨RX5, "mix", "(J)V"⟩
abbrev cX5_mixHand : ByteArray := prog_7_method_82_code
def yX5_mixHand : MethodName := ⟨RX5, "mixHand", "(I)V"⟩
abbrev cX5_mixRow : ByteArray := prog_7_method_83_code
def yX5_mixRow : MethodName := ⟨RX5, "mixRow", "(I)V"⟩
abbrev cX5_digest : ByteArray := prog_7_method_84_code
def yX5_digest : MethodName := ⟨RX5, "digest", "()J"⟩
def RJxe99ae : String := "java/lang/Double"
def TJxe99ae : u_T := fun k => match k with
  | _ => ("", "", "", false)
def tyJxe99ae : Nat → FieldType := fun k => match k with
  | _ => .int
abbrev wsJxe99ae0 : List Cond := u_ws RJxe99ae TJxe99ae 0
theorem nmJxe99ae : ∀ a, a < 0 → ∀ b, b < 0 → a ≠ b → (TJxe99ae a).2.1 ≠ (TJxe99ae b).2.1 := by decide +kernel
theorem tyJxe99ae_ok : ∀ k, k < 0 → parseFieldDescriptor (TJxe99ae k).2.2.1 = some (tyJxe99ae k) := by decide +kernel
abbrev cJxe99ae_isNaN_b9ae7 : ByteArray := prog_8_method_6_code
def yJxe99ae_isNaN_b9ae7 : MethodName := ⟨RJxe99ae, "isNaN", "(D)Z"⟩
abbrev cJxe99ae_doubleToLongBits_ccdee : ByteArray := prog_8_method_23_code
def yJxe99ae_doubleToLongBits_ccdee : MethodName := ⟨RJxe99ae, "doubleToLongBits", "(D)J"⟩
def RJ9 : String := "java/lang/Math"
def TJ9 : u_T := fun k => match k with
  | _ => ("", "", "", false)
def tyJ9 : Nat → FieldType := fun k => match k with
  | _ => .int
abbrev wsJ90 : List Cond := u_ws RJ9 TJ9 0
theorem nmJ9 : ∀ a, a < 0 → ∀ b, b < 0 → a ≠ b → (TJ9 a).2.1 ≠ (TJ9 b).2.1 := by decide +kernel
theorem tyJ9_ok : ∀ k, k < 0 → parseFieldDescriptor (TJ9 k).2.2.1 = some (tyJ9 k) := by decide +kernel
abbrev cJ9_max_7cf53 : ByteArray := prog_13_method_65_code
def yJ9_max_7cf53 : MethodName := ⟨RJ9, "max", "(II)I"⟩
abbrev cJ9_min_7cf53 : ByteArray := prog_13_method_69_code
def yJ9_min_7cf53 : MethodName := ⟨RJ9, "min", "(II)I"⟩
def RJ0 : String := "java/lang/String"
def TJ0 : u_T := fun k => match k with
  | _ => ("", "", "", false)
def tyJ0 : Nat → FieldType := fun k => match k with
  | _ => .int
abbrev wsJ00 : List Cond := u_ws RJ0 TJ0 0
theorem nmJ0 : ∀ a, a < 0 → ∀ b, b < 0 → a ≠ b → (TJ0 a).2.1 ≠ (TJ0 b).2.1 := by decide +kernel
theorem tyJ0_ok : ∀ k, k < 0 → parseFieldDescriptor (TJ0 k).2.2.1 = some (tyJ0 k) := by decide +kernel
def RJ10 : String := "java/lang/System"
def TJ10 : u_T := fun k => match k with
  | _ => ("", "", "", false)
def tyJ10 : Nat → FieldType := fun k => match k with
  | _ => .int
abbrev wsJ100 : List Cond := u_ws RJ10 TJ10 0
theorem nmJ10 : ∀ a, a < 0 → ∀ b, b < 0 → a ≠ b → (TJ10 a).2.1 ≠ (TJ10 b).2.1 := by decide +kernel
theorem tyJ10_ok : ∀ k, k < 0 → parseFieldDescriptor (TJ10 k).2.2.1 = some (tyJ10 k) := by decide +kernel
def RL : String := "HotPanLocksLaw"
abbrev cL_ask : ByteArray := method_3_code
def yL_ask : MethodName := ⟨RL, "ask", "(LHotPanLocks;III[J)I"⟩
abbrev cL_release : ByteArray := method_4_code
def yL_release : MethodName := ⟨RL, "release", "(LHotPanLocks;II[J)I"⟩
abbrev cL_giveUp : ByteArray := method_5_code
def yL_giveUp : MethodName := ⟨RL, "giveUp", "(LHotPanLocks;I[J)I"⟩
abbrev cL_handOn : ByteArray := method_6_code
def yL_handOn : MethodName := ⟨RL, "handOn", "(LHotPanLocks;III[J)I"⟩
abbrev cL_pass : ByteArray := method_7_code
def yL_pass : MethodName := ⟨RL, "pass", "(LHotPanLocks;I[J)I"⟩
abbrev cL_cool : ByteArray := method_8_code
def yL_cool : MethodName := ⟨RL, "cool", "(LHotPanLocks;I[J)I"⟩
abbrev cL_set : ByteArray := method_9_code
def yL_set : MethodName := ⟨RL, "set", "(LHotPanLocks;II[J)I"⟩
abbrev cL_append : ByteArray := method_10_code
def yL_append : MethodName := ⟨RL, "append", "(LHotPanLocks;I[J)I"⟩
abbrev cL_run : ByteArray := method_11_code
def yL_run : MethodName := ⟨RL, "run", "(LHotPanLocks;[J)I"⟩
abbrev cL_undo : ByteArray := method_12_code
def yL_undo : MethodName := ⟨RL, "undo", "(LHotPanLocks;[J)I"⟩
abbrev cL_lock : ByteArray := method_13_code
def yL_lock : MethodName := ⟨RL, "lock", "(LHotPanLocks;II[J)I"⟩
abbrev cL_hand : ByteArray := method_14_code
def yL_hand : MethodName := ⟨RL, "hand", "(LHotPanLocks;II[J)I"⟩
abbrev cL_row : ByteArray := method_15_code
def yL_row : MethodName := ⟨RL, "row", "(LHotPanLocks;II[J)I"⟩
abbrev cL_request : ByteArray := method_16_code
def yL_request : MethodName := ⟨RL, "request", "(LHotPanLocks;III[J)I"⟩
abbrev cL_count : ByteArray := method_17_code
def yL_count : MethodName := ⟨RL, "count", "(LHotPanLocks;I[J)I"⟩
abbrev cL_setting : ByteArray := method_18_code
def yL_setting : MethodName := ⟨RL, "setting", "(LHotPanLocks;I[J)I"⟩
abbrev cL_ifAsked : ByteArray := method_19_code
def yL_ifAsked : MethodName := ⟨RL, "ifAsked", "(LHotPanLocks;IIII[J)I"⟩
abbrev cL_takers : ByteArray := method_20_code
def yL_takers : MethodName := ⟨RL, "takers", "(LHotPanLocks;II[J)I"⟩
abbrev cL_burnsIn : ByteArray := method_21_code
def yL_burnsIn : MethodName := ⟨RL, "burnsIn", "(LHotPanLocks;I[J)I"⟩
abbrev cL_waitsFor : ByteArray := method_22_code
def yL_waitsFor : MethodName := ⟨RL, "waitsFor", "(LHotPanLocks;I[J)I"⟩
abbrev cL_law : ByteArray := code
def yL_law : MethodName := ⟨RL, "law", "([I)Z"⟩
abbrev vwCl : List vw_C := [(RX0, TX0, 3), (RX1, TX1, 1), (RX2, TX2, 12), (RX3, TX3, 2), (RX4, TX4, 4), (RX5, TX5, 12)]
end
section
def TX0_init : List (Nat × Instr × Nat) := [(0, .aload_n 0, 1), (1, .invokespecial 3, 3), (4, .aload_n 0, 1), (5, .bipush 6, 2), (7, .anewarray 9, 3), (10, .putfield 11, 3), (13, .aload_n 0, 1), (14, .iconst 0, 1), (15, .putfield 17, 3), (18, .aload_n 0, 1), (19, .iconst 0, 1), (20, .putfield 21, 3), (23, .iconst 0, 1), (24, .istore_n 1, 1), (25, .iload_n 1, 1), (26, .aload_n 0, 1), (27, .getfield 11, 3), (30, .arraylength, 1), (31, .if_icmp .ge 22, 3), (34, .aload_n 0, 1), (35, .getfield 11, 3), (38, .iload_n 1, 1), (39, .new 9, 3), (42, .dup, 1), (43, .invokespecial 24, 3), (46, .aastore, 1), (47, .iinc 1 1, 3), (50, .goto (-25), 3), (53, .return_, 1)]
def TX0_slotAt : List (Nat × Instr × Nat) := [(0, .iload_n 1, 1), (1, .ifCond .lt 21, 3), (4, .iload_n 1, 1), (5, .aload_n 0, 1), (6, .getfield 11, 3), (9, .arraylength, 1), (10, .if_icmp .ge 12, 3), (13, .aload_n 0, 1), (14, .getfield 11, 3), (17, .iload_n 1, 1), (18, .aaload, 1), (19, .goto 4, 3), (22, .aconst_null, 1), (23, .areturn, 1)]
def TX0_save : List (Nat × Instr × Nat) := [(0, .aload_n 0, 1), (1, .aload_n 0, 1), (2, .getfield 17, 3), (5, .invokevirtual 25, 3), (8, .astore_n 2, 1), (9, .aload_n 2, 1), (10, .ifnonnull 4, 3), (13, .return_, 1), (14, .aload_n 2, 1), (15, .aload_n 1, 1), (16, .invokevirtual 29, 3), (19, .aload_n 0, 1), (20, .aload_n 0, 1), (21, .getfield 17, 3), (24, .iconst 1, 1), (25, .iadd, 1), (26, .bipush 6, 2), (28, .if_icmp .ge 12, 3), (31, .aload_n 0, 1), (32, .getfield 17, 3), (35, .iconst 1, 1), (36, .iadd, 1), (37, .goto 4, 3), (40, .iconst 0, 1), (41, .putfield 17, 3), (44, .aload_n 0, 1), (45, .bipush 6, 2), (47, .aload_n 0, 1), (48, .getfield 21, 3), (51, .iconst 1, 1), (52, .iadd, 1), (53, .invokestatic 33, 3), (56, .putfield 21, 3), (59, .return_, 1)]
def TX0_restore : List (Nat × Instr × Nat) := [(0, .aload_n 0, 1), (1, .getfield 17, 3), (4, .ifCond .le 12, 3), (7, .aload_n 0, 1), (8, .getfield 17, 3), (11, .iconst 1, 1), (12, .isub, 1), (13, .goto 4, 3), (16, .iconst 5, 1), (17, .istore_n 2, 1), (18, .aload_n 0, 1), (19, .iload_n 2, 1), (20, .invokevirtual 25, 3), (23, .astore_n 3, 1), (24, .aload_n 3, 1), (25, .ifnull 34, 3), (28, .aload_n 1, 1), (29, .ifnull 30, 3), (32, .aload_n 0, 1), (33, .getfield 21, 3), (36, .ifCond .le 23, 3), (39, .aload_n 1, 1), (40, .aload_n 3, 1), (41, .invokevirtual 29, 3), (44, .aload_n 0, 1), (45, .iload_n 2, 1), (46, .putfield 17, 3), (49, .aload_n 0, 1), (50, .dup, 1), (51, .getfield 21, 3), (54, .iconst 1, 1), (55, .isub, 1), (56, .putfield 21, 3), (59, .aload_n 0, 1), (60, .getfield 21, 3), (63, .ireturn, 1)]
def TX1_init : List (Nat × Instr × Nat) := [(0, .aload_n 0, 1), (1, .invokespecial 1, 3), (4, .aload_n 0, 1), (5, .iload_n 1, 1), (6, .ifCond .le 7, 3), (9, .iload_n 1, 1), (10, .goto 4, 3), (13, .iconst 0, 1), (14, .newarray .int, 2), (16, .putfield 7, 3), (19, .return_, 1)]
def TX1_at : List (Nat × Instr × Nat) := [(0, .iload_n 1, 1), (1, .ifCond .lt 21, 3), (4, .iload_n 1, 1), (5, .aload_n 0, 1), (6, .getfield 7, 3), (9, .arraylength, 1), (10, .if_icmp .ge 12, 3), (13, .aload_n 0, 1), (14, .getfield 7, 3), (17, .iload_n 1, 1), (18, .iaload, 1), (19, .goto 4, 3), (22, .iconst 0, 1), (23, .ireturn, 1)]
def TX1_put : List (Nat × Instr × Nat) := [(0, .iload_n 1, 1), (1, .ifCond .lt 19, 3), (4, .iload_n 1, 1), (5, .aload_n 0, 1), (6, .getfield 7, 3), (9, .arraylength, 1), (10, .if_icmp .ge 10, 3), (13, .aload_n 0, 1), (14, .getfield 7, 3), (17, .iload_n 1, 1), (18, .iload_n 2, 1), (19, .iastore, 1), (20, .return_, 1)]
def TX1_raise : List (Nat × Instr × Nat) := [(0, .aload_n 0, 1), (1, .iload_n 1, 1), (2, .aload_n 0, 1), (3, .iload_n 1, 1), (4, .invokevirtual 13, 3), (7, .iconst 1, 1), (8, .iadd, 1), (9, .invokevirtual 17, 3), (12, .return_, 1)]
def TX1_sum : List (Nat × Instr × Nat) := [(0, .iconst 0, 1), (1, .istore_n 1, 1), (2, .iconst 0, 1), (3, .istore_n 2, 1), (4, .iload_n 2, 1), (5, .aload_n 0, 1), (6, .getfield 7, 3), (9, .arraylength, 1), (10, .if_icmp .ge 18, 3), (13, .iload_n 1, 1), (14, .aload_n 0, 1), (15, .getfield 7, 3), (18, .iload_n 2, 1), (19, .iaload, 1), (20, .iadd, 1), (21, .istore_n 1, 1), (22, .iinc 2 1, 3), (25, .goto (-21), 3), (28, .iload_n 1, 1), (29, .ireturn, 1)]
def TX1_copyFrom : List (Nat × Instr × Nat) := [(0, .aload_n 1, 1), (1, .ifnull 34, 3), (4, .aload_n 1, 1), (5, .getfield 7, 3), (8, .arraylength, 1), (9, .aload_n 0, 1), (10, .getfield 7, 3), (13, .arraylength, 1), (14, .if_icmp .ne 21, 3), (17, .aload_n 1, 1), (18, .getfield 7, 3), (21, .iconst 0, 1), (22, .aload_n 0, 1), (23, .getfield 7, 3), (26, .iconst 0, 1), (27, .aload_n 0, 1), (28, .getfield 7, 3), (31, .arraylength, 1), (32, .invokestatic 21, 3), (35, .return_, 1)]
def TX2_init_0 : List (Nat × Instr × Nat) := [(0, .aload_n 0, 1), (1, .invokespecial 3, 3), (4, .aload_n 0, 1), (5, .new 9, 3), (8, .dup, 1), (9, .bipush 96, 2), (11, .invokespecial 11, 3), (14, .putfield 14, 3), (17, .aload_n 0, 1), (18, .new 9, 3), (21, .dup, 1), (22, .bipush 8, 2), (24, .invokespecial 11, 3), (27, .putfield 20, 3), (30, .aload_n 0, 1), (31, .new 9, 3), (34, .dup, 1), (35, .bipush 8, 2), (37, .invokespecial 11, 3), (40, .putfield 23, 3), (43, .aload_n 0, 1), (44, .new 9, 3), (47, .dup, 1), (48, .bipush 8, 2), (50, .invokespecial 11, 3), (53, .putfield 26, 3), (56, .aload_n 0, 1), (57, .new 9, 3), (60, .dup, 1), (61, .bipush 12, 2), (63, .invokespecial 11, 3), (66, .putfield 29, 3), (69, .aload_n 0, 1), (70, .new 9, 3), (73, .dup, 1), (74, .bipush 12, 2), (76, .invokespecial 11, 3), (79, .putfield 32, 3), (82, .aload_n 0, 1), (83, .new 9, 3), (86, .dup, 1), (87, .bipush 8, 2), (89, .invokespecial 11, 3), (92, .putfield 35, 3), (95, .aload_n 0, 1), (96, .new 9, 3), (99, .dup, 1), (100, .bipush 8, 2), (102, .invokespecial 11, 3), (105, .putfield 38, 3), (108, .aload_n 0, 1), (109, .new 9, 3), (112, .dup, 1), (113, .bipush 8, 2), (115, .invokespecial 11, 3), (118, .putfield 41, 3), (121, .aload_n 0, 1), (122, .new 9, 3), (125, .dup, 1), (126, .bipush 8, 2)]
def TX2_init_1 : List (Nat × Instr × Nat) := [(128, .invokespecial 11, 3), (131, .putfield 44, 3), (134, .aload_n 0, 1), (135, .new 9, 3), (138, .dup, 1), (139, .iconst 3, 1), (140, .invokespecial 11, 3), (143, .putfield 47, 3), (146, .aload_n 0, 1), (147, .iconst 0, 1), (148, .putfield 50, 3), (151, .aload_n 0, 1), (152, .getfield 47, 3), (155, .iconst 0, 1), (156, .bipush 60, 2), (158, .invokevirtual 54, 3), (161, .aload_n 0, 1), (162, .getfield 47, 3), (165, .iconst 1, 1), (166, .iconst 1, 1), (167, .invokevirtual 54, 3), (170, .aload_n 0, 1), (171, .getfield 47, 3), (174, .iconst 2, 1), (175, .iconst 2, 1), (176, .invokevirtual 54, 3), (179, .iconst 0, 1), (180, .istore_n 1, 1), (181, .iload_n 1, 1), (182, .bipush 8, 2), (184, .if_icmp .ge 18, 3), (187, .aload_n 0, 1), (188, .getfield 20, 3), (191, .iload_n 1, 1), (192, .iconst (-1), 1), (193, .invokevirtual 54, 3), (196, .iinc 1 1, 3), (199, .goto (-18), 3), (202, .return_, 1)]
def TX2_init : List (Nat × Instr × Nat) := TX2_init_0 ++ TX2_init_1
def TX2_copyFrom_0 : List (Nat × Instr × Nat) := [(0, .aload_n 1, 1), (1, .ifnonnull 4, 3), (4, .return_, 1), (5, .aload_n 0, 1), (6, .getfield 14, 3), (9, .aload_n 1, 1), (10, .getfield 14, 3), (13, .invokevirtual 58, 3), (16, .aload_n 0, 1), (17, .getfield 20, 3), (20, .aload_n 1, 1), (21, .getfield 20, 3), (24, .invokevirtual 58, 3), (27, .aload_n 0, 1), (28, .getfield 23, 3), (31, .aload_n 1, 1), (32, .getfield 23, 3), (35, .invokevirtual 58, 3), (38, .aload_n 0, 1), (39, .getfield 26, 3), (42, .aload_n 1, 1), (43, .getfield 26, 3), (46, .invokevirtual 58, 3), (49, .aload_n 0, 1), (50, .getfield 29, 3), (53, .aload_n 1, 1), (54, .getfield 29, 3), (57, .invokevirtual 58, 3), (60, .aload_n 0, 1), (61, .getfield 32, 3), (64, .aload_n 1, 1), (65, .getfield 32, 3), (68, .invokevirtual 58, 3), (71, .aload_n 0, 1), (72, .getfield 35, 3), (75, .aload_n 1, 1), (76, .getfield 35, 3), (79, .invokevirtual 58, 3), (82, .aload_n 0, 1), (83, .getfield 38, 3), (86, .aload_n 1, 1), (87, .getfield 38, 3), (90, .invokevirtual 58, 3), (93, .aload_n 0, 1), (94, .getfield 41, 3), (97, .aload_n 1, 1), (98, .getfield 41, 3), (101, .invokevirtual 58, 3), (104, .aload_n 0, 1), (105, .getfield 44, 3), (108, .aload_n 1, 1), (109, .getfield 44, 3), (112, .invokevirtual 58, 3), (115, .aload_n 0, 1), (116, .getfield 47, 3), (119, .aload_n 1, 1), (120, .getfield 47, 3), (123, .invokevirtual 58, 3), (126, .aload_n 0, 1), (127, .aload_n 1, 1)]
def TX2_copyFrom_1 : List (Nat × Instr × Nat) := [(128, .getfield 50, 3), (131, .putfield 50, 3), (134, .return_, 1)]
def TX2_copyFrom : List (Nat × Instr × Nat) := TX2_copyFrom_0 ++ TX2_copyFrom_1
def TX2_isWaiting : List (Nat × Instr × Nat) := [(0, .aload_n 0, 1), (1, .getfield 20, 3), (4, .iload_n 1, 1), (5, .invokevirtual 62, 3), (8, .iconst (-1), 1), (9, .if_icmp .eq 7, 3), (12, .iconst 1, 1), (13, .goto 4, 3), (16, .iconst 0, 1), (17, .ireturn, 1)]
def TX2_queueLength : List (Nat × Instr × Nat) := [(0, .iconst 0, 1), (1, .istore_n 2, 1), (2, .iconst 0, 1), (3, .istore_n 3, 1), (4, .iload_n 3, 1), (5, .bipush 8, 2), (7, .if_icmp .ge 24, 3), (10, .aload_n 0, 1), (11, .getfield 20, 3), (14, .iload_n 3, 1), (15, .invokevirtual 62, 3), (18, .iload_n 1, 1), (19, .if_icmp .ne 6, 3), (22, .iinc 2 1, 3), (25, .iinc 3 1, 3), (28, .goto (-24), 3), (31, .iload_n 2, 1), (32, .ireturn, 1)]
def TX2_handAt : List (Nat × Instr × Nat) := [(0, .iconst 0, 1), (1, .istore_n 3, 1), (2, .iload_n 3, 1), (3, .bipush 8, 2), (5, .if_icmp .ge 35, 3), (8, .aload_n 0, 1), (9, .getfield 20, 3), (12, .iload_n 3, 1), (13, .invokevirtual 62, 3), (16, .iload_n 1, 1), (17, .if_icmp .ne 17, 3), (20, .aload_n 0, 1), (21, .getfield 26, 3), (24, .iload_n 3, 1), (25, .invokevirtual 62, 3), (28, .iload_n 2, 1), (29, .if_icmp .ne 5, 3), (32, .iload_n 3, 1), (33, .ireturn, 1), (34, .iinc 3 1, 3), (37, .goto (-35), 3), (40, .iconst (-1), 1), (41, .ireturn, 1)]
def TX2_enqueue : List (Nat × Instr × Nat) := [(0, .aload_n 0, 1), (1, .getfield 14, 3), (4, .iload_n 1, 1), (5, .iload_n 2, 1), (6, .invokestatic 66, 3), (9, .invokevirtual 62, 3), (12, .ifCond .le 11, 3), (15, .aload_n 0, 1), (16, .iload_n 2, 1), (17, .invokevirtual 70, 3), (20, .goto 8, 3), (23, .aload_n 0, 1), (24, .iload_n 2, 1), (25, .invokevirtual 73, 3), (28, .istore 4, 2), (30, .iconst 0, 1), (31, .istore 5, 2), (33, .iload 5, 2), (35, .bipush 8, 2), (37, .if_icmp .ge 45, 3), (40, .aload_n 0, 1), (41, .getfield 20, 3), (44, .iload 5, 2), (46, .invokevirtual 62, 3), (49, .iload_n 2, 1), (50, .if_icmp .ne 26, 3), (53, .aload_n 0, 1), (54, .getfield 26, 3), (57, .iload 5, 2), (59, .invokevirtual 62, 3), (62, .iload 4, 2), (64, .if_icmp .lt 12, 3), (67, .aload_n 0, 1), (68, .getfield 26, 3), (71, .iload 5, 2), (73, .invokevirtual 76, 3), (76, .iinc 5 1, 3), (79, .goto (-46), 3), (82, .aload_n 0, 1), (83, .getfield 20, 3), (86, .iload_n 1, 1), (87, .iload_n 2, 1), (88, .invokevirtual 54, 3), (91, .aload_n 0, 1), (92, .getfield 23, 3), (95, .iload_n 1, 1), (96, .iload_n 3, 1), (97, .invokevirtual 54, 3), (100, .aload_n 0, 1), (101, .getfield 26, 3), (104, .iload_n 1, 1), (105, .iload 4, 2), (107, .invokevirtual 54, 3), (110, .return_, 1)]
def TX2_placeForHolder : List (Nat × Instr × Nat) := [(0, .iconst 0, 1), (1, .istore_n 2, 1), (2, .iconst 0, 1), (3, .istore_n 3, 1), (4, .iload_n 3, 1), (5, .bipush 8, 2), (7, .if_icmp .ge 51, 3), (10, .aload_n 0, 1), (11, .getfield 20, 3), (14, .iload_n 3, 1), (15, .invokevirtual 62, 3), (18, .iload_n 1, 1), (19, .if_icmp .ne 33, 3), (22, .aload_n 0, 1), (23, .getfield 14, 3), (26, .iload_n 3, 1), (27, .iload_n 1, 1), (28, .invokestatic 66, 3), (31, .invokevirtual 62, 3), (34, .ifCond .le 18, 3), (37, .iload_n 2, 1), (38, .aload_n 0, 1), (39, .getfield 26, 3), (42, .iload_n 3, 1), (43, .invokevirtual 62, 3), (46, .iconst 1, 1), (47, .iadd, 1), (48, .invokestatic 79, 3), (51, .istore_n 2, 1), (52, .iinc 3 1, 3), (55, .goto (-51), 3), (58, .iload_n 2, 1), (59, .ireturn, 1)]
def TX2_dequeue : List (Nat × Instr × Nat) := [(0, .aload_n 0, 1), (1, .getfield 20, 3), (4, .iload_n 1, 1), (5, .invokevirtual 62, 3), (8, .istore_n 2, 1), (9, .aload_n 0, 1), (10, .getfield 26, 3), (13, .iload_n 1, 1), (14, .invokevirtual 62, 3), (17, .istore_n 3, 1), (18, .aload_n 0, 1), (19, .getfield 20, 3), (22, .iload_n 1, 1), (23, .iconst (-1), 1), (24, .invokevirtual 54, 3), (27, .aload_n 0, 1), (28, .getfield 23, 3), (31, .iload_n 1, 1), (32, .iconst 0, 1), (33, .invokevirtual 54, 3), (36, .iconst 0, 1), (37, .istore 4, 2), (39, .iload 4, 2), (41, .bipush 8, 2), (43, .if_icmp .ge 55, 3), (46, .aload_n 0, 1), (47, .getfield 20, 3), (50, .iload 4, 2), (52, .invokevirtual 62, 3), (55, .iload_n 2, 1), (56, .if_icmp .ne 36, 3), (59, .aload_n 0, 1), (60, .getfield 26, 3), (63, .iload 4, 2), (65, .invokevirtual 62, 3), (68, .iload_n 3, 1), (69, .if_icmp .le 23, 3), (72, .aload_n 0, 1), (73, .getfield 26, 3), (76, .iload 4, 2), (78, .aload_n 0, 1), (79, .getfield 26, 3), (82, .iload 4, 2), (84, .invokevirtual 62, 3), (87, .iconst 1, 1), (88, .isub, 1), (89, .invokevirtual 54, 3), (92, .iinc 4 1, 3), (95, .goto (-56), 3), (98, .return_, 1)]
def TX2_clashes : List (Nat × Instr × Nat) := [(0, .iconst 0, 1), (1, .istore 5, 2), (3, .iload 5, 2), (5, .bipush 8, 2), (7, .if_icmp .ge 43, 3), (10, .iload 5, 2), (12, .iload_n 3, 1), (13, .if_icmp .eq 31, 3), (16, .iload 5, 2), (18, .iload 4, 2), (20, .if_icmp .eq 24, 3), (23, .aload_n 0, 1), (24, .getfield 14, 3), (27, .iload 5, 2), (29, .iload_n 1, 1), (30, .invokestatic 66, 3), (33, .invokevirtual 62, 3), (36, .iload_n 2, 1), (37, .iadd, 1), (38, .iconst 3, 1), (39, .if_icmp .le 5, 3), (42, .iconst 1, 1), (43, .ireturn, 1), (44, .iinc 5 1, 3), (47, .goto (-44), 3), (50, .iconst 0, 1), (51, .ireturn, 1)]
def TX2_grant : List (Nat × Instr × Nat) := [(0, .aload_n 0, 1), (1, .getfield 14, 3), (4, .iload_n 1, 1), (5, .aload_n 0, 1), (6, .getfield 20, 3), (9, .iload_n 1, 1), (10, .invokevirtual 62, 3), (13, .invokestatic 66, 3), (16, .aload_n 0, 1), (17, .getfield 23, 3), (20, .iload_n 1, 1), (21, .invokevirtual 62, 3), (24, .invokevirtual 54, 3), (27, .aload_n 0, 1), (28, .getfield 41, 3), (31, .iload_n 1, 1), (32, .invokevirtual 76, 3), (35, .aload_n 0, 1), (36, .iload_n 1, 1), (37, .invokevirtual 84, 3), (40, .return_, 1)]
def TX2_settle : List (Nat × Instr × Nat) := [(0, .iconst 0, 1), (1, .istore_n 2, 1), (2, .iconst 0, 1), (3, .istore_n 3, 1), (4, .iload_n 3, 1), (5, .bipush 8, 2), (7, .if_icmp .ge 56, 3), (10, .aload_n 0, 1), (11, .iload_n 1, 1), (12, .iconst 0, 1), (13, .invokevirtual 87, 3), (16, .istore 4, 2), (18, .iload 4, 2), (20, .iconst (-1), 1), (21, .if_icmp .eq 42, 3), (24, .aload_n 0, 1), (25, .iload_n 1, 1), (26, .aload_n 0, 1), (27, .getfield 23, 3), (30, .iload 4, 2), (32, .invokevirtual 62, 3), (35, .iload 4, 2), (37, .iload 4, 2), (39, .invokevirtual 90, 3), (42, .ifCond .eq 6, 3), (45, .goto 18, 3), (48, .aload_n 0, 1), (49, .iload 4, 2), (51, .invokevirtual 94, 3), (54, .iinc 2 1, 3), (57, .iinc 3 1, 3), (60, .goto (-56), 3), (63, .iload_n 2, 1), (64, .ireturn, 1)]
def TX2_direct_0 : List (Nat × Instr × Nat) := [(0, .aload_n 0, 1), (1, .iload_n 1, 1), (2, .invokevirtual 97, 3), (5, .ifCond .ne 5, 3), (8, .iconst 0, 1), (9, .ireturn, 1), (10, .aload_n 0, 1), (11, .getfield 20, 3), (14, .iload_n 1, 1), (15, .invokevirtual 62, 3), (18, .istore_n 2, 1), (19, .aload_n 0, 1), (20, .getfield 23, 3), (23, .iload_n 1, 1), (24, .invokevirtual 62, 3), (27, .istore_n 3, 1), (28, .aload_n 0, 1), (29, .getfield 26, 3), (32, .iload_n 1, 1), (33, .invokevirtual 62, 3), (36, .istore 4, 2), (38, .iconst 0, 1), (39, .istore 5, 2), (41, .iconst 0, 1), (42, .istore 6, 2), (44, .iload 6, 2), (46, .bipush 8, 2), (48, .if_icmp .ge 94, 3), (51, .aload_n 0, 1), (52, .getfield 14, 3), (55, .iload 6, 2), (57, .iload_n 2, 1), (58, .invokestatic 66, 3), (61, .invokevirtual 62, 3), (64, .iload_n 3, 1), (65, .iadd, 1), (66, .iconst 3, 1), (67, .if_icmp .le 7, 3), (70, .iconst 1, 1), (71, .goto 4, 3), (74, .iconst 0, 1), (75, .istore 7, 2), (77, .aload_n 0, 1), (78, .getfield 20, 3), (81, .iload 6, 2), (83, .invokevirtual 62, 3), (86, .iload_n 2, 1), (87, .if_icmp .ne 21, 3), (90, .aload_n 0, 1), (91, .getfield 26, 3), (94, .iload 6, 2), (96, .invokevirtual 62, 3), (99, .iload 4, 2), (101, .if_icmp .ge 7, 3), (104, .iconst 1, 1), (105, .goto 4, 3), (108, .iconst 0, 1), (109, .istore 8, 2), (111, .iload 6, 2), (113, .iload_n 1, 1)]
def TX2_direct_1 : List (Nat × Instr × Nat) := [(114, .if_icmp .eq 22, 3), (117, .iload 7, 2), (119, .ifCond .ne 8, 3), (122, .iload 8, 2), (124, .ifCond .eq 12, 3), (127, .iload 5, 2), (129, .iconst 1, 1), (130, .iload 6, 2), (132, .ishl, 1), (133, .ior, 1), (134, .istore 5, 2), (136, .iinc 6 1, 3), (139, .goto (-95), 3), (142, .iload 5, 2), (144, .ireturn, 1)]
def TX2_direct : List (Nat × Instr × Nat) := TX2_direct_0 ++ TX2_direct_1
def TX2_reach : List (Nat × Instr × Nat) := [(0, .aload_n 0, 1), (1, .iload_n 1, 1), (2, .invokevirtual 101, 3), (5, .istore_n 2, 1), (6, .iconst 0, 1), (7, .istore_n 3, 1), (8, .iload_n 3, 1), (9, .bipush 8, 2), (11, .if_icmp .ge 60, 3), (14, .iload_n 2, 1), (15, .istore 4, 2), (17, .iconst 0, 1), (18, .istore 5, 2), (20, .iload 5, 2), (22, .bipush 8, 2), (24, .if_icmp .ge 29, 3), (27, .iload_n 2, 1), (28, .iload 5, 2), (30, .invokestatic 104, 3), (33, .ifCond .eq 14, 3), (36, .iload 4, 2), (38, .aload_n 0, 1), (39, .iload 5, 2), (41, .invokevirtual 101, 3), (44, .ior, 1), (45, .istore 4, 2), (47, .iinc 5 1, 3), (50, .goto (-30), 3), (53, .iload 4, 2), (55, .iload_n 2, 1), (56, .if_icmp .ne 6, 3), (59, .goto 12, 3), (62, .iload 4, 2), (64, .istore_n 2, 1), (65, .iinc 3 1, 3), (68, .goto (-60), 3), (71, .iload_n 2, 1), (72, .ireturn, 1)]
def TX2_loserFor : List (Nat × Instr × Nat) := [(0, .aload_n 0, 1), (1, .iload_n 1, 1), (2, .invokevirtual 108, 3), (5, .istore_n 2, 1), (6, .iconst (-1), 1), (7, .istore_n 3, 1), (8, .iload_n 2, 1), (9, .iload_n 1, 1), (10, .invokestatic 104, 3), (13, .ifCond .ne 5, 3), (16, .iload_n 3, 1), (17, .ireturn, 1), (18, .iconst 0, 1), (19, .istore 4, 2), (21, .iconst 0, 1), (22, .istore 5, 2), (24, .iload 5, 2), (26, .bipush 8, 2), (28, .if_icmp .ge 58, 3), (31, .iload_n 2, 1), (32, .iload 5, 2), (34, .invokestatic 104, 3), (37, .ifCond .eq 43, 3), (40, .aload_n 0, 1), (41, .iload 5, 2), (43, .invokevirtual 108, 3), (46, .iload_n 1, 1), (47, .invokestatic 104, 3), (50, .ifCond .eq 30, 3), (53, .aload_n 0, 1), (54, .iload 5, 2), (56, .invokevirtual 111, 3), (59, .istore 6, 2), (61, .iload_n 3, 1), (62, .iconst (-1), 1), (63, .if_icmp .eq 10, 3), (66, .iload 6, 2), (68, .iload 4, 2), (70, .if_icmp .gt 10, 3), (73, .iload 5, 2), (75, .istore_n 3, 1), (76, .iload 6, 2), (78, .istore 4, 2), (80, .iinc 5 1, 3), (83, .goto (-59), 3), (86, .iload_n 3, 1), (87, .ireturn, 1)]
def TX2_strip : List (Nat × Instr × Nat) := [(0, .iconst 0, 1), (1, .istore_n 2, 1), (2, .iconst 0, 1), (3, .istore_n 3, 1), (4, .iload_n 3, 1), (5, .bipush 12, 2), (7, .if_icmp .ge 43, 3), (10, .aload_n 0, 1), (11, .getfield 14, 3), (14, .iload_n 1, 1), (15, .iload_n 3, 1), (16, .invokestatic 66, 3), (19, .invokevirtual 62, 3), (22, .ifCond .le 22, 3), (25, .iload_n 2, 1), (26, .iconst 1, 1), (27, .iload_n 3, 1), (28, .ishl, 1), (29, .ior, 1), (30, .istore_n 2, 1), (31, .aload_n 0, 1), (32, .getfield 14, 3), (35, .iload_n 1, 1), (36, .iload_n 3, 1), (37, .invokestatic 66, 3), (40, .iconst 0, 1), (41, .invokevirtual 54, 3), (44, .iinc 3 1, 3), (47, .goto (-43), 3), (50, .aload_n 0, 1), (51, .iload_n 1, 1), (52, .invokevirtual 97, 3), (55, .ifCond .eq 21, 3), (58, .iload_n 2, 1), (59, .iconst 1, 1), (60, .aload_n 0, 1), (61, .getfield 20, 3), (64, .iload_n 1, 1), (65, .invokevirtual 62, 3), (68, .ishl, 1), (69, .ior, 1), (70, .istore_n 2, 1), (71, .aload_n 0, 1), (72, .iload_n 1, 1), (73, .invokevirtual 84, 3), (76, .aload_n 0, 1), (77, .getfield 38, 3), (80, .iload_n 1, 1), (81, .invokevirtual 76, 3), (84, .iload_n 2, 1), (85, .ireturn, 1)]
def TX2_takeAsking_0 : List (Nat × Instr × Nat) := [(0, .aload_n 0, 1), (1, .getfield 44, 3), (4, .iload_n 1, 1), (5, .invokevirtual 76, 3), (8, .aload_n 0, 1), (9, .getfield 14, 3), (12, .iload_n 1, 1), (13, .iload_n 2, 1), (14, .invokestatic 66, 3), (17, .invokevirtual 62, 3), (20, .iload_n 3, 1), (21, .if_icmp .lt 13, 3), (24, .aload_n 0, 1), (25, .getfield 41, 3), (28, .iload_n 1, 1), (29, .invokevirtual 76, 3), (32, .iconst 0, 1), (33, .ireturn, 1), (34, .aload_n 0, 1), (35, .iload_n 1, 1), (36, .iload_n 2, 1), (37, .iload_n 3, 1), (38, .invokevirtual 114, 3), (41, .aload_n 0, 1), (42, .iload_n 2, 1), (43, .invokevirtual 118, 3), (46, .pop, 1), (47, .iconst 0, 1), (48, .istore 4, 2), (50, .iload 4, 2), (52, .bipush 8, 2), (54, .if_icmp .ge 66, 3), (57, .aload_n 0, 1), (58, .iload_n 1, 1), (59, .invokevirtual 121, 3), (62, .istore 5, 2), (64, .iload 5, 2), (66, .iconst (-1), 1), (67, .if_icmp .ne 6, 3), (70, .goto 50, 3), (73, .aload_n 0, 1), (74, .iload 5, 2), (76, .invokevirtual 124, 3), (79, .istore 6, 2), (81, .iconst 0, 1), (82, .istore 7, 2), (84, .iload 7, 2), (86, .bipush 12, 2), (88, .if_icmp .ge 26, 3), (91, .iload 6, 2), (93, .iload 7, 2), (95, .invokestatic 104, 3), (98, .ifCond .eq 10, 3), (101, .aload_n 0, 1), (102, .iload 7, 2), (104, .invokevirtual 118, 3), (107, .pop, 1), (108, .iinc 7 1, 3), (111, .goto (-27), 3), (114, .iinc 4 1, 3)]
def TX2_takeAsking_1 : List (Nat × Instr × Nat) := [(117, .goto (-67), 3), (120, .aload_n 0, 1), (121, .getfield 14, 3), (124, .iload_n 1, 1), (125, .iload_n 2, 1), (126, .invokestatic 66, 3), (129, .invokevirtual 62, 3), (132, .iload_n 3, 1), (133, .if_icmp .lt 5, 3), (136, .iconst 0, 1), (137, .ireturn, 1), (138, .aload_n 0, 1), (139, .iload_n 1, 1), (140, .invokevirtual 97, 3), (143, .ifCond .eq 7, 3), (146, .iconst 1, 1), (147, .goto 4, 3), (150, .iconst 2, 1), (151, .ireturn, 1)]
def TX2_takeAsking : List (Nat × Instr × Nat) := TX2_takeAsking_0 ++ TX2_takeAsking_1
def TX2_canLetGo : List (Nat × Instr × Nat) := [(0, .aload_n 0, 1), (1, .getfield 14, 3), (4, .iload_n 1, 1), (5, .iload_n 2, 1), (6, .invokestatic 66, 3), (9, .invokevirtual 62, 3), (12, .ifCond .le 19, 3), (15, .aload_n 0, 1), (16, .getfield 20, 3), (19, .iload_n 1, 1), (20, .invokevirtual 62, 3), (23, .iload_n 2, 1), (24, .if_icmp .eq 7, 3), (27, .iconst 1, 1), (28, .goto 4, 3), (31, .iconst 0, 1), (32, .ireturn, 1)]
def TX2_letGo : List (Nat × Instr × Nat) := [(0, .aload_n 0, 1), (1, .getfield 14, 3), (4, .iload_n 1, 1), (5, .iload_n 2, 1), (6, .invokestatic 66, 3), (9, .iconst 0, 1), (10, .invokevirtual 54, 3), (13, .aload_n 0, 1), (14, .iload_n 2, 1), (15, .invokevirtual 118, 3), (18, .ireturn, 1)]
def TX2_stopWaiting : List (Nat × Instr × Nat) := [(0, .aload_n 0, 1), (1, .getfield 20, 3), (4, .iload_n 1, 1), (5, .invokevirtual 62, 3), (8, .istore_n 2, 1), (9, .aload_n 0, 1), (10, .iload_n 1, 1), (11, .invokevirtual 84, 3), (14, .aload_n 0, 1), (15, .iload_n 2, 1), (16, .invokevirtual 118, 3), (19, .pop, 1), (20, .iload_n 2, 1), (21, .ireturn, 1)]
def TX2_canPassOver : List (Nat × Instr × Nat) := [(0, .aload_n 0, 1), (1, .iload_n 1, 1), (2, .iload_n 2, 1), (3, .invokevirtual 127, 3), (6, .ifCond .eq 42, 3), (9, .iload_n 1, 1), (10, .iload_n 3, 1), (11, .if_icmp .eq 37, 3), (14, .aload_n 0, 1), (15, .getfield 20, 3), (18, .iload_n 3, 1), (19, .invokevirtual 62, 3), (22, .iload_n 2, 1), (23, .if_icmp .ne 25, 3), (26, .aload_n 0, 1), (27, .iload_n 2, 1), (28, .aload_n 0, 1), (29, .getfield 23, 3), (32, .iload_n 3, 1), (33, .invokevirtual 62, 3), (36, .iload_n 1, 1), (37, .iload_n 3, 1), (38, .invokevirtual 90, 3), (41, .ifCond .ne 7, 3), (44, .iconst 1, 1), (45, .goto 4, 3), (48, .iconst 0, 1), (49, .ireturn, 1)]
def TX2_passOver : List (Nat × Instr × Nat) := [(0, .aload_n 0, 1), (1, .getfield 14, 3), (4, .iload_n 1, 1), (5, .iload_n 2, 1), (6, .invokestatic 66, 3), (9, .iconst 0, 1), (10, .invokevirtual 54, 3), (13, .aload_n 0, 1), (14, .iload_n 3, 1), (15, .invokevirtual 94, 3), (18, .aload_n 0, 1), (19, .getfield 32, 3), (22, .iload_n 2, 1), (23, .invokevirtual 76, 3), (26, .aload_n 0, 1), (27, .iload_n 2, 1), (28, .invokevirtual 118, 3), (31, .pop, 1), (32, .aload_n 0, 1), (33, .getfield 14, 3), (36, .iload_n 3, 1), (37, .iload_n 2, 1), (38, .invokestatic 66, 3), (41, .invokevirtual 62, 3), (44, .ireturn, 1)]
def TX2_takersOf : List (Nat × Instr × Nat) := [(0, .iconst 0, 1), (1, .istore_n 3, 1), (2, .iconst 0, 1), (3, .istore 4, 2), (5, .iload 4, 2), (7, .bipush 8, 2), (9, .if_icmp .ge 27, 3), (12, .aload_n 0, 1), (13, .iload_n 1, 1), (14, .iload_n 2, 1), (15, .iload 4, 2), (17, .invokevirtual 130, 3), (20, .ifCond .eq 10, 3), (23, .iload_n 3, 1), (24, .iconst 1, 1), (25, .iload 4, 2), (27, .ishl, 1), (28, .ior, 1), (29, .istore_n 3, 1), (30, .iinc 4 1, 3), (33, .goto (-28), 3), (36, .iload_n 3, 1), (37, .ireturn, 1)]
def TX2_heatAfter : List (Nat × Instr × Nat) := [(0, .iload_n 2, 1), (1, .ifCond .le 22, 3), (4, .sipush 1000, 3), (7, .iload_n 1, 1), (8, .iload_n 2, 1), (9, .aload_n 0, 1), (10, .getfield 47, 3), (13, .iconst 1, 1), (14, .invokevirtual 62, 3), (17, .imul, 1), (18, .iadd, 1), (19, .invokestatic 134, 3), (22, .ireturn, 1), (23, .iconst 0, 1), (24, .iload_n 1, 1), (25, .aload_n 0, 1), (26, .getfield 47, 3), (29, .iconst 2, 1), (30, .invokevirtual 62, 3), (33, .isub, 1), (34, .invokestatic 79, 3), (37, .ireturn, 1)]
def TX2_tick : List (Nat × Instr × Nat) := [(0, .aload_n 0, 1), (1, .dup, 1), (2, .getfield 50, 3), (5, .iconst 1, 1), (6, .iadd, 1), (7, .putfield 50, 3), (10, .iconst 0, 1), (11, .istore_n 1, 1), (12, .iload_n 1, 1), (13, .bipush 12, 2), (15, .if_icmp .ge 34, 3), (18, .aload_n 0, 1), (19, .getfield 29, 3), (22, .iload_n 1, 1), (23, .aload_n 0, 1), (24, .aload_n 0, 1), (25, .getfield 29, 3), (28, .iload_n 1, 1), (29, .invokevirtual 62, 3), (32, .aload_n 0, 1), (33, .iload_n 1, 1), (34, .invokevirtual 137, 3), (37, .invokevirtual 140, 3), (40, .invokevirtual 54, 3), (43, .iinc 1 1, 3), (46, .goto (-34), 3), (49, .iconst 0, 1), (50, .istore_n 1, 1), (51, .iconst 0, 1), (52, .istore_n 2, 1), (53, .iload_n 2, 1), (54, .bipush 12, 2), (56, .if_icmp .ge 36, 3), (59, .aload_n 0, 1), (60, .getfield 29, 3), (63, .iload_n 2, 1), (64, .invokevirtual 62, 3), (67, .aload_n 0, 1), (68, .getfield 47, 3), (71, .iconst 0, 1), (72, .invokevirtual 62, 3), (75, .if_icmp .le 11, 3), (78, .iload_n 1, 1), (79, .aload_n 0, 1), (80, .iload_n 2, 1), (81, .invokevirtual 143, 3), (84, .iadd, 1), (85, .istore_n 1, 1), (86, .iinc 2 1, 3), (89, .goto (-36), 3), (92, .iload_n 1, 1), (93, .ireturn, 1)]
def TX2_burn : List (Nat × Instr × Nat) := [(0, .iconst 0, 1), (1, .istore_n 2, 1), (2, .iconst 0, 1), (3, .istore_n 3, 1), (4, .iload_n 3, 1), (5, .bipush 8, 2), (7, .if_icmp .ge 48, 3), (10, .aload_n 0, 1), (11, .getfield 14, 3), (14, .iload_n 3, 1), (15, .iload_n 1, 1), (16, .invokestatic 66, 3), (19, .invokevirtual 62, 3), (22, .ifCond .le 27, 3), (25, .aload_n 0, 1), (26, .getfield 14, 3), (29, .iload_n 3, 1), (30, .iload_n 1, 1), (31, .invokestatic 66, 3), (34, .iconst 0, 1), (35, .invokevirtual 54, 3), (38, .aload_n 0, 1), (39, .getfield 35, 3), (42, .iload_n 3, 1), (43, .invokevirtual 76, 3), (46, .iinc 2 1, 3), (49, .iinc 3 1, 3), (52, .goto (-48), 3), (55, .iload_n 2, 1), (56, .ifCond .le 9, 3), (59, .aload_n 0, 1), (60, .iload_n 1, 1), (61, .invokevirtual 118, 3), (64, .pop, 1), (65, .iload_n 2, 1), (66, .ireturn, 1)]
def TX2_ticksToBurn : List (Nat × Instr × Nat) := [(0, .aload_n 0, 1), (1, .iload_n 1, 1), (2, .invokevirtual 137, 3), (5, .istore_n 2, 1), (6, .iload_n 2, 1), (7, .ifCond .ne 5, 3), (10, .iconst (-1), 1), (11, .ireturn, 1), (12, .aload_n 0, 1), (13, .getfield 29, 3), (16, .iload_n 1, 1), (17, .invokevirtual 62, 3), (20, .istore_n 3, 1), (21, .iconst 1, 1), (22, .istore 4, 2), (24, .iload 4, 2), (26, .sipush 300, 3), (29, .if_icmp .gt 31, 3), (32, .aload_n 0, 1), (33, .iload_n 3, 1), (34, .iload_n 2, 1), (35, .invokevirtual 140, 3), (38, .istore_n 3, 1), (39, .iload_n 3, 1), (40, .aload_n 0, 1), (41, .getfield 47, 3), (44, .iconst 0, 1), (45, .invokevirtual 62, 3), (48, .if_icmp .le 6, 3), (51, .iload 4, 2), (53, .ireturn, 1), (54, .iinc 4 1, 3), (57, .goto (-33), 3), (60, .iconst (-1), 1), (61, .ireturn, 1)]
def TX2_greatestMode : List (Nat × Instr × Nat) := [(0, .iconst 0, 1), (1, .istore_n 2, 1), (2, .iconst 0, 1), (3, .istore_n 3, 1), (4, .iload_n 3, 1), (5, .bipush 8, 2), (7, .if_icmp .ge 26, 3), (10, .iload_n 2, 1), (11, .aload_n 0, 1), (12, .getfield 14, 3), (15, .iload_n 3, 1), (16, .iload_n 1, 1), (17, .invokestatic 66, 3), (20, .invokevirtual 62, 3), (23, .invokestatic 79, 3), (26, .istore_n 2, 1), (27, .iinc 3 1, 3), (30, .goto (-26), 3), (33, .iload_n 2, 1), (34, .ireturn, 1)]
def TX2_holders : List (Nat × Instr × Nat) := [(0, .iconst 0, 1), (1, .istore_n 2, 1), (2, .iconst 0, 1), (3, .istore_n 3, 1), (4, .iload_n 3, 1), (5, .bipush 8, 2), (7, .if_icmp .ge 30, 3), (10, .aload_n 0, 1), (11, .getfield 14, 3), (14, .iload_n 3, 1), (15, .iload_n 1, 1), (16, .invokestatic 66, 3), (19, .invokevirtual 62, 3), (22, .ifCond .le 9, 3), (25, .iload_n 2, 1), (26, .iconst 1, 1), (27, .iload_n 3, 1), (28, .ishl, 1), (29, .ior, 1), (30, .istore_n 2, 1), (31, .iinc 3 1, 3), (34, .goto (-30), 3), (37, .iload_n 2, 1), (38, .ireturn, 1)]
def TX2_locksOf : List (Nat × Instr × Nat) := [(0, .iconst 0, 1), (1, .istore_n 2, 1), (2, .iconst 0, 1), (3, .istore_n 3, 1), (4, .iload_n 3, 1), (5, .bipush 12, 2), (7, .if_icmp .ge 27, 3), (10, .aload_n 0, 1), (11, .getfield 14, 3), (14, .iload_n 1, 1), (15, .iload_n 3, 1), (16, .invokestatic 66, 3), (19, .invokevirtual 62, 3), (22, .ifCond .le 6, 3), (25, .iinc 2 1, 3), (28, .iinc 3 1, 3), (31, .goto (-27), 3), (34, .iload_n 2, 1), (35, .ireturn, 1)]
def TX2_work : List (Nat × Instr × Nat) := [(0, .iconst 0, 1), (1, .istore_n 2, 1), (2, .iconst 0, 1), (3, .istore_n 3, 1), (4, .iload_n 3, 1), (5, .bipush 12, 2), (7, .if_icmp .ge 24, 3), (10, .iload_n 2, 1), (11, .aload_n 0, 1), (12, .getfield 14, 3), (15, .iload_n 1, 1), (16, .iload_n 3, 1), (17, .invokestatic 66, 3), (20, .invokevirtual 62, 3), (23, .iadd, 1), (24, .istore_n 2, 1), (25, .iinc 3 1, 3), (28, .goto (-24), 3), (31, .iload_n 2, 1), (32, .ireturn, 1)]
def TX2_lockCount : List (Nat × Instr × Nat) := [(0, .iconst 0, 1), (1, .istore_n 1, 1), (2, .iconst 0, 1), (3, .istore_n 2, 1), (4, .iload_n 2, 1), (5, .bipush 8, 2), (7, .if_icmp .ge 17, 3), (10, .iload_n 1, 1), (11, .aload_n 0, 1), (12, .iload_n 2, 1), (13, .invokevirtual 146, 3), (16, .iadd, 1), (17, .istore_n 1, 1), (18, .iinc 2 1, 3), (21, .goto (-17), 3), (24, .iload_n 1, 1), (25, .ireturn, 1)]
def TX2_waitingCount : List (Nat × Instr × Nat) := [(0, .iconst 0, 1), (1, .istore_n 1, 1), (2, .iconst 0, 1), (3, .istore_n 2, 1), (4, .iload_n 2, 1), (5, .bipush 8, 2), (7, .if_icmp .ge 20, 3), (10, .aload_n 0, 1), (11, .iload_n 2, 1), (12, .invokevirtual 97, 3), (15, .ifCond .eq 6, 3), (18, .iinc 1 1, 3), (21, .iinc 2 1, 3), (24, .goto (-20), 3), (27, .iload_n 1, 1), (28, .ireturn, 1)]
def TX2_heldRows : List (Nat × Instr × Nat) := [(0, .iconst 0, 1), (1, .istore_n 1, 1), (2, .iconst 0, 1), (3, .istore_n 2, 1), (4, .iload_n 2, 1), (5, .bipush 12, 2), (7, .if_icmp .ge 20, 3), (10, .aload_n 0, 1), (11, .iload_n 2, 1), (12, .invokevirtual 149, 3), (15, .ifCond .eq 6, 3), (18, .iinc 1 1, 3), (21, .iinc 2 1, 3), (24, .goto (-20), 3), (27, .iload_n 1, 1), (28, .ireturn, 1)]
def TX2_handPart : List (Nat × Instr × Nat) := [(0, .iload_n 2, 1), (1, .tableswitch 110 0 7 #[47, 53, 59, 68, 77, 83, 92, 101], 47), (48, .aload_n 0, 1), (49, .iload_n 1, 1), (50, .invokevirtual 146, 3), (53, .ireturn, 1), (54, .aload_n 0, 1), (55, .iload_n 1, 1), (56, .invokevirtual 111, 3), (59, .ireturn, 1), (60, .aload_n 0, 1), (61, .getfield 20, 3), (64, .iload_n 1, 1), (65, .invokevirtual 62, 3), (68, .ireturn, 1), (69, .aload_n 0, 1), (70, .getfield 23, 3), (73, .iload_n 1, 1), (74, .invokevirtual 62, 3), (77, .ireturn, 1), (78, .aload_n 0, 1), (79, .iload_n 1, 1), (80, .invokevirtual 101, 3), (83, .ireturn, 1), (84, .aload_n 0, 1), (85, .getfield 35, 3), (88, .iload_n 1, 1), (89, .invokevirtual 62, 3), (92, .ireturn, 1), (93, .aload_n 0, 1), (94, .getfield 38, 3), (97, .iload_n 1, 1), (98, .invokevirtual 62, 3), (101, .ireturn, 1), (102, .aload_n 0, 1), (103, .getfield 41, 3), (106, .iload_n 1, 1), (107, .invokevirtual 62, 3), (110, .ireturn, 1), (111, .aload_n 0, 1), (112, .getfield 44, 3), (115, .iload_n 1, 1), (116, .invokevirtual 62, 3), (119, .ireturn, 1)]
def TX2_rowPart : List (Nat × Instr × Nat) := [(0, .iload_n 2, 1), (1, .tableswitch 71 0 4 #[35, 44, 50, 56, 62], 35), (36, .aload_n 0, 1), (37, .getfield 29, 3), (40, .iload_n 1, 1), (41, .invokevirtual 62, 3), (44, .ireturn, 1), (45, .aload_n 0, 1), (46, .iload_n 1, 1), (47, .invokevirtual 137, 3), (50, .ireturn, 1), (51, .aload_n 0, 1), (52, .iload_n 1, 1), (53, .invokevirtual 149, 3), (56, .ireturn, 1), (57, .aload_n 0, 1), (58, .iload_n 1, 1), (59, .invokevirtual 73, 3), (62, .ireturn, 1), (63, .aload_n 0, 1), (64, .getfield 32, 3), (67, .iload_n 1, 1), (68, .invokevirtual 62, 3), (71, .ireturn, 1), (72, .aload_n 0, 1), (73, .iload_n 1, 1), (74, .iconst 0, 1), (75, .invokevirtual 87, 3), (78, .ireturn, 1)]
def TX2_requestPart : List (Nat × Instr × Nat) := [(0, .aload_n 0, 1), (1, .iload_n 1, 1), (2, .iload_n 2, 1), (3, .invokevirtual 87, 3), (6, .istore 4, 2), (8, .iload 4, 2), (10, .iconst (-1), 1), (11, .if_icmp .eq 7, 3), (14, .iload_n 3, 1), (15, .ifCond .ne 8, 3), (18, .iload 4, 2), (20, .goto 12, 3), (23, .aload_n 0, 1), (24, .getfield 23, 3), (27, .iload 4, 2), (29, .invokevirtual 62, 3), (32, .ireturn, 1)]
def TX2_total : List (Nat × Instr × Nat) := [(0, .iload_n 1, 1), (1, .tableswitch 102 0 7 #[47, 52, 57, 62, 70, 78, 86, 94], 47), (48, .aload_n 0, 1), (49, .invokevirtual 152, 3), (52, .ireturn, 1), (53, .aload_n 0, 1), (54, .invokevirtual 156, 3), (57, .ireturn, 1), (58, .aload_n 0, 1), (59, .getfield 50, 3), (62, .ireturn, 1), (63, .aload_n 0, 1), (64, .getfield 35, 3), (67, .invokevirtual 159, 3), (70, .ireturn, 1), (71, .aload_n 0, 1), (72, .getfield 38, 3), (75, .invokevirtual 159, 3), (78, .ireturn, 1), (79, .aload_n 0, 1), (80, .getfield 32, 3), (83, .invokevirtual 159, 3), (86, .ireturn, 1), (87, .aload_n 0, 1), (88, .getfield 41, 3), (91, .invokevirtual 159, 3), (94, .ireturn, 1), (95, .aload_n 0, 1), (96, .getfield 44, 3), (99, .invokevirtual 159, 3), (102, .ireturn, 1), (103, .aload_n 0, 1), (104, .invokevirtual 162, 3), (107, .ireturn, 1)]
def TX2_mostWaitedFor : List (Nat × Instr × Nat) := [(0, .aload_n 0, 1), (1, .invokevirtual 156, 3), (4, .ifCond .ne 5, 3), (7, .iconst (-1), 1), (8, .ireturn, 1), (9, .iconst (-1), 1), (10, .istore_n 1, 1), (11, .iconst 0, 1), (12, .istore_n 2, 1), (13, .iconst 0, 1), (14, .istore_n 3, 1), (15, .iload_n 3, 1), (16, .bipush 8, 2), (18, .if_icmp .ge 39, 3), (21, .aload_n 0, 1), (22, .iload_n 3, 1), (23, .invokevirtual 97, 3), (26, .ifCond .eq 7, 3), (29, .iconst 0, 1), (30, .goto 8, 3), (33, .aload_n 0, 1), (34, .iload_n 3, 1), (35, .invokevirtual 165, 3), (38, .istore 4, 2), (40, .iload 4, 2), (42, .iload_n 2, 1), (43, .if_icmp .le 8, 3), (46, .iload_n 3, 1), (47, .istore_n 1, 1), (48, .iload 4, 2), (50, .istore_n 2, 1), (51, .iinc 3 1, 3), (54, .goto (-39), 3), (57, .iload_n 1, 1), (58, .ireturn, 1)]
def TX2_waitersFor : List (Nat × Instr × Nat) := [(0, .iconst 0, 1), (1, .istore_n 2, 1), (2, .iconst 0, 1), (3, .istore_n 3, 1), (4, .iload_n 3, 1), (5, .bipush 8, 2), (7, .if_icmp .ge 24, 3), (10, .aload_n 0, 1), (11, .iload_n 3, 1), (12, .invokevirtual 108, 3), (15, .iload_n 1, 1), (16, .invokestatic 104, 3), (19, .ifCond .eq 6, 3), (22, .iinc 2 1, 3), (25, .iinc 3 1, 3), (28, .goto (-24), 3), (31, .iload_n 2, 1), (32, .ireturn, 1)]
def TX2_shareGranted : List (Nat × Instr × Nat) := [(0, .aload_n 0, 1), (1, .getfield 44, 3), (4, .invokevirtual 159, 3), (7, .istore_n 1, 1), (8, .iload_n 1, 1), (9, .ifCond .ne 7, 3), (12, .dconst 1, 1), (13, .goto 14, 3), (16, .aload_n 0, 1), (17, .getfield 41, 3), (20, .invokevirtual 159, 3), (23, .i2d, 1), (24, .iload_n 1, 1), (25, .i2d, 1), (26, .ddiv, 1), (27, .dreturn, 1)]
def TX3_init : List (Nat × Instr × Nat) := [(0, .aload_n 0, 1), (1, .invokespecial 3, 3), (4, .aload_n 0, 1), (5, .new 9, 3), (8, .dup, 1), (9, .bipush 60, 2), (11, .invokespecial 11, 3), (14, .putfield 14, 3), (17, .aload_n 0, 1), (18, .iconst 0, 1), (19, .putfield 20, 3), (22, .return_, 1)]
def TX3_add : List (Nat × Instr × Nat) := [(0, .aload_n 0, 1), (1, .getfield 14, 3), (4, .aload_n 0, 1), (5, .getfield 20, 3), (8, .iload_n 1, 1), (9, .invokevirtual 24, 3), (12, .aload_n 0, 1), (13, .dup, 1), (14, .getfield 20, 3), (17, .iconst 1, 1), (18, .iadd, 1), (19, .putfield 20, 3), (22, .aload_n 0, 1), (23, .getfield 20, 3), (26, .ireturn, 1)]
def TX3_empty : List (Nat × Instr × Nat) := [(0, .aload_n 0, 1), (1, .getfield 20, 3), (4, .istore_n 1, 1), (5, .aload_n 0, 1), (6, .iconst 0, 1), (7, .putfield 20, 3), (10, .iload_n 1, 1), (11, .ireturn, 1)]
def TX3_firstFault : List (Nat × Instr × Nat) := [(0, .iconst 0, 1), (1, .istore_n 1, 1), (2, .iconst 0, 1), (3, .istore_n 2, 1), (4, .iload_n 2, 1), (5, .aload_n 0, 1), (6, .getfield 20, 3), (9, .if_icmp .ge 29, 3), (12, .iload_n 1, 1), (13, .aload_n 0, 1), (14, .getfield 14, 3), (17, .iload_n 2, 1), (18, .invokevirtual 28, 3), (21, .invokestatic 32, 3), (24, .istore_n 1, 1), (25, .iload_n 1, 1), (26, .iconst 5, 1), (27, .if_icmp .ne 5, 3), (30, .iload_n 2, 1), (31, .ireturn, 1), (32, .iinc 2 1, 3), (35, .goto (-31), 3), (38, .aload_n 0, 1), (39, .getfield 20, 3), (42, .ireturn, 1)]
def TX3_isComplete : List (Nat × Instr × Nat) := [(0, .iconst 0, 1), (1, .istore_n 1, 1), (2, .iconst 0, 1), (3, .istore_n 2, 1), (4, .iload_n 2, 1), (5, .aload_n 0, 1), (6, .getfield 20, 3), (9, .if_icmp .ge 22, 3), (12, .iload_n 1, 1), (13, .aload_n 0, 1), (14, .getfield 14, 3), (17, .iload_n 2, 1), (18, .invokevirtual 28, 3), (21, .invokestatic 32, 3), (24, .istore_n 1, 1), (25, .iinc 2 1, 3), (28, .goto (-24), 3), (31, .iload_n 1, 1), (32, .iconst 4, 1), (33, .if_icmp .ne 7, 3), (36, .iconst 1, 1), (37, .goto 4, 3), (40, .iconst 0, 1), (41, .ireturn, 1)]
def TX3_dueAfter : List (Nat × Instr × Nat) := [(0, .iload_n 0, 1), (1, .tableswitch 126 0 4 #[35, 53, 74, 101, 114], 35), (36, .iload_n 1, 1), (37, .bipush 97, 2), (39, .if_icmp .lt 13, 3), (42, .iload_n 1, 1), (43, .bipush 104, 2), (45, .if_icmp .gt 7, 3), (48, .iconst 1, 1), (49, .goto 4, 3), (52, .iconst 5, 1), (53, .ireturn, 1), (54, .iload_n 1, 1), (55, .bipush 49, 2), (57, .if_icmp .ne 5, 3), (60, .iconst 2, 1), (61, .ireturn, 1), (62, .iload_n 1, 1), (63, .invokestatic 36, 3), (66, .ifCond .eq 7, 3), (69, .iconst 3, 1), (70, .goto 4, 3), (73, .iconst 5, 1), (74, .ireturn, 1), (75, .iload_n 1, 1), (76, .bipush 48, 2), (78, .if_icmp .eq 9, 3), (81, .iload_n 1, 1), (82, .bipush 49, 2), (84, .if_icmp .ne 5, 3), (87, .iconst 3, 1), (88, .ireturn, 1), (89, .iload_n 1, 1), (90, .invokestatic 40, 3), (93, .ifCond .eq 7, 3), (96, .iconst 4, 1), (97, .goto 4, 3), (100, .iconst 5, 1), (101, .ireturn, 1), (102, .iload_n 1, 1), (103, .invokestatic 40, 3), (106, .ifCond .eq 7, 3), (109, .iconst 4, 1), (110, .goto 4, 3), (113, .iconst 5, 1), (114, .ireturn, 1), (115, .iload_n 1, 1), (116, .bipush 44, 2), (118, .if_icmp .ne 7, 3), (121, .iconst 0, 1), (122, .goto 4, 3), (125, .iconst 5, 1), (126, .ireturn, 1), (127, .iconst 5, 1), (128, .ireturn, 1)]
def TX3_isDigit : List (Nat × Instr × Nat) := [(0, .iload_n 0, 1), (1, .bipush 48, 2), (3, .if_icmp .lt 13, 3), (6, .iload_n 0, 1), (7, .bipush 57, 2), (9, .if_icmp .gt 7, 3), (12, .iconst 1, 1), (13, .goto 4, 3), (16, .iconst 0, 1), (17, .ireturn, 1)]
def TX3_isDeed : List (Nat × Instr × Nat) := [(0, .iload_n 0, 1), (1, .bipush 112, 2), (3, .if_icmp .eq 21, 3), (6, .iload_n 0, 1), (7, .bipush 115, 2), (9, .if_icmp .eq 15, 3), (12, .iload_n 0, 1), (13, .bipush 104, 2), (15, .if_icmp .eq 9, 3), (18, .iload_n 0, 1), (19, .bipush 45, 2), (21, .if_icmp .ne 7, 3), (24, .iconst 1, 1), (25, .goto 4, 3), (28, .iconst 0, 1), (29, .ireturn, 1)]
def TX3_deedFrom : List (Nat × Instr × Nat) := [(0, .iload_n 1, 1), (1, .iconst 1, 1), (2, .iadd, 1), (3, .istore_n 2, 1), (4, .iload_n 2, 1), (5, .aload_n 0, 1), (6, .getfield 20, 3), (9, .if_icmp .ge 23, 3), (12, .aload_n 0, 1), (13, .getfield 14, 3), (16, .iload_n 2, 1), (17, .invokevirtual 28, 3), (20, .invokestatic 36, 3), (23, .ifCond .eq 9, 3), (26, .iinc 2 1, 3), (29, .goto (-25), 3), (32, .iload_n 2, 1), (33, .ireturn, 1)]
def TX3_numberBetween : List (Nat × Instr × Nat) := [(0, .iconst 0, 1), (1, .istore_n 3, 1), (2, .iload_n 1, 1), (3, .iconst 1, 1), (4, .iadd, 1), (5, .istore 4, 2), (7, .iload 4, 2), (9, .iload_n 2, 1), (10, .if_icmp .ge 27, 3), (13, .iload_n 3, 1), (14, .bipush 10, 2), (16, .imul, 1), (17, .aload_n 0, 1), (18, .getfield 14, 3), (21, .iload 4, 2), (23, .invokevirtual 28, 3), (26, .iadd, 1), (27, .bipush 48, 2), (29, .isub, 1), (30, .istore_n 3, 1), (31, .iinc 4 1, 3), (34, .goto (-27), 3), (37, .iload_n 3, 1), (38, .ireturn, 1)]
def TX4_init : List (Nat × Instr × Nat) := [(0, .aload_n 0, 1), (1, .invokespecial 1, 3), (4, .aload_n 0, 1), (5, .new 7, 3), (8, .dup, 1), (9, .invokespecial 9, 3), (12, .putfield 10, 3), (15, .aload_n 0, 1), (16, .new 7, 3), (19, .dup, 1), (20, .invokespecial 9, 3), (23, .putfield 16, 3), (26, .aload_n 0, 1), (27, .new 19, 3), (30, .dup, 1), (31, .invokespecial 21, 3), (34, .putfield 22, 3), (37, .aload_n 0, 1), (38, .new 26, 3), (41, .dup, 1), (42, .invokespecial 28, 3), (45, .putfield 29, 3), (48, .return_, 1)]
def TX4_ask : List (Nat × Instr × Nat) := [(0, .iload_n 1, 1), (1, .invokestatic 33, 3), (4, .ifCond .eq 10, 3), (7, .iload_n 2, 1), (8, .invokestatic 37, 3), (11, .ifCond .ne 13, 3), (14, .new 40, 3), (17, .dup, 1), (18, .ldc 42, 2), (20, .invokespecial 44, 3), (23, .athrow, 1), (24, .iload_n 3, 1), (25, .invokestatic 47, 3), (28, .ifCond .ne 13, 3), (31, .new 50, 3), (34, .dup, 1), (35, .ldc 52, 2), (37, .invokespecial 54, 3), (40, .athrow, 1), (41, .aload_n 0, 1), (42, .getfield 10, 3), (45, .iload_n 1, 1), (46, .invokevirtual 55, 3), (49, .ifCond .eq 13, 3), (52, .new 58, 3), (55, .dup, 1), (56, .ldc 60, 2), (58, .invokespecial 62, 3), (61, .athrow, 1), (62, .aload_n 0, 1), (63, .getfield 22, 3), (66, .aload_n 0, 1), (67, .getfield 10, 3), (70, .invokevirtual 63, 3), (73, .aload_n 0, 1), (74, .getfield 10, 3), (77, .iload_n 1, 1), (78, .iload_n 2, 1), (79, .iload_n 3, 1), (80, .invokevirtual 67, 3), (83, .ireturn, 1)]
def TX4_release : List (Nat × Instr × Nat) := [(0, .iload_n 1, 1), (1, .invokestatic 33, 3), (4, .ifCond .eq 10, 3), (7, .iload_n 2, 1), (8, .invokestatic 37, 3), (11, .ifCond .ne 13, 3), (14, .new 40, 3), (17, .dup, 1), (18, .ldc 42, 2), (20, .invokespecial 44, 3), (23, .athrow, 1), (24, .aload_n 0, 1), (25, .getfield 10, 3), (28, .iload_n 1, 1), (29, .iload_n 2, 1), (30, .invokevirtual 71, 3), (33, .ifCond .ne 13, 3), (36, .new 58, 3), (39, .dup, 1), (40, .ldc 75, 2), (42, .invokespecial 62, 3), (45, .athrow, 1), (46, .aload_n 0, 1), (47, .getfield 22, 3), (50, .aload_n 0, 1), (51, .getfield 10, 3), (54, .invokevirtual 63, 3), (57, .aload_n 0, 1), (58, .getfield 10, 3), (61, .iload_n 1, 1), (62, .iload_n 2, 1), (63, .invokevirtual 77, 3), (66, .ireturn, 1)]
def TX4_giveUp : List (Nat × Instr × Nat) := [(0, .iload_n 1, 1), (1, .invokestatic 33, 3), (4, .ifCond .ne 13, 3), (7, .new 40, 3), (10, .dup, 1), (11, .ldc 81, 2), (13, .invokespecial 44, 3), (16, .athrow, 1), (17, .aload_n 0, 1), (18, .getfield 10, 3), (21, .iload_n 1, 1), (22, .invokevirtual 55, 3), (25, .ifCond .ne 13, 3), (28, .new 58, 3), (31, .dup, 1), (32, .ldc 83, 2), (34, .invokespecial 62, 3), (37, .athrow, 1), (38, .aload_n 0, 1), (39, .getfield 22, 3), (42, .aload_n 0, 1), (43, .getfield 10, 3), (46, .invokevirtual 63, 3), (49, .aload_n 0, 1), (50, .getfield 10, 3), (53, .iload_n 1, 1), (54, .invokevirtual 85, 3), (57, .ireturn, 1)]
def TX4_handOn : List (Nat × Instr × Nat) := [(0, .iload_n 1, 1), (1, .invokestatic 33, 3), (4, .ifCond .eq 17, 3), (7, .iload_n 2, 1), (8, .invokestatic 37, 3), (11, .ifCond .eq 10, 3), (14, .iload_n 3, 1), (15, .invokestatic 33, 3), (18, .ifCond .ne 13, 3), (21, .new 40, 3), (24, .dup, 1), (25, .ldc 42, 2), (27, .invokespecial 44, 3), (30, .athrow, 1), (31, .aload_n 0, 1), (32, .getfield 10, 3), (35, .iload_n 1, 1), (36, .iload_n 2, 1), (37, .iload_n 3, 1), (38, .invokevirtual 89, 3), (41, .ifCond .ne 13, 3), (44, .new 58, 3), (47, .dup, 1), (48, .ldc 93, 2), (50, .invokespecial 62, 3), (53, .athrow, 1), (54, .aload_n 0, 1), (55, .getfield 22, 3), (58, .aload_n 0, 1), (59, .getfield 10, 3), (62, .invokevirtual 63, 3), (65, .aload_n 0, 1), (66, .getfield 10, 3), (69, .iload_n 1, 1), (70, .iload_n 2, 1), (71, .iload_n 3, 1), (72, .invokevirtual 95, 3), (75, .ireturn, 1)]
def TX4_pass : List (Nat × Instr × Nat) := [(0, .iload_n 1, 1), (1, .iconst 1, 1), (2, .if_icmp .lt 9, 3), (5, .iload_n 1, 1), (6, .bipush 100, 2), (8, .if_icmp .le 13, 3), (11, .new 50, 3), (14, .dup, 1), (15, .ldc 98, 2), (17, .invokespecial 54, 3), (20, .athrow, 1), (21, .aload_n 0, 1), (22, .getfield 22, 3), (25, .aload_n 0, 1), (26, .getfield 10, 3), (29, .invokevirtual 63, 3), (32, .iconst 0, 1), (33, .istore_n 2, 1), (34, .iconst 0, 1), (35, .istore_n 3, 1), (36, .iload_n 3, 1), (37, .iload_n 1, 1), (38, .if_icmp .ge 19, 3), (41, .iload_n 2, 1), (42, .aload_n 0, 1), (43, .getfield 10, 3), (46, .invokevirtual 100, 3), (49, .iadd, 1), (50, .istore_n 2, 1), (51, .iinc 3 1, 3), (54, .goto (-18), 3), (57, .iload_n 2, 1), (58, .ireturn, 1)]
def TX4_cool : List (Nat × Instr × Nat) := [(0, .iload_n 1, 1), (1, .invokestatic 37, 3), (4, .ifCond .ne 13, 3), (7, .new 40, 3), (10, .dup, 1), (11, .ldc 104, 2), (13, .invokespecial 44, 3), (16, .athrow, 1), (17, .aload_n 0, 1), (18, .getfield 10, 3), (21, .iload_n 1, 1), (22, .invokevirtual 106, 3), (25, .ifCond .eq 13, 3), (28, .new 58, 3), (31, .dup, 1), (32, .ldc 109, 2), (34, .invokespecial 62, 3), (37, .athrow, 1), (38, .aload_n 0, 1), (39, .getfield 22, 3), (42, .aload_n 0, 1), (43, .getfield 10, 3), (46, .invokevirtual 63, 3), (49, .aload_n 0, 1), (50, .getfield 10, 3), (53, .getfield 111, 3), (56, .iload_n 1, 1), (57, .invokevirtual 115, 3), (60, .istore_n 2, 1), (61, .aload_n 0, 1), (62, .getfield 10, 3), (65, .getfield 111, 3), (68, .iload_n 1, 1), (69, .iconst 0, 1), (70, .invokevirtual 120, 3), (73, .iload_n 2, 1), (74, .ireturn, 1)]
def TX4_set : List (Nat × Instr × Nat) := [(0, .iload_n 1, 1), (1, .invokestatic 124, 3), (4, .ifCond .ne 13, 3), (7, .new 40, 3), (10, .dup, 1), (11, .ldc 127, 2), (13, .invokespecial 44, 3), (16, .athrow, 1), (17, .iload_n 2, 1), (18, .iload_n 1, 1), (19, .invokestatic 129, 3), (22, .if_icmp .lt 11, 3), (25, .iload_n 2, 1), (26, .iload_n 1, 1), (27, .invokestatic 132, 3), (30, .if_icmp .le 13, 3), (33, .new 50, 3), (36, .dup, 1), (37, .ldc 135, 2), (39, .invokespecial 54, 3), (42, .athrow, 1), (43, .aload_n 0, 1), (44, .getfield 22, 3), (47, .aload_n 0, 1), (48, .getfield 10, 3), (51, .invokevirtual 63, 3), (54, .aload_n 0, 1), (55, .getfield 10, 3), (58, .getfield 137, 3), (61, .iload_n 1, 1), (62, .invokevirtual 115, 3), (65, .istore_n 3, 1), (66, .aload_n 0, 1), (67, .getfield 10, 3), (70, .getfield 137, 3), (73, .iload_n 1, 1), (74, .iload_n 2, 1), (75, .invokevirtual 120, 3), (78, .iload_n 3, 1), (79, .ireturn, 1)]
def TX4_append : List (Nat × Instr × Nat) := [(0, .iload_n 1, 1), (1, .bipush 33, 2), (3, .if_icmp .lt 9, 3), (6, .iload_n 1, 1), (7, .bipush 126, 2), (9, .if_icmp .le 13, 3), (12, .new 50, 3), (15, .dup, 1), (16, .ldc 140, 2), (18, .invokespecial 54, 3), (21, .athrow, 1), (22, .aload_n 0, 1), (23, .getfield 29, 3), (26, .getfield 142, 3), (29, .bipush 60, 2), (31, .if_icmp .lt 13, 3), (34, .new 58, 3), (37, .dup, 1), (38, .ldc 146, 2), (40, .invokespecial 62, 3), (43, .athrow, 1), (44, .aload_n 0, 1), (45, .getfield 29, 3), (48, .iload_n 1, 1), (49, .invokevirtual 148, 3), (52, .ireturn, 1)]
def TX4_clearBuffer : List (Nat × Instr × Nat) := [(0, .aload_n 0, 1), (1, .getfield 29, 3), (4, .invokevirtual 151, 3), (7, .ireturn, 1)]
def TX4_firstError : List (Nat × Instr × Nat) := [(0, .aload_n 0, 1), (1, .getfield 29, 3), (4, .invokevirtual 154, 3), (7, .ireturn, 1)]
def TX4_run : List (Nat × Instr × Nat) := [(0, .aload_n 0, 1), (1, .getfield 29, 3), (4, .invokevirtual 157, 3), (7, .ifCond .ne 13, 3), (10, .new 50, 3), (13, .dup, 1), (14, .ldc 161, 2), (16, .invokespecial 54, 3), (19, .athrow, 1), (20, .aload_n 0, 1), (21, .getfield 22, 3), (24, .aload_n 0, 1), (25, .getfield 10, 3), (28, .invokevirtual 63, 3), (31, .iconst 0, 1), (32, .istore_n 1, 1), (33, .iconst 0, 1), (34, .istore_n 2, 1), (35, .iconst 0, 1), (36, .istore_n 3, 1), (37, .iload_n 3, 1), (38, .bipush 60, 2), (40, .if_icmp .ge 51, 3), (43, .iload_n 2, 1), (44, .aload_n 0, 1), (45, .getfield 29, 3), (48, .getfield 142, 3), (51, .if_icmp .ge 40, 3), (54, .aload_n 0, 1), (55, .getfield 29, 3), (58, .iload_n 2, 1), (59, .invokevirtual 163, 3), (62, .istore 4, 2), (64, .aload_n 0, 1), (65, .iload_n 2, 1), (66, .iload 4, 2), (68, .invokevirtual 166, 3), (71, .ifCond .ne 6, 3), (74, .goto 17, 3), (77, .iinc 1 1, 3), (80, .iload 4, 2), (82, .iconst 2, 1), (83, .iadd, 1), (84, .istore_n 2, 1), (85, .iinc 3 1, 3), (88, .goto (-51), 3), (91, .aload_n 0, 1), (92, .getfield 29, 3), (95, .invokevirtual 151, 3), (98, .pop, 1), (99, .iload_n 1, 1), (100, .ireturn, 1)]
def TX4_undo : List (Nat × Instr × Nat) := [(0, .aload_n 0, 1), (1, .getfield 22, 3), (4, .getfield 169, 3), (7, .ifCond .ne 13, 3), (10, .new 58, 3), (13, .dup, 1), (14, .ldc 172, 2), (16, .invokespecial 62, 3), (19, .athrow, 1), (20, .aload_n 0, 1), (21, .getfield 22, 3), (24, .aload_n 0, 1), (25, .getfield 10, 3), (28, .invokevirtual 174, 3), (31, .ireturn, 1)]
def TX4_lock : List (Nat × Instr × Nat) := [(0, .iload_n 1, 1), (1, .invokestatic 33, 3), (4, .ifCond .eq 10, 3), (7, .iload_n 2, 1), (8, .invokestatic 37, 3), (11, .ifCond .ne 13, 3), (14, .new 40, 3), (17, .dup, 1), (18, .ldc 42, 2), (20, .invokespecial 44, 3), (23, .athrow, 1), (24, .aload_n 0, 1), (25, .getfield 10, 3), (28, .getfield 178, 3), (31, .iload_n 1, 1), (32, .iload_n 2, 1), (33, .invokestatic 181, 3), (36, .invokevirtual 115, 3), (39, .ireturn, 1)]
def TX4_hand : List (Nat × Instr × Nat) := [(0, .iload_n 1, 1), (1, .invokestatic 33, 3), (4, .ifCond .ne 13, 3), (7, .new 40, 3), (10, .dup, 1), (11, .ldc 81, 2), (13, .invokespecial 44, 3), (16, .athrow, 1), (17, .iload_n 2, 1), (18, .ifCond .lt 9, 3), (21, .iload_n 2, 1), (22, .bipush 9, 2), (24, .if_icmp .lt 13, 3), (27, .new 50, 3), (30, .dup, 1), (31, .ldc 184, 2), (33, .invokespecial 54, 3), (36, .athrow, 1), (37, .aload_n 0, 1), (38, .getfield 10, 3), (41, .iload_n 1, 1), (42, .iload_n 2, 1), (43, .invokevirtual 186, 3), (46, .ireturn, 1)]
def TX4_row : List (Nat × Instr × Nat) := [(0, .iload_n 1, 1), (1, .invokestatic 37, 3), (4, .ifCond .ne 13, 3), (7, .new 40, 3), (10, .dup, 1), (11, .ldc 104, 2), (13, .invokespecial 44, 3), (16, .athrow, 1), (17, .iload_n 2, 1), (18, .ifCond .lt 9, 3), (21, .iload_n 2, 1), (22, .bipush 6, 2), (24, .if_icmp .lt 13, 3), (27, .new 50, 3), (30, .dup, 1), (31, .ldc 189, 2), (33, .invokespecial 54, 3), (36, .athrow, 1), (37, .aload_n 0, 1), (38, .getfield 10, 3), (41, .iload_n 1, 1), (42, .iload_n 2, 1), (43, .invokevirtual 191, 3), (46, .ireturn, 1)]
def TX4_request : List (Nat × Instr × Nat) := [(0, .iload_n 1, 1), (1, .invokestatic 37, 3), (4, .ifCond .ne 13, 3), (7, .new 40, 3), (10, .dup, 1), (11, .ldc 104, 2), (13, .invokespecial 44, 3), (16, .athrow, 1), (17, .iload_n 2, 1), (18, .ifCond .lt 18, 3), (21, .iload_n 2, 1), (22, .bipush 8, 2), (24, .if_icmp .ge 12, 3), (27, .iload_n 3, 1), (28, .ifCond .lt 8, 3), (31, .iload_n 3, 1), (32, .iconst 2, 1), (33, .if_icmp .lt 13, 3), (36, .new 50, 3), (39, .dup, 1), (40, .ldc 194, 2), (42, .invokespecial 54, 3), (45, .athrow, 1), (46, .aload_n 0, 1), (47, .getfield 10, 3), (50, .iload_n 1, 1), (51, .iload_n 2, 1), (52, .iload_n 3, 1), (53, .invokevirtual 196, 3), (56, .ireturn, 1)]
def TX4_count : List (Nat × Instr × Nat) := [(0, .iload_n 1, 1), (1, .ifCond .lt 9, 3), (4, .iload_n 1, 1), (5, .bipush 10, 2), (7, .if_icmp .lt 13, 3), (10, .new 50, 3), (13, .dup, 1), (14, .ldc 199, 2), (16, .invokespecial 54, 3), (19, .athrow, 1), (20, .aload_n 0, 1), (21, .iload_n 1, 1), (22, .invokevirtual 201, 3), (25, .ireturn, 1)]
def TX4_setting : List (Nat × Instr × Nat) := [(0, .iload_n 1, 1), (1, .invokestatic 124, 3), (4, .ifCond .ne 13, 3), (7, .new 40, 3), (10, .dup, 1), (11, .ldc 127, 2), (13, .invokespecial 44, 3), (16, .athrow, 1), (17, .aload_n 0, 1), (18, .getfield 10, 3), (21, .getfield 137, 3), (24, .iload_n 1, 1), (25, .invokevirtual 115, 3), (28, .ireturn, 1)]
def TX4_ifAsked : List (Nat × Instr × Nat) := [(0, .iload_n 1, 1), (1, .invokestatic 33, 3), (4, .ifCond .eq 10, 3), (7, .iload_n 2, 1), (8, .invokestatic 37, 3), (11, .ifCond .ne 13, 3), (14, .new 40, 3), (17, .dup, 1), (18, .ldc 42, 2), (20, .invokespecial 44, 3), (23, .athrow, 1), (24, .iload_n 3, 1), (25, .invokestatic 47, 3), (28, .ifCond .eq 14, 3), (31, .iload 4, 2), (33, .ifCond .lt 9, 3), (36, .iload 4, 2), (38, .iconst 3, 1), (39, .if_icmp .lt 13, 3), (42, .new 50, 3), (45, .dup, 1), (46, .ldc 204, 2), (48, .invokespecial 54, 3), (51, .athrow, 1), (52, .aload_n 0, 1), (53, .aload_n 0, 1), (54, .iload_n 1, 1), (55, .iload_n 2, 1), (56, .iload_n 3, 1), (57, .invokevirtual 206, 3), (60, .iload 4, 2), (62, .invokevirtual 209, 3), (65, .ireturn, 1)]
def TX4_takers : List (Nat × Instr × Nat) := [(0, .iload_n 1, 1), (1, .invokestatic 33, 3), (4, .ifCond .eq 10, 3), (7, .iload_n 2, 1), (8, .invokestatic 37, 3), (11, .ifCond .ne 13, 3), (14, .new 40, 3), (17, .dup, 1), (18, .ldc 42, 2), (20, .invokespecial 44, 3), (23, .athrow, 1), (24, .aload_n 0, 1), (25, .getfield 10, 3), (28, .iload_n 1, 1), (29, .iload_n 2, 1), (30, .invokevirtual 212, 3), (33, .ireturn, 1)]
def TX4_burnsIn : List (Nat × Instr × Nat) := [(0, .iload_n 1, 1), (1, .invokestatic 37, 3), (4, .ifCond .ne 13, 3), (7, .new 40, 3), (10, .dup, 1), (11, .ldc 104, 2), (13, .invokespecial 44, 3), (16, .athrow, 1), (17, .aload_n 0, 1), (18, .getfield 10, 3), (21, .iload_n 1, 1), (22, .invokevirtual 215, 3), (25, .ireturn, 1)]
def TX4_waitsFor : List (Nat × Instr × Nat) := [(0, .iload_n 1, 1), (1, .invokestatic 33, 3), (4, .ifCond .ne 13, 3), (7, .new 40, 3), (10, .dup, 1), (11, .ldc 81, 2), (13, .invokespecial 44, 3), (16, .athrow, 1), (17, .aload_n 0, 1), (18, .getfield 10, 3), (21, .iload_n 1, 1), (22, .invokevirtual 218, 3), (25, .ireturn, 1)]
def TX4_busiest : List (Nat × Instr × Nat) := [(0, .aload_n 0, 1), (1, .getfield 10, 3), (4, .invokevirtual 221, 3), (7, .ireturn, 1)]
def TX4_grantedShare : List (Nat × Instr × Nat) := [(0, .aload_n 0, 1), (1, .getfield 10, 3), (4, .invokevirtual 224, 3), (7, .dreturn, 1)]
def TX4_digest_0 : List (Nat × Instr × Nat) := [(0, .ldc2_w 228, 3), (3, .lstore_n 1, 1), (4, .iconst 0, 1), (5, .istore_n 3, 1), (6, .iload_n 3, 1), (7, .bipush 10, 2), (9, .if_icmp .ge 20, 3), (12, .lload_n 1, 1), (13, .aload_n 0, 1), (14, .iload_n 3, 1), (15, .invokevirtual 201, 3), (18, .i2l, 1), (19, .invokestatic 230, 3), (22, .lstore_n 1, 1), (23, .iinc 3 1, 3), (26, .goto (-20), 3), (29, .iconst 0, 1), (30, .istore_n 3, 1), (31, .iload_n 3, 1), (32, .iconst 3, 1), (33, .if_icmp .ge 26, 3), (36, .lload_n 1, 1), (37, .aload_n 0, 1), (38, .getfield 10, 3), (41, .getfield 137, 3), (44, .iload_n 3, 1), (45, .invokevirtual 115, 3), (48, .i2l, 1), (49, .invokestatic 230, 3), (52, .lstore_n 1, 1), (53, .iinc 3 1, 3), (56, .goto (-25), 3), (59, .iconst 0, 1), (60, .istore_n 3, 1), (61, .iload_n 3, 1), (62, .bipush 8, 2), (64, .if_icmp .ge 16, 3), (67, .aload_n 0, 1), (68, .lload_n 1, 1), (69, .iload_n 3, 1), (70, .invokevirtual 234, 3), (73, .lstore_n 1, 1), (74, .iinc 3 1, 3), (77, .goto (-16), 3), (80, .iconst 0, 1), (81, .istore_n 3, 1), (82, .iload_n 3, 1), (83, .bipush 12, 2), (85, .if_icmp .ge 23, 3), (88, .aload_n 0, 1), (89, .lload_n 1, 1), (90, .iload_n 3, 1), (91, .aload_n 0, 1), (92, .iconst 0, 1), (93, .iload_n 3, 1), (94, .iconst 3, 1), (95, .invokevirtual 206, 3), (98, .invokevirtual 238, 3), (101, .lstore_n 1, 1), (102, .iinc 3 1, 3)]
def TX4_digest_1 : List (Nat × Instr × Nat) := [(105, .goto (-23), 3), (108, .lload_n 1, 1), (109, .aload_n 0, 1), (110, .getfield 10, 3), (113, .invokevirtual 221, 3), (116, .i2l, 1), (117, .invokestatic 230, 3), (120, .lstore_n 1, 1), (121, .lload_n 1, 1), (122, .aload_n 0, 1), (123, .getfield 10, 3), (126, .invokevirtual 224, 3), (129, .invokestatic 242, 3), (132, .invokestatic 230, 3), (135, .lstore_n 1, 1), (136, .lload_n 1, 1), (137, .aload_n 0, 1), (138, .getfield 29, 3), (141, .getfield 142, 3), (144, .i2l, 1), (145, .invokestatic 230, 3), (148, .lstore_n 1, 1), (149, .iconst 0, 1), (150, .istore_n 3, 1), (151, .iload_n 3, 1), (152, .aload_n 0, 1), (153, .getfield 29, 3), (156, .getfield 142, 3), (159, .if_icmp .ge 26, 3), (162, .lload_n 1, 1), (163, .aload_n 0, 1), (164, .getfield 29, 3), (167, .getfield 246, 3), (170, .iload_n 3, 1), (171, .invokevirtual 115, 3), (174, .i2l, 1), (175, .invokestatic 230, 3), (178, .lstore_n 1, 1), (179, .iinc 3 1, 3), (182, .goto (-31), 3), (185, .lload_n 1, 1), (186, .lreturn, 1)]
def TX4_digest : List (Nat × Instr × Nat) := TX4_digest_0 ++ TX4_digest_1
def TX4_isHand : List (Nat × Instr × Nat) := [(0, .iload_n 0, 1), (1, .ifCond .lt 13, 3), (4, .iload_n 0, 1), (5, .bipush 8, 2), (7, .if_icmp .ge 7, 3), (10, .iconst 1, 1), (11, .goto 4, 3), (14, .iconst 0, 1), (15, .ireturn, 1)]
def TX4_isRow : List (Nat × Instr × Nat) := [(0, .iload_n 0, 1), (1, .ifCond .lt 13, 3), (4, .iload_n 0, 1), (5, .bipush 12, 2), (7, .if_icmp .ge 7, 3), (10, .iconst 1, 1), (11, .goto 4, 3), (14, .iconst 0, 1), (15, .ireturn, 1)]
def TX4_isMode : List (Nat × Instr × Nat) := [(0, .iload_n 0, 1), (1, .iconst 1, 1), (2, .if_icmp .lt 12, 3), (5, .iload_n 0, 1), (6, .iconst 3, 1), (7, .if_icmp .gt 7, 3), (10, .iconst 1, 1), (11, .goto 4, 3), (14, .iconst 0, 1), (15, .ireturn, 1)]
def TX4_isSetting : List (Nat × Instr × Nat) := [(0, .iload_n 0, 1), (1, .ifCond .lt 12, 3), (4, .iload_n 0, 1), (5, .iconst 3, 1), (6, .if_icmp .ge 7, 3), (9, .iconst 1, 1), (10, .goto 4, 3), (13, .iconst 0, 1), (14, .ireturn, 1)]
def TX4_leastValue : List (Nat × Instr × Nat) := [(0, .iload_n 0, 1), (1, .ifCond .ne 8, 3), (4, .bipush 10, 2), (6, .goto 4, 3), (9, .iconst 0, 1), (10, .ireturn, 1)]
def TX4_greatestValue : List (Nat × Instr × Nat) := [(0, .iload_n 0, 1), (1, .ifCond .ne 7, 3), (4, .sipush 900, 3), (7, .ireturn, 1), (8, .iload_n 0, 1), (9, .iconst 1, 1), (10, .if_icmp .ne 8, 3), (13, .bipush 20, 2), (15, .goto 5, 3), (18, .bipush 50, 2), (20, .ireturn, 1)]
def TX4_cell : List (Nat × Instr × Nat) := [(0, .iload_n 0, 1), (1, .bipush 12, 2), (3, .imul, 1), (4, .iload_n 1, 1), (5, .iadd, 1), (6, .ireturn, 1)]
def TX4_has : List (Nat × Instr × Nat) := [(0, .iload_n 0, 1), (1, .iload_n 1, 1), (2, .ishr, 1), (3, .iconst 1, 1), (4, .iand, 1), (5, .ifCond .eq 7, 3), (8, .iconst 1, 1), (9, .goto 4, 3), (12, .iconst 0, 1), (13, .ireturn, 1)]
def TX4_carryOut : List (Nat × Instr × Nat) := [(0, .aload_n 0, 1), (1, .getfield 29, 3), (4, .getfield 246, 3), (7, .iload_n 1, 1), (8, .invokevirtual 115, 3), (11, .bipush 97, 2), (13, .isub, 1), (14, .istore_n 3, 1), (15, .aload_n 0, 1), (16, .getfield 29, 3), (19, .iload_n 1, 1), (20, .iload_n 2, 1), (21, .invokevirtual 249, 3), (24, .istore 4, 2), (26, .aload_n 0, 1), (27, .getfield 29, 3), (30, .getfield 246, 3), (33, .iload_n 2, 1), (34, .invokevirtual 115, 3), (37, .invokestatic 252, 3), (40, .istore 5, 2), (42, .iload 5, 2), (44, .ifCond .ne 31, 3), (47, .aload_n 0, 1), (48, .getfield 10, 3), (51, .iload_n 3, 1), (52, .iload 4, 2), (54, .invokevirtual 71, 3), (57, .ifCond .ne 5, 3), (60, .iconst 0, 1), (61, .ireturn, 1), (62, .aload_n 0, 1), (63, .getfield 10, 3), (66, .iload_n 3, 1), (67, .iload 4, 2), (69, .invokevirtual 77, 3), (72, .pop, 1), (73, .iconst 1, 1), (74, .ireturn, 1), (75, .aload_n 0, 1), (76, .getfield 10, 3), (79, .iload_n 3, 1), (80, .invokevirtual 55, 3), (83, .ifCond .eq 5, 3), (86, .iconst 0, 1), (87, .ireturn, 1), (88, .aload_n 0, 1), (89, .getfield 10, 3), (92, .iload_n 3, 1), (93, .iload 4, 2), (95, .iload 5, 2), (97, .invokevirtual 67, 3), (100, .pop, 1), (101, .iconst 1, 1), (102, .ireturn, 1)]
def TX4_modeOf : List (Nat × Instr × Nat) := [(0, .iload_n 0, 1), (1, .lookupswitch 41 #[(104, 39), (112, 35), (115, 37)], 35), (36, .iconst 1, 1), (37, .ireturn, 1), (38, .iconst 2, 1), (39, .ireturn, 1), (40, .iconst 3, 1), (41, .ireturn, 1), (42, .iconst 0, 1), (43, .ireturn, 1)]
def TX4_numberOf : List (Nat × Instr × Nat) := [(0, .iload_n 1, 1), (1, .bipush 9, 2), (3, .if_icmp .ne 13, 3), (6, .aload_n 0, 1), (7, .getfield 22, 3), (10, .getfield 169, 3), (13, .goto 11, 3), (16, .aload_n 0, 1), (17, .getfield 10, 3), (20, .iload_n 1, 1), (21, .invokevirtual 255, 3), (24, .ireturn, 1)]
def TX4_tryAsking : List (Nat × Instr × Nat) := [(0, .aload_n 0, 1), (1, .getfield 10, 3), (4, .iload_n 1, 1), (5, .invokevirtual 55, 3), (8, .ifCond .eq 5, 3), (11, .iconst (-1), 1), (12, .ireturn, 1), (13, .aload_n 0, 1), (14, .getfield 16, 3), (17, .aload_n 0, 1), (18, .getfield 10, 3), (21, .invokevirtual 258, 3), (24, .aload_n 0, 1), (25, .getfield 16, 3), (28, .iload_n 1, 1), (29, .iload_n 2, 1), (30, .iload_n 3, 1), (31, .invokevirtual 67, 3), (34, .ireturn, 1)]
def TX4_trialPart : List (Nat × Instr × Nat) := [(0, .iload_n 1, 1), (1, .iconst (-1), 1), (2, .if_icmp .eq 7, 3), (5, .iload_n 2, 1), (6, .ifCond .ne 5, 3), (9, .iload_n 1, 1), (10, .ireturn, 1), (11, .iload_n 2, 1), (12, .iconst 1, 1), (13, .if_icmp .ne 27, 3), (16, .aload_n 0, 1), (17, .getfield 16, 3), (20, .getfield 261, 3), (23, .invokevirtual 264, 3), (26, .aload_n 0, 1), (27, .getfield 10, 3), (30, .getfield 261, 3), (33, .invokevirtual 264, 3), (36, .isub, 1), (37, .goto 10, 3), (40, .aload_n 0, 1), (41, .getfield 16, 3), (44, .invokevirtual 267, 3), (47, .ireturn, 1)]
def TX4_mix : List (Nat × Instr × Nat) := [(0, .ldc2_w 270, 3), (3, .lload_n 0, 1), (4, .lmul, 1), (5, .lload_n 2, 1), (6, .ladd, 1), (7, .lreturn, 1)]
def TX4_mixHand : List (Nat × Instr × Nat) := [(0, .lload_n 1, 1), (1, .lstore 4, 2), (3, .iconst 0, 1), (4, .istore 6, 2), (6, .iload 6, 2), (8, .bipush 9, 2), (10, .if_icmp .ge 27, 3), (13, .lload 4, 2), (15, .aload_n 0, 1), (16, .getfield 10, 3), (19, .iload_n 3, 1), (20, .iload 6, 2), (22, .invokevirtual 186, 3), (25, .i2l, 1), (26, .invokestatic 230, 3), (29, .lstore 4, 2), (31, .iinc 6 1, 3), (34, .goto (-28), 3), (37, .iconst 0, 1), (38, .istore 6, 2), (40, .iload 6, 2), (42, .bipush 12, 2), (44, .if_icmp .ge 33, 3), (47, .lload 4, 2), (49, .aload_n 0, 1), (50, .getfield 10, 3), (53, .getfield 178, 3), (56, .iload_n 3, 1), (57, .iload 6, 2), (59, .invokestatic 181, 3), (62, .invokevirtual 115, 3), (65, .i2l, 1), (66, .invokestatic 230, 3), (69, .lstore 4, 2), (71, .iinc 6 1, 3), (74, .goto (-34), 3), (77, .lload 4, 2), (79, .aload_n 0, 1), (80, .getfield 10, 3), (83, .iload_n 3, 1), (84, .invokevirtual 218, 3), (87, .i2l, 1), (88, .invokestatic 230, 3), (91, .lreturn, 1)]
def TX4_mixRow_0 : List (Nat × Instr × Nat) := [(0, .lload_n 1, 1), (1, .lstore 5, 2), (3, .iconst 0, 1), (4, .istore 7, 2), (6, .iload 7, 2), (8, .bipush 6, 2), (10, .if_icmp .ge 27, 3), (13, .lload 5, 2), (15, .aload_n 0, 1), (16, .getfield 10, 3), (19, .iload_n 3, 1), (20, .iload 7, 2), (22, .invokevirtual 191, 3), (25, .i2l, 1), (26, .invokestatic 230, 3), (29, .lstore 5, 2), (31, .iinc 7 1, 3), (34, .goto (-28), 3), (37, .aload_n 0, 1), (38, .getfield 10, 3), (41, .iload_n 3, 1), (42, .invokevirtual 272, 3), (45, .istore 7, 2), (47, .iconst 0, 1), (48, .istore 8, 2), (50, .iload 8, 2), (52, .iload 7, 2), (54, .if_icmp .ge 47, 3), (57, .lload 5, 2), (59, .aload_n 0, 1), (60, .getfield 10, 3), (63, .iload_n 3, 1), (64, .iload 8, 2), (66, .iconst 0, 1), (67, .invokevirtual 196, 3), (70, .i2l, 1), (71, .invokestatic 230, 3), (74, .lstore 5, 2), (76, .lload 5, 2), (78, .aload_n 0, 1), (79, .getfield 10, 3), (82, .iload_n 3, 1), (83, .iload 8, 2), (85, .iconst 1, 1), (86, .invokevirtual 196, 3), (89, .i2l, 1), (90, .invokestatic 230, 3), (93, .lstore 5, 2), (95, .iinc 8 1, 3), (98, .goto (-48), 3), (101, .lload 5, 2), (103, .aload_n 0, 1), (104, .getfield 10, 3), (107, .iload_n 3, 1), (108, .invokevirtual 215, 3), (111, .i2l, 1), (112, .invokestatic 230, 3), (115, .lstore 5, 2), (117, .iconst 0, 1), (118, .istore 8, 2)]
def TX4_mixRow_1 : List (Nat × Instr × Nat) := [(120, .iload 8, 2), (122, .iconst 3, 1), (123, .if_icmp .ge 25, 3), (126, .lload 5, 2), (128, .aload_n 0, 1), (129, .iload 4, 2), (131, .iload 8, 2), (133, .invokevirtual 209, 3), (136, .i2l, 1), (137, .invokestatic 230, 3), (140, .lstore 5, 2), (142, .iinc 8 1, 3), (145, .goto (-25), 3), (148, .lload 5, 2), (150, .aload_n 0, 1), (151, .getfield 10, 3), (154, .iconst 0, 1), (155, .iload_n 3, 1), (156, .invokevirtual 212, 3), (159, .i2l, 1), (160, .invokestatic 230, 3), (163, .lreturn, 1)]
def TX4_mixRow : List (Nat × Instr × Nat) := TX4_mixRow_0 ++ TX4_mixRow_1
def TX4_bitsOfShare : List (Nat × Instr × Nat) := [(0, .dload_n 0, 1), (1, .dconst 0, 1), (2, .dcmp .l, 1), (3, .ifCond .gt 5, 3), (6, .lconst 0, 1), (7, .lreturn, 1), (8, .dload_n 0, 1), (9, .dstore_n 2, 1), (10, .ldc2_w 275, 3), (13, .lstore 4, 2), (15, .iconst 0, 1), (16, .istore 6, 2), (18, .iload 6, 2), (20, .sipush 1022, 3), (23, .if_icmp .ge 27, 3), (26, .dload_n 2, 1), (27, .dconst 1, 1), (28, .dcmp .g, 1), (29, .ifCond .ge 21, 3), (32, .dload_n 2, 1), (33, .ldc2_w 277, 3), (36, .dmul, 1), (37, .dstore_n 2, 1), (38, .lload 4, 2), (40, .lconst 1, 1), (41, .lsub, 1), (42, .lstore 4, 2), (44, .iinc 6 1, 3), (47, .goto (-29), 3), (50, .dload_n 2, 1), (51, .dconst 1, 1), (52, .dsub, 1), (53, .ldc2_w 279, 3), (56, .dmul, 1), (57, .d2l, 1), (58, .lstore 6, 2), (60, .lload 4, 2), (62, .bipush 52, 2), (64, .lshl, 1), (65, .lload 6, 2), (67, .ladd, 1), (68, .lreturn, 1)]
def TX5_init : List (Nat × Instr × Nat) := [(0, .aload_n 0, 1), (1, .invokespecial 1, 3), (4, .aload_n 0, 1), (5, .sipush 361, 3), (8, .newarray .int, 2), (10, .putfield 7, 3), (13, .aload_n 0, 1), (14, .sipush 2166, 3), (17, .newarray .int, 2), (19, .putfield 13, 3), (22, .aload_n 0, 1), (23, .bipush 60, 2), (25, .newarray .int, 2), (27, .putfield 16, 3), (30, .aload_n 0, 1), (31, .bipush 60, 2), (33, .newarray .int, 2), (35, .putfield 19, 3), (38, .aload_n 0, 1), (39, .sipush 361, 3), (42, .newarray .int, 2), (44, .putfield 22, 3), (47, .aload_n 0, 1), (48, .getfield 7, 3), (51, .iconst 0, 1), (52, .bipush 60, 2), (54, .iastore, 1), (55, .aload_n 0, 1), (56, .getfield 7, 3), (59, .iconst 1, 1), (60, .iconst 1, 1), (61, .iastore, 1), (62, .aload_n 0, 1), (63, .getfield 7, 3), (66, .iconst 2, 1), (67, .iconst 2, 1), (68, .iastore, 1), (69, .return_, 1)]
def TX5_thrown : List (Nat × Instr × Nat) := [(0, .aload_n 0, 1), (1, .getfield 25, 3), (4, .ireturn, 1)]
def TX5_within : List (Nat × Instr × Nat) := [(0, .iload_n 0, 1), (1, .iload_n 1, 1), (2, .if_icmp .lt 12, 3), (5, .iload_n 0, 1), (6, .iload_n 2, 1), (7, .if_icmp .gt 7, 3), (10, .iconst 1, 1), (11, .goto 4, 3), (14, .iconst 0, 1), (15, .ireturn, 1)]
def TX5_save : List (Nat × Instr × Nat) := [(0, .aload_n 0, 1), (1, .getfield 29, 3), (4, .bipush 6, 2), (6, .if_icmp .ne 46, 3), (9, .sipush 361, 3), (12, .istore_n 1, 1), (13, .iload_n 1, 1), (14, .sipush 2166, 3), (17, .if_icmp .ge 25, 3), (20, .aload_n 0, 1), (21, .getfield 13, 3), (24, .iload_n 1, 1), (25, .sipush 361, 3), (28, .isub, 1), (29, .aload_n 0, 1), (30, .getfield 13, 3), (33, .iload_n 1, 1), (34, .iaload, 1), (35, .iastore, 1), (36, .iinc 1 1, 3), (39, .goto (-26), 3), (42, .aload_n 0, 1), (43, .dup, 1), (44, .getfield 29, 3), (47, .iconst 1, 1), (48, .isub, 1), (49, .putfield 29, 3), (52, .iconst 0, 1), (53, .istore_n 1, 1), (54, .iload_n 1, 1), (55, .sipush 361, 3), (58, .if_icmp .ge 30, 3), (61, .aload_n 0, 1), (62, .getfield 13, 3), (65, .sipush 361, 3), (68, .aload_n 0, 1), (69, .getfield 29, 3), (72, .imul, 1), (73, .iload_n 1, 1), (74, .iadd, 1), (75, .aload_n 0, 1), (76, .getfield 7, 3), (79, .iload_n 1, 1), (80, .iaload, 1), (81, .iastore, 1), (82, .iinc 1 1, 3), (85, .goto (-31), 3), (88, .aload_n 0, 1), (89, .dup, 1), (90, .getfield 29, 3), (93, .iconst 1, 1), (94, .iadd, 1), (95, .putfield 29, 3), (98, .return_, 1)]
def TX5_isHand : List (Nat × Instr × Nat) := [(0, .iload_n 0, 1), (1, .iconst 0, 1), (2, .bipush 7, 2), (4, .invokestatic 32, 3), (7, .ireturn, 1)]
def TX5_isRow : List (Nat × Instr × Nat) := [(0, .iload_n 0, 1), (1, .iconst 0, 1), (2, .bipush 11, 2), (4, .invokestatic 32, 3), (7, .ireturn, 1)]
def TX5_areThere : List (Nat × Instr × Nat) := [(0, .iload_n 0, 1), (1, .invokestatic 36, 3), (4, .ifCond .eq 14, 3), (7, .iload_n 1, 1), (8, .invokestatic 40, 3), (11, .ifCond .eq 7, 3), (14, .iconst 1, 1), (15, .goto 4, 3), (18, .iconst 0, 1), (19, .ireturn, 1)]
def TX5_lockOf : List (Nat × Instr × Nat) := [(0, .aload_n 0, 1), (1, .getfield 7, 3), (4, .iconst 5, 1), (5, .bipush 12, 2), (7, .iload_n 1, 1), (8, .imul, 1), (9, .iadd, 1), (10, .iload_n 2, 1), (11, .iadd, 1), (12, .iaload, 1), (13, .ireturn, 1)]
def TX5_setLock : List (Nat × Instr × Nat) := [(0, .aload_n 0, 1), (1, .getfield 7, 3), (4, .iconst 5, 1), (5, .bipush 12, 2), (7, .iload_n 1, 1), (8, .imul, 1), (9, .iadd, 1), (10, .iload_n 2, 1), (11, .iadd, 1), (12, .iload_n 3, 1), (13, .iastore, 1), (14, .return_, 1)]
def TX5_whoAt : List (Nat × Instr × Nat) := [(0, .aload_n 0, 1), (1, .getfield 7, 3), (4, .sipush 137, 3), (7, .bipush 8, 2), (9, .iload_n 1, 1), (10, .imul, 1), (11, .iadd, 1), (12, .iload_n 2, 1), (13, .iadd, 1), (14, .iaload, 1), (15, .ireturn, 1)]
def TX5_modeAt : List (Nat × Instr × Nat) := [(0, .aload_n 0, 1), (1, .getfield 7, 3), (4, .sipush 233, 3), (7, .bipush 8, 2), (9, .iload_n 1, 1), (10, .imul, 1), (11, .iadd, 1), (12, .iload_n 2, 1), (13, .iadd, 1), (14, .iaload, 1), (15, .ireturn, 1)]
def TX5_placeIn : List (Nat × Instr × Nat) := [(0, .iconst (-1), 1), (1, .istore_n 3, 1), (2, .iconst 0, 1), (3, .istore 4, 2), (5, .iload 4, 2), (7, .aload_n 0, 1), (8, .getfield 7, 3), (11, .bipush 125, 2), (13, .iload_n 2, 1), (14, .iadd, 1), (15, .iaload, 1), (16, .if_icmp .ge 27, 3), (19, .aload_n 0, 1), (20, .iload_n 2, 1), (21, .iload 4, 2), (23, .invokevirtual 43, 3), (26, .iload_n 1, 1), (27, .if_icmp .ne 8, 3), (30, .iload 4, 2), (32, .goto 4, 3), (35, .iload_n 3, 1), (36, .istore_n 3, 1), (37, .iinc 4 1, 3), (40, .goto (-35), 3), (43, .iload_n 3, 1), (44, .ireturn, 1)]
def TX5_rowOf : List (Nat × Instr × Nat) := [(0, .iconst (-1), 1), (1, .istore_n 2, 1), (2, .iconst 0, 1), (3, .istore_n 3, 1), (4, .iload_n 3, 1), (5, .bipush 12, 2), (7, .if_icmp .ge 25, 3), (10, .aload_n 0, 1), (11, .iload_n 1, 1), (12, .iload_n 3, 1), (13, .invokevirtual 47, 3), (16, .iconst (-1), 1), (17, .if_icmp .ne 7, 3), (20, .iload_n 2, 1), (21, .goto 4, 3), (24, .iload_n 3, 1), (25, .istore_n 2, 1), (26, .iinc 3 1, 3), (29, .goto (-25), 3), (32, .iload_n 2, 1), (33, .ireturn, 1)]
def TX5_waits : List (Nat × Instr × Nat) := [(0, .aload_n 0, 1), (1, .iload_n 1, 1), (2, .invokevirtual 50, 3), (5, .iconst (-1), 1), (6, .if_icmp .eq 7, 3), (9, .iconst 1, 1), (10, .goto 4, 3), (13, .iconst 0, 1), (14, .ireturn, 1)]
def TX5_workOf : List (Nat × Instr × Nat) := [(0, .iconst 0, 1), (1, .istore_n 2, 1), (2, .iconst 0, 1), (3, .istore_n 3, 1), (4, .iload_n 3, 1), (5, .bipush 12, 2), (7, .if_icmp .ge 18, 3), (10, .iload_n 2, 1), (11, .aload_n 0, 1), (12, .iload_n 1, 1), (13, .iload_n 3, 1), (14, .invokevirtual 54, 3), (17, .iadd, 1), (18, .istore_n 2, 1), (19, .iinc 3 1, 3), (22, .goto (-18), 3), (25, .iload_n 2, 1), (26, .ireturn, 1)]
def TX5_holders : List (Nat × Instr × Nat) := [(0, .iconst 0, 1), (1, .istore_n 2, 1), (2, .iconst 0, 1), (3, .istore_n 3, 1), (4, .iload_n 3, 1), (5, .bipush 8, 2), (7, .if_icmp .ge 28, 3), (10, .iload_n 2, 1), (11, .aload_n 0, 1), (12, .iload_n 3, 1), (13, .iload_n 1, 1), (14, .invokevirtual 54, 3), (17, .ifCond .le 9, 3), (20, .iconst 1, 1), (21, .iload_n 3, 1), (22, .ishl, 1), (23, .goto 4, 3), (26, .iconst 0, 1), (27, .ior, 1), (28, .istore_n 2, 1), (29, .iinc 3 1, 3), (32, .goto (-28), 3), (35, .iload_n 2, 1), (36, .ireturn, 1)]
def TX5_greatestOf : List (Nat × Instr × Nat) := [(0, .iconst 0, 1), (1, .istore_n 2, 1), (2, .iconst 0, 1), (3, .istore_n 3, 1), (4, .iload_n 3, 1), (5, .bipush 8, 2), (7, .if_icmp .ge 30, 3), (10, .aload_n 0, 1), (11, .iload_n 3, 1), (12, .iload_n 1, 1), (13, .invokevirtual 54, 3), (16, .iload_n 2, 1), (17, .if_icmp .le 12, 3), (20, .aload_n 0, 1), (21, .iload_n 3, 1), (22, .iload_n 1, 1), (23, .invokevirtual 54, 3), (26, .goto 4, 3), (29, .iload_n 2, 1), (30, .istore_n 2, 1), (31, .iinc 3 1, 3), (34, .goto (-30), 3), (37, .iload_n 2, 1), (38, .ireturn, 1)]
def TX5_clashing : List (Nat × Instr × Nat) := [(0, .iconst 0, 1), (1, .istore 4, 2), (3, .iconst 0, 1), (4, .istore 5, 2), (6, .iload 5, 2), (8, .bipush 8, 2), (10, .if_icmp .ge 50, 3), (13, .aload_n 0, 1), (14, .iload 5, 2), (16, .iload_n 1, 1), (17, .invokevirtual 54, 3), (20, .istore 6, 2), (22, .iload 4, 2), (24, .iload 5, 2), (26, .iload_n 3, 1), (27, .if_icmp .eq 23, 3), (30, .iload 6, 2), (32, .ifCond .le 18, 3), (35, .iload 6, 2), (37, .iload_n 2, 1), (38, .iadd, 1), (39, .iconst 3, 1), (40, .if_icmp .le 10, 3), (43, .iconst 1, 1), (44, .iload 5, 2), (46, .ishl, 1), (47, .goto 4, 3), (50, .iconst 0, 1), (51, .ior, 1), (52, .istore 4, 2), (54, .iinc 5 1, 3), (57, .goto (-51), 3), (60, .iload 4, 2), (62, .ireturn, 1)]
def TX5_waitsNow : List (Nat × Instr × Nat) := [(0, .aload_n 0, 1), (1, .iload_n 1, 1), (2, .invokevirtual 50, 3), (5, .istore_n 2, 1), (6, .iload_n 2, 1), (7, .iconst (-1), 1), (8, .if_icmp .ne 5, 3), (11, .iconst 0, 1), (12, .ireturn, 1), (13, .aload_n 0, 1), (14, .iload_n 1, 1), (15, .iload_n 2, 1), (16, .invokevirtual 47, 3), (19, .istore_n 3, 1), (20, .aload_n 0, 1), (21, .iload_n 2, 1), (22, .aload_n 0, 1), (23, .iload_n 2, 1), (24, .iload_n 3, 1), (25, .invokevirtual 57, 3), (28, .iload_n 1, 1), (29, .invokevirtual 60, 3), (32, .istore 4, 2), (34, .iconst 0, 1), (35, .istore 5, 2), (37, .iload 5, 2), (39, .iload_n 3, 1), (40, .if_icmp .ge 23, 3), (43, .iload 4, 2), (45, .iconst 1, 1), (46, .aload_n 0, 1), (47, .iload_n 2, 1), (48, .iload 5, 2), (50, .invokevirtual 43, 3), (53, .ishl, 1), (54, .ior, 1), (55, .istore 4, 2), (57, .iinc 5 1, 3), (60, .goto (-23), 3), (63, .iload 4, 2), (65, .ireturn, 1)]
def TX5_waitsOver : List (Nat × Instr × Nat) := [(0, .aload_n 0, 1), (1, .iload_n 1, 1), (2, .invokevirtual 64, 3), (5, .istore_n 2, 1), (6, .iconst 0, 1), (7, .istore_n 3, 1), (8, .iload_n 3, 1), (9, .bipush 8, 2), (11, .if_icmp .ge 48, 3), (14, .iconst 0, 1), (15, .istore 4, 2), (17, .iload 4, 2), (19, .bipush 8, 2), (21, .if_icmp .ge 32, 3), (24, .iload_n 2, 1), (25, .iload_n 2, 1), (26, .iload 4, 2), (28, .ishr, 1), (29, .iconst 1, 1), (30, .iand, 1), (31, .iconst 1, 1), (32, .if_icmp .ne 12, 3), (35, .aload_n 0, 1), (36, .iload 4, 2), (38, .invokevirtual 64, 3), (41, .goto 4, 3), (44, .iconst 0, 1), (45, .ior, 1), (46, .istore_n 2, 1), (47, .iinc 4 1, 3), (50, .goto (-33), 3), (53, .iinc 3 1, 3), (56, .goto (-48), 3), (59, .iload_n 2, 1), (60, .ireturn, 1)]
def TX5_unqueue : List (Nat × Instr × Nat) := [(0, .aload_n 0, 1), (1, .getfield 7, 3), (4, .bipush 125, 2), (6, .iload_n 1, 1), (7, .iadd, 1), (8, .dup2, 1), (9, .iaload, 1), (10, .iconst 1, 1), (11, .isub, 1), (12, .iastore, 1), (13, .iload_n 2, 1), (14, .istore_n 3, 1), (15, .iload_n 3, 1), (16, .aload_n 0, 1), (17, .getfield 7, 3), (20, .bipush 125, 2), (22, .iload_n 1, 1), (23, .iadd, 1), (24, .iaload, 1), (25, .if_icmp .ge 55, 3), (28, .aload_n 0, 1), (29, .getfield 7, 3), (32, .sipush 137, 3), (35, .bipush 8, 2), (37, .iload_n 1, 1), (38, .imul, 1), (39, .iadd, 1), (40, .iload_n 3, 1), (41, .iadd, 1), (42, .aload_n 0, 1), (43, .iload_n 1, 1), (44, .iload_n 3, 1), (45, .iconst 1, 1), (46, .iadd, 1), (47, .invokevirtual 43, 3), (50, .iastore, 1), (51, .aload_n 0, 1), (52, .getfield 7, 3), (55, .sipush 233, 3), (58, .bipush 8, 2), (60, .iload_n 1, 1), (61, .imul, 1), (62, .iadd, 1), (63, .iload_n 3, 1), (64, .iadd, 1), (65, .aload_n 0, 1), (66, .iload_n 1, 1), (67, .iload_n 3, 1), (68, .iconst 1, 1), (69, .iadd, 1), (70, .invokevirtual 57, 3), (73, .iastore, 1), (74, .iinc 3 1, 3), (77, .goto (-62), 3), (80, .return_, 1)]
def TX5_enqueue_0 : List (Nat × Instr × Nat) := [(0, .aload_n 0, 1), (1, .getfield 7, 3), (4, .bipush 125, 2), (6, .iload_n 1, 1), (7, .iadd, 1), (8, .iaload, 1), (9, .istore 4, 2), (11, .aload_n 0, 1), (12, .iload_n 2, 1), (13, .iload_n 1, 1), (14, .invokevirtual 54, 3), (17, .ifCond .le 41, 3), (20, .iconst 0, 1), (21, .istore 4, 2), (23, .iload 4, 2), (25, .aload_n 0, 1), (26, .getfield 7, 3), (29, .bipush 125, 2), (31, .iload_n 1, 1), (32, .iadd, 1), (33, .iaload, 1), (34, .if_icmp .ge 24, 3), (37, .aload_n 0, 1), (38, .aload_n 0, 1), (39, .iload_n 1, 1), (40, .iload 4, 2), (42, .invokevirtual 43, 3), (45, .iload_n 1, 1), (46, .invokevirtual 54, 3), (49, .ifCond .le 9, 3), (52, .iinc 4 1, 3), (55, .goto (-32), 3), (58, .aload_n 0, 1), (59, .getfield 7, 3), (62, .bipush 125, 2), (64, .iload_n 1, 1), (65, .iadd, 1), (66, .iaload, 1), (67, .istore 5, 2), (69, .iload 5, 2), (71, .iload 4, 2), (73, .if_icmp .le 59, 3), (76, .aload_n 0, 1), (77, .getfield 7, 3), (80, .sipush 137, 3), (83, .bipush 8, 2), (85, .iload_n 1, 1), (86, .imul, 1), (87, .iadd, 1), (88, .iload 5, 2), (90, .iadd, 1), (91, .aload_n 0, 1), (92, .iload_n 1, 1), (93, .iload 5, 2), (95, .iconst 1, 1), (96, .isub, 1), (97, .invokevirtual 43, 3), (100, .iastore, 1), (101, .aload_n 0, 1), (102, .getfield 7, 3)]
def TX5_enqueue_1 : List (Nat × Instr × Nat) := [(105, .sipush 233, 3), (108, .bipush 8, 2), (110, .iload_n 1, 1), (111, .imul, 1), (112, .iadd, 1), (113, .iload 5, 2), (115, .iadd, 1), (116, .aload_n 0, 1), (117, .iload_n 1, 1), (118, .iload 5, 2), (120, .iconst 1, 1), (121, .isub, 1), (122, .invokevirtual 57, 3), (125, .iastore, 1), (126, .iinc 5 (-1), 3), (129, .goto (-60), 3), (132, .aload_n 0, 1), (133, .getfield 7, 3), (136, .sipush 137, 3), (139, .bipush 8, 2), (141, .iload_n 1, 1), (142, .imul, 1), (143, .iadd, 1), (144, .iload 4, 2), (146, .iadd, 1), (147, .iload_n 2, 1), (148, .iastore, 1), (149, .aload_n 0, 1), (150, .getfield 7, 3), (153, .sipush 233, 3), (156, .bipush 8, 2), (158, .iload_n 1, 1), (159, .imul, 1), (160, .iadd, 1), (161, .iload 4, 2), (163, .iadd, 1), (164, .iload_n 3, 1), (165, .iastore, 1), (166, .aload_n 0, 1), (167, .getfield 7, 3), (170, .bipush 125, 2), (172, .iload_n 1, 1), (173, .iadd, 1), (174, .dup2, 1), (175, .iaload, 1), (176, .iconst 1, 1), (177, .iadd, 1), (178, .iastore, 1), (179, .return_, 1)]
def TX5_enqueue : List (Nat × Instr × Nat) := TX5_enqueue_0 ++ TX5_enqueue_1
def TX5_grant : List (Nat × Instr × Nat) := [(0, .aload_n 0, 1), (1, .iload_n 1, 1), (2, .iload_n 2, 1), (3, .invokevirtual 43, 3), (6, .istore_n 3, 1), (7, .aload_n 0, 1), (8, .iload_n 3, 1), (9, .iload_n 1, 1), (10, .aload_n 0, 1), (11, .iload_n 1, 1), (12, .iload_n 2, 1), (13, .invokevirtual 57, 3), (16, .invokevirtual 67, 3), (19, .aload_n 0, 1), (20, .getfield 7, 3), (23, .sipush 345, 3), (26, .iload_n 3, 1), (27, .iadd, 1), (28, .dup2, 1), (29, .iaload, 1), (30, .iconst 1, 1), (31, .iadd, 1), (32, .iastore, 1), (33, .aload_n 0, 1), (34, .iload_n 1, 1), (35, .iload_n 2, 1), (36, .invokevirtual 71, 3), (39, .return_, 1)]
def TX5_settle : List (Nat × Instr × Nat) := [(0, .iconst 0, 1), (1, .istore_n 2, 1), (2, .aload_n 0, 1), (3, .getfield 7, 3), (6, .bipush 125, 2), (8, .iload_n 1, 1), (9, .iadd, 1), (10, .iaload, 1), (11, .ifCond .le 35, 3), (14, .aload_n 0, 1), (15, .iload_n 1, 1), (16, .aload_n 0, 1), (17, .iload_n 1, 1), (18, .iconst 0, 1), (19, .invokevirtual 57, 3), (22, .aload_n 0, 1), (23, .iload_n 1, 1), (24, .iconst 0, 1), (25, .invokevirtual 43, 3), (28, .invokevirtual 60, 3), (31, .ifCond .ne 15, 3), (34, .aload_n 0, 1), (35, .iload_n 1, 1), (36, .iconst 0, 1), (37, .invokevirtual 75, 3), (40, .iinc 2 1, 3), (43, .goto (-41), 3), (46, .iload_n 2, 1), (47, .ireturn, 1)]
def TX5_isInRing : List (Nat × Instr × Nat) := [(0, .aload_n 0, 1), (1, .iload_n 1, 1), (2, .invokevirtual 78, 3), (5, .iload_n 1, 1), (6, .ishr, 1), (7, .iconst 1, 1), (8, .iand, 1), (9, .iconst 1, 1), (10, .if_icmp .ne 7, 3), (13, .iconst 1, 1), (14, .goto 4, 3), (17, .iconst 0, 1), (18, .ireturn, 1)]
def TX5_loserFor : List (Nat × Instr × Nat) := [(0, .aload_n 0, 1), (1, .iload_n 1, 1), (2, .invokevirtual 78, 3), (5, .istore_n 2, 1), (6, .iconst (-1), 1), (7, .istore_n 3, 1), (8, .iconst 0, 1), (9, .istore 4, 2), (11, .iload 4, 2), (13, .bipush 8, 2), (15, .if_icmp .ge 71, 3), (18, .iload_n 2, 1), (19, .iload 4, 2), (21, .ishr, 1), (22, .iconst 1, 1), (23, .iand, 1), (24, .iconst 1, 1), (25, .if_icmp .ne 21, 3), (28, .aload_n 0, 1), (29, .iload 4, 2), (31, .invokevirtual 78, 3), (34, .iload_n 1, 1), (35, .ishr, 1), (36, .iconst 1, 1), (37, .iand, 1), (38, .iconst 1, 1), (39, .if_icmp .ne 7, 3), (42, .iconst 1, 1), (43, .goto 4, 3), (46, .iconst 0, 1), (47, .istore 5, 2), (49, .iload 5, 2), (51, .ifCond .eq 27, 3), (54, .iload_n 3, 1), (55, .iconst (-1), 1), (56, .if_icmp .eq 17, 3), (59, .aload_n 0, 1), (60, .iload 4, 2), (62, .invokevirtual 81, 3), (65, .aload_n 0, 1), (66, .iload_n 3, 1), (67, .invokevirtual 81, 3), (70, .if_icmp .gt 8, 3), (73, .iload 4, 2), (75, .goto 4, 3), (78, .iload_n 3, 1), (79, .istore_n 3, 1), (80, .iinc 4 1, 3), (83, .goto (-72), 3), (86, .iload_n 3, 1), (87, .ireturn, 1)]
def TX5_lose_0 : List (Nat × Instr × Nat) := [(0, .iconst 0, 1), (1, .istore_n 2, 1), (2, .iconst 0, 1), (3, .istore_n 3, 1), (4, .iload_n 3, 1), (5, .bipush 12, 2), (7, .if_icmp .ge 62, 3), (10, .aload_n 0, 1), (11, .iload_n 1, 1), (12, .iload_n 3, 1), (13, .invokevirtual 47, 3), (16, .istore 4, 2), (18, .iload_n 2, 1), (19, .aload_n 0, 1), (20, .iload_n 1, 1), (21, .iload_n 3, 1), (22, .invokevirtual 54, 3), (25, .ifCond .gt 9, 3), (28, .iload 4, 2), (30, .iconst (-1), 1), (31, .if_icmp .eq 9, 3), (34, .iconst 1, 1), (35, .iload_n 3, 1), (36, .ishl, 1), (37, .goto 4, 3), (40, .iconst 0, 1), (41, .ior, 1), (42, .istore_n 2, 1), (43, .aload_n 0, 1), (44, .iload_n 1, 1), (45, .iload_n 3, 1), (46, .iconst 0, 1), (47, .invokevirtual 67, 3), (50, .iload 4, 2), (52, .iconst (-1), 1), (53, .if_icmp .eq 10, 3), (56, .aload_n 0, 1), (57, .iload_n 3, 1), (58, .iload 4, 2), (60, .invokevirtual 71, 3), (63, .iinc 3 1, 3), (66, .goto (-62), 3), (69, .aload_n 0, 1), (70, .getfield 7, 3), (73, .sipush 337, 3), (76, .iload_n 1, 1), (77, .iadd, 1), (78, .dup2, 1), (79, .iaload, 1), (80, .iconst 1, 1), (81, .iadd, 1), (82, .iastore, 1), (83, .iconst 0, 1), (84, .istore_n 3, 1), (85, .iload_n 3, 1), (86, .bipush 12, 2), (88, .if_icmp .ge 29, 3), (91, .iload_n 2, 1), (92, .iload_n 3, 1), (93, .ishr, 1)]
def TX5_lose_1 : List (Nat × Instr × Nat) := [(94, .iconst 1, 1), (95, .iand, 1), (96, .iconst 1, 1), (97, .if_icmp .ne 11, 3), (100, .aload_n 0, 1), (101, .iload_n 3, 1), (102, .invokevirtual 84, 3), (105, .goto 4, 3), (108, .iconst 0, 1), (109, .istore 4, 2), (111, .iinc 3 1, 3), (114, .goto (-29), 3), (117, .return_, 1)]
def TX5_lose : List (Nat × Instr × Nat) := TX5_lose_0 ++ TX5_lose_1
def TX5_asks_0 : List (Nat × Instr × Nat) := [(0, .aload_n 0, 1), (1, .getfield 7, 3), (4, .sipush 353, 3), (7, .iload_n 1, 1), (8, .iadd, 1), (9, .dup2, 1), (10, .iaload, 1), (11, .iconst 1, 1), (12, .iadd, 1), (13, .iastore, 1), (14, .aload_n 0, 1), (15, .iload_n 1, 1), (16, .iload_n 2, 1), (17, .invokevirtual 54, 3), (20, .iload_n 3, 1), (21, .if_icmp .lt 19, 3), (24, .aload_n 0, 1), (25, .getfield 7, 3), (28, .sipush 345, 3), (31, .iload_n 1, 1), (32, .iadd, 1), (33, .dup2, 1), (34, .iaload, 1), (35, .iconst 1, 1), (36, .iadd, 1), (37, .iastore, 1), (38, .iconst 0, 1), (39, .ireturn, 1), (40, .aload_n 0, 1), (41, .iload_n 2, 1), (42, .iload_n 1, 1), (43, .iload_n 3, 1), (44, .invokevirtual 87, 3), (47, .aload_n 0, 1), (48, .iload_n 2, 1), (49, .invokevirtual 84, 3), (52, .istore 4, 2), (54, .aload_n 0, 1), (55, .iload_n 1, 1), (56, .invokevirtual 90, 3), (59, .ifCond .eq 15, 3), (62, .aload_n 0, 1), (63, .aload_n 0, 1), (64, .iload_n 1, 1), (65, .invokevirtual 93, 3), (68, .invokevirtual 96, 3), (71, .goto (-17), 3), (74, .aload_n 0, 1), (75, .iload_n 1, 1), (76, .iload_n 2, 1), (77, .invokevirtual 54, 3), (80, .iload_n 3, 1), (81, .if_icmp .lt 7, 3), (84, .iconst 0, 1), (85, .goto 16, 3), (88, .aload_n 0, 1), (89, .iload_n 1, 1), (90, .invokevirtual 100, 3), (93, .ifCond .eq 7, 3), (96, .iconst 1, 1)]
def TX5_asks_1 : List (Nat × Instr × Nat) := [(97, .goto 4, 3), (100, .iconst 2, 1), (101, .ireturn, 1)]
def TX5_asks : List (Nat × Instr × Nat) := TX5_asks_0 ++ TX5_asks_1
def TX5_isMode : List (Nat × Instr × Nat) := [(0, .iload_n 0, 1), (1, .iconst 1, 1), (2, .iconst 3, 1), (3, .invokestatic 32, 3), (6, .ireturn, 1)]
def TX5_ask : List (Nat × Instr × Nat) := [(0, .aload_n 0, 1), (1, .iload_n 1, 1), (2, .iload_n 2, 1), (3, .invokestatic 103, 3), (6, .ifCond .ne 7, 3), (9, .iconst 1, 1), (10, .goto 27, 3), (13, .iload_n 3, 1), (14, .invokestatic 107, 3), (17, .ifCond .ne 7, 3), (20, .iconst 2, 1), (21, .goto 16, 3), (24, .aload_n 0, 1), (25, .iload_n 1, 1), (26, .invokevirtual 100, 3), (29, .ifCond .eq 7, 3), (32, .iconst 3, 1), (33, .goto 4, 3), (36, .iconst 0, 1), (37, .putfield 25, 3), (40, .aload_n 0, 1), (41, .getfield 25, 3), (44, .ifCond .le 5, 3), (47, .iconst 0, 1), (48, .ireturn, 1), (49, .aload_n 0, 1), (50, .invokevirtual 110, 3), (53, .aload_n 0, 1), (54, .iload_n 1, 1), (55, .iload_n 2, 1), (56, .iload_n 3, 1), (57, .invokevirtual 113, 3), (60, .ireturn, 1)]
def TX5_canRelease : List (Nat × Instr × Nat) := [(0, .aload_n 0, 1), (1, .iload_n 1, 1), (2, .iload_n 2, 1), (3, .invokevirtual 54, 3), (6, .ifCond .le 16, 3), (9, .aload_n 0, 1), (10, .iload_n 1, 1), (11, .invokevirtual 50, 3), (14, .iload_n 2, 1), (15, .if_icmp .eq 7, 3), (18, .iconst 1, 1), (19, .goto 4, 3), (22, .iconst 0, 1), (23, .ireturn, 1)]
def TX5_releases : List (Nat × Instr × Nat) := [(0, .aload_n 0, 1), (1, .iload_n 1, 1), (2, .iload_n 2, 1), (3, .iconst 0, 1), (4, .invokevirtual 67, 3), (7, .aload_n 0, 1), (8, .iload_n 2, 1), (9, .invokevirtual 84, 3), (12, .ireturn, 1)]
def TX5_release : List (Nat × Instr × Nat) := [(0, .aload_n 0, 1), (1, .iload_n 1, 1), (2, .iload_n 2, 1), (3, .invokestatic 103, 3), (6, .ifCond .ne 7, 3), (9, .iconst 1, 1), (10, .goto 17, 3), (13, .aload_n 0, 1), (14, .iload_n 1, 1), (15, .iload_n 2, 1), (16, .invokevirtual 116, 3), (19, .ifCond .eq 7, 3), (22, .iconst 0, 1), (23, .goto 4, 3), (26, .iconst 2, 1), (27, .putfield 25, 3), (30, .aload_n 0, 1), (31, .getfield 25, 3), (34, .ifCond .le 5, 3), (37, .iconst 0, 1), (38, .ireturn, 1), (39, .aload_n 0, 1), (40, .invokevirtual 110, 3), (43, .aload_n 0, 1), (44, .iload_n 1, 1), (45, .iload_n 2, 1), (46, .invokevirtual 119, 3), (49, .ireturn, 1)]
def TX5_giveUp : List (Nat × Instr × Nat) := [(0, .aload_n 0, 1), (1, .iload_n 1, 1), (2, .invokestatic 36, 3), (5, .ifCond .ne 7, 3), (8, .iconst 1, 1), (9, .goto 16, 3), (12, .aload_n 0, 1), (13, .iload_n 1, 1), (14, .invokevirtual 100, 3), (17, .ifCond .eq 7, 3), (20, .iconst 0, 1), (21, .goto 4, 3), (24, .iconst 2, 1), (25, .putfield 25, 3), (28, .aload_n 0, 1), (29, .getfield 25, 3), (32, .ifCond .le 5, 3), (35, .iconst 0, 1), (36, .ireturn, 1), (37, .aload_n 0, 1), (38, .invokevirtual 110, 3), (41, .aload_n 0, 1), (42, .iload_n 1, 1), (43, .invokevirtual 50, 3), (46, .istore_n 2, 1), (47, .aload_n 0, 1), (48, .iload_n 2, 1), (49, .aload_n 0, 1), (50, .iload_n 1, 1), (51, .iload_n 2, 1), (52, .invokevirtual 47, 3), (55, .invokevirtual 71, 3), (58, .aload_n 0, 1), (59, .iload_n 2, 1), (60, .invokevirtual 84, 3), (63, .istore_n 3, 1), (64, .iload_n 2, 1), (65, .ireturn, 1)]
def TX5_canHandOn : List (Nat × Instr × Nat) := [(0, .aload_n 0, 1), (1, .iload_n 1, 1), (2, .iload_n 2, 1), (3, .invokevirtual 116, 3), (6, .ifCond .eq 18, 3), (9, .iload_n 1, 1), (10, .iload_n 3, 1), (11, .if_icmp .eq 13, 3), (14, .aload_n 0, 1), (15, .iload_n 3, 1), (16, .iload_n 2, 1), (17, .invokevirtual 47, 3), (20, .iconst (-1), 1), (21, .if_icmp .ne 5, 3), (24, .iconst 0, 1), (25, .ireturn, 1), (26, .aload_n 0, 1), (27, .iload_n 2, 1), (28, .aload_n 0, 1), (29, .iload_n 2, 1), (30, .aload_n 0, 1), (31, .iload_n 3, 1), (32, .iload_n 2, 1), (33, .invokevirtual 47, 3), (36, .invokevirtual 57, 3), (39, .iload_n 3, 1), (40, .invokevirtual 60, 3), (43, .istore 4, 2), (45, .iload 4, 2), (47, .iconst 1, 1), (48, .iload_n 1, 1), (49, .ishl, 1), (50, .iconst (-1), 1), (51, .ixor, 1), (52, .iand, 1), (53, .ifCond .ne 7, 3), (56, .iconst 1, 1), (57, .goto 4, 3), (60, .iconst 0, 1), (61, .ireturn, 1)]
def TX5_handOn : List (Nat × Instr × Nat) := [(0, .aload_n 0, 1), (1, .iload_n 1, 1), (2, .iload_n 2, 1), (3, .invokestatic 103, 3), (6, .ifCond .eq 10, 3), (9, .iload_n 3, 1), (10, .invokestatic 36, 3), (13, .ifCond .ne 7, 3), (16, .iconst 1, 1), (17, .goto 18, 3), (20, .aload_n 0, 1), (21, .iload_n 1, 1), (22, .iload_n 2, 1), (23, .iload_n 3, 1), (24, .invokevirtual 122, 3), (27, .ifCond .eq 7, 3), (30, .iconst 0, 1), (31, .goto 4, 3), (34, .iconst 2, 1), (35, .putfield 25, 3), (38, .aload_n 0, 1), (39, .getfield 25, 3), (42, .ifCond .le 5, 3), (45, .iconst 0, 1), (46, .ireturn, 1), (47, .aload_n 0, 1), (48, .invokevirtual 110, 3), (51, .aload_n 0, 1), (52, .iload_n 1, 1), (53, .iload_n 2, 1), (54, .iconst 0, 1), (55, .invokevirtual 67, 3), (58, .aload_n 0, 1), (59, .iload_n 2, 1), (60, .aload_n 0, 1), (61, .iload_n 3, 1), (62, .iload_n 2, 1), (63, .invokevirtual 47, 3), (66, .invokevirtual 75, 3), (69, .aload_n 0, 1), (70, .getfield 7, 3), (73, .bipush 113, 2), (75, .iload_n 2, 1), (76, .iadd, 1), (77, .dup2, 1), (78, .iaload, 1), (79, .iconst 1, 1), (80, .iadd, 1), (81, .iastore, 1), (82, .aload_n 0, 1), (83, .iload_n 3, 1), (84, .iload_n 2, 1), (85, .invokevirtual 54, 3), (88, .istore 4, 2), (90, .aload_n 0, 1), (91, .iload_n 2, 1), (92, .invokevirtual 84, 3), (95, .istore 5, 2), (97, .iload 4, 2), (99, .ireturn, 1)]
def TX5_burn : List (Nat × Instr × Nat) := [(0, .iconst 0, 1), (1, .istore_n 2, 1), (2, .iconst 0, 1), (3, .istore_n 3, 1), (4, .iload_n 3, 1), (5, .bipush 8, 2), (7, .if_icmp .ge 42, 3), (10, .aload_n 0, 1), (11, .iload_n 3, 1), (12, .iload_n 1, 1), (13, .invokevirtual 54, 3), (16, .ifCond .le 27, 3), (19, .aload_n 0, 1), (20, .iload_n 3, 1), (21, .iload_n 1, 1), (22, .iconst 0, 1), (23, .invokevirtual 67, 3), (26, .aload_n 0, 1), (27, .getfield 7, 3), (30, .sipush 329, 3), (33, .iload_n 3, 1), (34, .iadd, 1), (35, .dup2, 1), (36, .iaload, 1), (37, .iconst 1, 1), (38, .iadd, 1), (39, .iastore, 1), (40, .iinc 2 1, 3), (43, .iinc 3 1, 3), (46, .goto (-42), 3), (49, .aload_n 0, 1), (50, .getfield 7, 3), (53, .iconst 4, 1), (54, .dup2, 1), (55, .iaload, 1), (56, .iload_n 2, 1), (57, .iadd, 1), (58, .iastore, 1), (59, .iload_n 2, 1), (60, .ireturn, 1)]
def TX5_tick_0 : List (Nat × Instr × Nat) := [(0, .aload_n 0, 1), (1, .getfield 7, 3), (4, .iconst 3, 1), (5, .dup2, 1), (6, .iaload, 1), (7, .iconst 1, 1), (8, .iadd, 1), (9, .iastore, 1), (10, .iconst 0, 1), (11, .istore_n 1, 1), (12, .iload_n 1, 1), (13, .bipush 12, 2), (15, .if_icmp .ge 79, 3), (18, .aload_n 0, 1), (19, .iload_n 1, 1), (20, .invokevirtual 125, 3), (23, .istore_n 2, 1), (24, .aload_n 0, 1), (25, .getfield 7, 3), (28, .bipush 101, 2), (30, .iload_n 1, 1), (31, .iadd, 1), (32, .iaload, 1), (33, .iload_n 2, 1), (34, .ifCond .le 14, 3), (37, .iload_n 2, 1), (38, .aload_n 0, 1), (39, .getfield 7, 3), (42, .iconst 1, 1), (43, .iaload, 1), (44, .imul, 1), (45, .goto 10, 3), (48, .aload_n 0, 1), (49, .getfield 7, 3), (52, .iconst 2, 1), (53, .iaload, 1), (54, .ineg, 1), (55, .iadd, 1), (56, .istore_n 3, 1), (57, .aload_n 0, 1), (58, .getfield 7, 3), (61, .bipush 101, 2), (63, .iload_n 1, 1), (64, .iadd, 1), (65, .iload_n 3, 1), (66, .ifCond .ge 7, 3), (69, .iconst 0, 1), (70, .goto 17, 3), (73, .iload_n 3, 1), (74, .sipush 1000, 3), (77, .if_icmp .le 9, 3), (80, .sipush 1000, 3), (83, .goto 4, 3), (86, .iload_n 3, 1), (87, .iastore, 1), (88, .iinc 1 1, 3), (91, .goto (-79), 3), (94, .iconst 0, 1), (95, .istore_n 1, 1), (96, .iconst 0, 1)]
def TX5_tick_1 : List (Nat × Instr × Nat) := [(97, .istore_n 2, 1), (98, .iload_n 2, 1), (99, .bipush 12, 2), (101, .if_icmp .ge 66, 3), (104, .aload_n 0, 1), (105, .getfield 7, 3), (108, .bipush 101, 2), (110, .iload_n 2, 1), (111, .iadd, 1), (112, .iaload, 1), (113, .aload_n 0, 1), (114, .getfield 7, 3), (117, .iconst 0, 1), (118, .iaload, 1), (119, .if_icmp .le 11, 3), (122, .aload_n 0, 1), (123, .iload_n 2, 1), (124, .invokevirtual 128, 3), (127, .goto 4, 3), (130, .iconst 0, 1), (131, .istore_n 3, 1), (132, .iload_n 3, 1), (133, .ifCond .le 11, 3), (136, .aload_n 0, 1), (137, .iload_n 2, 1), (138, .invokevirtual 84, 3), (141, .goto 4, 3), (144, .iconst 0, 1), (145, .istore 4, 2), (147, .iload_n 1, 1), (148, .iload_n 3, 1), (149, .ifCond .le 9, 3), (152, .iconst 1, 1), (153, .iload_n 2, 1), (154, .ishl, 1), (155, .goto 4, 3), (158, .iconst 0, 1), (159, .ior, 1), (160, .istore_n 1, 1), (161, .iinc 2 1, 3), (164, .goto (-66), 3), (167, .iload_n 1, 1), (168, .ireturn, 1)]
def TX5_tick : List (Nat × Instr × Nat) := TX5_tick_0 ++ TX5_tick_1
def TX5_pass : List (Nat × Instr × Nat) := [(0, .aload_n 0, 1), (1, .iload_n 1, 1), (2, .iconst 1, 1), (3, .bipush 100, 2), (5, .invokestatic 32, 3), (8, .ifCond .eq 7, 3), (11, .iconst 0, 1), (12, .goto 4, 3), (15, .iconst 1, 1), (16, .putfield 25, 3), (19, .aload_n 0, 1), (20, .getfield 25, 3), (23, .ifCond .le 5, 3), (26, .iconst 0, 1), (27, .ireturn, 1), (28, .aload_n 0, 1), (29, .invokevirtual 110, 3), (32, .aload_n 0, 1), (33, .getfield 7, 3), (36, .iconst 4, 1), (37, .iaload, 1), (38, .istore_n 2, 1), (39, .iconst 0, 1), (40, .istore_n 3, 1), (41, .iload_n 3, 1), (42, .iload_n 1, 1), (43, .if_icmp .ge 15, 3), (46, .aload_n 0, 1), (47, .invokevirtual 131, 3), (50, .istore 4, 2), (52, .iinc 3 1, 3), (55, .goto (-14), 3), (58, .aload_n 0, 1), (59, .getfield 7, 3), (62, .iconst 4, 1), (63, .iaload, 1), (64, .iload_n 2, 1), (65, .isub, 1), (66, .ireturn, 1)]
def TX5_cool : List (Nat × Instr × Nat) := [(0, .aload_n 0, 1), (1, .iload_n 1, 1), (2, .invokestatic 40, 3), (5, .ifCond .ne 7, 3), (8, .iconst 1, 1), (9, .goto 16, 3), (12, .aload_n 0, 1), (13, .iload_n 1, 1), (14, .invokevirtual 135, 3), (17, .ifCond .ne 7, 3), (20, .iconst 0, 1), (21, .goto 4, 3), (24, .iconst 2, 1), (25, .putfield 25, 3), (28, .aload_n 0, 1), (29, .getfield 25, 3), (32, .ifCond .le 5, 3), (35, .iconst 0, 1), (36, .ireturn, 1), (37, .aload_n 0, 1), (38, .invokevirtual 110, 3), (41, .aload_n 0, 1), (42, .getfield 7, 3), (45, .bipush 101, 2), (47, .iload_n 1, 1), (48, .iadd, 1), (49, .iaload, 1), (50, .istore_n 2, 1), (51, .aload_n 0, 1), (52, .getfield 7, 3), (55, .bipush 101, 2), (57, .iload_n 1, 1), (58, .iadd, 1), (59, .iconst 0, 1), (60, .iastore, 1), (61, .iload_n 2, 1), (62, .ireturn, 1)]
def TX5_isSetting : List (Nat × Instr × Nat) := [(0, .iload_n 0, 1), (1, .iconst 0, 1), (2, .iconst 2, 1), (3, .invokestatic 32, 3), (6, .ireturn, 1)]
def TX5_isValue : List (Nat × Instr × Nat) := [(0, .iload_n 0, 1), (1, .ifCond .ne 15, 3), (4, .iload_n 1, 1), (5, .bipush 10, 2), (7, .sipush 900, 3), (10, .invokestatic 32, 3), (13, .goto 25, 3), (16, .iload_n 0, 1), (17, .iconst 1, 1), (18, .if_icmp .ne 13, 3), (21, .iload_n 1, 1), (22, .iconst 0, 1), (23, .bipush 20, 2), (25, .invokestatic 32, 3), (28, .goto 10, 3), (31, .iload_n 1, 1), (32, .iconst 0, 1), (33, .bipush 50, 2), (35, .invokestatic 32, 3), (38, .ireturn, 1)]
def TX5_set : List (Nat × Instr × Nat) := [(0, .aload_n 0, 1), (1, .iload_n 1, 1), (2, .invokestatic 138, 3), (5, .ifCond .ne 7, 3), (8, .iconst 1, 1), (9, .goto 16, 3), (12, .iload_n 1, 1), (13, .iload_n 2, 1), (14, .invokestatic 141, 3), (17, .ifCond .eq 7, 3), (20, .iconst 0, 1), (21, .goto 4, 3), (24, .iconst 2, 1), (25, .putfield 25, 3), (28, .aload_n 0, 1), (29, .getfield 25, 3), (32, .ifCond .le 5, 3), (35, .iconst 0, 1), (36, .ireturn, 1), (37, .aload_n 0, 1), (38, .invokevirtual 110, 3), (41, .aload_n 0, 1), (42, .getfield 7, 3), (45, .iconst 0, 1), (46, .iload_n 1, 1), (47, .iadd, 1), (48, .iaload, 1), (49, .istore_n 3, 1), (50, .aload_n 0, 1), (51, .getfield 7, 3), (54, .iconst 0, 1), (55, .iload_n 1, 1), (56, .iadd, 1), (57, .iload_n 2, 1), (58, .iastore, 1), (59, .iload_n 3, 1), (60, .ireturn, 1)]
def TX5_append : List (Nat × Instr × Nat) := [(0, .aload_n 0, 1), (1, .iload_n 1, 1), (2, .bipush 33, 2), (4, .bipush 126, 2), (6, .invokestatic 32, 3), (9, .ifCond .ne 7, 3), (12, .iconst 1, 1), (13, .goto 17, 3), (16, .aload_n 0, 1), (17, .getfield 144, 3), (20, .bipush 60, 2), (22, .if_icmp .ne 7, 3), (25, .iconst 2, 1), (26, .goto 4, 3), (29, .iconst 0, 1), (30, .putfield 25, 3), (33, .aload_n 0, 1), (34, .getfield 25, 3), (37, .ifCond .le 5, 3), (40, .iconst 0, 1), (41, .ireturn, 1), (42, .aload_n 0, 1), (43, .getfield 16, 3), (46, .aload_n 0, 1), (47, .getfield 144, 3), (50, .iload_n 1, 1), (51, .iastore, 1), (52, .aload_n 0, 1), (53, .dup, 1), (54, .getfield 144, 3), (57, .iconst 1, 1), (58, .iadd, 1), (59, .putfield 144, 3), (62, .aload_n 0, 1), (63, .getfield 144, 3), (66, .ireturn, 1)]
def TX5_clearBuffer : List (Nat × Instr × Nat) := [(0, .aload_n 0, 1), (1, .iconst 0, 1), (2, .putfield 25, 3), (5, .aload_n 0, 1), (6, .getfield 144, 3), (9, .istore_n 1, 1), (10, .aload_n 0, 1), (11, .iconst 0, 1), (12, .putfield 144, 3), (15, .iload_n 1, 1), (16, .ireturn, 1)]
def TX5_modeOf : List (Nat × Instr × Nat) := [(0, .iload_n 0, 1), (1, .bipush 112, 2), (3, .if_icmp .ne 7, 3), (6, .iconst 1, 1), (7, .goto 34, 3), (10, .iload_n 0, 1), (11, .bipush 115, 2), (13, .if_icmp .ne 7, 3), (16, .iconst 2, 1), (17, .goto 24, 3), (20, .iload_n 0, 1), (21, .bipush 104, 2), (23, .if_icmp .ne 7, 3), (26, .iconst 3, 1), (27, .goto 14, 3), (30, .iload_n 0, 1), (31, .bipush 45, 2), (33, .if_icmp .ne 7, 3), (36, .iconst 0, 1), (37, .goto 4, 3), (40, .iconst (-1), 1), (41, .ireturn, 1)]
def TX5_takesDigit : List (Nat × Instr × Nat) := [(0, .aload_n 0, 1), (1, .getfield 147, 3), (4, .iconst (-1), 1), (5, .if_icmp .ne 7, 3), (8, .iload_n 1, 1), (9, .goto 12, 3), (12, .bipush 10, 2), (14, .aload_n 0, 1), (15, .getfield 147, 3), (18, .imul, 1), (19, .iload_n 1, 1), (20, .iadd, 1), (21, .istore_n 2, 1), (22, .iload_n 1, 1), (23, .iconst 0, 1), (24, .bipush 9, 2), (26, .invokestatic 32, 3), (29, .ifCond .eq 21, 3), (32, .aload_n 0, 1), (33, .getfield 147, 3), (36, .ifCond .eq 14, 3), (39, .iload_n 2, 1), (40, .invokestatic 40, 3), (43, .ifCond .eq 7, 3), (46, .iconst 1, 1), (47, .goto 4, 3), (50, .iconst 0, 1), (51, .istore_n 3, 1), (52, .aload_n 0, 1), (53, .iload_n 3, 1), (54, .ifCond .eq 7, 3), (57, .iload_n 2, 1), (58, .goto 7, 3), (61, .aload_n 0, 1), (62, .getfield 147, 3), (65, .putfield 147, 3), (68, .iload_n 3, 1), (69, .ireturn, 1)]
def TX5_takes_0 : List (Nat × Instr × Nat) := [(0, .aload_n 0, 1), (1, .getfield 150, 3), (4, .ifCond .ne 37, 3), (7, .aload_n 0, 1), (8, .getfield 19, 3), (11, .iconst 3, 1), (12, .aload_n 0, 1), (13, .getfield 153, 3), (16, .imul, 1), (17, .iload_n 1, 1), (18, .bipush 97, 2), (20, .isub, 1), (21, .iastore, 1), (22, .aload_n 0, 1), (23, .iconst (-1), 1), (24, .putfield 147, 3), (27, .aload_n 0, 1), (28, .iconst 1, 1), (29, .putfield 150, 3), (32, .iload_n 1, 1), (33, .bipush 97, 2), (35, .bipush 104, 2), (37, .invokestatic 32, 3), (40, .ireturn, 1), (41, .aload_n 0, 1), (42, .getfield 150, 3), (45, .iconst 1, 1), (46, .if_icmp .ne 60, 3), (49, .aload_n 0, 1), (50, .getfield 147, 3), (53, .iconst (-1), 1), (54, .if_icmp .eq 52, 3), (57, .iload_n 1, 1), (58, .invokestatic 156, 3), (61, .iconst (-1), 1), (62, .if_icmp .eq 44, 3), (65, .aload_n 0, 1), (66, .getfield 19, 3), (69, .iconst 3, 1), (70, .aload_n 0, 1), (71, .getfield 153, 3), (74, .imul, 1), (75, .iconst 1, 1), (76, .iadd, 1), (77, .aload_n 0, 1), (78, .getfield 147, 3), (81, .iastore, 1), (82, .aload_n 0, 1), (83, .getfield 19, 3), (86, .iconst 3, 1), (87, .aload_n 0, 1), (88, .getfield 153, 3), (91, .imul, 1), (92, .iconst 2, 1), (93, .iadd, 1), (94, .iload_n 1, 1), (95, .invokestatic 156, 3), (98, .iastore, 1), (99, .aload_n 0, 1), (100, .iconst 2, 1)]
def TX5_takes_1 : List (Nat × Instr × Nat) := [(101, .putfield 150, 3), (104, .iconst 1, 1), (105, .ireturn, 1), (106, .aload_n 0, 1), (107, .getfield 150, 3), (110, .iconst 1, 1), (111, .if_icmp .ne 12, 3), (114, .aload_n 0, 1), (115, .iload_n 1, 1), (116, .bipush 48, 2), (118, .isub, 1), (119, .invokevirtual 159, 3), (122, .ireturn, 1), (123, .aload_n 0, 1), (124, .dup, 1), (125, .getfield 153, 3), (128, .iconst 1, 1), (129, .iadd, 1), (130, .putfield 153, 3), (133, .aload_n 0, 1), (134, .iconst 0, 1), (135, .putfield 150, 3), (138, .iload_n 1, 1), (139, .bipush 44, 2), (141, .if_icmp .ne 7, 3), (144, .iconst 1, 1), (145, .goto 4, 3), (148, .iconst 0, 1), (149, .ireturn, 1)]
def TX5_takes : List (Nat × Instr × Nat) := TX5_takes_0 ++ TX5_takes_1
def TX5_rightUpTo : List (Nat × Instr × Nat) := [(0, .aload_n 0, 1), (1, .iconst 0, 1), (2, .putfield 153, 3), (5, .aload_n 0, 1), (6, .iconst 0, 1), (7, .putfield 150, 3), (10, .iconst 0, 1), (11, .istore_n 1, 1), (12, .iload_n 1, 1), (13, .aload_n 0, 1), (14, .getfield 144, 3), (17, .if_icmp .ge 22, 3), (20, .aload_n 0, 1), (21, .aload_n 0, 1), (22, .getfield 16, 3), (25, .iload_n 1, 1), (26, .iaload, 1), (27, .invokevirtual 162, 3), (30, .ifCond .eq 9, 3), (33, .iinc 1 1, 3), (36, .goto (-24), 3), (39, .iload_n 1, 1), (40, .ireturn, 1)]
def TX5_firstError : List (Nat × Instr × Nat) := [(0, .aload_n 0, 1), (1, .iconst 0, 1), (2, .putfield 25, 3), (5, .aload_n 0, 1), (6, .invokevirtual 165, 3), (9, .ireturn, 1)]
def TX5_carries : List (Nat × Instr × Nat) := [(0, .aload_n 0, 1), (1, .getfield 19, 3), (4, .iconst 3, 1), (5, .iload_n 1, 1), (6, .imul, 1), (7, .iaload, 1), (8, .istore_n 2, 1), (9, .aload_n 0, 1), (10, .getfield 19, 3), (13, .iconst 3, 1), (14, .iload_n 1, 1), (15, .imul, 1), (16, .iconst 1, 1), (17, .iadd, 1), (18, .iaload, 1), (19, .istore_n 3, 1), (20, .aload_n 0, 1), (21, .getfield 19, 3), (24, .iconst 3, 1), (25, .iload_n 1, 1), (26, .imul, 1), (27, .iconst 2, 1), (28, .iadd, 1), (29, .iaload, 1), (30, .istore 4, 2), (32, .iload 4, 2), (34, .ifCond .ne 12, 3), (37, .aload_n 0, 1), (38, .iload_n 2, 1), (39, .iload_n 3, 1), (40, .invokevirtual 116, 3), (43, .goto 16, 3), (46, .aload_n 0, 1), (47, .iload_n 2, 1), (48, .invokevirtual 100, 3), (51, .ifCond .ne 7, 3), (54, .iconst 1, 1), (55, .goto 4, 3), (58, .iconst 0, 1), (59, .istore 5, 2), (61, .iload 5, 2), (63, .ifCond .ne 7, 3), (66, .iconst 0, 1), (67, .goto 25, 3), (70, .iload 4, 2), (72, .ifCond .ne 12, 3), (75, .aload_n 0, 1), (76, .iload_n 2, 1), (77, .iload_n 3, 1), (78, .invokevirtual 119, 3), (81, .goto 11, 3), (84, .aload_n 0, 1), (85, .iload_n 2, 1), (86, .iload_n 3, 1), (87, .iload 4, 2), (89, .invokevirtual 113, 3), (92, .istore 6, 2), (94, .iload 5, 2), (96, .ireturn, 1)]
def TX5_run : List (Nat × Instr × Nat) := [(0, .aload_n 0, 1), (1, .invokevirtual 165, 3), (4, .aload_n 0, 1), (5, .getfield 144, 3), (8, .if_icmp .ne 15, 3), (11, .aload_n 0, 1), (12, .getfield 150, 3), (15, .iconst 2, 1), (16, .if_icmp .ne 7, 3), (19, .iconst 1, 1), (20, .goto 4, 3), (23, .iconst 0, 1), (24, .istore_n 1, 1), (25, .aload_n 0, 1), (26, .iload_n 1, 1), (27, .ifCond .eq 7, 3), (30, .iconst 0, 1), (31, .goto 4, 3), (34, .iconst 1, 1), (35, .putfield 25, 3), (38, .aload_n 0, 1), (39, .getfield 25, 3), (42, .ifCond .le 5, 3), (45, .iconst 0, 1), (46, .ireturn, 1), (47, .aload_n 0, 1), (48, .invokevirtual 110, 3), (51, .aload_n 0, 1), (52, .iconst 0, 1), (53, .putfield 144, 3), (56, .iconst 0, 1), (57, .istore_n 2, 1), (58, .iload_n 2, 1), (59, .aload_n 0, 1), (60, .getfield 153, 3), (63, .if_icmp .gt 17, 3), (66, .aload_n 0, 1), (67, .iload_n 2, 1), (68, .invokevirtual 168, 3), (71, .ifCond .eq 9, 3), (74, .iinc 2 1, 3), (77, .goto (-19), 3), (80, .iload_n 2, 1), (81, .ireturn, 1)]
def TX5_undo : List (Nat × Instr × Nat) := [(0, .aload_n 0, 1), (1, .aload_n 0, 1), (2, .getfield 29, 3), (5, .ifCond .le 7, 3), (8, .iconst 0, 1), (9, .goto 4, 3), (12, .iconst 1, 1), (13, .putfield 25, 3), (16, .aload_n 0, 1), (17, .getfield 25, 3), (20, .ifCond .le 5, 3), (23, .iconst 0, 1), (24, .ireturn, 1), (25, .aload_n 0, 1), (26, .dup, 1), (27, .getfield 29, 3), (30, .iconst 1, 1), (31, .isub, 1), (32, .putfield 29, 3), (35, .iconst 0, 1), (36, .istore_n 1, 1), (37, .iload_n 1, 1), (38, .sipush 361, 3), (41, .if_icmp .ge 30, 3), (44, .aload_n 0, 1), (45, .getfield 7, 3), (48, .iload_n 1, 1), (49, .aload_n 0, 1), (50, .getfield 13, 3), (53, .sipush 361, 3), (56, .aload_n 0, 1), (57, .getfield 29, 3), (60, .imul, 1), (61, .iload_n 1, 1), (62, .iadd, 1), (63, .iaload, 1), (64, .iastore, 1), (65, .iinc 1 1, 3), (68, .goto (-31), 3), (71, .aload_n 0, 1), (72, .getfield 29, 3), (75, .ireturn, 1)]
def TX5_lock : List (Nat × Instr × Nat) := [(0, .aload_n 0, 1), (1, .iload_n 1, 1), (2, .iload_n 2, 1), (3, .invokestatic 103, 3), (6, .ifCond .eq 7, 3), (9, .iconst 0, 1), (10, .goto 4, 3), (13, .iconst 1, 1), (14, .putfield 25, 3), (17, .aload_n 0, 1), (18, .getfield 25, 3), (21, .ifCond .le 7, 3), (24, .iconst 0, 1), (25, .goto 9, 3), (28, .aload_n 0, 1), (29, .iload_n 1, 1), (30, .iload_n 2, 1), (31, .invokevirtual 54, 3), (34, .ireturn, 1)]
def TX5_locksOf : List (Nat × Instr × Nat) := [(0, .iconst 0, 1), (1, .istore_n 2, 1), (2, .iconst 0, 1), (3, .istore_n 3, 1), (4, .iload_n 3, 1), (5, .bipush 12, 2), (7, .if_icmp .ge 26, 3), (10, .iload_n 2, 1), (11, .aload_n 0, 1), (12, .iload_n 1, 1), (13, .iload_n 3, 1), (14, .invokevirtual 54, 3), (17, .ifCond .le 7, 3), (20, .iconst 1, 1), (21, .goto 4, 3), (24, .iconst 0, 1), (25, .iadd, 1), (26, .istore_n 2, 1), (27, .iinc 3 1, 3), (30, .goto (-26), 3), (33, .iload_n 2, 1), (34, .ireturn, 1)]
def TX5_handNow : List (Nat × Instr × Nat) := [(0, .aload_n 0, 1), (1, .iload_n 1, 1), (2, .invokevirtual 50, 3), (5, .istore_n 3, 1), (6, .iload_n 2, 1), (7, .tableswitch 74 0 4 #[33, 39, 45, 47, 68], 33), (40, .aload_n 0, 1), (41, .iload_n 1, 1), (42, .invokevirtual 171, 3), (45, .ireturn, 1), (46, .aload_n 0, 1), (47, .iload_n 1, 1), (48, .invokevirtual 81, 3), (51, .ireturn, 1), (52, .iload_n 3, 1), (53, .ireturn, 1), (54, .iload_n 3, 1), (55, .iconst (-1), 1), (56, .if_icmp .ne 7, 3), (59, .iconst 0, 1), (60, .goto 14, 3), (63, .aload_n 0, 1), (64, .iload_n 3, 1), (65, .aload_n 0, 1), (66, .iload_n 1, 1), (67, .iload_n 3, 1), (68, .invokevirtual 47, 3), (71, .invokevirtual 57, 3), (74, .ireturn, 1), (75, .aload_n 0, 1), (76, .iload_n 1, 1), (77, .invokevirtual 64, 3), (80, .ireturn, 1), (81, .aload_n 0, 1), (82, .getfield 7, 3), (85, .sipush 329, 3), (88, .bipush 8, 2), (90, .iload_n 2, 1), (91, .iconst 5, 1), (92, .isub, 1), (93, .imul, 1), (94, .iadd, 1), (95, .iload_n 1, 1), (96, .iadd, 1), (97, .iaload, 1), (98, .ireturn, 1)]
def TX5_hand : List (Nat × Instr × Nat) := [(0, .aload_n 0, 1), (1, .iload_n 1, 1), (2, .invokestatic 36, 3), (5, .ifCond .ne 7, 3), (8, .iconst 1, 1), (9, .goto 18, 3), (12, .iload_n 2, 1), (13, .iconst 0, 1), (14, .bipush 8, 2), (16, .invokestatic 32, 3), (19, .ifCond .eq 7, 3), (22, .iconst 0, 1), (23, .goto 4, 3), (26, .iconst 2, 1), (27, .putfield 25, 3), (30, .aload_n 0, 1), (31, .getfield 25, 3), (34, .ifCond .le 7, 3), (37, .iconst 0, 1), (38, .goto 9, 3), (41, .aload_n 0, 1), (42, .iload_n 1, 1), (43, .iload_n 2, 1), (44, .invokevirtual 174, 3), (47, .ireturn, 1)]
def TX5_rowNow : List (Nat × Instr × Nat) := [(0, .iload_n 2, 1), (1, .tableswitch 77 0 4 #[35, 45, 51, 57, 67], 35), (36, .aload_n 0, 1), (37, .getfield 7, 3), (40, .bipush 101, 2), (42, .iload_n 1, 1), (43, .iadd, 1), (44, .iaload, 1), (45, .ireturn, 1), (46, .aload_n 0, 1), (47, .iload_n 1, 1), (48, .invokevirtual 125, 3), (51, .ireturn, 1), (52, .aload_n 0, 1), (53, .iload_n 1, 1), (54, .invokevirtual 135, 3), (57, .ireturn, 1), (58, .aload_n 0, 1), (59, .getfield 7, 3), (62, .bipush 125, 2), (64, .iload_n 1, 1), (65, .iadd, 1), (66, .iaload, 1), (67, .ireturn, 1), (68, .aload_n 0, 1), (69, .getfield 7, 3), (72, .bipush 113, 2), (74, .iload_n 1, 1), (75, .iadd, 1), (76, .iaload, 1), (77, .ireturn, 1), (78, .aload_n 0, 1), (79, .getfield 7, 3), (82, .bipush 125, 2), (84, .iload_n 1, 1), (85, .iadd, 1), (86, .iaload, 1), (87, .ifCond .ne 7, 3), (90, .iconst (-1), 1), (91, .goto 9, 3), (94, .aload_n 0, 1), (95, .iload_n 1, 1), (96, .iconst 0, 1), (97, .invokevirtual 43, 3), (100, .ireturn, 1)]
def TX5_row : List (Nat × Instr × Nat) := [(0, .aload_n 0, 1), (1, .iload_n 1, 1), (2, .invokestatic 40, 3), (5, .ifCond .ne 7, 3), (8, .iconst 1, 1), (9, .goto 17, 3), (12, .iload_n 2, 1), (13, .iconst 0, 1), (14, .iconst 5, 1), (15, .invokestatic 32, 3), (18, .ifCond .eq 7, 3), (21, .iconst 0, 1), (22, .goto 4, 3), (25, .iconst 2, 1), (26, .putfield 25, 3), (29, .aload_n 0, 1), (30, .getfield 25, 3), (33, .ifCond .le 7, 3), (36, .iconst 0, 1), (37, .goto 9, 3), (40, .aload_n 0, 1), (41, .iload_n 1, 1), (42, .iload_n 2, 1), (43, .invokevirtual 177, 3), (46, .ireturn, 1)]
def TX5_requestNow : List (Nat × Instr × Nat) := [(0, .iload_n 2, 1), (1, .aload_n 0, 1), (2, .getfield 7, 3), (5, .bipush 125, 2), (7, .iload_n 1, 1), (8, .iadd, 1), (9, .iaload, 1), (10, .if_icmp .lt 7, 3), (13, .iconst (-1), 1), (14, .goto 22, 3), (17, .iload_n 3, 1), (18, .ifCond .ne 12, 3), (21, .aload_n 0, 1), (22, .iload_n 1, 1), (23, .iload_n 2, 1), (24, .invokevirtual 43, 3), (27, .goto 9, 3), (30, .aload_n 0, 1), (31, .iload_n 1, 1), (32, .iload_n 2, 1), (33, .invokevirtual 57, 3), (36, .ireturn, 1)]
def TX5_request : List (Nat × Instr × Nat) := [(0, .aload_n 0, 1), (1, .iload_n 1, 1), (2, .invokestatic 40, 3), (5, .ifCond .ne 7, 3), (8, .iconst 1, 1), (9, .goto 27, 3), (12, .iload_n 2, 1), (13, .iconst 0, 1), (14, .bipush 7, 2), (16, .invokestatic 32, 3), (19, .ifCond .eq 16, 3), (22, .iload_n 3, 1), (23, .iconst 0, 1), (24, .iconst 1, 1), (25, .invokestatic 32, 3), (28, .ifCond .eq 7, 3), (31, .iconst 0, 1), (32, .goto 4, 3), (35, .iconst 2, 1), (36, .putfield 25, 3), (39, .aload_n 0, 1), (40, .getfield 25, 3), (43, .ifCond .le 7, 3), (46, .iconst 0, 1), (47, .goto 10, 3), (50, .aload_n 0, 1), (51, .iload_n 1, 1), (52, .iload_n 2, 1), (53, .iload_n 3, 1), (54, .invokevirtual 180, 3), (57, .ireturn, 1)]
def TX5_sumFrom : List (Nat × Instr × Nat) := [(0, .iconst 0, 1), (1, .istore_n 3, 1), (2, .iconst 0, 1), (3, .istore 4, 2), (5, .iload 4, 2), (7, .iload_n 2, 1), (8, .if_icmp .ge 21, 3), (11, .iload_n 3, 1), (12, .aload_n 0, 1), (13, .getfield 7, 3), (16, .iload_n 1, 1), (17, .iload 4, 2), (19, .iadd, 1), (20, .iaload, 1), (21, .iadd, 1), (22, .istore_n 3, 1), (23, .iinc 4 1, 3), (26, .goto (-21), 3), (29, .iload_n 3, 1), (30, .ireturn, 1)]
def TX5_allLocks : List (Nat × Instr × Nat) := [(0, .iconst 0, 1), (1, .istore_n 1, 1), (2, .iconst 0, 1), (3, .istore_n 2, 1), (4, .iload_n 2, 1), (5, .bipush 8, 2), (7, .if_icmp .ge 17, 3), (10, .iload_n 1, 1), (11, .aload_n 0, 1), (12, .iload_n 2, 1), (13, .invokevirtual 171, 3), (16, .iadd, 1), (17, .istore_n 1, 1), (18, .iinc 2 1, 3), (21, .goto (-17), 3), (24, .iload_n 1, 1), (25, .ireturn, 1)]
def TX5_heldRows : List (Nat × Instr × Nat) := [(0, .iconst 0, 1), (1, .istore_n 1, 1), (2, .iconst 0, 1), (3, .istore_n 2, 1), (4, .iload_n 2, 1), (5, .bipush 12, 2), (7, .if_icmp .ge 25, 3), (10, .iload_n 1, 1), (11, .aload_n 0, 1), (12, .iload_n 2, 1), (13, .invokevirtual 135, 3), (16, .ifCond .le 7, 3), (19, .iconst 1, 1), (20, .goto 4, 3), (23, .iconst 0, 1), (24, .iadd, 1), (25, .istore_n 1, 1), (26, .iinc 2 1, 3), (29, .goto (-25), 3), (32, .iload_n 1, 1), (33, .ireturn, 1)]
def TX5_counted : List (Nat × Instr × Nat) := [(0, .iload_n 1, 1), (1, .tableswitch 120 0 8 #[51, 56, 65, 65, 76, 86, 95, 105, 115], 51), (52, .aload_n 0, 1), (53, .invokevirtual 183, 3), (56, .ireturn, 1), (57, .aload_n 0, 1), (58, .bipush 125, 2), (60, .bipush 12, 2), (62, .invokevirtual 186, 3), (65, .ireturn, 1), (66, .aload_n 0, 1), (67, .getfield 7, 3), (70, .iconst 3, 1), (71, .iload_n 1, 1), (72, .iadd, 1), (73, .iconst 2, 1), (74, .isub, 1), (75, .iaload, 1), (76, .ireturn, 1), (77, .aload_n 0, 1), (78, .sipush 337, 3), (81, .bipush 8, 2), (83, .invokevirtual 186, 3), (86, .ireturn, 1), (87, .aload_n 0, 1), (88, .bipush 113, 2), (90, .bipush 12, 2), (92, .invokevirtual 186, 3), (95, .ireturn, 1), (96, .aload_n 0, 1), (97, .sipush 345, 3), (100, .bipush 8, 2), (102, .invokevirtual 186, 3), (105, .ireturn, 1), (106, .aload_n 0, 1), (107, .sipush 353, 3), (110, .bipush 8, 2), (112, .invokevirtual 186, 3), (115, .ireturn, 1), (116, .aload_n 0, 1), (117, .invokevirtual 189, 3), (120, .ireturn, 1), (121, .aload_n 0, 1), (122, .getfield 29, 3), (125, .ireturn, 1)]
def TX5_count : List (Nat × Instr × Nat) := [(0, .aload_n 0, 1), (1, .iload_n 1, 1), (2, .iconst 0, 1), (3, .bipush 9, 2), (5, .invokestatic 32, 3), (8, .ifCond .eq 7, 3), (11, .iconst 0, 1), (12, .goto 4, 3), (15, .iconst 1, 1), (16, .putfield 25, 3), (19, .aload_n 0, 1), (20, .getfield 25, 3), (23, .ifCond .le 7, 3), (26, .iconst 0, 1), (27, .goto 8, 3), (30, .aload_n 0, 1), (31, .iload_n 1, 1), (32, .invokevirtual 192, 3), (35, .ireturn, 1)]
def TX5_setting : List (Nat × Instr × Nat) := [(0, .aload_n 0, 1), (1, .iload_n 1, 1), (2, .invokestatic 138, 3), (5, .ifCond .eq 7, 3), (8, .iconst 0, 1), (9, .goto 4, 3), (12, .iconst 1, 1), (13, .putfield 25, 3), (16, .aload_n 0, 1), (17, .getfield 25, 3), (20, .ifCond .le 7, 3), (23, .iconst 0, 1), (24, .goto 11, 3), (27, .aload_n 0, 1), (28, .getfield 7, 3), (31, .iconst 0, 1), (32, .iload_n 1, 1), (33, .iadd, 1), (34, .iaload, 1), (35, .ireturn, 1)]
def TX5_keep : List (Nat × Instr × Nat) := [(0, .iconst 0, 1), (1, .istore_n 1, 1), (2, .iload_n 1, 1), (3, .sipush 361, 3), (6, .if_icmp .ge 21, 3), (9, .aload_n 0, 1), (10, .getfield 22, 3), (13, .iload_n 1, 1), (14, .aload_n 0, 1), (15, .getfield 7, 3), (18, .iload_n 1, 1), (19, .iaload, 1), (20, .iastore, 1), (21, .iinc 1 1, 3), (24, .goto (-22), 3), (27, .return_, 1)]
def TX5_layBack : List (Nat × Instr × Nat) := [(0, .iconst 0, 1), (1, .istore_n 1, 1), (2, .iload_n 1, 1), (3, .sipush 361, 3), (6, .if_icmp .ge 21, 3), (9, .aload_n 0, 1), (10, .getfield 7, 3), (13, .iload_n 1, 1), (14, .aload_n 0, 1), (15, .getfield 22, 3), (18, .iload_n 1, 1), (19, .iaload, 1), (20, .iastore, 1), (21, .iinc 1 1, 3), (24, .goto (-22), 3), (27, .return_, 1)]
def TX5_askedThen : List (Nat × Instr × Nat) := [(0, .aload_n 0, 1), (1, .iload_n 1, 1), (2, .invokevirtual 100, 3), (5, .ifCond .eq 5, 3), (8, .iconst (-1), 1), (9, .ireturn, 1), (10, .aload_n 0, 1), (11, .invokevirtual 195, 3), (14, .aload_n 0, 1), (15, .sipush 337, 3), (18, .bipush 8, 2), (20, .invokevirtual 186, 3), (23, .istore 5, 2), (25, .aload_n 0, 1), (26, .iload_n 1, 1), (27, .iload_n 2, 1), (28, .iload_n 3, 1), (29, .invokevirtual 113, 3), (32, .istore 6, 2), (34, .iload 4, 2), (36, .ifCond .ne 8, 3), (39, .iload 6, 2), (41, .goto 28, 3), (44, .iload 4, 2), (46, .iconst 1, 1), (47, .if_icmp .ne 18, 3), (50, .aload_n 0, 1), (51, .sipush 337, 3), (54, .bipush 8, 2), (56, .invokevirtual 186, 3), (59, .iload 5, 2), (61, .isub, 1), (62, .goto 7, 3), (65, .aload_n 0, 1), (66, .invokevirtual 183, 3), (69, .istore 7, 2), (71, .aload_n 0, 1), (72, .invokevirtual 198, 3), (75, .iload 7, 2), (77, .ireturn, 1)]
def TX5_ifAsked : List (Nat × Instr × Nat) := [(0, .aload_n 0, 1), (1, .iload_n 1, 1), (2, .iload_n 2, 1), (3, .invokestatic 103, 3), (6, .ifCond .ne 7, 3), (9, .iconst 1, 1), (10, .goto 25, 3), (13, .iload_n 3, 1), (14, .invokestatic 107, 3), (17, .ifCond .eq 17, 3), (20, .iload 4, 2), (22, .iconst 0, 1), (23, .iconst 2, 1), (24, .invokestatic 32, 3), (27, .ifCond .eq 7, 3), (30, .iconst 0, 1), (31, .goto 4, 3), (34, .iconst 2, 1), (35, .putfield 25, 3), (38, .aload_n 0, 1), (39, .getfield 25, 3), (42, .ifCond .le 7, 3), (45, .iconst 0, 1), (46, .goto 12, 3), (49, .aload_n 0, 1), (50, .iload_n 1, 1), (51, .iload_n 2, 1), (52, .iload_n 3, 1), (53, .iload 4, 2), (55, .invokevirtual 201, 3), (58, .ireturn, 1)]
def TX5_takersNow : List (Nat × Instr × Nat) := [(0, .iconst 0, 1), (1, .istore_n 3, 1), (2, .iconst 0, 1), (3, .istore 4, 2), (5, .iload 4, 2), (7, .bipush 8, 2), (9, .if_icmp .ge 31, 3), (12, .iload_n 3, 1), (13, .aload_n 0, 1), (14, .iload_n 1, 1), (15, .iload_n 2, 1), (16, .iload 4, 2), (18, .invokevirtual 122, 3), (21, .ifCond .eq 10, 3), (24, .iconst 1, 1), (25, .iload 4, 2), (27, .ishl, 1), (28, .goto 4, 3), (31, .iconst 0, 1), (32, .ior, 1), (33, .istore_n 3, 1), (34, .iinc 4 1, 3), (37, .goto (-32), 3), (40, .iload_n 3, 1), (41, .ireturn, 1)]
def TX5_takers : List (Nat × Instr × Nat) := [(0, .aload_n 0, 1), (1, .iload_n 1, 1), (2, .iload_n 2, 1), (3, .invokestatic 103, 3), (6, .ifCond .eq 7, 3), (9, .iconst 0, 1), (10, .goto 4, 3), (13, .iconst 1, 1), (14, .putfield 25, 3), (17, .aload_n 0, 1), (18, .getfield 25, 3), (21, .ifCond .le 7, 3), (24, .iconst 0, 1), (25, .goto 9, 3), (28, .aload_n 0, 1), (29, .iload_n 1, 1), (30, .iload_n 2, 1), (31, .invokevirtual 205, 3), (34, .ireturn, 1)]
def TX5_burnsNow : List (Nat × Instr × Nat) := [(0, .aload_n 0, 1), (1, .invokevirtual 195, 3), (4, .iconst (-1), 1), (5, .istore_n 2, 1), (6, .iconst 1, 1), (7, .istore_n 3, 1), (8, .iload_n 3, 1), (9, .sipush 300, 3), (12, .if_icmp .gt 32, 3), (15, .iload_n 2, 1), (16, .iconst (-1), 1), (17, .if_icmp .ne 27, 3), (20, .aload_n 0, 1), (21, .invokevirtual 131, 3), (24, .iload_n 1, 1), (25, .ishr, 1), (26, .iconst 1, 1), (27, .iand, 1), (28, .iconst 1, 1), (29, .if_icmp .ne 7, 3), (32, .iload_n 3, 1), (33, .goto 4, 3), (36, .iconst (-1), 1), (37, .istore_n 2, 1), (38, .iinc 3 1, 3), (41, .goto (-33), 3), (44, .aload_n 0, 1), (45, .invokevirtual 198, 3), (48, .iload_n 2, 1), (49, .ireturn, 1)]
def TX5_burnsIn : List (Nat × Instr × Nat) := [(0, .aload_n 0, 1), (1, .iload_n 1, 1), (2, .invokestatic 40, 3), (5, .ifCond .eq 7, 3), (8, .iconst 0, 1), (9, .goto 4, 3), (12, .iconst 1, 1), (13, .putfield 25, 3), (16, .aload_n 0, 1), (17, .getfield 25, 3), (20, .ifCond .le 7, 3), (23, .iconst 0, 1), (24, .goto 8, 3), (27, .aload_n 0, 1), (28, .iload_n 1, 1), (29, .invokevirtual 208, 3), (32, .ireturn, 1)]
def TX5_waitsFor : List (Nat × Instr × Nat) := [(0, .aload_n 0, 1), (1, .iload_n 1, 1), (2, .invokestatic 36, 3), (5, .ifCond .eq 7, 3), (8, .iconst 0, 1), (9, .goto 4, 3), (12, .iconst 1, 1), (13, .putfield 25, 3), (16, .aload_n 0, 1), (17, .getfield 25, 3), (20, .ifCond .le 7, 3), (23, .iconst 0, 1), (24, .goto 8, 3), (27, .aload_n 0, 1), (28, .iload_n 1, 1), (29, .invokevirtual 78, 3), (32, .ireturn, 1)]
def TX5_busiestNow : List (Nat × Instr × Nat) := [(0, .iconst (-1), 1), (1, .istore_n 1, 1), (2, .iconst 0, 1), (3, .istore_n 2, 1), (4, .iconst 0, 1), (5, .istore_n 3, 1), (6, .iload_n 3, 1), (7, .bipush 8, 2), (9, .if_icmp .ge 87, 3), (12, .iconst 0, 1), (13, .istore 4, 2), (15, .iconst 0, 1), (16, .istore 5, 2), (18, .iload 5, 2), (20, .bipush 8, 2), (22, .if_icmp .ge 24, 3), (25, .iload 4, 2), (27, .aload_n 0, 1), (28, .iload 5, 2), (30, .invokevirtual 78, 3), (33, .iload_n 3, 1), (34, .ishr, 1), (35, .iconst 1, 1), (36, .iand, 1), (37, .iadd, 1), (38, .istore 4, 2), (40, .iinc 5 1, 3), (43, .goto (-25), 3), (46, .aload_n 0, 1), (47, .iload_n 3, 1), (48, .invokevirtual 100, 3), (51, .ifCond .ne 13, 3), (54, .iload 4, 2), (56, .iload_n 2, 1), (57, .if_icmp .le 7, 3), (60, .iconst 1, 1), (61, .goto 4, 3), (64, .iconst 0, 1), (65, .istore 5, 2), (67, .iload 5, 2), (69, .ifCond .eq 7, 3), (72, .iload_n 3, 1), (73, .goto 4, 3), (76, .iload_n 1, 1), (77, .istore_n 1, 1), (78, .iload 5, 2), (80, .ifCond .eq 8, 3), (83, .iload 4, 2), (85, .goto 4, 3), (88, .iload_n 2, 1), (89, .istore_n 2, 1), (90, .iinc 3 1, 3), (93, .goto (-87), 3), (96, .iload_n 1, 1), (97, .ireturn, 1)]
def TX5_busiest : List (Nat × Instr × Nat) := [(0, .aload_n 0, 1), (1, .iconst 0, 1), (2, .putfield 25, 3), (5, .aload_n 0, 1), (6, .invokevirtual 211, 3), (9, .ireturn, 1)]
def TX5_share : List (Nat × Instr × Nat) := [(0, .aload_n 0, 1), (1, .sipush 353, 3), (4, .bipush 8, 2), (6, .invokevirtual 186, 3), (9, .istore_n 1, 1), (10, .iload_n 1, 1), (11, .ifCond .ne 7, 3), (14, .dconst 1, 1), (15, .goto 16, 3), (18, .aload_n 0, 1), (19, .sipush 345, 3), (22, .bipush 8, 2), (24, .invokevirtual 186, 3), (27, .i2d, 1), (28, .iload_n 1, 1), (29, .i2d, 1), (30, .ddiv, 1), (31, .dreturn, 1)]
def TX5_grantedShare : List (Nat × Instr × Nat) := [(0, .aload_n 0, 1), (1, .iconst 0, 1), (2, .putfield 25, 3), (5, .aload_n 0, 1), (6, .invokevirtual 214, 3), (9, .dreturn, 1)]
def TX5_mix : List (Nat × Instr × Nat) := [(0, .aload_n 0, 1), (1, .ldc2_w 218, 3), (4, .aload_n 0, 1), (5, .getfield 220, 3), (8, .lmul, 1), (9, .lload_n 1, 1), (10, .ladd, 1), (11, .putfield 220, 3), (14, .return_, 1)]
def TX5_mixHand : List (Nat × Instr × Nat) := [(0, .iconst 0, 1), (1, .istore_n 2, 1), (2, .iload_n 2, 1), (3, .bipush 9, 2), (5, .if_icmp .ge 20, 3), (8, .aload_n 0, 1), (9, .aload_n 0, 1), (10, .iload_n 1, 1), (11, .iload_n 2, 1), (12, .invokevirtual 174, 3), (15, .i2l, 1), (16, .invokevirtual 224, 3), (19, .iinc 2 1, 3), (22, .goto (-20), 3), (25, .iconst 0, 1), (26, .istore_n 2, 1), (27, .iload_n 2, 1), (28, .bipush 12, 2), (30, .if_icmp .ge 20, 3), (33, .aload_n 0, 1), (34, .aload_n 0, 1), (35, .iload_n 1, 1), (36, .iload_n 2, 1), (37, .invokevirtual 54, 3), (40, .i2l, 1), (41, .invokevirtual 224, 3), (44, .iinc 2 1, 3), (47, .goto (-20), 3), (50, .aload_n 0, 1), (51, .aload_n 0, 1), (52, .iload_n 1, 1), (53, .invokevirtual 78, 3), (56, .i2l, 1), (57, .invokevirtual 224, 3), (60, .return_, 1)]
def TX5_mixRow_0 : List (Nat × Instr × Nat) := [(0, .iconst 0, 1), (1, .istore_n 2, 1), (2, .iload_n 2, 1), (3, .bipush 6, 2), (5, .if_icmp .ge 20, 3), (8, .aload_n 0, 1), (9, .aload_n 0, 1), (10, .iload_n 1, 1), (11, .iload_n 2, 1), (12, .invokevirtual 177, 3), (15, .i2l, 1), (16, .invokevirtual 224, 3), (19, .iinc 2 1, 3), (22, .goto (-20), 3), (25, .iconst 0, 1), (26, .istore_n 2, 1), (27, .iload_n 2, 1), (28, .aload_n 0, 1), (29, .getfield 7, 3), (32, .bipush 125, 2), (34, .iload_n 1, 1), (35, .iadd, 1), (36, .iaload, 1), (37, .if_icmp .ge 31, 3), (40, .aload_n 0, 1), (41, .aload_n 0, 1), (42, .iload_n 1, 1), (43, .iload_n 2, 1), (44, .invokevirtual 43, 3), (47, .i2l, 1), (48, .invokevirtual 224, 3), (51, .aload_n 0, 1), (52, .aload_n 0, 1), (53, .iload_n 1, 1), (54, .iload_n 2, 1), (55, .invokevirtual 57, 3), (58, .i2l, 1), (59, .invokevirtual 224, 3), (62, .iinc 2 1, 3), (65, .goto (-38), 3), (68, .aload_n 0, 1), (69, .aload_n 0, 1), (70, .iload_n 1, 1), (71, .invokevirtual 208, 3), (74, .i2l, 1), (75, .invokevirtual 224, 3), (78, .iconst 0, 1), (79, .istore_n 2, 1), (80, .iload_n 2, 1), (81, .iconst 3, 1), (82, .if_icmp .ge 22, 3), (85, .aload_n 0, 1), (86, .aload_n 0, 1), (87, .iconst 0, 1), (88, .iload_n 1, 1), (89, .iconst 3, 1), (90, .iload_n 2, 1), (91, .invokevirtual 201, 3), (94, .i2l, 1), (95, .invokevirtual 224, 3)]
def TX5_mixRow_1 : List (Nat × Instr × Nat) := [(98, .iinc 2 1, 3), (101, .goto (-21), 3), (104, .aload_n 0, 1), (105, .aload_n 0, 1), (106, .iconst 0, 1), (107, .iload_n 1, 1), (108, .invokevirtual 205, 3), (111, .i2l, 1), (112, .invokevirtual 224, 3), (115, .return_, 1)]
def TX5_mixRow : List (Nat × Instr × Nat) := TX5_mixRow_0 ++ TX5_mixRow_1
def TX5_digest_0 : List (Nat × Instr × Nat) := [(0, .aload_n 0, 1), (1, .iconst 0, 1), (2, .putfield 25, 3), (5, .aload_n 0, 1), (6, .ldc2_w 228, 3), (9, .putfield 220, 3), (12, .iconst 0, 1), (13, .istore_n 1, 1), (14, .iload_n 1, 1), (15, .bipush 10, 2), (17, .if_icmp .ge 19, 3), (20, .aload_n 0, 1), (21, .aload_n 0, 1), (22, .iload_n 1, 1), (23, .invokevirtual 192, 3), (26, .i2l, 1), (27, .invokevirtual 224, 3), (30, .iinc 1 1, 3), (33, .goto (-19), 3), (36, .iconst 0, 1), (37, .istore_n 1, 1), (38, .iload_n 1, 1), (39, .iconst 3, 1), (40, .if_icmp .ge 22, 3), (43, .aload_n 0, 1), (44, .aload_n 0, 1), (45, .getfield 7, 3), (48, .iconst 0, 1), (49, .iload_n 1, 1), (50, .iadd, 1), (51, .iaload, 1), (52, .i2l, 1), (53, .invokevirtual 224, 3), (56, .iinc 1 1, 3), (59, .goto (-21), 3), (62, .iconst 0, 1), (63, .istore_n 1, 1), (64, .iload_n 1, 1), (65, .bipush 8, 2), (67, .if_icmp .ge 14, 3), (70, .aload_n 0, 1), (71, .iload_n 1, 1), (72, .invokevirtual 230, 3), (75, .iinc 1 1, 3), (78, .goto (-14), 3), (81, .iconst 0, 1), (82, .istore_n 1, 1), (83, .iload_n 1, 1), (84, .bipush 12, 2), (86, .if_icmp .ge 14, 3), (89, .aload_n 0, 1), (90, .iload_n 1, 1), (91, .invokevirtual 233, 3), (94, .iinc 1 1, 3), (97, .goto (-14), 3), (100, .aload_n 0, 1), (101, .aload_n 0, 1), (102, .invokevirtual 211, 3), (105, .i2l, 1), (106, .invokevirtual 224, 3)]
def TX5_digest_1 : List (Nat × Instr × Nat) := [(109, .aload_n 0, 1), (110, .aload_n 0, 1), (111, .invokevirtual 214, 3), (114, .invokestatic 236, 3), (117, .invokevirtual 224, 3), (120, .aload_n 0, 1), (121, .aload_n 0, 1), (122, .getfield 144, 3), (125, .i2l, 1), (126, .invokevirtual 224, 3), (129, .iconst 0, 1), (130, .istore_n 1, 1), (131, .iload_n 1, 1), (132, .aload_n 0, 1), (133, .getfield 144, 3), (136, .if_icmp .ge 20, 3), (139, .aload_n 0, 1), (140, .aload_n 0, 1), (141, .getfield 16, 3), (144, .iload_n 1, 1), (145, .iaload, 1), (146, .i2l, 1), (147, .invokevirtual 224, 3), (150, .iinc 1 1, 3), (153, .goto (-22), 3), (156, .aload_n 0, 1), (157, .getfield 220, 3), (160, .lreturn, 1)]
def TX5_digest : List (Nat × Instr × Nat) := TX5_digest_0 ++ TX5_digest_1
def TJxe99ae_isNaN_b9ae7 : List (Nat × Instr × Nat) := [(0, .dload_n 0, 1), (1, .dload_n 0, 1), (2, .dcmp .l, 1), (3, .ifCond .eq 7, 3), (6, .iconst 1, 1), (7, .goto 4, 3), (10, .iconst 0, 1), (11, .ireturn, 1)]
def TJxe99ae_doubleToLongBits_ccdee : List (Nat × Instr × Nat) := [(0, .dload_n 0, 1), (1, .invokestatic 122, 3), (4, .ifCond .ne 8, 3), (7, .dload_n 0, 1), (8, .invokestatic 134, 3), (11, .lreturn, 1), (12, .ldc2_w 137, 3), (15, .lreturn, 1)]
def TJ9_max_7cf53 : List (Nat × Instr × Nat) := [(0, .iload_n 0, 1), (1, .iload_n 1, 1), (2, .if_icmp .lt 7, 3), (5, .iload_n 0, 1), (6, .goto 4, 3), (9, .iload_n 1, 1), (10, .ireturn, 1)]
def TJ9_min_7cf53 : List (Nat × Instr × Nat) := [(0, .iload_n 0, 1), (1, .iload_n 1, 1), (2, .if_icmp .gt 7, 3), (5, .iload_n 0, 1), (6, .goto 4, 3), (9, .iload_n 1, 1), (10, .ireturn, 1)]
def TL_ask : List (Nat × Instr × Nat) := [(0, .aload 4, 2), (2, .iconst 0, 1), (3, .aload_n 0, 1), (4, .iload_n 1, 1), (5, .iload_n 2, 1), (6, .iload_n 3, 1), (7, .invokevirtual 7, 3), (10, .i2l, 1), (11, .lastore, 1), (12, .goto 15, 3), (15, .astore 5, 2), (17, .iconst 1, 1), (18, .ireturn, 1), (19, .astore 5, 2), (21, .iconst 2, 1), (22, .ireturn, 1), (23, .astore 5, 2), (25, .iconst 3, 1), (26, .ireturn, 1), (27, .iconst 0, 1), (28, .ireturn, 1)]
def TL_release : List (Nat × Instr × Nat) := [(0, .aload_n 3, 1), (1, .iconst 0, 1), (2, .aload_n 0, 1), (3, .iload_n 1, 1), (4, .iload_n 2, 1), (5, .invokevirtual 19, 3), (8, .i2l, 1), (9, .lastore, 1), (10, .goto 11, 3), (13, .astore 4, 2), (15, .iconst 1, 1), (16, .ireturn, 1), (17, .astore 4, 2), (19, .iconst 2, 1), (20, .ireturn, 1), (21, .iconst 0, 1), (22, .ireturn, 1)]
def TL_giveUp : List (Nat × Instr × Nat) := [(0, .aload_n 2, 1), (1, .iconst 0, 1), (2, .aload_n 0, 1), (3, .iload_n 1, 1), (4, .invokevirtual 23, 3), (7, .i2l, 1), (8, .lastore, 1), (9, .goto 9, 3), (12, .astore_n 3, 1), (13, .iconst 1, 1), (14, .ireturn, 1), (15, .astore_n 3, 1), (16, .iconst 2, 1), (17, .ireturn, 1), (18, .iconst 0, 1), (19, .ireturn, 1)]
def TL_handOn : List (Nat × Instr × Nat) := [(0, .aload 4, 2), (2, .iconst 0, 1), (3, .aload_n 0, 1), (4, .iload_n 1, 1), (5, .iload_n 2, 1), (6, .iload_n 3, 1), (7, .invokevirtual 27, 3), (10, .i2l, 1), (11, .lastore, 1), (12, .goto 11, 3), (15, .astore 5, 2), (17, .iconst 1, 1), (18, .ireturn, 1), (19, .astore 5, 2), (21, .iconst 2, 1), (22, .ireturn, 1), (23, .iconst 0, 1), (24, .ireturn, 1)]
def TL_pass : List (Nat × Instr × Nat) := [(0, .aload_n 2, 1), (1, .iconst 0, 1), (2, .aload_n 0, 1), (3, .iload_n 1, 1), (4, .invokevirtual 30, 3), (7, .i2l, 1), (8, .lastore, 1), (9, .goto 6, 3), (12, .astore_n 3, 1), (13, .iconst 1, 1), (14, .ireturn, 1), (15, .iconst 0, 1), (16, .ireturn, 1)]
def TL_cool : List (Nat × Instr × Nat) := [(0, .aload_n 2, 1), (1, .iconst 0, 1), (2, .aload_n 0, 1), (3, .iload_n 1, 1), (4, .invokevirtual 33, 3), (7, .i2l, 1), (8, .lastore, 1), (9, .goto 9, 3), (12, .astore_n 3, 1), (13, .iconst 1, 1), (14, .ireturn, 1), (15, .astore_n 3, 1), (16, .iconst 2, 1), (17, .ireturn, 1), (18, .iconst 0, 1), (19, .ireturn, 1)]
def TL_set : List (Nat × Instr × Nat) := [(0, .aload_n 3, 1), (1, .iconst 0, 1), (2, .aload_n 0, 1), (3, .iload_n 1, 1), (4, .iload_n 2, 1), (5, .invokevirtual 36, 3), (8, .i2l, 1), (9, .lastore, 1), (10, .goto 11, 3), (13, .astore 4, 2), (15, .iconst 1, 1), (16, .ireturn, 1), (17, .astore 4, 2), (19, .iconst 2, 1), (20, .ireturn, 1), (21, .iconst 0, 1), (22, .ireturn, 1)]
def TL_append : List (Nat × Instr × Nat) := [(0, .aload_n 2, 1), (1, .iconst 0, 1), (2, .aload_n 0, 1), (3, .iload_n 1, 1), (4, .invokevirtual 39, 3), (7, .i2l, 1), (8, .lastore, 1), (9, .goto 9, 3), (12, .astore_n 3, 1), (13, .iconst 1, 1), (14, .ireturn, 1), (15, .astore_n 3, 1), (16, .iconst 2, 1), (17, .ireturn, 1), (18, .iconst 0, 1), (19, .ireturn, 1)]
def TL_run : List (Nat × Instr × Nat) := [(0, .aload_n 1, 1), (1, .iconst 0, 1), (2, .aload_n 0, 1), (3, .invokevirtual 42, 3), (6, .i2l, 1), (7, .lastore, 1), (8, .goto 6, 3), (11, .astore_n 2, 1), (12, .iconst 1, 1), (13, .ireturn, 1), (14, .iconst 0, 1), (15, .ireturn, 1)]
def TL_undo : List (Nat × Instr × Nat) := [(0, .aload_n 1, 1), (1, .iconst 0, 1), (2, .aload_n 0, 1), (3, .invokevirtual 46, 3), (6, .i2l, 1), (7, .lastore, 1), (8, .goto 6, 3), (11, .astore_n 2, 1), (12, .iconst 1, 1), (13, .ireturn, 1), (14, .iconst 0, 1), (15, .ireturn, 1)]
def TL_lock : List (Nat × Instr × Nat) := [(0, .aload_n 3, 1), (1, .iconst 0, 1), (2, .aload_n 0, 1), (3, .iload_n 1, 1), (4, .iload_n 2, 1), (5, .invokevirtual 49, 3), (8, .i2l, 1), (9, .lastore, 1), (10, .goto 7, 3), (13, .astore 4, 2), (15, .iconst 1, 1), (16, .ireturn, 1), (17, .iconst 0, 1), (18, .ireturn, 1)]
def TL_hand : List (Nat × Instr × Nat) := [(0, .aload_n 3, 1), (1, .iconst 0, 1), (2, .aload_n 0, 1), (3, .iload_n 1, 1), (4, .iload_n 2, 1), (5, .invokevirtual 52, 3), (8, .i2l, 1), (9, .lastore, 1), (10, .goto 11, 3), (13, .astore 4, 2), (15, .iconst 1, 1), (16, .ireturn, 1), (17, .astore 4, 2), (19, .iconst 2, 1), (20, .ireturn, 1), (21, .iconst 0, 1), (22, .ireturn, 1)]
def TL_row : List (Nat × Instr × Nat) := [(0, .aload_n 3, 1), (1, .iconst 0, 1), (2, .aload_n 0, 1), (3, .iload_n 1, 1), (4, .iload_n 2, 1), (5, .invokevirtual 55, 3), (8, .i2l, 1), (9, .lastore, 1), (10, .goto 11, 3), (13, .astore 4, 2), (15, .iconst 1, 1), (16, .ireturn, 1), (17, .astore 4, 2), (19, .iconst 2, 1), (20, .ireturn, 1), (21, .iconst 0, 1), (22, .ireturn, 1)]
def TL_request : List (Nat × Instr × Nat) := [(0, .aload 4, 2), (2, .iconst 0, 1), (3, .aload_n 0, 1), (4, .iload_n 1, 1), (5, .iload_n 2, 1), (6, .iload_n 3, 1), (7, .invokevirtual 58, 3), (10, .i2l, 1), (11, .lastore, 1), (12, .goto 11, 3), (15, .astore 5, 2), (17, .iconst 1, 1), (18, .ireturn, 1), (19, .astore 5, 2), (21, .iconst 2, 1), (22, .ireturn, 1), (23, .iconst 0, 1), (24, .ireturn, 1)]
def TL_count : List (Nat × Instr × Nat) := [(0, .aload_n 2, 1), (1, .iconst 0, 1), (2, .aload_n 0, 1), (3, .iload_n 1, 1), (4, .invokevirtual 61, 3), (7, .i2l, 1), (8, .lastore, 1), (9, .goto 6, 3), (12, .astore_n 3, 1), (13, .iconst 1, 1), (14, .ireturn, 1), (15, .iconst 0, 1), (16, .ireturn, 1)]
def TL_setting : List (Nat × Instr × Nat) := [(0, .aload_n 2, 1), (1, .iconst 0, 1), (2, .aload_n 0, 1), (3, .iload_n 1, 1), (4, .invokevirtual 64, 3), (7, .i2l, 1), (8, .lastore, 1), (9, .goto 6, 3), (12, .astore_n 3, 1), (13, .iconst 1, 1), (14, .ireturn, 1), (15, .iconst 0, 1), (16, .ireturn, 1)]
def TL_ifAsked : List (Nat × Instr × Nat) := [(0, .aload 5, 2), (2, .iconst 0, 1), (3, .aload_n 0, 1), (4, .iload_n 1, 1), (5, .iload_n 2, 1), (6, .iload_n 3, 1), (7, .iload 4, 2), (9, .invokevirtual 67, 3), (12, .i2l, 1), (13, .lastore, 1), (14, .goto 11, 3), (17, .astore 6, 2), (19, .iconst 1, 1), (20, .ireturn, 1), (21, .astore 6, 2), (23, .iconst 2, 1), (24, .ireturn, 1), (25, .iconst 0, 1), (26, .ireturn, 1)]
def TL_takers : List (Nat × Instr × Nat) := [(0, .aload_n 3, 1), (1, .iconst 0, 1), (2, .aload_n 0, 1), (3, .iload_n 1, 1), (4, .iload_n 2, 1), (5, .invokevirtual 71, 3), (8, .i2l, 1), (9, .lastore, 1), (10, .goto 7, 3), (13, .astore 4, 2), (15, .iconst 1, 1), (16, .ireturn, 1), (17, .iconst 0, 1), (18, .ireturn, 1)]
def TL_burnsIn : List (Nat × Instr × Nat) := [(0, .aload_n 2, 1), (1, .iconst 0, 1), (2, .aload_n 0, 1), (3, .iload_n 1, 1), (4, .invokevirtual 74, 3), (7, .i2l, 1), (8, .lastore, 1), (9, .goto 6, 3), (12, .astore_n 3, 1), (13, .iconst 1, 1), (14, .ireturn, 1), (15, .iconst 0, 1), (16, .ireturn, 1)]
def TL_waitsFor : List (Nat × Instr × Nat) := [(0, .aload_n 2, 1), (1, .iconst 0, 1), (2, .aload_n 0, 1), (3, .iload_n 1, 1), (4, .invokevirtual 77, 3), (7, .i2l, 1), (8, .lastore, 1), (9, .goto 6, 3), (12, .astore_n 3, 1), (13, .iconst 1, 1), (14, .ireturn, 1), (15, .iconst 0, 1), (16, .ireturn, 1)]
def TL_law_0 : List (Nat × Instr × Nat) := [(0, .new 8, 3), (3, .dup, 1), (4, .invokespecial 80, 3), (7, .astore_n 1, 1), (8, .new 81, 3), (11, .dup, 1), (12, .invokespecial 83, 3), (15, .astore_n 2, 1), (16, .iconst 1, 1), (17, .newarray .long, 2), (19, .astore_n 3, 1), (20, .iconst 0, 1), (21, .istore 4, 2), (23, .iload 4, 2), (25, .aload_n 0, 1), (26, .arraylength, 1), (27, .iconst 5, 1), (28, .isub, 1), (29, .if_icmp .gt 1499, 3), (32, .aload_n 0, 1), (33, .iload 4, 2), (35, .iaload, 1), (36, .bipush 31, 2), (38, .iand, 1), (39, .tableswitch 1483 0 24 #[113, 193, 261, 317, 397, 453, 509, 577, 633, 646, 659, 703, 747, 815, 883, 951, 1031, 1087, 1143, 1235, 1303, 1359, 1415, 1428, 1469], 113), (152, .aload_n 1, 1), (153, .aload_n 0, 1), (154, .iload 4, 2), (156, .iconst 1, 1), (157, .iadd, 1), (158, .iaload, 1), (159, .aload_n 0, 1), (160, .iload 4, 2), (162, .iconst 2, 1), (163, .iadd, 1), (164, .iaload, 1), (165, .aload_n 0, 1), (166, .iload 4, 2), (168, .iconst 3, 1), (169, .iadd, 1), (170, .iaload, 1), (171, .aload_n 3, 1), (172, .invokestatic 84, 3), (175, .istore 5, 2), (177, .aload_n 2, 1), (178, .aload_n 0, 1), (179, .iload 4, 2), (181, .iconst 1, 1), (182, .iadd, 1), (183, .iaload, 1), (184, .aload_n 0, 1), (185, .iload 4, 2), (187, .iconst 2, 1), (188, .iadd, 1), (189, .iaload, 1), (190, .aload_n 0, 1), (191, .iload 4, 2), (193, .iconst 3, 1), (194, .iadd, 1), (195, .iaload, 1)]
def TL_law_1 : List (Nat × Instr × Nat) := [(196, .invokevirtual 89, 3), (199, .istore 6, 2), (201, .aload_n 2, 1), (202, .invokevirtual 90, 3), (205, .iload 5, 2), (207, .if_icmp .eq 5, 3), (210, .iconst 0, 1), (211, .ireturn, 1), (212, .iload 5, 2), (214, .ifCond .ne 15, 3), (217, .aload_n 3, 1), (218, .iconst 0, 1), (219, .laload, 1), (220, .iload 6, 2), (222, .i2l, 1), (223, .lcmp, 1), (224, .ifCond .eq 5, 3), (227, .iconst 0, 1), (228, .ireturn, 1), (229, .goto 1293, 3), (232, .aload_n 1, 1), (233, .aload_n 0, 1), (234, .iload 4, 2), (236, .iconst 1, 1), (237, .iadd, 1), (238, .iaload, 1), (239, .aload_n 0, 1), (240, .iload 4, 2), (242, .iconst 2, 1), (243, .iadd, 1), (244, .iaload, 1), (245, .aload_n 3, 1), (246, .invokestatic 93, 3), (249, .istore 5, 2), (251, .aload_n 2, 1), (252, .aload_n 0, 1), (253, .iload 4, 2), (255, .iconst 1, 1), (256, .iadd, 1), (257, .iaload, 1), (258, .aload_n 0, 1), (259, .iload 4, 2), (261, .iconst 2, 1), (262, .iadd, 1), (263, .iaload, 1), (264, .invokevirtual 96, 3), (267, .istore 6, 2), (269, .aload_n 2, 1), (270, .invokevirtual 90, 3), (273, .iload 5, 2), (275, .if_icmp .eq 5, 3), (278, .iconst 0, 1), (279, .ireturn, 1), (280, .iload 5, 2), (282, .ifCond .ne 15, 3), (285, .aload_n 3, 1), (286, .iconst 0, 1), (287, .laload, 1), (288, .iload 6, 2), (290, .i2l, 1)]
def TL_law_2 : List (Nat × Instr × Nat) := [(291, .lcmp, 1), (292, .ifCond .eq 5, 3), (295, .iconst 0, 1), (296, .ireturn, 1), (297, .goto 1225, 3), (300, .aload_n 1, 1), (301, .aload_n 0, 1), (302, .iload 4, 2), (304, .iconst 1, 1), (305, .iadd, 1), (306, .iaload, 1), (307, .aload_n 3, 1), (308, .invokestatic 97, 3), (311, .istore 5, 2), (313, .aload_n 2, 1), (314, .aload_n 0, 1), (315, .iload 4, 2), (317, .iconst 1, 1), (318, .iadd, 1), (319, .iaload, 1), (320, .invokevirtual 100, 3), (323, .istore 6, 2), (325, .aload_n 2, 1), (326, .invokevirtual 90, 3), (329, .iload 5, 2), (331, .if_icmp .eq 5, 3), (334, .iconst 0, 1), (335, .ireturn, 1), (336, .iload 5, 2), (338, .ifCond .ne 15, 3), (341, .aload_n 3, 1), (342, .iconst 0, 1), (343, .laload, 1), (344, .iload 6, 2), (346, .i2l, 1), (347, .lcmp, 1), (348, .ifCond .eq 5, 3), (351, .iconst 0, 1), (352, .ireturn, 1), (353, .goto 1169, 3), (356, .aload_n 1, 1), (357, .aload_n 0, 1), (358, .iload 4, 2), (360, .iconst 1, 1), (361, .iadd, 1), (362, .iaload, 1), (363, .aload_n 0, 1), (364, .iload 4, 2), (366, .iconst 2, 1), (367, .iadd, 1), (368, .iaload, 1), (369, .aload_n 0, 1), (370, .iload 4, 2), (372, .iconst 3, 1), (373, .iadd, 1), (374, .iaload, 1), (375, .aload_n 3, 1), (376, .invokestatic 101, 3), (379, .istore 5, 2), (381, .aload_n 2, 1)]
def TL_law_3 : List (Nat × Instr × Nat) := [(382, .aload_n 0, 1), (383, .iload 4, 2), (385, .iconst 1, 1), (386, .iadd, 1), (387, .iaload, 1), (388, .aload_n 0, 1), (389, .iload 4, 2), (391, .iconst 2, 1), (392, .iadd, 1), (393, .iaload, 1), (394, .aload_n 0, 1), (395, .iload 4, 2), (397, .iconst 3, 1), (398, .iadd, 1), (399, .iaload, 1), (400, .invokevirtual 103, 3), (403, .istore 6, 2), (405, .aload_n 2, 1), (406, .invokevirtual 90, 3), (409, .iload 5, 2), (411, .if_icmp .eq 5, 3), (414, .iconst 0, 1), (415, .ireturn, 1), (416, .iload 5, 2), (418, .ifCond .ne 15, 3), (421, .aload_n 3, 1), (422, .iconst 0, 1), (423, .laload, 1), (424, .iload 6, 2), (426, .i2l, 1), (427, .lcmp, 1), (428, .ifCond .eq 5, 3), (431, .iconst 0, 1), (432, .ireturn, 1), (433, .goto 1089, 3), (436, .aload_n 1, 1), (437, .aload_n 0, 1), (438, .iload 4, 2), (440, .iconst 1, 1), (441, .iadd, 1), (442, .iaload, 1), (443, .aload_n 3, 1), (444, .invokestatic 104, 3), (447, .istore 5, 2), (449, .aload_n 2, 1), (450, .aload_n 0, 1), (451, .iload 4, 2), (453, .iconst 1, 1), (454, .iadd, 1), (455, .iaload, 1), (456, .invokevirtual 106, 3), (459, .istore 6, 2), (461, .aload_n 2, 1), (462, .invokevirtual 90, 3), (465, .iload 5, 2), (467, .if_icmp .eq 5, 3), (470, .iconst 0, 1), (471, .ireturn, 1), (472, .iload 5, 2), (474, .ifCond .ne 15, 3)]
def TL_law_4 : List (Nat × Instr × Nat) := [(477, .aload_n 3, 1), (478, .iconst 0, 1), (479, .laload, 1), (480, .iload 6, 2), (482, .i2l, 1), (483, .lcmp, 1), (484, .ifCond .eq 5, 3), (487, .iconst 0, 1), (488, .ireturn, 1), (489, .goto 1033, 3), (492, .aload_n 1, 1), (493, .aload_n 0, 1), (494, .iload 4, 2), (496, .iconst 1, 1), (497, .iadd, 1), (498, .iaload, 1), (499, .aload_n 3, 1), (500, .invokestatic 107, 3), (503, .istore 5, 2), (505, .aload_n 2, 1), (506, .aload_n 0, 1), (507, .iload 4, 2), (509, .iconst 1, 1), (510, .iadd, 1), (511, .iaload, 1), (512, .invokevirtual 109, 3), (515, .istore 6, 2), (517, .aload_n 2, 1), (518, .invokevirtual 90, 3), (521, .iload 5, 2), (523, .if_icmp .eq 5, 3), (526, .iconst 0, 1), (527, .ireturn, 1), (528, .iload 5, 2), (530, .ifCond .ne 15, 3), (533, .aload_n 3, 1), (534, .iconst 0, 1), (535, .laload, 1), (536, .iload 6, 2), (538, .i2l, 1), (539, .lcmp, 1), (540, .ifCond .eq 5, 3), (543, .iconst 0, 1), (544, .ireturn, 1), (545, .goto 977, 3), (548, .aload_n 1, 1), (549, .aload_n 0, 1), (550, .iload 4, 2), (552, .iconst 1, 1), (553, .iadd, 1), (554, .iaload, 1), (555, .aload_n 0, 1), (556, .iload 4, 2), (558, .iconst 2, 1), (559, .iadd, 1), (560, .iaload, 1), (561, .aload_n 3, 1), (562, .invokestatic 110, 3), (565, .istore 5, 2), (567, .aload_n 2, 1)]
def TL_law_5 : List (Nat × Instr × Nat) := [(568, .aload_n 0, 1), (569, .iload 4, 2), (571, .iconst 1, 1), (572, .iadd, 1), (573, .iaload, 1), (574, .aload_n 0, 1), (575, .iload 4, 2), (577, .iconst 2, 1), (578, .iadd, 1), (579, .iaload, 1), (580, .invokevirtual 112, 3), (583, .istore 6, 2), (585, .aload_n 2, 1), (586, .invokevirtual 90, 3), (589, .iload 5, 2), (591, .if_icmp .eq 5, 3), (594, .iconst 0, 1), (595, .ireturn, 1), (596, .iload 5, 2), (598, .ifCond .ne 15, 3), (601, .aload_n 3, 1), (602, .iconst 0, 1), (603, .laload, 1), (604, .iload 6, 2), (606, .i2l, 1), (607, .lcmp, 1), (608, .ifCond .eq 5, 3), (611, .iconst 0, 1), (612, .ireturn, 1), (613, .goto 909, 3), (616, .aload_n 1, 1), (617, .aload_n 0, 1), (618, .iload 4, 2), (620, .iconst 1, 1), (621, .iadd, 1), (622, .iaload, 1), (623, .aload_n 3, 1), (624, .invokestatic 113, 3), (627, .istore 5, 2), (629, .aload_n 2, 1), (630, .aload_n 0, 1), (631, .iload 4, 2), (633, .iconst 1, 1), (634, .iadd, 1), (635, .iaload, 1), (636, .invokevirtual 115, 3), (639, .istore 6, 2), (641, .aload_n 2, 1), (642, .invokevirtual 90, 3), (645, .iload 5, 2), (647, .if_icmp .eq 5, 3), (650, .iconst 0, 1), (651, .ireturn, 1), (652, .iload 5, 2), (654, .ifCond .ne 15, 3), (657, .aload_n 3, 1), (658, .iconst 0, 1), (659, .laload, 1), (660, .iload 6, 2), (662, .i2l, 1)]
def TL_law_6 : List (Nat × Instr × Nat) := [(663, .lcmp, 1), (664, .ifCond .eq 5, 3), (667, .iconst 0, 1), (668, .ireturn, 1), (669, .goto 853, 3), (672, .aload_n 1, 1), (673, .invokevirtual 116, 3), (676, .aload_n 2, 1), (677, .invokevirtual 119, 3), (680, .if_icmp .eq 842, 3), (683, .iconst 0, 1), (684, .ireturn, 1), (685, .aload_n 1, 1), (686, .invokevirtual 120, 3), (689, .aload_n 2, 1), (690, .invokevirtual 123, 3), (693, .if_icmp .eq 829, 3), (696, .iconst 0, 1), (697, .ireturn, 1), (698, .aload_n 1, 1), (699, .aload_n 3, 1), (700, .invokestatic 124, 3), (703, .istore 5, 2), (705, .aload_n 2, 1), (706, .invokevirtual 127, 3), (709, .istore 6, 2), (711, .aload_n 2, 1), (712, .invokevirtual 90, 3), (715, .iload 5, 2), (717, .if_icmp .eq 5, 3), (720, .iconst 0, 1), (721, .ireturn, 1), (722, .iload 5, 2), (724, .ifCond .ne 15, 3), (727, .aload_n 3, 1), (728, .iconst 0, 1), (729, .laload, 1), (730, .iload 6, 2), (732, .i2l, 1), (733, .lcmp, 1), (734, .ifCond .eq 5, 3), (737, .iconst 0, 1), (738, .ireturn, 1), (739, .goto 783, 3), (742, .aload_n 1, 1), (743, .aload_n 3, 1), (744, .invokestatic 128, 3), (747, .istore 5, 2), (749, .aload_n 2, 1), (750, .invokevirtual 130, 3), (753, .istore 6, 2), (755, .aload_n 2, 1), (756, .invokevirtual 90, 3), (759, .iload 5, 2), (761, .if_icmp .eq 5, 3), (764, .iconst 0, 1), (765, .ireturn, 1), (766, .iload 5, 2), (768, .ifCond .ne 15, 3), (771, .aload_n 3, 1)]
def TL_law_7 : List (Nat × Instr × Nat) := [(772, .iconst 0, 1), (773, .laload, 1), (774, .iload 6, 2), (776, .i2l, 1), (777, .lcmp, 1), (778, .ifCond .eq 5, 3), (781, .iconst 0, 1), (782, .ireturn, 1), (783, .goto 739, 3), (786, .aload_n 1, 1), (787, .aload_n 0, 1), (788, .iload 4, 2), (790, .iconst 1, 1), (791, .iadd, 1), (792, .iaload, 1), (793, .aload_n 0, 1), (794, .iload 4, 2), (796, .iconst 2, 1), (797, .iadd, 1), (798, .iaload, 1), (799, .aload_n 3, 1), (800, .invokestatic 131, 3), (803, .istore 5, 2), (805, .aload_n 2, 1), (806, .aload_n 0, 1), (807, .iload 4, 2), (809, .iconst 1, 1), (810, .iadd, 1), (811, .iaload, 1), (812, .aload_n 0, 1), (813, .iload 4, 2), (815, .iconst 2, 1), (816, .iadd, 1), (817, .iaload, 1), (818, .invokevirtual 133, 3), (821, .istore 6, 2), (823, .aload_n 2, 1), (824, .invokevirtual 90, 3), (827, .iload 5, 2), (829, .if_icmp .eq 5, 3), (832, .iconst 0, 1), (833, .ireturn, 1), (834, .iload 5, 2), (836, .ifCond .ne 15, 3), (839, .aload_n 3, 1), (840, .iconst 0, 1), (841, .laload, 1), (842, .iload 6, 2), (844, .i2l, 1), (845, .lcmp, 1), (846, .ifCond .eq 5, 3), (849, .iconst 0, 1), (850, .ireturn, 1), (851, .goto 671, 3), (854, .aload_n 1, 1), (855, .aload_n 0, 1), (856, .iload 4, 2), (858, .iconst 1, 1), (859, .iadd, 1), (860, .iaload, 1)]
def TL_law_8 : List (Nat × Instr × Nat) := [(861, .aload_n 0, 1), (862, .iload 4, 2), (864, .iconst 2, 1), (865, .iadd, 1), (866, .iaload, 1), (867, .aload_n 3, 1), (868, .invokestatic 134, 3), (871, .istore 5, 2), (873, .aload_n 2, 1), (874, .aload_n 0, 1), (875, .iload 4, 2), (877, .iconst 1, 1), (878, .iadd, 1), (879, .iaload, 1), (880, .aload_n 0, 1), (881, .iload 4, 2), (883, .iconst 2, 1), (884, .iadd, 1), (885, .iaload, 1), (886, .invokevirtual 136, 3), (889, .istore 6, 2), (891, .aload_n 2, 1), (892, .invokevirtual 90, 3), (895, .iload 5, 2), (897, .if_icmp .eq 5, 3), (900, .iconst 0, 1), (901, .ireturn, 1), (902, .iload 5, 2), (904, .ifCond .ne 15, 3), (907, .aload_n 3, 1), (908, .iconst 0, 1), (909, .laload, 1), (910, .iload 6, 2), (912, .i2l, 1), (913, .lcmp, 1), (914, .ifCond .eq 5, 3), (917, .iconst 0, 1), (918, .ireturn, 1), (919, .goto 603, 3), (922, .aload_n 1, 1), (923, .aload_n 0, 1), (924, .iload 4, 2), (926, .iconst 1, 1), (927, .iadd, 1), (928, .iaload, 1), (929, .aload_n 0, 1), (930, .iload 4, 2), (932, .iconst 2, 1), (933, .iadd, 1), (934, .iaload, 1), (935, .aload_n 3, 1), (936, .invokestatic 137, 3), (939, .istore 5, 2), (941, .aload_n 2, 1), (942, .aload_n 0, 1), (943, .iload 4, 2), (945, .iconst 1, 1), (946, .iadd, 1), (947, .iaload, 1), (948, .aload_n 0, 1)]
def TL_law_9 : List (Nat × Instr × Nat) := [(949, .iload 4, 2), (951, .iconst 2, 1), (952, .iadd, 1), (953, .iaload, 1), (954, .invokevirtual 139, 3), (957, .istore 6, 2), (959, .aload_n 2, 1), (960, .invokevirtual 90, 3), (963, .iload 5, 2), (965, .if_icmp .eq 5, 3), (968, .iconst 0, 1), (969, .ireturn, 1), (970, .iload 5, 2), (972, .ifCond .ne 15, 3), (975, .aload_n 3, 1), (976, .iconst 0, 1), (977, .laload, 1), (978, .iload 6, 2), (980, .i2l, 1), (981, .lcmp, 1), (982, .ifCond .eq 5, 3), (985, .iconst 0, 1), (986, .ireturn, 1), (987, .goto 535, 3), (990, .aload_n 1, 1), (991, .aload_n 0, 1), (992, .iload 4, 2), (994, .iconst 1, 1), (995, .iadd, 1), (996, .iaload, 1), (997, .aload_n 0, 1), (998, .iload 4, 2), (1000, .iconst 2, 1), (1001, .iadd, 1), (1002, .iaload, 1), (1003, .aload_n 0, 1), (1004, .iload 4, 2), (1006, .iconst 3, 1), (1007, .iadd, 1), (1008, .iaload, 1), (1009, .aload_n 3, 1), (1010, .invokestatic 140, 3), (1013, .istore 5, 2), (1015, .aload_n 2, 1), (1016, .aload_n 0, 1), (1017, .iload 4, 2), (1019, .iconst 1, 1), (1020, .iadd, 1), (1021, .iaload, 1), (1022, .aload_n 0, 1), (1023, .iload 4, 2), (1025, .iconst 2, 1), (1026, .iadd, 1), (1027, .iaload, 1), (1028, .aload_n 0, 1), (1029, .iload 4, 2), (1031, .iconst 3, 1), (1032, .iadd, 1), (1033, .iaload, 1), (1034, .invokevirtual 142, 3)]
def TL_law_10 : List (Nat × Instr × Nat) := [(1037, .istore 6, 2), (1039, .aload_n 2, 1), (1040, .invokevirtual 90, 3), (1043, .iload 5, 2), (1045, .if_icmp .eq 5, 3), (1048, .iconst 0, 1), (1049, .ireturn, 1), (1050, .iload 5, 2), (1052, .ifCond .ne 15, 3), (1055, .aload_n 3, 1), (1056, .iconst 0, 1), (1057, .laload, 1), (1058, .iload 6, 2), (1060, .i2l, 1), (1061, .lcmp, 1), (1062, .ifCond .eq 5, 3), (1065, .iconst 0, 1), (1066, .ireturn, 1), (1067, .goto 455, 3), (1070, .aload_n 1, 1), (1071, .aload_n 0, 1), (1072, .iload 4, 2), (1074, .iconst 1, 1), (1075, .iadd, 1), (1076, .iaload, 1), (1077, .aload_n 3, 1), (1078, .invokestatic 143, 3), (1081, .istore 5, 2), (1083, .aload_n 2, 1), (1084, .aload_n 0, 1), (1085, .iload 4, 2), (1087, .iconst 1, 1), (1088, .iadd, 1), (1089, .iaload, 1), (1090, .invokevirtual 145, 3), (1093, .istore 6, 2), (1095, .aload_n 2, 1), (1096, .invokevirtual 90, 3), (1099, .iload 5, 2), (1101, .if_icmp .eq 5, 3), (1104, .iconst 0, 1), (1105, .ireturn, 1), (1106, .iload 5, 2), (1108, .ifCond .ne 15, 3), (1111, .aload_n 3, 1), (1112, .iconst 0, 1), (1113, .laload, 1), (1114, .iload 6, 2), (1116, .i2l, 1), (1117, .lcmp, 1), (1118, .ifCond .eq 5, 3), (1121, .iconst 0, 1), (1122, .ireturn, 1), (1123, .goto 399, 3), (1126, .aload_n 1, 1), (1127, .aload_n 0, 1), (1128, .iload 4, 2), (1130, .iconst 1, 1), (1131, .iadd, 1), (1132, .iaload, 1)]
def TL_law_11 : List (Nat × Instr × Nat) := [(1133, .aload_n 3, 1), (1134, .invokestatic 146, 3), (1137, .istore 5, 2), (1139, .aload_n 2, 1), (1140, .aload_n 0, 1), (1141, .iload 4, 2), (1143, .iconst 1, 1), (1144, .iadd, 1), (1145, .iaload, 1), (1146, .invokevirtual 148, 3), (1149, .istore 6, 2), (1151, .aload_n 2, 1), (1152, .invokevirtual 90, 3), (1155, .iload 5, 2), (1157, .if_icmp .eq 5, 3), (1160, .iconst 0, 1), (1161, .ireturn, 1), (1162, .iload 5, 2), (1164, .ifCond .ne 15, 3), (1167, .aload_n 3, 1), (1168, .iconst 0, 1), (1169, .laload, 1), (1170, .iload 6, 2), (1172, .i2l, 1), (1173, .lcmp, 1), (1174, .ifCond .eq 5, 3), (1177, .iconst 0, 1), (1178, .ireturn, 1), (1179, .goto 343, 3), (1182, .aload_n 1, 1), (1183, .aload_n 0, 1), (1184, .iload 4, 2), (1186, .iconst 1, 1), (1187, .iadd, 1), (1188, .iaload, 1), (1189, .aload_n 0, 1), (1190, .iload 4, 2), (1192, .iconst 2, 1), (1193, .iadd, 1), (1194, .iaload, 1), (1195, .aload_n 0, 1), (1196, .iload 4, 2), (1198, .iconst 3, 1), (1199, .iadd, 1), (1200, .iaload, 1), (1201, .aload_n 0, 1), (1202, .iload 4, 2), (1204, .iconst 4, 1), (1205, .iadd, 1), (1206, .iaload, 1), (1207, .aload_n 3, 1), (1208, .invokestatic 149, 3), (1211, .istore 5, 2), (1213, .aload_n 2, 1), (1214, .aload_n 0, 1), (1215, .iload 4, 2), (1217, .iconst 1, 1), (1218, .iadd, 1), (1219, .iaload, 1), (1220, .aload_n 0, 1)]
def TL_law_12 : List (Nat × Instr × Nat) := [(1221, .iload 4, 2), (1223, .iconst 2, 1), (1224, .iadd, 1), (1225, .iaload, 1), (1226, .aload_n 0, 1), (1227, .iload 4, 2), (1229, .iconst 3, 1), (1230, .iadd, 1), (1231, .iaload, 1), (1232, .aload_n 0, 1), (1233, .iload 4, 2), (1235, .iconst 4, 1), (1236, .iadd, 1), (1237, .iaload, 1), (1238, .invokevirtual 152, 3), (1241, .istore 6, 2), (1243, .aload_n 2, 1), (1244, .invokevirtual 90, 3), (1247, .iload 5, 2), (1249, .if_icmp .eq 5, 3), (1252, .iconst 0, 1), (1253, .ireturn, 1), (1254, .iload 5, 2), (1256, .ifCond .ne 15, 3), (1259, .aload_n 3, 1), (1260, .iconst 0, 1), (1261, .laload, 1), (1262, .iload 6, 2), (1264, .i2l, 1), (1265, .lcmp, 1), (1266, .ifCond .eq 5, 3), (1269, .iconst 0, 1), (1270, .ireturn, 1), (1271, .goto 251, 3), (1274, .aload_n 1, 1), (1275, .aload_n 0, 1), (1276, .iload 4, 2), (1278, .iconst 1, 1), (1279, .iadd, 1), (1280, .iaload, 1), (1281, .aload_n 0, 1), (1282, .iload 4, 2), (1284, .iconst 2, 1), (1285, .iadd, 1), (1286, .iaload, 1), (1287, .aload_n 3, 1), (1288, .invokestatic 153, 3), (1291, .istore 5, 2), (1293, .aload_n 2, 1), (1294, .aload_n 0, 1), (1295, .iload 4, 2), (1297, .iconst 1, 1), (1298, .iadd, 1), (1299, .iaload, 1), (1300, .aload_n 0, 1), (1301, .iload 4, 2), (1303, .iconst 2, 1), (1304, .iadd, 1), (1305, .iaload, 1), (1306, .invokevirtual 155, 3)]
def TL_law_13 : List (Nat × Instr × Nat) := [(1309, .istore 6, 2), (1311, .aload_n 2, 1), (1312, .invokevirtual 90, 3), (1315, .iload 5, 2), (1317, .if_icmp .eq 5, 3), (1320, .iconst 0, 1), (1321, .ireturn, 1), (1322, .iload 5, 2), (1324, .ifCond .ne 15, 3), (1327, .aload_n 3, 1), (1328, .iconst 0, 1), (1329, .laload, 1), (1330, .iload 6, 2), (1332, .i2l, 1), (1333, .lcmp, 1), (1334, .ifCond .eq 5, 3), (1337, .iconst 0, 1), (1338, .ireturn, 1), (1339, .goto 183, 3), (1342, .aload_n 1, 1), (1343, .aload_n 0, 1), (1344, .iload 4, 2), (1346, .iconst 1, 1), (1347, .iadd, 1), (1348, .iaload, 1), (1349, .aload_n 3, 1), (1350, .invokestatic 156, 3), (1353, .istore 5, 2), (1355, .aload_n 2, 1), (1356, .aload_n 0, 1), (1357, .iload 4, 2), (1359, .iconst 1, 1), (1360, .iadd, 1), (1361, .iaload, 1), (1362, .invokevirtual 158, 3), (1365, .istore 6, 2), (1367, .aload_n 2, 1), (1368, .invokevirtual 90, 3), (1371, .iload 5, 2), (1373, .if_icmp .eq 5, 3), (1376, .iconst 0, 1), (1377, .ireturn, 1), (1378, .iload 5, 2), (1380, .ifCond .ne 15, 3), (1383, .aload_n 3, 1), (1384, .iconst 0, 1), (1385, .laload, 1), (1386, .iload 6, 2), (1388, .i2l, 1), (1389, .lcmp, 1), (1390, .ifCond .eq 5, 3), (1393, .iconst 0, 1), (1394, .ireturn, 1), (1395, .goto 127, 3), (1398, .aload_n 1, 1), (1399, .aload_n 0, 1), (1400, .iload 4, 2), (1402, .iconst 1, 1), (1403, .iadd, 1), (1404, .iaload, 1)]
def TL_law_14 : List (Nat × Instr × Nat) := [(1405, .aload_n 3, 1), (1406, .invokestatic 159, 3), (1409, .istore 5, 2), (1411, .aload_n 2, 1), (1412, .aload_n 0, 1), (1413, .iload 4, 2), (1415, .iconst 1, 1), (1416, .iadd, 1), (1417, .iaload, 1), (1418, .invokevirtual 161, 3), (1421, .istore 6, 2), (1423, .aload_n 2, 1), (1424, .invokevirtual 90, 3), (1427, .iload 5, 2), (1429, .if_icmp .eq 5, 3), (1432, .iconst 0, 1), (1433, .ireturn, 1), (1434, .iload 5, 2), (1436, .ifCond .ne 15, 3), (1439, .aload_n 3, 1), (1440, .iconst 0, 1), (1441, .laload, 1), (1442, .iload 6, 2), (1444, .i2l, 1), (1445, .lcmp, 1), (1446, .ifCond .eq 5, 3), (1449, .iconst 0, 1), (1450, .ireturn, 1), (1451, .goto 71, 3), (1454, .aload_n 1, 1), (1455, .invokevirtual 162, 3), (1458, .aload_n 2, 1), (1459, .invokevirtual 165, 3), (1462, .if_icmp .eq 60, 3), (1465, .iconst 0, 1), (1466, .ireturn, 1), (1467, .aload_n 1, 1), (1468, .invokevirtual 166, 3), (1471, .dstore 5, 2), (1473, .aload_n 2, 1), (1474, .invokevirtual 170, 3), (1477, .dstore 7, 2), (1479, .dload 5, 2), (1481, .dload 7, 2), (1483, .dcmp .l, 1), (1484, .ifCond .eq 21, 3), (1487, .dload 5, 2), (1489, .dload 5, 2), (1491, .dcmp .l, 1), (1492, .ifCond .eq 11, 3), (1495, .dload 7, 2), (1497, .dload 7, 2), (1499, .dcmp .l, 1), (1500, .ifCond .ne 5, 3), (1503, .iconst 0, 1), (1504, .ireturn, 1), (1505, .goto 17, 3), (1508, .aload_n 1, 1), (1509, .invokevirtual 171, 3), (1512, .aload_n 2, 1)]
def TL_law_15 : List (Nat × Instr × Nat) := [(1513, .invokevirtual 175, 3), (1516, .lcmp, 1), (1517, .ifCond .eq 5, 3), (1520, .iconst 0, 1), (1521, .ireturn, 1), (1522, .iinc 4 5, 3), (1525, .goto (-1502), 3), (1528, .iconst 1, 1), (1529, .ireturn, 1)]
def TL_law : List (Nat × Instr × Nat) := TL_law_0 ++ TL_law_1 ++ TL_law_2 ++ TL_law_3 ++ TL_law_4 ++ TL_law_5 ++ TL_law_6 ++ TL_law_7 ++ TL_law_8 ++ TL_law_9 ++ TL_law_10 ++ TL_law_11 ++ TL_law_12 ++ TL_law_13 ++ TL_law_14 ++ TL_law_15
end
section
/-! THE SMALL MACHINE: the instructions that the class and its reference use, over a memory of named cells. A cell is (t, k, g): t its kind, k which of its kind, g of which State. -/
abbrev PR : Type := Nat × Nat × Nat
abbrev PV : Type := Int32 ⊕ Int64 ⊕ UInt64 ⊕ Option PR
abbrev vI (x : Int32) : PV := .inl x
abbrev vL (x : Int64) : PV := .inr (.inl x)
abbrev vD (x : UInt64) : PV := .inr (.inr (.inl x))
abbrev vR (t k g : Nat) : PV := .inr (.inr (.inr (some (t, k, g))))
abbrev vN : PV := .inr (.inr (.inr none))
/-- ints and longs: cell (t, k, g), place -/
abbrev PM : Type := (Nat → Nat → Nat → Nat → Int32) × (Nat → Nat → Nat → Nat → Int64)
/-- a method: name, code, locals, answer's type, its class's number, parameters, frames and locals' words below it, instructions -/
abbrev MI : Type := MethodName × ByteArray × Nat × Option FieldType × Nat × Nat × Nat × Nat × List (Nat × Instr × Nat)
def mY (M : MI) : MethodName := M.1
def mB (M : MI) : ByteArray := M.2.1
def mN (M : MI) : Nat := M.2.2.1
def mRet (M : MI) : Option FieldType := M.2.2.2.1
def mO (M : MI) : Nat := M.2.2.2.2.1
def mPar (M : MI) : Nat := M.2.2.2.2.2.1
def mFr (M : MI) : Nat := M.2.2.2.2.2.2.1
def mLo (M : MI) : Nat := M.2.2.2.2.2.2.2.1
def mT (M : MI) : List (Nat × Instr × Nat) := M.2.2.2.2.2.2.2.2
def asc {α : Type} (l : List (Nat × α)) (k : Nat) : Option α := match l with
  | [] => none
  | (a, x) :: r => if a = k then some x else asc r k
theorem asc_mem {α : Type} {l : List (Nat × α)} {k : Nat} {x : α} (h : asc l k = some x) : (k, x) ∈ l := by
  induction l with
  | nil => cases h
  | cons q r ih =>
    obtain ⟨a, y⟩ := q
    unfold asc at h
    by_cases e : a = k
    · rw [if_pos e] at h; cases h; subst e; exact List.mem_cons_self
    · rw [if_neg e] at h; exact List.mem_cons_of_mem _ (ih h)
def wI (m : PM) (t k g i : Nat) (v : Int32) : PM := (fun a b c d => if a = t ∧ b = k ∧ c = g ∧ d = i then v else m.1 a b c d, m.2)
def wL (m : PM) (t k g i : Nat) (v : Int64) : PM := (m.1, fun a b c d => if a = t ∧ b = k ∧ c = g ∧ d = i then v else m.2 a b c d)
def wC (m : PM) (k g : Nat) (n : Nat) (k2 g2 : Nat) : PM := (fun a b c d => if a = 2 ∧ b = k2 ∧ c = g2 ∧ d < n then m.1 2 k g d else m.1 a b c d, m.2)
def nlen (k : Nat) : Nat := match k with
  | 0 => 96 | 1 => 8 | 2 => 8 | 3 => 8 | 4 => 12 | 5 => 12 | 6 => 8 | 7 => 8 | 8 => 8 | 9 => 8 | 10 => 3 | _ => 60
def zlen (k : Nat) : Nat := match k with
  | 0 => 361 | 1 => 2166 | 2 => 60 | 3 => 60 | _ => 361
/-- an int array's length -/
def ilen (m : PM) (t k : Nat) : Option Nat := match t with
  | 2 => some (nlen k) | 8 => some (zlen k) | 10 => some (m.1 10 0 1 0).toNatClampNeg | _ => none
/-- an array's length -/
def alen (m : PM) (t k : Nat) : Option Int32 := match t with
  | 2 => some (nI (nlen k)) | 8 => some (nI (zlen k)) | 5 => some 6 | 9 => some 1 | 10 => some (m.1 10 0 1 0) | _ => none
/-- a cell's class, by its place in vwCl -/
def tcl (t : Nat) : Option Nat := match t with
  | 0 => some 2 | 1 => some 1 | 3 => some 4 | 4 => some 0 | 6 => some 3 | 7 => some 5 | _ => none
/-- a field's value -/
def fv (m : PM) (t k g s : Nat) : Option PV := match t with
  | 0 => if s = 11 then some (vI (m.1 0 0 g 11)) else if s < 11 then some (vR 1 s g) else none
  | 1 => match s with
    | 0 => some (vR 2 k g)
    | _ => none
  | 3 => match s with
    | 0 => some (vR 0 0 0) | 1 => some (vR 0 0 1) | 2 => some (vR 4 0 0) | 3 => some (vR 6 0 0) | _ => none
  | 4 => match s with
    | 0 => some (vR 5 0 0) | 1 => some (vI (m.1 4 0 0 1)) | 2 => some (vI (m.1 4 0 0 2)) | _ => none
  | 6 => match s with
    | 0 => some (vR 1 11 0) | 1 => some (vI (m.1 6 0 0 1)) | _ => none
  | 7 => match s with
    | 0 => some (vR 8 0 0) | 2 => some (vR 8 1 0) | 4 => some (vR 8 2 0) | 6 => some (vR 8 3 0) | 10 => some (vR 8 4 0)
    | 1 => some (vI (m.1 7 0 0 1)) | 3 => some (vI (m.1 7 0 0 3)) | 5 => some (vI (m.1 7 0 0 5)) | 7 => some (vI (m.1 7 0 0 7)) | 8 => some (vI (m.1 7 0 0 8)) | 9 => some (vI (m.1 7 0 0 9))
    | 11 => some (vL (m.2 7 0 0 11)) | _ => none
  | _ => none
/-- an int field, a long field that may be written -/
def ipf (t s : Nat) : Bool := match t with
  | 0 => Nat.beq s 11
  | 4 => Nat.beq s 1 || Nat.beq s 2
  | 6 => Nat.beq s 1
  | 7 => Nat.beq s 1 || Nat.beq s 3 || Nat.beq s 5 || Nat.beq s 7 || Nat.beq s 8 || Nat.beq s 9
  | _ => false
def lpf (t s : Nat) : Bool := match t with
  | 7 => Nat.beq s 11
  | _ => false
/-- a branch's target -/
def bt (pc : Nat) (off : Int) : Option Nat := match (pc : Int) + off with
  | .ofNat t => some t
  | .negSucc _ => none
def cat (v : PV) : Nat := match v with
  | .inl _ => 1
  | .inr (.inl _) => 2
  | .inr (.inr (.inl _)) => 2
  | .inr (.inr (.inr _)) => 1
/-- a wide value whose second half is place i is gone -/
def clr (L : List (Option PV)) (i : Nat) : List (Option PV) := match i with
  | 0 => L
  | j + 1 => match L[j]? with
    | some (some w) => if cat w = 2 then L.set j none else L
    | _ => L
/-- v is stored at place i -/
def lset (L : List (Option PV)) (i : Nat) (v : PV) : Option (List (Option PV)) := if i < L.length then some ((clr L i).set i (some v)) else none
def lset2 (L : List (Option PV)) (i : Nat) (v : PV) : Option (List (Option PV)) := if i + 1 < L.length then some (((clr L i).set i (some v)).set (i + 1) none) else none
/-- the locals with which a method begins -/
def lent : List PV → List (Option PV)
  | [] => []
  | v :: r => if cat v = 2 then some v :: none :: lent r else some v :: lent r
def lpad (l : List (Option PV)) : Nat → List (Option PV)
  | 0 => l
  | n + 1 => lpad (l ++ [none]) n
abbrev PS : Type := Nat × List (Option PV) × List PV × PM
def ival (v : Int32) (k : Nat) (L : List (Option PV)) (st : List PV) (m : PM) : Option PS := some (k, L, vI v :: st, m)
end
section
def MX0_slotAt : MI := (yX0_slotAt, cX0_slotAt, 2, (some (.object "HotPanLocks$State")), 0, 1, 1, 30, TX0_slotAt)
def MX1_copyFrom : MI := (yX1_copyFrom, cX1_copyFrom, 2, none, 1, 1, 1, 30, TX1_copyFrom)
def MX2_copyFrom : MI := (yX2_copyFrom, cX2_copyFrom, 2, none, 2, 1, 2, 51, TX2_copyFrom)
def MX0_save : MI := (yX0_save, cX0_save, 3, none, 0, 1, 3, 72, TX0_save)
def MX0_restore : MI := (yX0_restore, cX0_restore, 4, (some .int), 0, 1, 3, 72, TX0_restore)
def MX1_at : MI := (yX1_at, cX1_at, 2, (some .int), 1, 1, 1, 30, TX1_at)
def MX1_put : MI := (yX1_put, cX1_put, 3, none, 1, 2, 1, 30, TX1_put)
def MX1_raise : MI := (yX1_raise, cX1_raise, 2, none, 1, 1, 2, 52, TX1_raise)
def MX1_sum : MI := (yX1_sum, cX1_sum, 3, (some .int), 1, 0, 1, 30, TX1_sum)
def MX2_isWaiting : MI := (yX2_isWaiting, cX2_isWaiting, 2, (some .boolean), 2, 1, 2, 51, TX2_isWaiting)
def MX2_queueLength : MI := (yX2_queueLength, cX2_queueLength, 4, (some .int), 2, 1, 2, 51, TX2_queueLength)
def MX2_handAt : MI := (yX2_handAt, cX2_handAt, 4, (some .int), 2, 2, 2, 51, TX2_handAt)
def MX4_cell : MI := (yX4_cell, cX4_cell, 2, (some .int), 4, 2, 1, 30, TX4_cell)
def MX2_placeForHolder : MI := (yX2_placeForHolder, cX2_placeForHolder, 4, (some .int), 2, 1, 2, 51, TX2_placeForHolder)
def MX2_enqueue : MI := (yX2_enqueue, cX2_enqueue, 6, none, 2, 3, 3, 74, TX2_enqueue)
def MX2_dequeue : MI := (yX2_dequeue, cX2_dequeue, 5, none, 2, 1, 2, 52, TX2_dequeue)
def MX2_clashes : MI := (yX2_clashes, cX2_clashes, 6, (some .boolean), 2, 4, 2, 51, TX2_clashes)
def MX2_grant : MI := (yX2_grant, cX2_grant, 2, none, 2, 1, 3, 76, TX2_grant)
def MX2_settle : MI := (yX2_settle, cX2_settle, 5, (some .int), 2, 1, 4, 97, TX2_settle)
def MX2_direct : MI := (yX2_direct, cX2_direct, 9, (some .int), 2, 1, 3, 72, TX2_direct)
def MX4_has : MI := (yX4_has, cX4_has, 2, (some .boolean), 4, 2, 1, 30, TX4_has)
def MX2_reach : MI := (yX2_reach, cX2_reach, 6, (some .int), 2, 1, 4, 100, TX2_reach)
def MX2_work : MI := (yX2_work, cX2_work, 4, (some .int), 2, 1, 2, 51, TX2_work)
def MX2_loserFor : MI := (yX2_loserFor, cX2_loserFor, 7, (some .int), 2, 1, 5, 125, TX2_loserFor)
def MX2_strip : MI := (yX2_strip, cX2_strip, 4, (some .int), 2, 1, 3, 76, TX2_strip)
def MX2_takeAsking : MI := (yX2_takeAsking, cX2_takeAsking, 8, (some .int), 2, 3, 6, 151, TX2_takeAsking)
def MX2_canLetGo : MI := (yX2_canLetGo, cX2_canLetGo, 3, (some .boolean), 2, 2, 2, 51, TX2_canLetGo)
def MX2_letGo : MI := (yX2_letGo, cX2_letGo, 3, (some .int), 2, 2, 5, 121, TX2_letGo)
def MX2_stopWaiting : MI := (yX2_stopWaiting, cX2_stopWaiting, 3, (some .int), 2, 1, 5, 121, TX2_stopWaiting)
def MX2_canPassOver : MI := (yX2_canPassOver, cX2_canPassOver, 4, (some .boolean), 2, 3, 3, 76, TX2_canPassOver)
def MX2_passOver : MI := (yX2_passOver, cX2_passOver, 4, (some .int), 2, 3, 5, 121, TX2_passOver)
def MX2_takersOf : MI := (yX2_takersOf, cX2_takersOf, 5, (some .int), 2, 2, 4, 99, TX2_takersOf)
def MX2_heatAfter : MI := (yX2_heatAfter, cX2_heatAfter, 3, (some .int), 2, 2, 2, 51, TX2_heatAfter)
def MX2_greatestMode : MI := (yX2_greatestMode, cX2_greatestMode, 4, (some .int), 2, 1, 2, 51, TX2_greatestMode)
def MX2_burn : MI := (yX2_burn, cX2_burn, 4, (some .int), 2, 1, 5, 121, TX2_burn)
def MX2_tick : MI := (yX2_tick, cX2_tick, 3, (some .int), 2, 0, 6, 144, TX2_tick)
def MX2_ticksToBurn : MI := (yX2_ticksToBurn, cX2_ticksToBurn, 5, (some .int), 2, 1, 3, 74, TX2_ticksToBurn)
def MX2_holders : MI := (yX2_holders, cX2_holders, 4, (some .int), 2, 1, 2, 51, TX2_holders)
def MX2_locksOf : MI := (yX2_locksOf, cX2_locksOf, 4, (some .int), 2, 1, 2, 51, TX2_locksOf)
def MX2_lockCount : MI := (yX2_lockCount, cX2_lockCount, 3, (some .int), 2, 0, 3, 74, TX2_lockCount)
def MX2_waitingCount : MI := (yX2_waitingCount, cX2_waitingCount, 3, (some .int), 2, 0, 3, 72, TX2_waitingCount)
def MX2_heldRows : MI := (yX2_heldRows, cX2_heldRows, 3, (some .int), 2, 0, 3, 74, TX2_heldRows)
def MX2_handPart : MI := (yX2_handPart, cX2_handPart, 3, (some .int), 2, 2, 4, 100, TX2_handPart)
def MX2_rowPart : MI := (yX2_rowPart, cX2_rowPart, 3, (some .int), 2, 2, 3, 74, TX2_rowPart)
def MX2_requestPart : MI := (yX2_requestPart, cX2_requestPart, 5, (some .int), 2, 3, 3, 74, TX2_requestPart)
def MX2_total : MI := (yX2_total, cX2_total, 2, (some .int), 2, 1, 4, 96, TX2_total)
def MX2_waitersFor : MI := (yX2_waitersFor, cX2_waitersFor, 4, (some .int), 2, 1, 5, 125, TX2_waitersFor)
def MX2_mostWaitedFor : MI := (yX2_mostWaitedFor, cX2_mostWaitedFor, 5, (some .int), 2, 0, 6, 148, TX2_mostWaitedFor)
def MX2_shareGranted : MI := (yX2_shareGranted, cX2_shareGranted, 2, (some .double), 2, 0, 2, 52, TX2_shareGranted)
def MX3_add : MI := (yX3_add, cX3_add, 2, (some .int), 3, 1, 2, 52, TX3_add)
def MX3_empty : MI := (yX3_empty, cX3_empty, 2, (some .int), 3, 0, 1, 30, TX3_empty)
def MX3_isDigit : MI := (yX3_isDigit, cX3_isDigit, 1, (some .boolean), 3, 1, 1, 30, TX3_isDigit)
def MX3_isDeed : MI := (yX3_isDeed, cX3_isDeed, 1, (some .boolean), 3, 1, 1, 30, TX3_isDeed)
def MX3_dueAfter : MI := (yX3_dueAfter, cX3_dueAfter, 2, (some .int), 3, 2, 2, 50, TX3_dueAfter)
def MX3_firstFault : MI := (yX3_firstFault, cX3_firstFault, 3, (some .int), 3, 0, 3, 71, TX3_firstFault)
def MX3_isComplete : MI := (yX3_isComplete, cX3_isComplete, 3, (some .boolean), 3, 0, 3, 71, TX3_isComplete)
def MX3_deedFrom : MI := (yX3_deedFrom, cX3_deedFrom, 3, (some .int), 3, 1, 2, 51, TX3_deedFrom)
def MX3_numberBetween : MI := (yX3_numberBetween, cX3_numberBetween, 5, (some .int), 3, 2, 2, 51, TX3_numberBetween)
def MX4_isHand : MI := (yX4_isHand, cX4_isHand, 1, (some .boolean), 4, 1, 1, 30, TX4_isHand)
def MX4_isRow : MI := (yX4_isRow, cX4_isRow, 1, (some .boolean), 4, 1, 1, 30, TX4_isRow)
def MX4_isMode : MI := (yX4_isMode, cX4_isMode, 1, (some .boolean), 4, 1, 1, 30, TX4_isMode)
def MX4_ask : MI := (yX4_ask, cX4_ask, 4, (some .int), 4, 3, 7, 178, TX4_ask)
def MX4_release : MI := (yX4_release, cX4_release, 3, (some .int), 4, 2, 6, 143, TX4_release)
def MX4_giveUp : MI := (yX4_giveUp, cX4_giveUp, 2, (some .int), 4, 1, 6, 143, TX4_giveUp)
def MX4_handOn : MI := (yX4_handOn, cX4_handOn, 4, (some .int), 4, 3, 6, 144, TX4_handOn)
def MX4_pass : MI := (yX4_pass, cX4_pass, 4, (some .int), 4, 1, 7, 166, TX4_pass)
def MX4_cool : MI := (yX4_cool, cX4_cool, 3, (some .int), 4, 1, 6, 100, TX4_cool)
def MX4_isSetting : MI := (yX4_isSetting, cX4_isSetting, 1, (some .boolean), 4, 1, 1, 30, TX4_isSetting)
def MX4_leastValue : MI := (yX4_leastValue, cX4_leastValue, 1, (some .int), 4, 1, 1, 30, TX4_leastValue)
def MX4_greatestValue : MI := (yX4_greatestValue, cX4_greatestValue, 1, (some .int), 4, 1, 1, 30, TX4_greatestValue)
def MX4_set : MI := (yX4_set, cX4_set, 4, (some .int), 4, 2, 6, 100, TX4_set)
def MX4_append : MI := (yX4_append, cX4_append, 2, (some .int), 4, 1, 6, 100, TX4_append)
def MX4_clearBuffer : MI := (yX4_clearBuffer, cX4_clearBuffer, 1, (some .int), 4, 0, 2, 51, TX4_clearBuffer)
def MX4_firstError : MI := (yX4_firstError, cX4_firstError, 1, (some .int), 4, 0, 4, 93, TX4_firstError)
def MX4_modeOf : MI := (yX4_modeOf, cX4_modeOf, 1, (some .int), 4, 1, 1, 30, TX4_modeOf)
def MX4_carryOut : MI := (yX4_carryOut, cX4_carryOut, 6, (some .boolean), 4, 2, 7, 178, TX4_carryOut)
def MX4_run : MI := (yX4_run, cX4_run, 5, (some .int), 4, 0, 8, 203, TX4_run)
def MX4_undo : MI := (yX4_undo, cX4_undo, 1, (some .int), 4, 0, 6, 100, TX4_undo)
def MX4_lock : MI := (yX4_lock, cX4_lock, 3, (some .int), 4, 2, 6, 100, TX4_lock)
def MX4_hand : MI := (yX4_hand, cX4_hand, 3, (some .int), 4, 2, 6, 122, TX4_hand)
def MX4_row : MI := (yX4_row, cX4_row, 3, (some .int), 4, 2, 6, 100, TX4_row)
def MX4_request : MI := (yX4_request, cX4_request, 4, (some .int), 4, 3, 6, 100, TX4_request)
def MX4_numberOf : MI := (yX4_numberOf, cX4_numberOf, 2, (some .int), 4, 1, 5, 117, TX4_numberOf)
def MX4_count : MI := (yX4_count, cX4_count, 2, (some .int), 4, 1, 6, 138, TX4_count)
def MX4_setting : MI := (yX4_setting, cX4_setting, 2, (some .int), 4, 1, 6, 100, TX4_setting)
def MX4_tryAsking : MI := (yX4_tryAsking, cX4_tryAsking, 4, (some .int), 4, 3, 7, 178, TX4_tryAsking)
def MX4_trialPart : MI := (yX4_trialPart, cX4_trialPart, 3, (some .int), 4, 2, 4, 96, TX4_trialPart)
def MX4_ifAsked : MI := (yX4_ifAsked, cX4_ifAsked, 5, (some .int), 4, 4, 8, 201, TX4_ifAsked)
def MX4_takers : MI := (yX4_takers, cX4_takers, 3, (some .int), 4, 2, 6, 123, TX4_takers)
def MX4_burnsIn : MI := (yX4_burnsIn, cX4_burnsIn, 2, (some .int), 4, 1, 6, 100, TX4_burnsIn)
def MX4_waitsFor : MI := (yX4_waitsFor, cX4_waitsFor, 2, (some .int), 4, 1, 6, 125, TX4_waitsFor)
def MX4_busiest : MI := (yX4_busiest, cX4_busiest, 1, (some .int), 4, 0, 7, 172, TX4_busiest)
def MX4_grantedShare : MI := (yX4_grantedShare, cX4_grantedShare, 1, (some .double), 4, 0, 3, 73, TX4_grantedShare)
def MX4_mix : MI := (yX4_mix, cX4_mix, 4, (some .long), 4, 2, 1, 30, TX4_mix)
def MX4_mixHand : MI := (yX4_mixHand, cX4_mixHand, 7, (some .long), 4, 2, 5, 125, TX4_mixHand)
def MX4_mixRow : MI := (yX4_mixRow, cX4_mixRow, 9, (some .long), 4, 3, 5, 123, TX4_mixRow)
def MX4_bitsOfShare : MI := (yX4_bitsOfShare, cX4_bitsOfShare, 8, (some .long), 4, 1, 1, 30, TX4_bitsOfShare)
def MX4_digest : MI := (yX4_digest, cX4_digest, 4, (some .long), 4, 0, 8, 201, TX4_digest)
def MX5_thrown : MI := (yX5_thrown, cX5_thrown, 1, (some .int), 5, 0, 1, 30, TX5_thrown)
def MX5_within : MI := (yX5_within, cX5_within, 3, (some .boolean), 5, 3, 1, 30, TX5_within)
def MX5_save : MI := (yX5_save, cX5_save, 2, none, 5, 0, 1, 30, TX5_save)
def MX5_isHand : MI := (yX5_isHand, cX5_isHand, 1, (some .boolean), 5, 1, 2, 52, TX5_isHand)
def MX5_isRow : MI := (yX5_isRow, cX5_isRow, 1, (some .boolean), 5, 1, 2, 52, TX5_isRow)
def MX5_areThere : MI := (yX5_areThere, cX5_areThere, 2, (some .boolean), 5, 2, 3, 72, TX5_areThere)
def MX5_lockOf : MI := (yX5_lockOf, cX5_lockOf, 3, (some .int), 5, 2, 1, 30, TX5_lockOf)
def MX5_setLock : MI := (yX5_setLock, cX5_setLock, 4, none, 5, 3, 1, 30, TX5_setLock)
def MX5_whoAt : MI := (yX5_whoAt, cX5_whoAt, 3, (some .int), 5, 2, 1, 30, TX5_whoAt)
def MX5_modeAt : MI := (yX5_modeAt, cX5_modeAt, 3, (some .int), 5, 2, 1, 30, TX5_modeAt)
def MX5_placeIn : MI := (yX5_placeIn, cX5_placeIn, 5, (some .int), 5, 2, 2, 52, TX5_placeIn)
def MX5_rowOf : MI := (yX5_rowOf, cX5_rowOf, 4, (some .int), 5, 1, 3, 76, TX5_rowOf)
def MX5_waits : MI := (yX5_waits, cX5_waits, 2, (some .boolean), 5, 1, 4, 99, TX5_waits)
def MX5_workOf : MI := (yX5_workOf, cX5_workOf, 4, (some .int), 5, 1, 2, 52, TX5_workOf)
def MX5_holders : MI := (yX5_holders, cX5_holders, 4, (some .int), 5, 1, 2, 52, TX5_holders)
def MX5_greatestOf : MI := (yX5_greatestOf, cX5_greatestOf, 4, (some .int), 5, 1, 2, 52, TX5_greatestOf)
def MX5_clashing : MI := (yX5_clashing, cX5_clashing, 7, (some .int), 5, 3, 2, 52, TX5_clashing)
def MX5_waitsNow : MI := (yX5_waitsNow, cX5_waitsNow, 6, (some .int), 5, 1, 4, 99, TX5_waitsNow)
def MX5_waitsOver : MI := (yX5_waitsOver, cX5_waitsOver, 5, (some .int), 5, 1, 5, 124, TX5_waitsOver)
def MX5_unqueue : MI := (yX5_unqueue, cX5_unqueue, 4, none, 5, 2, 2, 52, TX5_unqueue)
def MX5_enqueue : MI := (yX5_enqueue, cX5_enqueue, 6, none, 5, 3, 2, 52, TX5_enqueue)
def MX5_grant : MI := (yX5_grant, cX5_grant, 4, none, 5, 2, 3, 75, TX5_grant)
def MX5_settle : MI := (yX5_settle, cX5_settle, 3, (some .int), 5, 1, 4, 98, TX5_settle)
def MX5_isInRing : MI := (yX5_isInRing, cX5_isInRing, 2, (some .boolean), 5, 1, 6, 148, TX5_isInRing)
def MX5_loserFor : MI := (yX5_loserFor, cX5_loserFor, 6, (some .int), 5, 1, 6, 148, TX5_loserFor)
def MX5_lose : MI := (yX5_lose, cX5_lose, 5, none, 5, 1, 5, 120, TX5_lose)
def MX5_asks : MI := (yX5_asks, cX5_asks, 5, (some .int), 5, 3, 7, 173, TX5_asks)
def MX5_isMode : MI := (yX5_isMode, cX5_isMode, 1, (some .boolean), 5, 1, 2, 52, TX5_isMode)
def MX5_ask : MI := (yX5_ask, cX5_ask, 4, (some .int), 5, 3, 8, 197, TX5_ask)
def MX5_canRelease : MI := (yX5_canRelease, cX5_canRelease, 3, (some .boolean), 5, 2, 4, 99, TX5_canRelease)
def MX5_releases : MI := (yX5_releases, cX5_releases, 3, (some .int), 5, 2, 5, 120, TX5_releases)
def MX5_release : MI := (yX5_release, cX5_release, 3, (some .int), 5, 2, 6, 142, TX5_release)
def MX5_giveUp : MI := (yX5_giveUp, cX5_giveUp, 4, (some .int), 5, 1, 5, 120, TX5_giveUp)
def MX5_canHandOn : MI := (yX5_canHandOn, cX5_canHandOn, 5, (some .boolean), 5, 3, 5, 121, TX5_canHandOn)
def MX5_handOn : MI := (yX5_handOn, cX5_handOn, 6, (some .int), 5, 3, 6, 145, TX5_handOn)
def MX5_burn : MI := (yX5_burn, cX5_burn, 4, (some .int), 5, 1, 2, 53, TX5_burn)
def MX5_tick : MI := (yX5_tick, cX5_tick, 5, (some .int), 5, 0, 5, 120, TX5_tick)
def MX5_pass : MI := (yX5_pass, cX5_pass, 5, (some .int), 5, 1, 6, 144, TX5_pass)
def MX5_cool : MI := (yX5_cool, cX5_cool, 3, (some .int), 5, 1, 3, 75, TX5_cool)
def MX5_isSetting : MI := (yX5_isSetting, cX5_isSetting, 1, (some .boolean), 5, 1, 2, 52, TX5_isSetting)
def MX5_isValue : MI := (yX5_isValue, cX5_isValue, 2, (some .boolean), 5, 2, 2, 52, TX5_isValue)
def MX5_set : MI := (yX5_set, cX5_set, 4, (some .int), 5, 2, 3, 73, TX5_set)
def MX5_append : MI := (yX5_append, cX5_append, 2, (some .int), 5, 1, 2, 52, TX5_append)
def MX5_clearBuffer : MI := (yX5_clearBuffer, cX5_clearBuffer, 2, (some .int), 5, 0, 1, 30, TX5_clearBuffer)
def MX5_modeOf : MI := (yX5_modeOf, cX5_modeOf, 1, (some .int), 5, 1, 1, 30, TX5_modeOf)
def MX5_takesDigit : MI := (yX5_takesDigit, cX5_takesDigit, 4, (some .boolean), 5, 1, 3, 72, TX5_takesDigit)
def MX5_takes : MI := (yX5_takes, cX5_takes, 2, (some .boolean), 5, 1, 4, 95, TX5_takes)
def MX5_rightUpTo : MI := (yX5_rightUpTo, cX5_rightUpTo, 2, (some .int), 5, 0, 5, 116, TX5_rightUpTo)
def MX5_firstError : MI := (yX5_firstError, cX5_firstError, 1, (some .int), 5, 0, 6, 137, TX5_firstError)
def MX5_carries : MI := (yX5_carries, cX5_carries, 7, (some .boolean), 5, 1, 8, 197, TX5_carries)
def MX5_run : MI := (yX5_run, cX5_run, 3, (some .int), 5, 0, 9, 223, TX5_run)
def MX5_undo : MI := (yX5_undo, cX5_undo, 2, (some .int), 5, 0, 1, 30, TX5_undo)
def MX5_lock : MI := (yX5_lock, cX5_lock, 3, (some .int), 5, 2, 4, 93, TX5_lock)
def MX5_locksOf : MI := (yX5_locksOf, cX5_locksOf, 4, (some .int), 5, 1, 2, 52, TX5_locksOf)
def MX5_handNow : MI := (yX5_handNow, cX5_handNow, 4, (some .int), 5, 2, 5, 124, TX5_handNow)
def MX5_hand : MI := (yX5_hand, cX5_hand, 3, (some .int), 5, 2, 6, 147, TX5_hand)
def MX5_rowNow : MI := (yX5_rowNow, cX5_rowNow, 3, (some .int), 5, 2, 3, 75, TX5_rowNow)
def MX5_row : MI := (yX5_row, cX5_row, 3, (some .int), 5, 2, 4, 97, TX5_row)
def MX5_requestNow : MI := (yX5_requestNow, cX5_requestNow, 4, (some .int), 5, 3, 2, 52, TX5_requestNow)
def MX5_request : MI := (yX5_request, cX5_request, 4, (some .int), 5, 3, 3, 75, TX5_request)
def MX5_sumFrom : MI := (yX5_sumFrom, cX5_sumFrom, 5, (some .int), 5, 2, 1, 30, TX5_sumFrom)
def MX5_allLocks : MI := (yX5_allLocks, cX5_allLocks, 3, (some .int), 5, 0, 3, 75, TX5_allLocks)
def MX5_heldRows : MI := (yX5_heldRows, cX5_heldRows, 3, (some .int), 5, 0, 3, 75, TX5_heldRows)
def MX5_counted : MI := (yX5_counted, cX5_counted, 2, (some .int), 5, 1, 4, 97, TX5_counted)
def MX5_count : MI := (yX5_count, cX5_count, 2, (some .int), 5, 1, 5, 118, TX5_count)
def MX5_setting : MI := (yX5_setting, cX5_setting, 2, (some .int), 5, 1, 3, 72, TX5_setting)
def MX5_keep : MI := (yX5_keep, cX5_keep, 2, none, 5, 0, 1, 30, TX5_keep)
def MX5_layBack : MI := (yX5_layBack, cX5_layBack, 2, none, 5, 0, 1, 30, TX5_layBack)
def MX5_askedThen : MI := (yX5_askedThen, cX5_askedThen, 8, (some .int), 5, 4, 8, 197, TX5_askedThen)
def MX5_ifAsked : MI := (yX5_ifAsked, cX5_ifAsked, 5, (some .int), 5, 4, 9, 224, TX5_ifAsked)
def MX5_takersNow : MI := (yX5_takersNow, cX5_takersNow, 5, (some .int), 5, 2, 6, 145, TX5_takersNow)
def MX5_takers : MI := (yX5_takers, cX5_takers, 3, (some .int), 5, 2, 7, 169, TX5_takers)
def MX5_burnsNow : MI := (yX5_burnsNow, cX5_burnsNow, 4, (some .int), 5, 1, 6, 144, TX5_burnsNow)
def MX5_burnsIn : MI := (yX5_burnsIn, cX5_burnsIn, 2, (some .int), 5, 1, 7, 167, TX5_burnsIn)
def MX5_waitsFor : MI := (yX5_waitsFor, cX5_waitsFor, 2, (some .int), 5, 1, 6, 148, TX5_waitsFor)
def MX5_busiestNow : MI := (yX5_busiestNow, cX5_busiestNow, 6, (some .int), 5, 0, 6, 148, TX5_busiestNow)
def MX5_busiest : MI := (yX5_busiest, cX5_busiest, 1, (some .int), 5, 0, 7, 173, TX5_busiest)
def MX5_share : MI := (yX5_share, cX5_share, 2, (some .double), 5, 0, 2, 54, TX5_share)
def MX5_grantedShare : MI := (yX5_grantedShare, cX5_grantedShare, 1, (some .double), 5, 0, 3, 75, TX5_grantedShare)
def MX5_mix : MI := (yX5_mix, cX5_mix, 3, none, 5, 1, 1, 30, TX5_mix)
def MX5_mixHand : MI := (yX5_mixHand, cX5_mixHand, 3, none, 5, 1, 6, 148, TX5_mixHand)
def MX5_mixRow : MI := (yX5_mixRow, cX5_mixRow, 3, none, 5, 1, 9, 224, TX5_mixRow)
def MJxe99ae_isNaN_b9ae7 : MI := (yJxe99ae_isNaN_b9ae7, cJxe99ae_isNaN_b9ae7, 2, (some .boolean), 7, 1, 1, 30, TJxe99ae_isNaN_b9ae7)
def MJxe99ae_doubleToLongBits_ccdee : MI := (yJxe99ae_doubleToLongBits_ccdee, cJxe99ae_doubleToLongBits_ccdee, 2, (some .long), 7, 1, 2, 51, TJxe99ae_doubleToLongBits_ccdee)
def MX5_digest : MI := (yX5_digest, cX5_digest, 2, (some .long), 5, 0, 10, 246, TX5_digest)
def ML_ask : MI := (yL_ask, cL_ask, 6, (some .int), 6, 5, 8, 201, TL_ask)
def ML_release : MI := (yL_release, cL_release, 5, (some .int), 6, 4, 7, 165, TL_release)
def ML_giveUp : MI := (yL_giveUp, cL_giveUp, 4, (some .int), 6, 3, 7, 164, TL_giveUp)
def ML_handOn : MI := (yL_handOn, cL_handOn, 6, (some .int), 6, 5, 7, 167, TL_handOn)
def ML_pass : MI := (yL_pass, cL_pass, 4, (some .int), 6, 3, 8, 189, TL_pass)
def ML_cool : MI := (yL_cool, cL_cool, 4, (some .int), 6, 3, 7, 122, TL_cool)
def ML_set : MI := (yL_set, cL_set, 5, (some .int), 6, 4, 7, 123, TL_set)
def ML_append : MI := (yL_append, cL_append, 4, (some .int), 6, 3, 7, 121, TL_append)
def ML_run : MI := (yL_run, cL_run, 3, (some .int), 6, 2, 9, 227, TL_run)
def ML_undo : MI := (yL_undo, cL_undo, 3, (some .int), 6, 2, 7, 120, TL_undo)
def ML_lock : MI := (yL_lock, cL_lock, 5, (some .int), 6, 4, 7, 122, TL_lock)
def ML_hand : MI := (yL_hand, cL_hand, 5, (some .int), 6, 4, 7, 144, TL_hand)
def ML_row : MI := (yL_row, cL_row, 5, (some .int), 6, 4, 7, 122, TL_row)
def ML_request : MI := (yL_request, cL_request, 6, (some .int), 6, 5, 7, 123, TL_request)
def ML_count : MI := (yL_count, cL_count, 4, (some .int), 6, 3, 7, 159, TL_count)
def ML_setting : MI := (yL_setting, cL_setting, 4, (some .int), 6, 3, 7, 121, TL_setting)
def ML_ifAsked : MI := (yL_ifAsked, cL_ifAsked, 7, (some .int), 6, 6, 9, 225, TL_ifAsked)
def ML_takers : MI := (yL_takers, cL_takers, 5, (some .int), 6, 4, 7, 145, TL_takers)
def ML_burnsIn : MI := (yL_burnsIn, cL_burnsIn, 4, (some .int), 6, 3, 7, 121, TL_burnsIn)
def ML_waitsFor : MI := (yL_waitsFor, cL_waitsFor, 4, (some .int), 6, 3, 7, 146, TL_waitsFor)
def ML_law : MI := (yL_law, cL_law, 9, (some .boolean), 6, 1, 11, 267, TL_law)
def RO (o : Nat) : String := match o with
  | 0 => RX0
  | 1 => RX1
  | 2 => RX2
  | 3 => RX3
  | 4 => RX4
  | 5 => RX5
  | 6 => RL
  | 7 => RJxe99ae
  | _ => RJ9
def flk (o : Nat) : List (Nat × Nat × Nat) := match o with
  | 0 => [(11, 0, 0), (17, 0, 1), (21, 0, 2)]
  | 1 => [(7, 1, 0)]
  | 2 => [(14, 2, 0), (20, 2, 1), (23, 2, 2), (26, 2, 3), (29, 2, 4), (32, 2, 5), (35, 2, 6), (38, 2, 7), (41, 2, 8), (44, 2, 9), (47, 2, 10), (50, 2, 11)]
  | 3 => [(14, 3, 0), (20, 3, 1)]
  | 4 => [(10, 4, 0), (16, 4, 1), (22, 4, 2), (29, 4, 3), (111, 2, 4), (137, 2, 10), (142, 3, 1), (169, 0, 2), (178, 2, 0), (246, 3, 0), (261, 2, 7)]
  | 5 => [(7, 5, 0), (13, 5, 2), (16, 5, 4), (19, 5, 6), (22, 5, 10), (25, 5, 5), (29, 5, 1), (144, 5, 3), (147, 5, 8), (150, 5, 9), (153, 5, 7), (220, 5, 11)]
  | _ => []
def llk (o : Nat) : List (Nat × Int64) := match o with
  | 4 => [(228, 2447), (270, 31), (275, 1023)]
  | 5 => [(228, 2447), (218, 31)]
  | 7 => [(137, 9221120237041090560)]
  | _ => []
def dlk (o : Nat) : List (Nat × UInt64) := match o with
  | 4 => [(277, 4611686018427387904), (279, 4841369599423283200)]
  | _ => []
def nlk (o : Nat) : List (Nat × Nat) := match o with
  | 0 => [(33, 3)]
  | 1 => [(21, 0)]
  | 2 => [(79, 2), (134, 3)]
  | 7 => [(134, 1)]
  | _ => []
def clk (o : Nat) : List (Nat × Nat × MI) := match o with
  | 0 => [(25, 1, MX0_slotAt), (29, 1, MX2_copyFrom)]
  | 1 => [(13, 1, MX1_at), (17, 1, MX1_put)]
  | 2 => [(54, 1, MX1_put), (58, 1, MX1_copyFrom), (62, 1, MX1_at), (66, 2, MX4_cell), (70, 1, MX2_placeForHolder), (73, 1, MX2_queueLength), (76, 1, MX1_raise), (84, 1, MX2_dequeue), (87, 1, MX2_handAt), (90, 1, MX2_clashes), (94, 1, MX2_grant), (97, 1, MX2_isWaiting), (101, 1, MX2_direct), (104, 2, MX4_has), (108, 1, MX2_reach), (111, 1, MX2_work), (114, 1, MX2_enqueue), (118, 1, MX2_settle), (121, 1, MX2_loserFor), (124, 1, MX2_strip), (127, 1, MX2_canLetGo), (130, 1, MX2_canPassOver), (137, 1, MX2_greatestMode), (140, 1, MX2_heatAfter), (143, 1, MX2_burn), (146, 1, MX2_locksOf), (149, 1, MX2_holders), (152, 1, MX2_lockCount), (156, 1, MX2_waitingCount), (159, 1, MX1_sum), (162, 1, MX2_heldRows), (165, 1, MX2_waitersFor)]
  | 3 => [(24, 1, MX1_put), (28, 1, MX1_at), (32, 0, MX3_dueAfter), (36, 0, MX3_isDigit), (40, 0, MX3_isDeed)]
  | 4 => [(33, 0, MX4_isHand), (37, 0, MX4_isRow), (47, 0, MX4_isMode), (55, 1, MX2_isWaiting), (63, 1, MX0_save), (67, 1, MX2_takeAsking), (71, 1, MX2_canLetGo), (77, 1, MX2_letGo), (85, 1, MX2_stopWaiting), (89, 1, MX2_canPassOver), (95, 1, MX2_passOver), (100, 1, MX2_tick), (106, 1, MX2_holders), (115, 1, MX1_at), (120, 1, MX1_put), (124, 0, MX4_isSetting), (129, 0, MX4_leastValue), (132, 0, MX4_greatestValue), (148, 1, MX3_add), (151, 1, MX3_empty), (154, 1, MX3_firstFault), (157, 1, MX3_isComplete), (163, 1, MX3_deedFrom), (166, 1, MX4_carryOut), (174, 1, MX0_restore), (181, 0, MX4_cell), (186, 1, MX2_handPart), (191, 1, MX2_rowPart), (196, 1, MX2_requestPart), (201, 1, MX4_numberOf), (206, 1, MX4_tryAsking), (209, 1, MX4_trialPart), (212, 1, MX2_takersOf), (215, 1, MX2_ticksToBurn), (218, 1, MX2_reach), (221, 1, MX2_mostWaitedFor), (224, 1, MX2_shareGranted), (230, 0, MX4_mix), (234, 1, MX4_mixHand), (238, 1, MX4_mixRow), (242, 0, MX4_bitsOfShare), (249, 1, MX3_numberBetween), (252, 0, MX4_modeOf), (255, 1, MX2_total), (258, 1, MX2_copyFrom), (264, 1, MX1_sum), (267, 1, MX2_lockCount), (272, 1, MX2_queueLength)]
  | 5 => [(32, 0, MX5_within), (36, 0, MX5_isHand), (40, 0, MX5_isRow), (43, 1, MX5_whoAt), (47, 1, MX5_placeIn), (50, 1, MX5_rowOf), (54, 1, MX5_lockOf), (57, 1, MX5_modeAt), (60, 1, MX5_clashing), (64, 1, MX5_waitsNow), (67, 1, MX5_setLock), (71, 1, MX5_unqueue), (75, 1, MX5_grant), (78, 1, MX5_waitsOver), (81, 1, MX5_workOf), (84, 1, MX5_settle), (87, 1, MX5_enqueue), (90, 1, MX5_isInRing), (93, 1, MX5_loserFor), (96, 1, MX5_lose), (100, 1, MX5_waits), (103, 0, MX5_areThere), (107, 0, MX5_isMode), (110, 1, MX5_save), (113, 1, MX5_asks), (116, 1, MX5_canRelease), (119, 1, MX5_releases), (122, 1, MX5_canHandOn), (125, 1, MX5_greatestOf), (128, 1, MX5_burn), (131, 1, MX5_tick), (135, 1, MX5_holders), (138, 0, MX5_isSetting), (141, 0, MX5_isValue), (156, 0, MX5_modeOf), (159, 1, MX5_takesDigit), (162, 1, MX5_takes), (165, 1, MX5_rightUpTo), (168, 1, MX5_carries), (171, 1, MX5_locksOf), (174, 1, MX5_handNow), (177, 1, MX5_rowNow), (180, 1, MX5_requestNow), (183, 1, MX5_allLocks), (186, 1, MX5_sumFrom), (189, 1, MX5_heldRows), (192, 1, MX5_counted), (195, 1, MX5_keep), (198, 1, MX5_layBack), (201, 1, MX5_askedThen), (205, 1, MX5_takersNow), (208, 1, MX5_burnsNow), (211, 1, MX5_busiestNow), (214, 1, MX5_share), (224, 1, MX5_mix), (230, 1, MX5_mixHand), (233, 1, MX5_mixRow), (236, 0, MJxe99ae_doubleToLongBits_ccdee)]
  | 6 => [(7, 1, MX4_ask), (19, 1, MX4_release), (23, 1, MX4_giveUp), (27, 1, MX4_handOn), (30, 1, MX4_pass), (33, 1, MX4_cool), (36, 1, MX4_set), (39, 1, MX4_append), (42, 1, MX4_run), (46, 1, MX4_undo), (49, 1, MX4_lock), (52, 1, MX4_hand), (55, 1, MX4_row), (58, 1, MX4_request), (61, 1, MX4_count), (64, 1, MX4_setting), (67, 1, MX4_ifAsked), (71, 1, MX4_takers), (74, 1, MX4_burnsIn), (77, 1, MX4_waitsFor), (89, 1, MX5_ask), (90, 1, MX5_thrown), (96, 1, MX5_release), (100, 1, MX5_giveUp), (103, 1, MX5_handOn), (106, 1, MX5_pass), (109, 1, MX5_cool), (112, 1, MX5_set), (115, 1, MX5_append), (116, 1, MX4_clearBuffer), (119, 1, MX5_clearBuffer), (120, 1, MX4_firstError), (123, 1, MX5_firstError), (127, 1, MX5_run), (130, 1, MX5_undo), (133, 1, MX5_lock), (136, 1, MX5_hand), (139, 1, MX5_row), (142, 1, MX5_request), (145, 1, MX5_count), (148, 1, MX5_setting), (152, 1, MX5_ifAsked), (155, 1, MX5_takers), (158, 1, MX5_burnsIn), (161, 1, MX5_waitsFor), (162, 1, MX4_busiest), (165, 1, MX5_busiest), (166, 1, MX4_grantedShare), (170, 1, MX5_grantedShare), (171, 1, MX4_digest), (175, 1, MX5_digest)]
  | 7 => [(122, 0, MJxe99ae_isNaN_b9ae7)]
  | _ => []
end
section
/-! one instruction of the small machine, but for calls and answers -/
/-- what pushes -/
def sm_a (i : Instr) (n pc : Nat) (L : List (Option PV)) (st : List PV) (m : PM) : Option PS := match i, n with
  | .iconst v, 1 => some (pc + 1, L, vI (Int32.ofInt v) :: st, m)
  | .bipush v, 2 => some (pc + 2, L, vI (Int8.ofInt v).toInt32 :: st, m)
  | .sipush v, 3 => some (pc + 3, L, vI (Int16.ofInt v).toInt32 :: st, m)
  | .lconst v, 1 => some (pc + 1, L, vL (Int64.ofNat (v : Nat)) :: st, m)
  | .dconst v, 1 => some (pc + 1, L, vD (if v = 0 then FP.dconst0 else FP.dconst1) :: st, m)
  | .aconst_null, 1 => some (pc + 1, L, vN :: st, m)
  | .iload_n k, 1 => match L[(k : Nat)]? with
    | some (some (.inl x)) => some (pc + 1, L, vI x :: st, m)
    | _ => none
  | .iload k, 2 => match L[k]? with
    | some (some (.inl x)) => some (pc + 2, L, vI x :: st, m)
    | _ => none
  | .lload_n k, 1 => match L[(k : Nat)]? with
    | some (some (.inr (.inl x))) => some (pc + 1, L, vL x :: st, m)
    | _ => none
  | .lload k, 2 => match L[k]? with
    | some (some (.inr (.inl x))) => some (pc + 2, L, vL x :: st, m)
    | _ => none
  | .dload_n k, 1 => match L[(k : Nat)]? with
    | some (some (.inr (.inr (.inl x)))) => some (pc + 1, L, vD x :: st, m)
    | _ => none
  | .dload k, 2 => match L[k]? with
    | some (some (.inr (.inr (.inl x)))) => some (pc + 2, L, vD x :: st, m)
    | _ => none
  | .aload_n k, 1 => match L[(k : Nat)]? with
    | some (some (.inr (.inr (.inr x)))) => some (pc + 1, L, .inr (.inr (.inr x)) :: st, m)
    | _ => none
  | .aload k, 2 => match L[k]? with
    | some (some (.inr (.inr (.inr x)))) => some (pc + 2, L, .inr (.inr (.inr x)) :: st, m)
    | _ => none
  | _, _ => none
/-- what stores, and the stack's own -/
def sm_b (i : Instr) (n pc : Nat) (L : List (Option PV)) (st : List PV) (m : PM) : Option PS := match i, n with
  | .istore_n k, 1 => match st with
    | .inl x :: r => match lset L (k : Nat) (vI x) with
      | some L' => some (pc + 1, L', r, m)
      | none => none
    | _ => none
  | .istore k, 2 => match st with
    | .inl x :: r => match lset L k (vI x) with
      | some L' => some (pc + 2, L', r, m)
      | none => none
    | _ => none
  | .lstore_n k, 1 => match st with
    | .inr (.inl x) :: r => match lset2 L (k : Nat) (vL x) with
      | some L' => some (pc + 1, L', r, m)
      | none => none
    | _ => none
  | .lstore k, 2 => match st with
    | .inr (.inl x) :: r => match lset2 L k (vL x) with
      | some L' => some (pc + 2, L', r, m)
      | none => none
    | _ => none
  | .dstore_n k, 1 => match st with
    | .inr (.inr (.inl x)) :: r => match lset2 L (k : Nat) (vD x) with
      | some L' => some (pc + 1, L', r, m)
      | none => none
    | _ => none
  | .dstore k, 2 => match st with
    | .inr (.inr (.inl x)) :: r => match lset2 L k (vD x) with
      | some L' => some (pc + 2, L', r, m)
      | none => none
    | _ => none
  | .astore_n k, 1 => match st with
    | .inr (.inr (.inr x)) :: r => match lset L (k : Nat) (.inr (.inr (.inr x))) with
      | some L' => some (pc + 1, L', r, m)
      | none => none
    | _ => none
  | .astore k, 2 => match st with
    | .inr (.inr (.inr x)) :: r => match lset L k (.inr (.inr (.inr x))) with
      | some L' => some (pc + 2, L', r, m)
      | none => none
    | _ => none
  | .iinc k d, 3 => match L[k]? with
    | some (some (.inl x)) => match lset L k (vI (x + Int32.ofInt d)) with
      | some L' => some (pc + 3, L', st, m)
      | none => none
    | _ => none
  | .dup, 1 => match st with
    | v :: r => if cat v = 1 then some (pc + 1, L, v :: v :: r, m) else none
    | _ => none
  | .dup2, 1 => match st with
    | v :: w :: r => if cat v = 1 then (if cat w = 1 then some (pc + 1, L, v :: w :: v :: w :: r, m) else none) else none
    | _ => none
  | .pop, 1 => match st with
    | v :: r => if cat v = 1 then some (pc + 1, L, r, m) else none
    | _ => none
  | _, _ => none
/-- numbers -/
def sm_c (i : Instr) (n pc : Nat) (L : List (Option PV)) (st : List PV) (m : PM) : Option PS := match i, n, st with
  | .iadd, 1, .inl y :: .inl x :: r => some (pc + 1, L, vI (x + y) :: r, m)
  | .isub, 1, .inl y :: .inl x :: r => some (pc + 1, L, vI (x - y) :: r, m)
  | .imul, 1, .inl y :: .inl x :: r => some (pc + 1, L, vI (x * y) :: r, m)
  | .iand, 1, .inl y :: .inl x :: r => some (pc + 1, L, vI (x &&& y) :: r, m)
  | .ior, 1, .inl y :: .inl x :: r => some (pc + 1, L, vI (x ||| y) :: r, m)
  | .ixor, 1, .inl y :: .inl x :: r => some (pc + 1, L, vI (x ^^^ y) :: r, m)
  | .ishl, 1, .inl y :: .inl x :: r => some (pc + 1, L, vI (x <<< (y &&& 31)) :: r, m)
  | .ishr, 1, .inl y :: .inl x :: r => some (pc + 1, L, vI (x >>> (y &&& 31)) :: r, m)
  | .ineg, 1, .inl x :: r => some (pc + 1, L, vI (-x) :: r, m)
  | .i2l, 1, .inl x :: r => some (pc + 1, L, vL x.toInt64 :: r, m)
  | .i2d, 1, .inl x :: r => some (pc + 1, L, vD (FP.i2d x) :: r, m)
  | .ladd, 1, .inr (.inl y) :: .inr (.inl x) :: r => some (pc + 1, L, vL (x + y) :: r, m)
  | .lsub, 1, .inr (.inl y) :: .inr (.inl x) :: r => some (pc + 1, L, vL (x - y) :: r, m)
  | .lmul, 1, .inr (.inl y) :: .inr (.inl x) :: r => some (pc + 1, L, vL (x * y) :: r, m)
  | .lshl, 1, .inl y :: .inr (.inl x) :: r => some (pc + 1, L, vL (x <<< (y.toInt64 &&& 63)) :: r, m)
  | .lcmp, 1, .inr (.inl y) :: .inr (.inl x) :: r => some (pc + 1, L, vI (lg_cmp x y) :: r, m)
  | .dcmp o, 1, .inr (.inr (.inl y)) :: .inr (.inr (.inl x)) :: r => some (pc + 1, L, vI (Op.cmpValue (FP.dcmp x y) o) :: r, m)
  | .d2l, 1, .inr (.inr (.inl x)) :: r => some (pc + 1, L, vL (FP.d2l x) :: r, m)
  | .dmul, 1, .inr (.inr (.inl y)) :: .inr (.inr (.inl x)) :: r => if FP.dmul x y &&& 0x7fffffffffffffff ≤ 0x7ff0000000000000 then some (pc + 1, L, vD (FP.dmul x y) :: r, m) else none
  | .dsub, 1, .inr (.inr (.inl y)) :: .inr (.inr (.inl x)) :: r => if FP.dsub x y &&& 0x7fffffffffffffff ≤ 0x7ff0000000000000 then some (pc + 1, L, vD (FP.dsub x y) :: r, m) else none
  | .ddiv, 1, .inr (.inr (.inl y)) :: .inr (.inr (.inl x)) :: r => if FP.ddiv x y &&& 0x7fffffffffffffff ≤ 0x7ff0000000000000 then some (pc + 1, L, vD (FP.ddiv x y) :: r, m) else none
  | _, _, _ => none
/-- branches -/
def sm_d (i : Instr) (n pc : Nat) (L : List (Option PV)) (st : List PV) (m : PM) : Option PS := match i, n with
  | .goto o, 3 => match bt pc o with
    | some t => some (t, L, st, m)
    | none => none
  | .ifCond c o, 3 => match st with
    | .inl x :: r => match bt pc o with
      | some t => match c with
        | .eq => some (if x = 0 then t else pc + 3, L, r, m)
        | .ne => some (if ¬ x = 0 then t else pc + 3, L, r, m)
        | .lt => some (if x < 0 then t else pc + 3, L, r, m)
        | .ge => some (if 0 ≤ x then t else pc + 3, L, r, m)
        | .gt => some (if 0 < x then t else pc + 3, L, r, m)
        | .le => some (if x ≤ 0 then t else pc + 3, L, r, m)
      | none => none
    | _ => none
  | .if_icmp c o, 3 => match st with
    | .inl y :: .inl x :: r => match bt pc o with
      | some t => match c with
        | .eq => some (if x = y then t else pc + 3, L, r, m)
        | .ne => some (if ¬ x = y then t else pc + 3, L, r, m)
        | .lt => some (if x < y then t else pc + 3, L, r, m)
        | .ge => some (if y ≤ x then t else pc + 3, L, r, m)
        | .gt => some (if y < x then t else pc + 3, L, r, m)
        | .le => some (if x ≤ y then t else pc + 3, L, r, m)
      | none => none
    | _ => none
  | .ifnull o, 3 => match st with
    | .inr (.inr (.inr none)) :: r => match bt pc o with
      | some t => some (t, L, r, m)
      | none => none
    | .inr (.inr (.inr (some _))) :: r => some (pc + 3, L, r, m)
    | _ => none
  | .ifnonnull o, 3 => match st with
    | .inr (.inr (.inr (some _))) :: r => match bt pc o with
      | some t => some (t, L, r, m)
      | none => none
    | .inr (.inr (.inr none)) :: r => some (pc + 3, L, r, m)
    | _ => none
  | .tableswitch d lo hi os, _ => match st with
    | .inl x :: r => if x.toInt < lo ∨ hi < x.toInt then
        match bt pc d with
        | some t => some (t, L, r, m)
        | none => none
      else match os[(x.toInt - lo).toNat]? with
        | some o => match bt pc o with
          | some t => some (t, L, r, m)
          | none => none
        | none => none
    | _ => none
  | .lookupswitch d ps, _ => match st with
    | .inl x :: r => if (ps.toList.zip (ps.toList.drop 1)).all (fun (a, next) => a.1 < next.1) = true then
        match bt pc (Op.lookupswitch.offset ps.toList d x.toInt) with
        | some t => some (t, L, r, m)
        | none => none
      else none
    | _ => none
  | _, _ => none
/-- the memory; o: the class whose code this is -/
def sm_e (o : Nat) (i : Instr) (n pc : Nat) (L : List (Option PV)) (st : List PV) (m : PM) : Option PS := match i, n with
  | .getfield x, 3 => match st with
    | .inr (.inr (.inr (some (t, k, g)))) :: r => match asc (flk o) x with
      | some (ci, s) => if tcl t = some ci then
          match fv m t k g s with
          | some v => some (pc + 3, L, v :: r, m)
          | none => none
        else none
      | none => none
    | _ => none
  | .putfield x, 3 => match st with
    | .inl v :: .inr (.inr (.inr (some (t, k, g)))) :: r => match asc (flk o) x with
      | some (ci, s) => if tcl t = some ci then (if ipf t s = true then some (pc + 3, L, r, wI m t k g s v) else none) else none
      | none => none
    | .inr (.inl v) :: .inr (.inr (.inr (some (t, k, g)))) :: r => match asc (flk o) x with
      | some (ci, s) => if tcl t = some ci then (if lpf t s = true then some (pc + 3, L, r, wL m t k g s v) else none) else none
      | none => none
    | _ => none
  | .iaload, 1 => match st with
    | .inl j :: .inr (.inr (.inr (some (t, k, g)))) :: r => match ilen m t k with
      | some N => if j < 0 ∨ N ≤ j.toNatClampNeg then none else some (pc + 1, L, vI (m.1 t k g j.toNatClampNeg) :: r, m)
      | none => none
    | _ => none
  | .iastore, 1 => match st with
    | .inl v :: .inl j :: .inr (.inr (.inr (some (t, k, g)))) :: r => match ilen m t k with
      | some N => if t = 10 then none else if j < 0 ∨ N ≤ j.toNatClampNeg then none else some (pc + 1, L, r, wI m t k g j.toNatClampNeg v)
      | none => none
    | _ => none
  | .laload, 1 => match st with
    | .inl j :: .inr (.inr (.inr (some (9, k, g)))) :: r => if j < 0 ∨ 1 ≤ j.toNatClampNeg then none else some (pc + 1, L, vL (m.2 9 k g j.toNatClampNeg) :: r, m)
    | _ => none
  | .lastore, 1 => match st with
    | .inr (.inl v) :: .inl j :: .inr (.inr (.inr (some (9, k, g)))) :: r => if j < 0 ∨ 1 ≤ j.toNatClampNeg then none else some (pc + 1, L, r, wL m 9 k g j.toNatClampNeg v)
    | _ => none
  | .aaload, 1 => match st with
    | .inl j :: .inr (.inr (.inr (some (5, _, _)))) :: r => if j < 0 ∨ 6 ≤ j.toNatClampNeg then none else some (pc + 1, L, vR 0 0 (2 + j.toNatClampNeg) :: r, m)
    | _ => none
  | .arraylength, 1 => match st with
    | .inr (.inr (.inr (some (t, k, _)))) :: r => match alen m t k with
      | some N => some (pc + 1, L, vI N :: r, m)
      | none => none
    | _ => none
  | .ldc2_w x, 3 => match asc (llk o) x with
    | some v => some (pc + 3, L, vL v :: st, m)
    | none => match asc (dlk o) x with
      | some v => some (pc + 3, L, vD v :: st, m)
      | none => none
  | .invokestatic x, 3 => match asc (nlk o) x with
    | some 0 => match st with
      | .inl n :: .inl dp :: .inr (.inr (.inr (some (2, k2, g2)))) :: .inl sp :: .inr (.inr (.inr (some (2, k1, g1)))) :: [] =>
        if sp = 0 ∧ dp = 0 ∧ n = nI (nlen k1) ∧ nlen k2 = nlen k1 then some (pc + 3, L, [], wC m k1 g1 (nlen k1) k2 g2) else none
      | _ => none
    | some 1 => match st with
      | [.inr (.inr (.inl x))] => some (pc + 3, L, [vL x.toInt64], m)
      | _ => none
    | some 2 => match st with
      | .inl y :: .inl x :: r => if (r.map cat).sum ≤ 8 then some (pc + 3, L, vI (if x < y then y else x) :: r, m) else none
      | _ => none
    | some 3 => match st with
      | .inl y :: .inl x :: r => if (r.map cat).sum ≤ 8 then some (pc + 3, L, vI (if y < x then y else x) :: r, m) else none
      | _ => none
    | _ => none
  | _, _ => none
def sm_ins (o : Nat) (i : Instr) (n pc : Nat) (L : List (Option PV)) (st : List PV) (m : PM) : Option PS :=
  match sm_a i n pc L st m with
  | some r => some r
  | none => match sm_b i n pc L st m with
    | some r => some r
    | none => match sm_c i n pc L st m with
      | some r => some r
      | none => match sm_d i n pc L st m with
        | some r => some r
        | none => sm_e o i n pc L st m
end
section
/-! the small machine's runs: to the next answer, or to a 'new' -/
def sm_one (M : MI) (pc : Nat) (L : List (Option PV)) (st : List PV) (m : PM) : Option PS := match asc (mT M) pc with
  | some (i, n) => sm_ins (mO M) i n pc L st m
  | none => none
/-- a call's callee, arguments, and what stays on the stack -/
def sm_cal (M : MI) (i : Instr) (st : List PV) : Option (MI × List PV × List PV) := match i with
  | .invokestatic x => match asc (clk (mO M)) x with
    | some (0, M2) => if mPar M2 ≤ st.length then some (M2, (st.take (mPar M2)).reverse, st.drop (mPar M2)) else none
    | some (2, M2) => if mPar M2 ≤ st.length then some (M2, (st.take (mPar M2)).reverse, st.drop (mPar M2)) else none
    | _ => none
  | .invokevirtual x => match asc (clk (mO M)) x with
    | some (1, M2) => match st[mPar M2]? with
      | some (.inr (.inr (.inr (some (t, _, _))))) => if tcl t = some (mO M2) then some (M2, (st.take (mPar M2 + 1)).reverse, st.drop (mPar M2 + 1)) else none
      | _ => none
    | _ => none
  | _ => none
def sm_fit (M M2 : MI) (as rest : List PV) : Bool := decide (mFr M2 + 1 ≤ mFr M) && decide (1 ≤ mFr M2) && decide (30 ≤ mLo M2) && decide (8 + (mN M2 + 11) + mLo M2 ≤ mLo M) && decide ((rest.map cat).sum ≤ 8) && decide ((lent as).length ≤ mN M2)
/-- the answer, at an answering instruction -/
def sm_ret (M : MI) (pc : Nat) (st : List PV) : Option (Option PV) := match asc (mT M) pc with
  | some (.ireturn, 1) => match st with
    | [.inl x] => if mRet M = some .int then some (some (vI x)) else if mRet M = some .boolean then (if x = 0 then some (some (vI 0)) else if x = 1 then some (some (vI 1)) else none) else none
    | _ => none
  | some (.lreturn, 1) => match st with
    | [.inr (.inl x)] => if mRet M = some .long then some (some (vL x)) else none
    | _ => none
  | some (.dreturn, 1) => match st with
    | [.inr (.inr (.inl x))] => if mRet M = some .double then some (some (vD x)) else none
    | _ => none
  | some (.areturn, 1) => match st with
    | [.inr (.inr (.inr x))] => if mRet M = some (.object "HotPanLocks$State") then some (some (.inr (.inr (.inr x)))) else none
    | _ => none
  | some (.return_, 1) => match st with
    | [] => if mRet M = none then some none else none
    | _ => none
  | _ => none
def sm_stop (i : Instr) : Bool := match i with
  | .ireturn => true | .lreturn => true | .dreturn => true | .areturn => true | .return_ => true | .new _ => true
  | _ => false
def sm_go : Nat → MI → Nat → List (Option PV) → List PV → PM → Option PS
  | 0, _, _, _, _, _ => none
  | n + 1, M, pc, L, st, m => match asc (mT M) pc with
    | none => none
    | some (i, len) => match sm_ins (mO M) i len pc L st m with
      | some (pc2, L2, st2, m2) => sm_go n M pc2 L2 st2 m2
      | none => match sm_cal M i st with
        | some (M2, as, rest) => if len = 3 ∧ sm_fit M M2 as rest = true then
            match sm_go n M2 0 (lpad (lent as) (mN M2 - (lent as).length)) [] m with
            | some (pcE, _, stE, m2) => match sm_ret M2 pcE stE with
              | some v => sm_go n M (pc + 3) L (v.toList ++ rest) m2
              | none => none
            | none => none
          else none
        | none => if sm_stop i = true then some (pc, L, st, m) else none
/-- from (pc, L, st, m) the method comes to a stop at e -/
def Go (M : MI) (pc : Nat) (L : List (Option PV)) (st : List PV) (m : PM) (e : PS) : Prop := ∃ n, sm_go n M pc L st m = some e
/-- called with as over m the method answers v, and leaves m2 -/
def Rn (M : MI) (as : List PV) (m : PM) (v : Option PV) (m2 : PM) : Prop := ∃ pcE LE stE, Go M 0 (lpad (lent as) (mN M - (lent as).length)) [] m (pcE, LE, stE, m2) ∧ sm_ret M pcE stE = some v
theorem go_mono {n : Nat} : ∀ {M pc L st m e}, sm_go n M pc L st m = some e → ∀ k, sm_go (n + k) M pc L st m = some e := by
  induction n with
  | zero => intro M pc L st m e h; cases h
  | succ n ih =>
    intro M pc L st m e h k
    rw [show n + 1 + k = (n + k) + 1 by omega]
    unfold sm_go at h ⊢
    cases h1 : asc (mT M) pc with
    | none => rw [h1] at h; cases h
    | some q =>
      obtain ⟨i, len⟩ := q
      rw [h1] at h
      dsimp only at h ⊢
      cases h2 : sm_ins (mO M) i len pc L st m with
      | some r =>
        obtain ⟨a, b, c, d⟩ := r
        rw [h2] at h
        exact ih h k
      | none =>
        rw [h2] at h
        dsimp only at h ⊢
        cases h3 : sm_cal M i st with
        | none => rw [h3] at h; exact h
        | some r =>
          obtain ⟨M2, as, rest⟩ := r
          rw [h3] at h
          dsimp only at h ⊢
          by_cases h4 : len = 3 ∧ sm_fit M M2 as rest = true
          · rw [if_pos h4] at h ⊢
            cases h5 : sm_go n M2 0 (lpad (lent as) (mN M2 - (lent as).length)) [] m with
            | none => rw [h5] at h; cases h
            | some r =>
              obtain ⟨a, b, c, d⟩ := r
              rw [h5] at h
              rw [ih h5 k]
              dsimp only at h ⊢
              cases h6 : sm_ret M2 a c with
              | none => rw [h6] at h; cases h
              | some v => rw [h6] at h; exact ih h k
          · rw [if_neg h4] at h; cases h
theorem go_stop {M : MI} {pc : Nat} {L : List (Option PV)} {st : List PV} {m : PM} {i : Instr} {n : Nat} (h : asc (mT M) pc = some (i, n)) (h1 : sm_ins (mO M) i n pc L st m = none) (h2 : sm_cal M i st = none) (h3 : sm_stop i = true) : Go M pc L st m (pc, L, st, m) := ⟨1, by
  unfold sm_go
  rw [h]; dsimp only
  rw [h1]; dsimp only
  rw [h2]; dsimp only
  rw [if_pos h3]⟩
theorem go_one {M : MI} {pc : Nat} {L : List (Option PV)} {st : List PV} {m : PM} {s2 : PS} {e : PS} (h : sm_one M pc L st m = some s2) (k : Go M s2.1 s2.2.1 s2.2.2.1 s2.2.2.2 e) : Go M pc L st m e := by
  obtain ⟨n, hn⟩ := k
  refine ⟨n + 1, ?_⟩
  unfold sm_one at h
  unfold sm_go
  cases h1 : asc (mT M) pc with
  | none => rw [h1] at h; cases h
  | some q =>
    rw [h1] at h
    dsimp only at h ⊢
    rw [h]
    exact hn
def sm_many : Nat → MI → PS → Option PS
  | 0, _, s => some s
  | n + 1, M, (pc, L, st, m) => match sm_one M pc L st m with
    | some s2 => sm_many n M s2
    | none => none
theorem go_many {n : Nat} : ∀ {M : MI} {s s2 : PS} {e : PS}, sm_many n M s = some s2 → Go M s2.1 s2.2.1 s2.2.2.1 s2.2.2.2 e → Go M s.1 s.2.1 s.2.2.1 s.2.2.2 e := by
  induction n with
  | zero => intro M s s2 e h k; cases h; exact k
  | succ n ih =>
    intro M s s2 e h k
    obtain ⟨pc, L, st, m⟩ := s
    unfold sm_many at h
    cases h1 : sm_one M pc L st m with
    | none => rw [h1] at h; cases h
    | some s3 =>
      rw [h1] at h
      exact go_one h1 (ih h k)
/-- n instructions, none of them a call -/
theorem go_b (n : Nat) {M : MI} {pc pc2 : Nat} {L L2 : List (Option PV)} {st st2 : List PV} {m m2 : PM} {e : PS} (h : sm_many n M (pc, L, st, m) = some (pc2, L2, st2, m2)) (k : Go M pc2 L2 st2 m2 e) : Go M pc L st m e := go_many (s := (pc, L, st, m)) (s2 := (pc2, L2, st2, m2)) h k
theorem go_if {M : MI} {t f : Nat} {c : Prop} [Decidable c] {L : List (Option PV)} {st : List PV} {m : PM} {e : PS} (ht : c → Go M t L st m e) (hf : ¬ c → Go M f L st m e) : Go M (if c then t else f) L st m e := by
  by_cases h : c
  · rw [if_pos h]; exact ht h
  · rw [if_neg h]; exact hf h
theorem go_call {M M2 : MI} {pc : Nat} {L : List (Option PV)} {st as rest : List PV} {m m2 : PM} {e : PS} {v : Option PV} {i : Instr} (h : asc (mT M) pc = some (i, 3)) (h1 : sm_ins (mO M) i 3 pc L st m = none) (h2 : sm_cal M i st = some (M2, as, rest)) (h3 : sm_fit M M2 as rest = true) (hr : Rn M2 as m v m2) (k : Go M (pc + 3) L (v.toList ++ rest) m2 e) : Go M pc L st m e := by
  obtain ⟨pcE, LE, stE, ⟨n1, hn1⟩, hv⟩ := hr
  obtain ⟨n2, hn2⟩ := k
  refine ⟨n1 + n2 + 1, ?_⟩
  unfold sm_go
  rw [h]; dsimp only
  rw [h1]; dsimp only
  rw [h2]; dsimp only
  rw [if_pos ⟨rfl, h3⟩, go_mono hn1 n2]
  dsimp only
  rw [hv]; dsimp only
  rw [Nat.add_comm n1 n2]
  exact go_mono hn2 n1
end
section
/-- how a method ends: with an answer, or at a 'new' of a throw, by its place in the pool -/
abbrev OC : Type := Option PV ⊕ Nat
def sm_out (M : MI) (pc : Nat) (st : List PV) : Option OC := match sm_ret M pc st with
  | some v => some (.inl v)
  | none => match asc (mT M) pc with
    | some (.new x, 3) => some (.inr x)
    | _ => none
theorem sm_out_inl {M : MI} {pc : Nat} {st : List PV} {v : Option PV} (h : sm_out M pc st = some (.inl v)) : sm_ret M pc st = some v := by
  unfold sm_out at h
  cases h1 : sm_ret M pc st with
  | some w => rw [h1] at h; cases h; rfl
  | none =>
    rw [h1] at h
    dsimp only at h
    split at h <;> cases h
/-- from (pc, L, st, m) the method ends so, and leaves m2 -/
def An (M : MI) (pc : Nat) (L : List (Option PV)) (st : List PV) (m : PM) (v : OC) (m2 : PM) : Prop := ∃ pcE LE stE, Go M pc L st m (pcE, LE, stE, m2) ∧ sm_out M pcE stE = some v
theorem rn_of {M : MI} {as : List PV} {m m2 : PM} {v : Option PV} (L : List (Option PV)) (h : lpad (lent as) (mN M - (lent as).length) = L) (k : An M 0 L [] m (.inl v) m2) : Rn M as m v m2 := by
  subst h
  obtain ⟨a, b, c, h1, h2⟩ := k
  exact ⟨a, b, c, h1, sm_out_inl h2⟩
theorem an_b (n : Nat) {M : MI} {pc pc2 : Nat} {L L2 : List (Option PV)} {st st2 : List PV} {m m1 m2 : PM} {v : OC} (h : sm_many n M (pc, L, st, m) = some (pc2, L2, st2, m1)) (k : An M pc2 L2 st2 m1 v m2) : An M pc L st m v m2 := by
  obtain ⟨a, b, c, h1, h2⟩ := k
  exact ⟨a, b, c, go_b n h h1, h2⟩
theorem an_if {M : MI} {t f : Nat} {c : Prop} [Decidable c] {L : List (Option PV)} {st : List PV} {m m2 : PM} {v : OC} (ht : c → An M t L st m v m2) (hf : ¬ c → An M f L st m v m2) : An M (if c then t else f) L st m v m2 := by
  by_cases h : c
  · rw [if_pos h]; exact ht h
  · rw [if_neg h]; exact hf h
theorem an_ret {M : MI} {pc : Nat} {L : List (Option PV)} {st : List PV} {m : PM} {v : OC} {i : Instr} (h : asc (mT M) pc = some (i, 1)) (h1 : sm_ins (mO M) i 1 pc L st m = none) (h2 : sm_cal M i st = none) (h3 : sm_stop i = true) (h4 : sm_out M pc st = some v) : An M pc L st m v m := ⟨pc, L, st, go_stop h h1 h2 h3, h4⟩
theorem an_thr {M : MI} {pc : Nat} {L : List (Option PV)} {st : List PV} {m : PM} {v : OC} {i : Instr} (h : asc (mT M) pc = some (i, 3)) (h1 : sm_ins (mO M) i 3 pc L st m = none) (h2 : sm_cal M i st = none) (h3 : sm_stop i = true) (h4 : sm_out M pc st = some v) : An M pc L st m v m := ⟨pc, L, st, go_stop h h1 h2 h3, h4⟩
theorem an_call {M M2 : MI} {pc : Nat} {L : List (Option PV)} {st as rest : List PV} {m m1 m2 : PM} {v : OC} {w : Option PV} {i : Instr} (hr : Rn M2 as m w m1) (h : asc (mT M) pc = some (i, 3)) (h1 : sm_ins (mO M) i 3 pc L st m = none) (h2 : sm_cal M i st = some (M2, as, rest)) (h3 : sm_fit M M2 as rest = true) (k : An M (pc + 3) L (w.toList ++ rest) m1 v m2) : An M pc L st m v m2 := by
  obtain ⟨a, b, c, h4, h5⟩ := k
  exact ⟨a, b, c, go_call h h1 h2 h3 hr h4, h5⟩
end
section
/-! THE WORLD: where the named cells lie in the heap, and what stands in them -/
def okW (r : PR) : Bool := match r.1 with
  | 0 => decide (r.2.1 = 0) && decide (r.2.2 < 8)
  | 1 => (decide (r.2.1 < 11) && decide (r.2.2 < 8)) || (decide (r.2.1 = 11) && decide (r.2.2 = 0))
  | 2 => (decide (r.2.1 < 11) && decide (r.2.2 < 8)) || (decide (r.2.1 = 11) && decide (r.2.2 = 0))
  | 3 => decide (r.2.1 = 0) && decide (r.2.2 = 0)
  | 4 => decide (r.2.1 = 0) && decide (r.2.2 = 0)
  | 5 => decide (r.2.1 = 0) && decide (r.2.2 = 0)
  | 6 => decide (r.2.1 = 0) && decide (r.2.2 = 0)
  | 7 => decide (r.2.1 = 0) && decide (r.2.2 = 0)
  | 8 => decide (r.2.1 < 5) && decide (r.2.2 = 0)
  | 9 => decide (r.2.1 = 0) && decide (r.2.2 = 0)
  | _ => false
def okR (r : PR) : Bool := okW r || decide (r = (10, 0, 0))
def vok (v : PV) : Bool := match v with
  | .inr (.inr (.inr (some r))) => okR r
  | _ => true
def ids : List PR := ((List.range 8).flatMap fun g => (0, 0, g) :: (List.range 11).flatMap fun k => [(1, k, g), (2, k, g)]) ++ [(1, 11, 0), (2, 11, 0), (3, 0, 0), (4, 0, 0), (5, 0, 0), (6, 0, 0), (7, 0, 0), (8, 0, 0), (8, 1, 0), (8, 2, 0), (8, 3, 0), (8, 4, 0), (9, 0, 0)]
set_option maxRecDepth 100000 in
theorem ids_all0 : ((List.range 10).all fun t => (List.range 12).all fun k => (List.range 8).all fun g => !okW (t, k, g) || ids.any fun r => Nat.beq r.1 t && Nat.beq r.2.1 k && Nat.beq r.2.2 g) = true := by decide +kernel
theorem ids_all (t : Nat) (ht : t < 10) (k : Nat) (hk : k < 12) (g : Nat) (hg : g < 8) (h : okW (t, k, g) = true) : (t, k, g) ∈ ids := by
  have h1 := List.all_eq_true.mp (List.all_eq_true.mp (List.all_eq_true.mp ids_all0 t (List.mem_range.mpr ht)) k (List.mem_range.mpr hk)) g (List.mem_range.mpr hg)
  rw [h, Bool.not_true, Bool.false_or] at h1
  obtain ⟨r, hr, h2⟩ := List.any_eq_true.mp h1
  simp only [Bool.and_eq_true] at h2
  obtain ⟨⟨h3, h4⟩, h5⟩ := h2
  obtain ⟨a, b, c⟩ := r
  obtain rfl := Nat.eq_of_beq_eq_true h3
  obtain rfl := Nat.eq_of_beq_eq_true h4
  obtain rfl := Nat.eq_of_beq_eq_true h5
  exact hr
set_option maxRecDepth 100000 in
theorem ids_ok : ∀ r ∈ ids, okW r = true := by decide +kernel
def rcode (r : PR) : Nat := r.1 + 16 * (r.2.1 + 16 * r.2.2)
set_option maxRecDepth 100000 in
theorem ids_nd : va_nd (ids.map rcode) = true := by decide +kernel
theorem ids_inj {i j : Nat} {r : PR} (hi : ids[i]? = some r) (hj : ids[j]? = some r) : i = j :=
  va_nd_inj (ids.map rcode) ids_nd i j (rcode r) (by rw [List.getElem?_map, hi]; rfl) (by rw [List.getElem?_map, hj]; rfl)
theorem okW_lt {t k g : Nat} (h : okW (t, k, g) = true) : t < 10 ∧ k < 12 ∧ g < 8 := by
  have ht : t < 10 := by
    rcases Nat.lt_or_ge t 10 with q | q
    · exact q
    · exfalso
      obtain ⟨u, rfl⟩ : ∃ u, t = u + 10 := ⟨t - 10, by omega⟩
      simp [okW] at h
  refine ⟨ht, ?_⟩
  rcases (show t = 0 ∨ t = 1 ∨ t = 2 ∨ t = 3 ∨ t = 4 ∨ t = 5 ∨ t = 6 ∨ t = 7 ∨ t = 8 ∨ t = 9 by omega) with rfl | rfl | rfl | rfl | rfl | rfl | rfl | rfl | rfl | rfl <;> simp [okW] at h <;> omega
theorem ids_in {r : PR} (h : okW r = true) : r ∈ ids := by
  obtain ⟨t, k, g⟩ := r
  obtain ⟨h1, h2, h3⟩ := okW_lt h
  exact ids_all t h1 k h2 g h3 h
/-- a value of the small machine, in the heap's addresses -/
def toV (ad : PR → Nat) (v : PV) : Value := match v with
  | .inl x => .int x
  | .inr (.inl x) => .long x
  | .inr (.inr (.inl x)) => .double x
  | .inr (.inr (.inr none)) => .null
  | .inr (.inr (.inr (some r))) => .ref (ad r)
theorem toV_cat (ad : PR → Nat) (v : PV) : (toV ad v).category = cat v := by
  rcases v with x | x | x | _ | r <;> rfl
/-- the classes of int[], long[], State[] -/
abbrev AC : Type := ClassId × ClassId × ClassId
def tys (A : AC) : List (ClassId × FieldType) := [(A.1, .int), (A.2.1, .long), (A.2.2, .object "HotPanLocks$State")]
/-- what stands in a cell -/
def ce (A : AC) (ad : PR → Nat) (m : PM) (r : PR) : va_E := match r.1 with
  | 0 => .inr (2, [.ref (ad (1, 0, r.2.2)), .ref (ad (1, 1, r.2.2)), .ref (ad (1, 2, r.2.2)), .ref (ad (1, 3, r.2.2)), .ref (ad (1, 4, r.2.2)), .ref (ad (1, 5, r.2.2)), .ref (ad (1, 6, r.2.2)), .ref (ad (1, 7, r.2.2)), .ref (ad (1, 8, r.2.2)), .ref (ad (1, 9, r.2.2)), .ref (ad (1, 10, r.2.2)), .int (m.1 0 0 r.2.2 11)])
  | 1 => .inr (1, [.ref (ad (2, r.2.1, r.2.2))])
  | 2 => .inl (A.1, nlen r.2.1, .inl (fun i => m.1 2 r.2.1 r.2.2 i))
  | 3 => .inr (4, [.ref (ad (0, 0, 0)), .ref (ad (0, 0, 1)), .ref (ad (4, 0, 0)), .ref (ad (6, 0, 0))])
  | 4 => .inr (0, [.ref (ad (5, 0, 0)), .int (m.1 4 0 0 1), .int (m.1 4 0 0 2)])
  | 5 => .inl (A.2.2, 6, .inr (.inr (.inr (.inr (fun i => some (ad (0, 0, 2 + i)))))))
  | 6 => .inr (3, [.ref (ad (1, 11, 0)), .int (m.1 6 0 0 1)])
  | 7 => .inr (5, [.ref (ad (8, 0, 0)), .int (m.1 7 0 0 1), .ref (ad (8, 1, 0)), .int (m.1 7 0 0 3), .ref (ad (8, 2, 0)), .int (m.1 7 0 0 5), .ref (ad (8, 3, 0)), .int (m.1 7 0 0 7), .int (m.1 7 0 0 8), .int (m.1 7 0 0 9), .ref (ad (8, 4, 0)), .long (m.2 7 0 0 11)])
  | 8 => .inl (A.1, zlen r.2.1, .inl (fun i => m.1 8 r.2.1 0 i))
  | _ => .inl (A.2.1, 1, .inr (.inl (fun i => m.2 9 0 0 i)))
def wd (A : AC) (ad : PR → Nat) (m : PM) : va_W := ids.map fun r => (ad r, ce A ad m r)
theorem wd_at {A : AC} {ad : PR → Nat} {m : PM} {r : PR} (h : okW r = true) : ∃ q0 : Nat, ids[q0]? = some r ∧ (wd A ad m)[q0]? = some (ad r, ce A ad m r) := by
  obtain ⟨q0, h0⟩ := List.getElem?_of_mem (ids_in h)
  exact ⟨q0, h0, by rw [wd, List.getElem?_map, h0]; rfl⟩
theorem wd_set {A : AC} {ad : PR → Nat} {m m2 : PM} {r : PR} {q0 : Nat} {e : va_E} (h0 : ids[q0]? = some r) (he : ce A ad m2 r = e) (ho : ∀ r2 : PR, okW r2 = true → r2 ≠ r → ce A ad m2 r2 = ce A ad m r2) : (wd A ad m).set q0 (ad r, e) = wd A ad m2 := by
  apply List.ext_getElem?
  intro i
  have hl : q0 < ids.length := (List.getElem?_eq_some_iff.mp h0).1
  by_cases hi : i = q0
  · subst hi
    rw [List.getElem?_set_self (by rw [wd, List.length_map]; exact hl), wd, List.getElem?_map, h0, Option.map_some, he]
  · rw [List.getElem?_set_ne (Ne.symm hi), wd, wd, List.getElem?_map, List.getElem?_map]
    cases h1 : ids[i]? with
    | none => rfl
    | some r2 =>
      have hne : r2 ≠ r := fun q => hi (ids_inj (r := r) (by rw [h1, q]) h0)
      rw [Option.map_some, Option.map_some, ho r2 (ids_ok r2 (List.mem_of_getElem? h1)) hne]
theorem ce_same {A : AC} {ad : PR → Nat} {m m2 : PM} {r : PR} (h : okW r = true) (h1 : ∀ i, m2.1 r.1 r.2.1 r.2.2 i = m.1 r.1 r.2.1 r.2.2 i) (h2 : ∀ i, m2.2 r.1 r.2.1 r.2.2 i = m.2 r.1 r.2.1 r.2.2 i) : ce A ad m2 r = ce A ad m r := by
  obtain ⟨t, k, g⟩ := r
  have ht := (okW_lt h).1
  dsimp only at h1 h2
  rcases (show t = 0 ∨ t = 1 ∨ t = 2 ∨ t = 3 ∨ t = 4 ∨ t = 5 ∨ t = 6 ∨ t = 7 ∨ t = 8 ∨ t = 9 by omega) with rfl | rfl | rfl | rfl | rfl | rfl | rfl | rfl | rfl | rfl <;> simp [okW] at h
  · obtain ⟨rfl, -⟩ := h; simp [ce, h1]
  · rfl
  · simp [ce, h1]
  · rfl
  · obtain ⟨rfl, rfl⟩ := h; simp [ce, h1]
  · rfl
  · obtain ⟨rfl, rfl⟩ := h; simp [ce, h1]
  · obtain ⟨rfl, rfl⟩ := h; simp [ce, h1, h2]
  · obtain ⟨-, rfl⟩ := h; simp [ce, h1]
  · obtain ⟨rfl, rfl⟩ := h; simp [ce, h2]
theorem wI_ne {m : PM} {t k g s : Nat} {v : Int32} {r : PR} (h : r ≠ (t, k, g)) (i : Nat) : (wI m t k g s v).1 r.1 r.2.1 r.2.2 i = m.1 r.1 r.2.1 r.2.2 i := by
  obtain ⟨a, b, c⟩ := r
  unfold wI
  dsimp only
  rw [if_neg]
  rintro ⟨rfl, rfl, rfl, -⟩
  exact h rfl
theorem wL_ne {m : PM} {t k g s : Nat} {v : Int64} {r : PR} (h : r ≠ (t, k, g)) (i : Nat) : (wL m t k g s v).2 r.1 r.2.1 r.2.2 i = m.2 r.1 r.2.1 r.2.2 i := by
  obtain ⟨a, b, c⟩ := r
  unfold wL
  dsimp only
  rw [if_neg]
  rintro ⟨rfl, rfl, rfl, -⟩
  exact h rfl
theorem wC_ne {m : PM} {k g n k2 g2 : Nat} {r : PR} (h : r ≠ (2, k2, g2)) (i : Nat) : (wC m k g n k2 g2).1 r.1 r.2.1 r.2.2 i = m.1 r.1 r.2.1 r.2.2 i := by
  obtain ⟨a, b, c⟩ := r
  unfold wC
  dsimp only
  rw [if_neg]
  rintro ⟨rfl, rfl, rfl, -⟩
  exact h rfl
/-- a field that is read -/
theorem fv_ok {A : AC} {ad : PR → Nat} {m : PM} {t k g s ci : Nat} {v : PV} (h : okW (t, k, g) = true) (ht : tcl t = some ci) (hv : fv m t k g s = some v) : ∃ fs, ce A ad m (t, k, g) = .inr (ci, fs) ∧ fs[s]? = some (toV ad v) ∧ vok v = true := by
  have h10 := (okW_lt h).1
  rcases (show t = 0 ∨ t = 1 ∨ t = 2 ∨ t = 3 ∨ t = 4 ∨ t = 5 ∨ t = 6 ∨ t = 7 ∨ t = 8 ∨ t = 9 by omega) with rfl | rfl | rfl | rfl | rfl | rfl | rfl | rfl | rfl | rfl <;> simp [tcl] at ht <;> subst ht
  · simp [okW] at h
    obtain ⟨rfl, hg⟩ := h
    refine ⟨_, rfl, ?_⟩
    have hv : (if s = 11 then some (vI (m.1 0 0 g 11)) else if s < 11 then some (vR 1 s g) else none) = some v := hv
    by_cases h11 : s = 11
    · rw [if_pos h11] at hv; cases hv; subst h11; exact ⟨rfl, rfl⟩
    · rw [if_neg h11] at hv
      by_cases hs : s < 11
      · rw [if_pos hs] at hv
        cases hv
        rcases (show s = 0 ∨ s = 1 ∨ s = 2 ∨ s = 3 ∨ s = 4 ∨ s = 5 ∨ s = 6 ∨ s = 7 ∨ s = 8 ∨ s = 9 ∨ s = 10 by omega) with rfl | rfl | rfl | rfl | rfl | rfl | rfl | rfl | rfl | rfl | rfl <;> exact ⟨rfl, by simp [vok, okR, okW, hg]⟩
      · rw [if_neg hs] at hv; cases hv
  · simp [okW] at h
    refine ⟨_, rfl, ?_⟩
    rcases s with _ | s
    · cases hv; exact ⟨rfl, by simp [vok, okR, okW]; exact h⟩
    · cases hv
  · simp [okW] at h
    obtain ⟨rfl, rfl⟩ := h
    refine ⟨_, rfl, ?_⟩
    rcases s with _ | _ | _ | _ | s <;> cases hv <;> exact ⟨rfl, rfl⟩
  · simp [okW] at h
    obtain ⟨rfl, rfl⟩ := h
    refine ⟨_, rfl, ?_⟩
    rcases s with _ | _ | _ | s <;> cases hv <;> exact ⟨rfl, rfl⟩
  · simp [okW] at h
    obtain ⟨rfl, rfl⟩ := h
    refine ⟨_, rfl, ?_⟩
    rcases s with _ | _ | s <;> cases hv <;> exact ⟨rfl, rfl⟩
  · simp [okW] at h
    obtain ⟨rfl, rfl⟩ := h
    refine ⟨_, rfl, ?_⟩
    rcases s with _ | _ | _ | _ | _ | _ | _ | _ | _ | _ | _ | _ | s <;> cases hv <;> exact ⟨rfl, rfl⟩
/-- the int fields that are written: class, place -/
def ipl : List (Nat × Nat) := [(2, 11), (0, 1), (0, 2), (3, 1), (5, 1), (5, 3), (5, 5), (5, 7), (5, 8), (5, 9)]
theorem ip_ok {A : AC} {ad : PR → Nat} {m : PM} {t k g s ci : Nat} (v : Int32) (h : okW (t, k, g) = true) (ht : tcl t = some ci) (hs : ipf t s = true) : (ci, s) ∈ ipl ∧ ∃ fs, ce A ad m (t, k, g) = .inr (ci, fs) ∧ s < fs.length ∧ ce A ad (wI m t k g s v) (t, k, g) = .inr (ci, fs.set s (.int v)) := by
  have h10 := (okW_lt h).1
  rcases (show t = 0 ∨ t = 1 ∨ t = 2 ∨ t = 3 ∨ t = 4 ∨ t = 5 ∨ t = 6 ∨ t = 7 ∨ t = 8 ∨ t = 9 by omega) with rfl | rfl | rfl | rfl | rfl | rfl | rfl | rfl | rfl | rfl <;> simp [tcl] at ht <;> subst ht <;> simp [ipf] at hs <;> simp [okW] at h
  · obtain ⟨rfl, hg⟩ := h
    subst hs
    exact ⟨by decide, _, rfl, Nat.le_of_ble_eq_true rfl, by simp [ce, wI]⟩
  · obtain ⟨rfl, rfl⟩ := h
    rcases hs with rfl | rfl <;> exact ⟨by decide, _, rfl, Nat.le_of_ble_eq_true rfl, by simp [ce, wI]⟩
  · obtain ⟨rfl, rfl⟩ := h
    subst hs
    exact ⟨by decide, _, rfl, Nat.le_of_ble_eq_true rfl, by simp [ce, wI]⟩
  · obtain ⟨rfl, rfl⟩ := h
    rcases hs with ((((rfl | rfl) | rfl) | rfl) | rfl) | rfl <;> exact ⟨by decide, _, rfl, Nat.le_of_ble_eq_true rfl, by simp [ce, wI]⟩
theorem lp_ok {A : AC} {ad : PR → Nat} {m : PM} {t k g s ci : Nat} (v : Int64) (h : okW (t, k, g) = true) (ht : tcl t = some ci) (hs : lpf t s = true) : (ci, s) = (5, 11) ∧ ∃ fs, ce A ad m (t, k, g) = .inr (ci, fs) ∧ s < fs.length ∧ ce A ad (wL m t k g s v) (t, k, g) = .inr (ci, fs.set s (.long v)) := by
  have h10 := (okW_lt h).1
  rcases (show t = 0 ∨ t = 1 ∨ t = 2 ∨ t = 3 ∨ t = 4 ∨ t = 5 ∨ t = 6 ∨ t = 7 ∨ t = 8 ∨ t = 9 by omega) with rfl | rfl | rfl | rfl | rfl | rfl | rfl | rfl | rfl | rfl <;> simp [tcl] at ht <;> subst ht <;> simp [lpf] at hs <;> simp [okW] at h
  obtain ⟨rfl, rfl⟩ := h
  subst hs
  exact ⟨rfl, _, rfl, Nat.le_of_ble_eq_true rfl, by simp [ce, wL]⟩
/-- int arrays -/
theorem ia_ok {A : AC} {ad : PR → Nat} {m : PM} {t k g N : Nat} (h : okW (t, k, g) = true) (hn : ilen m t k = some N) : ce A ad m (t, k, g) = .inl (A.1, N, .inl (fun i => m.1 t k g i)) ∧ ∀ (j : Nat) (v : Int32), ce A ad (wI m t k g j v) (t, k, g) = .inl (A.1, N, .inl (upd (fun i => m.1 t k g i) j v)) := by
  have h10 := (okW_lt h).1
  rcases (show t = 0 ∨ t = 1 ∨ t = 2 ∨ t = 3 ∨ t = 4 ∨ t = 5 ∨ t = 6 ∨ t = 7 ∨ t = 8 ∨ t = 9 by omega) with rfl | rfl | rfl | rfl | rfl | rfl | rfl | rfl | rfl | rfl <;> simp [ilen] at hn <;> subst hn
  · refine ⟨rfl, fun j v => ?_⟩
    simp only [ce, wI]
    congr 4
    funext i
    simp [upd]
  · simp [okW] at h
    obtain ⟨-, rfl⟩ := h
    refine ⟨rfl, fun j v => ?_⟩
    simp only [ce, wI]
    congr 4
    funext i
    simp [upd]
theorem al_ok {A : AC} {ad : PR → Nat} {m : PM} {t k g : Nat} {v : Int32} (h : okW (t, k, g) = true) (hn : alen m t k = some v) : ∃ (t0 : Nat) (c : ClassId) (ty : FieldType) (x : vp_A), (tys A)[t0]? = some (c, ty) ∧ ce A ad m (t, k, g) = .inl (c, x) ∧ Int32.ofNat x.1 = v := by
  have h10 := (okW_lt h).1
  rcases (show t = 0 ∨ t = 1 ∨ t = 2 ∨ t = 3 ∨ t = 4 ∨ t = 5 ∨ t = 6 ∨ t = 7 ∨ t = 8 ∨ t = 9 by omega) with rfl | rfl | rfl | rfl | rfl | rfl | rfl | rfl | rfl | rfl <;> simp [alen] at hn <;> subst hn
  · exact ⟨0, A.1, .int, _, rfl, rfl, rfl⟩
  · exact ⟨2, A.2.2, _, _, rfl, rfl, rfl⟩
  · exact ⟨0, A.1, .int, _, rfl, rfl, rfl⟩
  · exact ⟨1, A.2.1, _, _, rfl, rfl, rfl⟩
end
section
/-! THE SMALL MACHINE IS SOUND: locals and stacks, then one instruction after the other -/
def lvl (ad : PR → Nat) : Nat → List (Option PV) → List (Nat × Value)
  | _, [] => []
  | i, none :: r => lvl ad (i + 1) r
  | i, some v :: r => (i, toV ad v) :: lvl ad (i + 1) r
theorem lvl_mem {ad : PR → Nat} {L : List (Option PV)} : ∀ {i j : Nat} {w : Value}, (j, w) ∈ lvl ad i L ↔ ∃ (k : Nat) (v : PV), j = i + k ∧ L[k]? = some (some v) ∧ w = toV ad v := by
  induction L with
  | nil => intro i j w; simp [lvl]
  | cons a r ih =>
    intro i j w
    have step : (∃ (k : Nat) (v : PV), j = i + k ∧ (a :: r)[k]? = some (some v) ∧ w = toV ad v) ↔ ((∃ v, a = some v ∧ j = i ∧ w = toV ad v) ∨ ∃ (k : Nat) (v : PV), j = i + 1 + k ∧ r[k]? = some (some v) ∧ w = toV ad v) := by
      constructor
      · rintro ⟨k, v, h1, h2, h3⟩
        cases k with
        | zero => exact Or.inl ⟨v, by simpa using h2, by omega, h3⟩
        | succ k => exact Or.inr ⟨k, v, by omega, by simpa using h2, h3⟩
      · rintro (⟨v, h1, h2, h3⟩ | ⟨k, v, h1, h2, h3⟩)
        · exact ⟨0, v, by omega, by simp [h1], h3⟩
        · exact ⟨k + 1, v, by omega, by simpa using h2, h3⟩
    rw [step]
    cases a with
    | none => simp only [lvl, ih]; simp
    | some v =>
      simp only [lvl, List.mem_cons, ih, Prod.mk.injEq]
      constructor
      · rintro (⟨h1, h2⟩ | h)
        · exact Or.inl ⟨v, rfl, h1, h2⟩
        · exact Or.inr h
      · rintro (⟨v2, h0, h1, h2⟩ | h)
        · cases h0; exact Or.inl ⟨h1, h2⟩
        · exact Or.inr h
def LR (ad : PR → Nat) (n : Nat) (L : List (Option PV)) (ls : Array Slot) : Prop := L.length = n ∧ lv_has ls n (lvl ad 0 L) ∧ ∀ (k : Nat) (v : PV), L[k]? = some (some v) → vok v = true
theorem lr_get {ad : PR → Nat} {n : Nat} {L : List (Option PV)} {ls : Array Slot} (h : LR ad n L ls) {k : Nat} {v : PV} (hk : L[k]? = some (some v)) : ls[k]? = some (.val (toV ad v)) := h.2.1.2.2 (k, toV ad v) (lvl_mem.mpr ⟨k, v, by omega, hk, rfl⟩)
theorem lv_sub2 {ls : Array Slot} {n : Nat} {l l2 : List (Nat × Value)} (h : lv_has ls n l) (hs : ∀ q ∈ l2, q ∈ l) : lv_has ls n l2 := ⟨h.1, h.2.1, fun q hq => h.2.2 q (hs q hq)⟩
theorem clr_len (L : List (Option PV)) (i : Nat) : (clr L i).length = L.length := by
  unfold clr
  split
  · rfl
  · split
    · split
      · exact List.length_set
      · rfl
    · rfl
theorem clr_get {L : List (Option PV)} {i k : Nat} {u : PV} (h : (clr L i)[k]? = some (some u)) : L[k]? = some (some u) ∧ (i = k + 1 → ¬ cat u = 2) := by
  unfold clr at h
  split at h
  · exact ⟨h, fun q => by omega⟩
  · next j =>
    split at h
    · next w hw =>
      split at h
      · by_cases hk : k = j
        · subst hk
          rw [List.getElem?_set_self (List.getElem?_eq_some_iff.mp hw).1] at h
          cases h
        · rw [List.getElem?_set_ne (Ne.symm hk)] at h
          exact ⟨h, fun q => by omega⟩
      · next hc =>
        refine ⟨h, fun q => ?_⟩
        obtain rfl : j = k := by omega
        rw [hw] at h
        cases h
        exact hc
    · next hn =>
      refine ⟨h, fun q => ?_⟩
      obtain rfl : j = k := by omega
      exact absurd h (hn u)
theorem lset_len {L L2 : List (Option PV)} {i : Nat} {v : PV} (h : lset L i v = some L2) : i < L.length ∧ L2 = (clr L i).set i (some v) := by
  unfold lset at h
  by_cases hi : i < L.length
  · rw [if_pos hi] at h; cases h; exact ⟨hi, rfl⟩
  · rw [if_neg hi] at h; cases h
theorem lset2_len {L L2 : List (Option PV)} {i : Nat} {v : PV} (h : lset2 L i v = some L2) : i + 1 < L.length ∧ L2 = ((clr L i).set i (some v)).set (i + 1) none := by
  unfold lset2 at h
  by_cases hi : i + 1 < L.length
  · rw [if_pos hi] at h; cases h; exact ⟨hi, rfl⟩
  · rw [if_neg hi] at h; cases h
theorem lset_in {ad : PR → Nat} {L L2 : List (Option PV)} {i : Nat} {v : PV} (h : lset L i v = some L2) : ∀ q ∈ lvl ad 0 L2, q ∈ (i, toV ad v) :: (lvl ad 0 L).filter (fun q => !(q.1 == i) && !(q.1 + 1 == i && q.2.category == 2)) := by
  obtain ⟨hi, rfl⟩ := lset_len h
  rintro ⟨j, w⟩ hq
  obtain ⟨k, u, e1, e2, e3⟩ := lvl_mem.mp hq
  obtain rfl : j = k := by omega
  by_cases hj : j = i
  · subst hj
    rw [List.getElem?_set_self (by rw [clr_len]; exact hi)] at e2
    cases e2
    rw [e3]
    exact List.mem_cons_self
  · rw [List.getElem?_set_ne (Ne.symm hj)] at e2
    obtain ⟨e4, e5⟩ := clr_get e2
    refine List.mem_cons_of_mem _ (List.mem_filter.mpr ⟨lvl_mem.mpr ⟨j, u, by omega, e4, e3⟩, ?_⟩)
    simp only [Bool.and_eq_true, Bool.not_eq_true', beq_eq_false_iff_ne, ne_eq, Bool.and_eq_false_iff]
    refine ⟨hj, ?_⟩
    by_cases hji : j + 1 = i
    · right
      rw [e3, toV_cat]
      exact e5 hji.symm
    · exact Or.inl hji
theorem lset2_in {ad : PR → Nat} {L L2 : List (Option PV)} {i : Nat} {v : PV} (h : lset2 L i v = some L2) : ∀ q ∈ lvl ad 0 L2, q ∈ (i, toV ad v) :: (lvl ad 0 L).filter (fun q => !(q.1 == i) && (!(q.1 == i + 1) && !(q.1 + 1 == i && q.2.category == 2))) := by
  obtain ⟨hi, rfl⟩ := lset2_len h
  rintro ⟨j, w⟩ hq
  obtain ⟨k, u, e1, e2, e3⟩ := lvl_mem.mp hq
  obtain rfl : j = k := by omega
  by_cases hj1 : j = i + 1
  · subst hj1
    rw [List.getElem?_set_self (by rw [List.length_set, clr_len]; exact hi)] at e2
    cases e2
  rw [List.getElem?_set_ne (Ne.symm hj1)] at e2
  by_cases hj : j = i
  · subst hj
    rw [List.getElem?_set_self (by rw [clr_len]; omega)] at e2
    cases e2
    rw [e3]
    exact List.mem_cons_self
  · rw [List.getElem?_set_ne (Ne.symm hj)] at e2
    obtain ⟨e4, e5⟩ := clr_get e2
    refine List.mem_cons_of_mem _ (List.mem_filter.mpr ⟨lvl_mem.mpr ⟨j, u, by omega, e4, e3⟩, ?_⟩)
    simp only [Bool.and_eq_true, Bool.not_eq_true', beq_eq_false_iff_ne, ne_eq, Bool.and_eq_false_iff]
    refine ⟨hj, hj1, ?_⟩
    by_cases hji : j + 1 = i
    · right
      rw [e3, toV_cat]
      exact e5 hji.symm
    · exact Or.inl hji
theorem lset_ok {L L2 : List (Option PV)} {i : Nat} {v : PV} (h : lset L i v = some L2) (hv : vok v = true) (hL : ∀ (k : Nat) (v : PV), L[k]? = some (some v) → vok v = true) : L2.length = L.length ∧ ∀ (k : Nat) (v : PV), L2[k]? = some (some v) → vok v = true := by
  obtain ⟨hi, rfl⟩ := lset_len h
  refine ⟨by rw [List.length_set, clr_len], fun k w hk => ?_⟩
  by_cases hj : k = i
  · subst hj
    rw [List.getElem?_set_self (by rw [clr_len]; exact hi)] at hk
    cases hk
    exact hv
  · rw [List.getElem?_set_ne (Ne.symm hj)] at hk
    exact hL k w (clr_get hk).1
theorem lset2_ok {L L2 : List (Option PV)} {i : Nat} {v : PV} (h : lset2 L i v = some L2) (hv : vok v = true) (hL : ∀ (k : Nat) (v : PV), L[k]? = some (some v) → vok v = true) : L2.length = L.length ∧ ∀ (k : Nat) (v : PV), L2[k]? = some (some v) → vok v = true := by
  obtain ⟨hi, rfl⟩ := lset2_len h
  refine ⟨by rw [List.length_set, List.length_set, clr_len], fun k w hk => ?_⟩
  by_cases hj1 : k = i + 1
  · subst hj1
    rw [List.getElem?_set_self (by rw [List.length_set, clr_len]; exact hi)] at hk
    cases hk
  rw [List.getElem?_set_ne (Ne.symm hj1)] at hk
  by_cases hj : k = i
  · subst hj
    rw [List.getElem?_set_self (by rw [clr_len]; omega)] at hk
    cases hk
    exact hv
  · rw [List.getElem?_set_ne (Ne.symm hj)] at hk
    exact hL k w (clr_get hk).1
def SV (st : List PV) : Prop := ∀ v ∈ st, vok v = true
theorem sv_c {v : PV} {st : List PV} (h : vok v = true) (hs : SV st) : SV (v :: st) := fun w hw => (List.mem_cons.mp hw).elim (fun e => by rw [e]; exact h) (hs w)
theorem sv_t {v : PV} {st : List PV} (hs : SV (v :: st)) : SV st := fun w hw => hs w (List.mem_cons_of_mem _ hw)
theorem sv_h {v : PV} {st : List PV} (hs : SV (v :: st)) : vok v = true := hs v List.mem_cons_self
section SA
variable {p : Program} {l : Launch} {e : Env} {R : Room} {s : State} {mi : MethodId} {args : Array Value} {below : List Frame} {meth : Method} {c : Code} {H : Heap} {locs : List Loc} {cells slots : Nat} {Q : State → Prop}
variable {cc : ByteArray} {pc pc2 n nL : Nat} {ls : Array Slot} {ad : PR → Nat} {L L2 : List (Option PV)} {st st2 : List PV} {m m2 : PM} {i : Instr}
set_option maxHeartbeats 4000000 in
theorem sa_ok (hx : p.tables.exec = Jvm.exec) (hb : c.code = cc) (hl : LR ad nL L ls) (hs : SV st) (hd : decode cc pc = .ok (i, n)) (h : sm_a i n pc L st m = some (pc2, L2, st2, m2))
    (K : L2 = L → m2 = m → SV st2 → W p l e R s mi args below meth c H locs cells slots Q (F0 mi pc2 ls (st2.map (toV ad)))) : W p l e R s mi args below meth c H locs cells slots Q (F0 mi pc ls (st.map (toV ad))) := by
  unfold sm_a at h
  split at h
  · cases h; exact lv_iconst hx hb hd rfl (K rfl rfl (sv_c rfl hs))
  · cases h; exact lv_bipush hx hb hd rfl (K rfl rfl (sv_c rfl hs))
  · cases h; exact lv_sipush hx hb hd rfl (K rfl rfl (sv_c rfl hs))
  · cases h; exact lv_lconst hx hb hd rfl (K rfl rfl (sv_c rfl hs))
  · next v =>
    cases h
    have K2 := K rfl rfl (sv_c rfl hs)
    by_cases hv : v = 0
    · subst hv; rw [if_pos rfl] at K2; exact lv_dconst0 hx hb hd K2
    · rw [if_neg hv] at K2
      have hv1 : v = 1 := by omega
      subst hv1
      exact lv_dconst1 hx hb hd K2
  · cases h; exact lv_null hx hb hd (K rfl rfl (sv_c rfl hs))
  · split at h
    · next hk => cases h; exact lv_iload_n hx hb hd rfl (lr_get hl hk) (K rfl rfl (sv_c rfl hs))
    · cases h
  · split at h
    · next hk => cases h; exact lv_iload hx hb hd (lr_get hl hk) (K rfl rfl (sv_c rfl hs))
    · cases h
  · split at h
    · next hk => cases h; exact lv_lload_n hx hb hd rfl (lr_get hl hk) (K rfl rfl (sv_c rfl hs))
    · cases h
  · split at h
    · next hk => cases h; exact lv_lload hx hb hd (lr_get hl hk) (K rfl rfl (sv_c rfl hs))
    · cases h
  · split at h
    · next hk => cases h; exact lv_dload_n hx hb hd rfl (lr_get hl hk) (K rfl rfl (sv_c rfl hs))
    · cases h
  · split at h
    · next hk => cases h; exact lv_dload hx hb hd (lr_get hl hk) (K rfl rfl (sv_c rfl hs))
    · cases h
  · split at h
    · next x hk =>
      cases h
      have hv := hl.2.2 _ _ hk
      cases x with
      | none => exact lv_aload_nN hx hb hd rfl (lr_get hl hk) (K rfl rfl (sv_c hv hs))
      | some r => exact lv_aload_n hx hb hd rfl (lr_get hl hk) (K rfl rfl (sv_c hv hs))
    · cases h
  · split at h
    · next x hk =>
      cases h
      have hv := hl.2.2 _ _ hk
      cases x with
      | none => exact lv_aloadN hx hb hd (lr_get hl hk) (K rfl rfl (sv_c hv hs))
      | some r => exact lv_aload hx hb hd (lr_get hl hk) (K rfl rfl (sv_c hv hs))
    · cases h
  · cases h
end SA
end
section
section SB
variable {p : Program} {l : Launch} {e : Env} {R : Room} {s : State} {mi : MethodId} {args : Array Value} {below : List Frame} {meth : Method} {c : Code} {H : Heap} {locs : List Loc} {cells slots : Nat} {Q : State → Prop}
variable {cc : ByteArray} {pc pc2 n nL : Nat} {ls : Array Slot} {ad : PR → Nat} {L L2 : List (Option PV)} {st st2 : List PV} {m m2 : PM} {i : Instr}
theorem lr_set (hl : LR ad nL L ls) {k : Nat} {v : PV} (h : lset L k v = some L2) (hv : vok v = true) {ls2 : Array Slot} (h2 : lv_has ls2 nL ((k, toV ad v) :: (lvl ad 0 L).filter (fun q => !(q.1 == k) && !(q.1 + 1 == k && q.2.category == 2)))) : LR ad nL L2 ls2 :=
  ⟨(lset_ok h hv hl.2.2).1.trans hl.1, lv_sub2 h2 (lset_in h), (lset_ok h hv hl.2.2).2⟩
theorem lr_set2 (hl : LR ad nL L ls) {k : Nat} {v : PV} (h : lset2 L k v = some L2) (hv : vok v = true) {ls2 : Array Slot} (h2 : lv_has ls2 nL ((k, toV ad v) :: (lvl ad 0 L).filter (fun q => !(q.1 == k) && (!(q.1 == k + 1) && !(q.1 + 1 == k && q.2.category == 2))))) : LR ad nL L2 ls2 :=
  ⟨(lset2_ok h hv hl.2.2).1.trans hl.1, lv_sub2 h2 (lset2_in h), (lset2_ok h hv hl.2.2).2⟩
theorem lr_lt (hl : LR ad nL L ls) {k : Nat} {v : PV} (h : lset L k v = some L2) : k < nL := by rw [← hl.1]; exact (lset_len h).1
theorem lr_lt2 (hl : LR ad nL L ls) {k : Nat} {v : PV} (h : lset2 L k v = some L2) : k + 1 < nL := by rw [← hl.1]; exact (lset2_len h).1
set_option maxHeartbeats 4000000 in
theorem sb_ok (hx : p.tables.exec = Jvm.exec) (hb : c.code = cc) (hl : LR ad nL L ls) (hs : SV st) (hd : decode cc pc = .ok (i, n)) (h : sm_b i n pc L st m = some (pc2, L2, st2, m2))
    (K : ∀ ls2 : Array Slot, m2 = m → LR ad nL L2 ls2 → SV st2 → W p l e R s mi args below meth c H locs cells slots Q (F0 mi pc2 ls2 (st2.map (toV ad)))) : W p l e R s mi args below meth c H locs cells slots Q (F0 mi pc ls (st.map (toV ad))) := by
  unfold sm_b at h
  split at h
  · split at h
    · split at h
      · next hk => cases h; exact lv_istore_n hx hb hd rfl hl.2.1 (lr_lt hl hk) rfl (fun ls2 h2 => K ls2 rfl (lr_set hl hk rfl h2) (sv_t hs))
      · cases h
    · cases h
  · split at h
    · split at h
      · next hk => cases h; exact lv_istore hx hb hd hl.2.1 (lr_lt hl hk) rfl (fun ls2 h2 => K ls2 rfl (lr_set hl hk rfl h2) (sv_t hs))
      · cases h
    · cases h
  · split at h
    · split at h
      · next hk => cases h; exact lv_lstore_n hx hb hd rfl hl.2.1 (lr_lt2 hl hk) rfl (fun ls2 h2 => K ls2 rfl (lr_set2 hl hk rfl h2) (sv_t hs))
      · cases h
    · cases h
  · split at h
    · split at h
      · next hk => cases h; exact lv_lstore hx hb hd hl.2.1 (lr_lt2 hl hk) rfl (fun ls2 h2 => K ls2 rfl (lr_set2 hl hk rfl h2) (sv_t hs))
      · cases h
    · cases h
  · split at h
    · split at h
      · next hk => cases h; exact lv_dstore_n hx hb hd rfl hl.2.1 (lr_lt2 hl hk) rfl (fun ls2 h2 => K ls2 rfl (lr_set2 hl hk rfl h2) (sv_t hs))
      · cases h
    · cases h
  · split at h
    · split at h
      · next hk => cases h; exact lv_dstore hx hb hd hl.2.1 (lr_lt2 hl hk) rfl (fun ls2 h2 => K ls2 rfl (lr_set2 hl hk rfl h2) (sv_t hs))
      · cases h
    · cases h
  · split at h
    · next x r =>
      split at h
      · next hk =>
        cases h
        have hv := sv_h hs
        cases x with
        | none => exact lv_astore_nN hx hb hd rfl hl.2.1 (lr_lt hl hk) rfl (fun ls2 h2 => K ls2 rfl (lr_set hl hk hv h2) (sv_t hs))
        | some r => exact lv_astore_n hx hb hd rfl hl.2.1 (lr_lt hl hk) rfl (fun ls2 h2 => K ls2 rfl (lr_set hl hk hv h2) (sv_t hs))
      · cases h
    · cases h
  · split at h
    · next x r =>
      split at h
      · next hk =>
        cases h
        have hv := sv_h hs
        cases x with
        | none => exact lv_astoreN hx hb hd hl.2.1 (lr_lt hl hk) rfl (fun ls2 h2 => K ls2 rfl (lr_set hl hk hv h2) (sv_t hs))
        | some r => exact lv_astore hx hb hd hl.2.1 (lr_lt hl hk) rfl (fun ls2 h2 => K ls2 rfl (lr_set hl hk hv h2) (sv_t hs))
      · cases h
    · cases h
  · next k d =>
    split at h
    · next x hk0 =>
      split at h
      · next hk =>
        cases h
        obtain ⟨q, hq⟩ := List.getElem?_of_mem ((lvl_mem (ad := ad) (i := 0) (j := k) (w := .int x)).mpr ⟨k, vI x, by omega, hk0, rfl⟩)
        exact lv_iinc hx hb hd hl.2.1 hq rfl (lr_lt hl hk) rfl (fun ls2 h2 => K ls2 rfl (lr_set hl hk rfl h2) hs)
      · cases h
    · cases h
  · split at h
    · split at h
      · next hc => cases h; exact lv_dup hx hb hd (by rw [toV_cat]; exact hc) (K ls rfl hl (sv_c (sv_h hs) hs))
      · cases h
    · cases h
  · split at h
    · split at h
      · next hc =>
        split at h
        · next hc2 => cases h; exact lv_dup2_11 hx hb hd (by rw [toV_cat]; exact hc) (by rw [toV_cat]; exact hc2) (K ls rfl hl (sv_c (sv_h hs) (sv_c (sv_h (sv_t hs)) hs)))
        · cases h
      · cases h
    · cases h
  · split at h
    · split at h
      · next hc => cases h; exact lv_pop hx hb hd (by rw [toV_cat]; exact hc) (K ls rfl hl (sv_t hs))
      · cases h
    · cases h
  · cases h
set_option maxHeartbeats 4000000 in
theorem sc_ok (hx : p.tables.exec = Jvm.exec) (hb : c.code = cc) (hs : SV st) (hd : decode cc pc = .ok (i, n)) (h : sm_c i n pc L st m = some (pc2, L2, st2, m2))
    (K : L2 = L → m2 = m → SV st2 → W p l e R s mi args below meth c H locs cells slots Q (F0 mi pc2 ls (st2.map (toV ad)))) : W p l e R s mi args below meth c H locs cells slots Q (F0 mi pc ls (st.map (toV ad))) := by
  unfold sm_c at h
  split at h
  · cases h; exact lv_iadd hx hb hd (K rfl rfl (sv_c rfl (sv_t (sv_t hs))))
  · cases h; exact lv_isub hx hb hd (K rfl rfl (sv_c rfl (sv_t (sv_t hs))))
  · cases h; exact lv_imul hx hb hd (K rfl rfl (sv_c rfl (sv_t (sv_t hs))))
  · cases h; exact lv_iand hx hb hd (K rfl rfl (sv_c rfl (sv_t (sv_t hs))))
  · cases h; exact lv_ior hx hb hd (K rfl rfl (sv_c rfl (sv_t (sv_t hs))))
  · cases h; exact lv_ixor hx hb hd (K rfl rfl (sv_c rfl (sv_t (sv_t hs))))
  · cases h; exact lv_ishl hx hb hd (K rfl rfl (sv_c rfl (sv_t (sv_t hs))))
  · cases h; exact lv_ishr hx hb hd (K rfl rfl (sv_c rfl (sv_t (sv_t hs))))
  · cases h; exact lv_ineg hx hb hd (K rfl rfl (sv_c rfl (sv_t hs)))
  · cases h; exact lv_i2l hx hb hd rfl (K rfl rfl (sv_c rfl (sv_t hs)))
  · cases h; exact lv_i2d hx hb hd (K rfl rfl (sv_c rfl (sv_t hs)))
  · cases h; exact lv_ladd hx hb hd (K rfl rfl (sv_c rfl (sv_t (sv_t hs))))
  · cases h; exact lv_lsub hx hb hd (K rfl rfl (sv_c rfl (sv_t (sv_t hs))))
  · cases h; exact lv_lmul hx hb hd (K rfl rfl (sv_c rfl (sv_t (sv_t hs))))
  · cases h; exact lv_lshl hx hb hd rfl (K rfl rfl (sv_c rfl (sv_t (sv_t hs))))
  · cases h; exact W.lcmp hx hb hd (K rfl rfl (sv_c rfl (sv_t (sv_t hs))))
  · cases h; exact lv_dcmp hx hb hd (K rfl rfl (sv_c rfl (sv_t (sv_t hs))))
  · cases h; exact lv_d2l hx hb hd (K rfl rfl (sv_c rfl (sv_t hs)))
  · split at h
    · next hn => cases h; exact lv_dmul hx hb hd hn (K rfl rfl (sv_c rfl (sv_t (sv_t hs))))
    · cases h
  · split at h
    · next hn => cases h; exact lv_dsub hx hb hd hn (K rfl rfl (sv_c rfl (sv_t (sv_t hs))))
    · cases h
  · split at h
    · next hn => cases h; exact lv_ddiv hx hb hd hn (K rfl rfl (sv_c rfl (sv_t (sv_t hs))))
    · cases h
  · cases h
theorem bt_ok {pc t : Nat} {o : Int} (h : bt pc o = some t) : (pc : Int) + o = (t : Int) := by
  unfold bt at h
  split at h
  · next h2 => cases h; rw [h2]; rfl
  · cases h
set_option maxHeartbeats 4000000 in
theorem sd_ok (hx : p.tables.exec = Jvm.exec) (hb : c.code = cc) (hs : SV st) (hd : decode cc pc = .ok (i, n)) (h : sm_d i n pc L st m = some (pc2, L2, st2, m2))
    (K : L2 = L → m2 = m → SV st2 → W p l e R s mi args below meth c H locs cells slots Q (F0 mi pc2 ls (st2.map (toV ad)))) : W p l e R s mi args below meth c H locs cells slots Q (F0 mi pc ls (st.map (toV ad))) := by
  unfold sm_d at h
  split at h
  · split at h
    · next ht => cases h; exact lv_goto hx hb hd (bt_ok ht) (K rfl rfl hs)
    · cases h
  · split at h
    · split at h
      · next ht =>
        have ht := bt_ok ht
        split at h <;> cases h <;> have K2 := K rfl rfl (sv_t hs)
        · exact lv_if_eq hx hb hd ht (fun q => by rw [if_pos q] at K2; exact K2) (fun q => by rw [if_neg q] at K2; exact K2)
        · exact lv_if_ne hx hb hd ht (fun q => by rw [if_pos q] at K2; exact K2) (fun q => by rw [if_neg (fun z => z q)] at K2; exact K2)
        · exact lv_if_lt hx hb hd ht (fun q => by rw [if_pos q] at K2; exact K2) (fun q => by rw [if_neg q] at K2; exact K2)
        · exact lv_if_ge hx hb hd ht (fun q => by rw [if_pos q] at K2; exact K2) (fun q => by rw [if_neg q] at K2; exact K2)
        · exact lv_if_gt hx hb hd ht (fun q => by rw [if_pos q] at K2; exact K2) (fun q => by rw [if_neg q] at K2; exact K2)
        · exact lv_if_le hx hb hd ht (fun q => by rw [if_pos q] at K2; exact K2) (fun q => by rw [if_neg q] at K2; exact K2)
      · cases h
    · cases h
  · split at h
    · split at h
      · next ht =>
        have ht := bt_ok ht
        split at h <;> cases h <;> have K2 := K rfl rfl (sv_t (sv_t hs))
        · exact lv_icmp_eq hx hb hd ht (fun q => by rw [if_pos q] at K2; exact K2) (fun q => by rw [if_neg q] at K2; exact K2)
        · exact lv_icmp_ne hx hb hd ht (fun q => by rw [if_pos q] at K2; exact K2) (fun q => by rw [if_neg (fun z => z q)] at K2; exact K2)
        · exact lv_icmp_lt hx hb hd ht (fun q => by rw [if_pos q] at K2; exact K2) (fun q => by rw [if_neg q] at K2; exact K2)
        · exact lv_icmp_ge hx hb hd ht (fun q => by rw [if_pos q] at K2; exact K2) (fun q => by rw [if_neg q] at K2; exact K2)
        · exact lv_icmp_gt hx hb hd ht (fun q => by rw [if_pos q] at K2; exact K2) (fun q => by rw [if_neg q] at K2; exact K2)
        · exact lv_icmp_le hx hb hd ht (fun q => by rw [if_pos q] at K2; exact K2) (fun q => by rw [if_neg q] at K2; exact K2)
      · cases h
    · cases h
  · split at h
    · split at h
      · next ht => cases h; exact lv_ifnullN hx hb hd (bt_ok ht) (K rfl rfl (sv_t hs))
      · cases h
    · cases h; exact lv_ifnull hx hb hd (K rfl rfl (sv_t hs))
    · cases h
  · split at h
    · split at h
      · next ht => cases h; exact lv_ifnonnull hx hb hd (bt_ok ht) (K rfl rfl (sv_t hs))
      · cases h
    · cases h; exact lv_ifnonnullN hx hb hd (K rfl rfl (sv_t hs))
    · cases h
  · split at h
    · split at h
      · next hc =>
        split at h
        · next ht => cases h; exact lv_tableOut hx hb hd hc (bt_ok ht) (K rfl rfl (sv_t hs))
        · cases h
      · next hc =>
        split at h
        · next ho =>
          split at h
          · next ht => cases h; exact lv_tableIn hx hb hd (fun q => hc (Or.inl q)) (fun q => hc (Or.inr q)) ho (bt_ok ht) (K rfl rfl (sv_t hs))
          · cases h
        · cases h
    · cases h
  · split at h
    · split at h
      · next hp =>
        split at h
        · next ht => cases h; exact lv_lookup hx hb hd hp rfl (bt_ok ht) (K rfl rfl (sv_t hs))
        · cases h
      · cases h
    · cases h
  · cases h
end SB
end
section
def BW : List Cond := lw_tbl.filter goodWord
def isNest (w : Cond) : Bool := match w with
  | .methodLinkNest _ _ _ _ => true
  | _ => false
def NW : List Cond := lw_tbl.filter isNest
theorem bw_of (i : Nat) {w : Cond} (h : lw_tbl[i]? = some w) (g : goodWord w = true) : w ∈ BW := List.mem_filter.mpr ⟨List.mem_of_getElem? h, g⟩
theorem nw_of (i : Nat) {w : Cond} (h : lw_tbl[i]? = some w) (g : isNest w = true) : w ∈ NW := List.mem_filter.mpr ⟨List.mem_of_getElem? h, g⟩
theorem bw_all (ws : List Cond) (ps : List Nat) (h : ps.map (fun i => lw_tbl[i]?) = ws.map some) (g : ws.all goodWord = true) : ∀ w ∈ ws, w ∈ BW := by
  intro w hw
  have h1 : some w ∈ ps.map (fun i => lw_tbl[i]?) := by rw [h]; exact List.mem_map.mpr ⟨w, hw, rfl⟩
  obtain ⟨i, -, hi⟩ := List.mem_map.mp h1
  exact bw_of i hi (List.all_eq_true.mp g w hw)
theorem bw_good : GoodIn lw_tbl BW := fun w h => ⟨(List.mem_filter.mp h).1, good_of_word (List.mem_filter.mp h).2⟩
theorem bw_tbl {w : Cond} (h : w ∈ BW) : w ∈ lw_tbl := (List.mem_filter.mp h).1
theorem bw_gw {w : Cond} (h : w ∈ BW) : goodWord w = true := (List.mem_filter.mp h).2
def flG (o x ci s : Nat) : Prop := ∃ q : vw_C, vwCl[ci]? = some q ∧ s < q.2.2 ∧ (q.2.1 s).1 = q.1 ∧ Cond.fieldLink (RO o) x q.1 (q.2.1 s).2.1 (q.2.1 s).2.2.1 ∈ BW
def clG (q : vw_C) : Prop := (∀ w ∈ u_ws q.1 q.2.1 q.2.2, w ∈ BW) ∧ ∃ ty0 : Nat → FieldType, (∀ k, k < q.2.2 → parseFieldDescriptor (q.2.1 k).2.2.1 = some (ty0 k)) ∧ ∀ a, a < q.2.2 → ∀ b, b < q.2.2 → a ≠ b → (q.2.1 a).2.1 ≠ (q.2.1 b).2.1
/-- a method's own words -/
def miG (M : MI) : Prop := plainName (mY M).cls = true ∧ Cond.code (mY M) (mB M) (mN M) (mRet M) ∈ BW ∧ Cond.initialized (mY M).cls ∈ BW ∧ ((mY M).cls ≠ "java/lang/invoke/MethodHandle" ∧ (mY M).cls ≠ "java/lang/invoke/VarHandle" ∧ (parseMethodDescriptor (mY M).desc).map (fun d => d.parameters.length) = some (mPar M)) ∧ RO (mO M) = (mY M).cls
/-- a call's words -/
def lkG (o x k : Nat) (M : MI) : Prop := match k with
  | 0 => Cond.methodLink (RO o) x (mY M) ∈ BW ∧ Cond.static (mY M) ∈ BW
  | 1 => Cond.methodLink (RO o) x (mY M) ∈ BW ∧ Cond.instanceMethod (mY M) ∈ BW ∧ Cond.selects (mY M).cls (mY M) (mY M) ∈ BW ∧ (vwCl[mO M]?).map (fun q => q.1) = some (mY M).cls
  | _ => (∃ host, Cond.methodLinkNest (RO o) x (mY M) host ∈ NW) ∧ Cond.static (mY M) ∈ BW
def dcG (M : MI) : Prop := ∀ e ∈ mT M, decode (mB M) e.1 = .ok (e.2.1, e.2.2)
/-- all that the tables must say -/
def WOK : Prop := (∀ o, ∀ q ∈ flk o, flG o q.1 q.2.1 q.2.2) ∧ (∀ o, ∀ q ∈ llk o, Cond.constantLong (RO o) q.1 q.2 ∈ BW) ∧ (∀ o, ∀ q ∈ dlk o, Cond.constantDouble (RO o) q.1 q.2 ∈ BW) ∧
  (∀ o x, (x, 0) ∈ nlk o → Cond.methodLink (RO o) x arraycopyName ∈ BW ∧ Cond.native arraycopyName ∈ BW ∧ Cond.static arraycopyName ∈ BW ∧ Cond.initialized "java/lang/System" ∈ BW) ∧
  (∀ o x, (x, 1) ∈ nlk o → Cond.methodLink (RO o) x ⟨"java/lang/Double", "doubleToRawLongBits", "(D)J"⟩ ∈ BW ∧ Cond.native ⟨"java/lang/Double", "doubleToRawLongBits", "(D)J"⟩ ∈ BW ∧ Cond.static ⟨"java/lang/Double", "doubleToRawLongBits", "(D)J"⟩ ∈ BW ∧ Cond.initialized "java/lang/Double" ∈ BW) ∧
  (∀ o x, (x, 2) ∈ nlk o → Cond.methodLink (RO o) x Lib.Math.max.name ∈ BW ∧ Cond.static Lib.Math.max.name ∈ BW ∧ Cond.initialized "java/lang/Math" ∈ BW ∧ Cond.code Lib.Math.max.name Lib.Math.max.code 2 (some .int) ∈ BW) ∧
  (∀ o x, (x, 3) ∈ nlk o → Cond.methodLink (RO o) x Lib.Math.min.name ∈ BW ∧ Cond.static Lib.Math.min.name ∈ BW ∧ Cond.initialized "java/lang/Math" ∈ BW ∧ Cond.code Lib.Math.min.name Lib.Math.min.code 2 (some .int) ∈ BW) ∧
  (∀ (ci : Nat) (q : vw_C), vwCl[ci]? = some q → clG q) ∧
  (∀ z ∈ ipl, (vwCl[z.1]?.map fun q => decide ((q.2.1 z.2).2.2.2 = false) && decide ((q.2.1 z.2).2.2.1 = "I")) = some true) ∧
  ((TX5 11).2.2.2 = false ∧ (TX5 11).2.2.1 = "J") ∧
  (∀ o, ∀ q ∈ clk o, lkG o q.1 q.2.1 q.2.2 ∧ miG q.2.2)
end
section
section SE
variable {p : Program} {l : Launch} {e : Env} {R : Room} {s : State} {mi : MethodId} {args : Array Value} {below : List Frame} {meth : Method} {c : Code} {H H0 : Heap} {locs : List Loc} {cells slots : Nat} {Q : State → Prop}
variable {cc : ByteArray} {o pc pc2 n nL : Nat} {ls : Array Slot} {A : AC} {D : va_G} {ad : PR → Nat} {Ba : Nat → Prop} {L L2 : List (Option PV)} {st st2 : List PV} {m m2 : PM} {i : Instr} {bs L9 : Nat} {xs : Nat → Int32}
/-- the heap holds the memory m; the script is what m says -/
def HR (A : AC) (D : va_G) (ad : PR → Nat) (L9 : Nat) (xs : Nat → Int32) (m : PM) (H : Heap) : Prop := va_P D vwCl (wd A ad m) H ∧ m.1 10 0 1 0 = nI L9 ∧ L9 < 2 ^ 31 ∧ ∀ i, i < L9 → m.1 10 0 0 i = xs i
theorem vok_ok {t k g : Nat} (h : vok (vR t k g) = true) (ht : t ≠ 10) : okW (t, k, g) = true := by
  have h1 : okR (t, k, g) = true := h
  unfold okR at h1
  rcases Bool.or_eq_true _ _ ▸ h1 with h2 | h2
  · exact h2
  · exact absurd (congrArg Prod.fst (of_decide_eq_true h2)) ht
theorem tcl_ne {t ci : Nat} (h : tcl t = some ci) : t ≠ 10 := by
  rintro rfl
  cases h
theorem va_D_eq {A1 : Nat → Prop} {w w2 : va_W} (h : w = w2) (hD : va_D A1 w) : va_D A1 w2 := h ▸ hD
theorem map_cat (ad : PR → Nat) (r : List PV) : ((r.map (toV ad)).map fun v => v.category) = r.map cat := by
  rw [List.map_map]
  exact List.map_congr_left fun v _ => toV_cat ad v
theorem hsm {s : State} {C C2 a b : String} (h : C2 = C) : ∀ x, s.fieldFound? C2 a b = some x → s.fieldFound? C a b = some x := by
  subst h
  exact fun _ h => h
theorem hr_wI {t k g j : Nat} {v : Int32} (hm : HR A D ad L9 xs m H0) (ht : t ≠ 10) (h : va_P D vwCl (wd A ad (wI m t k g j v)) H) : HR A D ad L9 xs (wI m t k g j v) H := by
  obtain ⟨-, h1, h2, h3⟩ := hm
  refine ⟨h, ?_, h2, fun i hi => ?_⟩
  · unfold wI
    dsimp only
    rw [if_neg (fun q => ht q.1.symm)]; exact h1
  · unfold wI
    dsimp only
    rw [if_neg (fun q => ht q.1.symm)]; exact h3 i hi
theorem hr_wL {t k g j : Nat} {v : Int64} (hm : HR A D ad L9 xs m H0) (h : va_P D vwCl (wd A ad (wL m t k g j v)) H) : HR A D ad L9 xs (wL m t k g j v) H := ⟨h, hm.2⟩
theorem hr_wC {k g n k2 g2 : Nat} (hm : HR A D ad L9 xs m H0) (h : va_P D vwCl (wd A ad (wC m k g n k2 g2)) H) : HR A D ad L9 xs (wC m k g n k2 g2) H := by
  obtain ⟨-, h1, h2, h3⟩ := hm
  refine ⟨h, ?_, h2, fun i hi => ?_⟩
  · unfold wC
    dsimp only
    rw [if_neg (fun q => absurd q.1 (by decide))]; exact h1
  · unfold wC
    dsimp only
    rw [if_neg (fun q => absurd q.1 (by decide))]; exact h3 i hi
set_option maxHeartbeats 8000000 in
theorem se_ok (hw : WOK) (hx : p.tables.exec = Jvm.exec) (hb : c.code = cc) (hml : c.maxLocals = nL) (hown : s.vm.findClass (RO o) = some mi.cls) (hts : ∀ w ∈ BW, w.before args s = true) (hK : va_K D vwCl (tys A) s) (hRf : 1 ≤ R.frames) (hRl : 30 ≤ R.locals) (hcl : cells ≤ R.cells) (hsl : slots ≤ R.slots)
    (hX : va_X bs L9 xs s H0) (hbl : bs < H0.size) (hbA : ¬ Ba bs) (had : ad (10, 0, 0) = bs)
    (hP : HR A D ad L9 xs m H) (hD : va_D Ba (wd A ad m)) (hS : va_S Ba H0 H locs)
    (hl : LR ad nL L ls) (hs : SV st) (hd : decode cc pc = .ok (i, n)) (h : sm_e o i n pc L st m = some (pc2, L2, st2, m2))
    (K : ∀ (H1 : Heap) (locs1 : List Loc), L2 = L → HR A D ad L9 xs m2 H1 → va_D Ba (wd A ad m2) → va_S Ba H0 H1 locs1 → SV st2 → W p l e R s mi args below meth c H1 locs1 cells slots Q (F0 mi pc2 ls (st2.map (toV ad)))) : W p l e R s mi args below meth c H locs cells slots Q (F0 mi pc ls (st.map (toV ad))) := by
  obtain ⟨w1, w2, w3, w4, w5, w6, w7, w8, w9, w10, -⟩ := hw
  have hlsz : c.maxLocals = ls.size := by rw [hml, hl.2.1.1]
  unfold sm_e at h
  split at h
  · -- getfield
    split at h
    · next t k g r =>
      split at h
      · next ci f hf =>
        split at h
        · next ht =>
          split at h
          · next v hv =>
            cases h
            have hok := vok_ok (sv_h hs) (tcl_ne ht)
            obtain ⟨fs, e1, e2, e3⟩ := fv_ok (A := A) (ad := ad) hok ht hv
            obtain ⟨q, g1, g2, g3, g4⟩ := w1 o _ (asc_mem hf)
            obtain ⟨q0, -, hq0⟩ := wd_at (A := A) (ad := ad) (m := m) hok
            rw [e1] at hq0
            obtain ⟨C, T, N⟩ := q
            exact va_get hx hb hts (w8 ci _ g1).1 hown hK hP.1 q0 hq0 g1 f g2 (hts _ g4) (hsm g3) e2 hd (K H locs rfl hP hD hS (sv_c e3 (sv_t hs)))
          · cases h
        · cases h
      · cases h
    · cases h
  · -- putfield
    split at h
    · next v t k g r =>
      split at h
      · next ci f hf =>
        split at h
        · next ht =>
          split at h
          · next hp =>
            cases h
            have hok := vok_ok (sv_h (sv_t hs)) (tcl_ne ht)
            obtain ⟨hin, fs, e1, e2, e3⟩ := ip_ok (A := A) (ad := ad) (m := m) v hok ht hp
            obtain ⟨q, g1, g2, g3, g4⟩ := w1 o _ (asc_mem hf)
            obtain ⟨q0, hq, hq0⟩ := wd_at (A := A) (ad := ad) (m := m) hok
            rw [e1] at hq0
            obtain ⟨C, T, N⟩ := q
            obtain ⟨c1, ty0, c2, c3⟩ := w8 ci _ g1
            have h9 := w9 _ hin
            rw [show vwCl[ci]? = some (C, T, N) from g1] at h9
            simp only [Option.map_some, Option.some.injEq, Bool.and_eq_true, decide_eq_true_eq] at h9
            have es := wd_set (A := A) (ad := ad) (m := m) hq e3 (fun r2 ok2 ne => ce_same ok2 (wI_ne ne) (fun _ => rfl))
            refine va_put (D := D) (v := .int v) (ty := .int) hx hb hts c1 ty0 c2 c3 hown hK hP.1 hD hS q0 hq0 g1 f g2 (hts _ g4) (hsm g3) h9.1 (by rw [h9.2]; decide) rfl rfl e2 hd (fun H1 locs1 hP1 hD1 hS1 => ?_)
            rw [es] at hP1 hD1
            exact K H1 locs1 rfl (hr_wI hP (tcl_ne ht) hP1) hD1 hS1 (sv_t (sv_t hs))
          · cases h
        · cases h
      · cases h
    · next v t k g r =>
      split at h
      · next ci f hf =>
        split at h
        · next ht =>
          split at h
          · next hp =>
            cases h
            have hok := vok_ok (sv_h (sv_t hs)) (tcl_ne ht)
            obtain ⟨hin, fs, e1, e2, e3⟩ := lp_ok (A := A) (ad := ad) (m := m) v hok ht hp
            obtain ⟨q, g1, g2, g3, g4⟩ := w1 o _ (asc_mem hf)
            obtain ⟨q0, hq, hq0⟩ := wd_at (A := A) (ad := ad) (m := m) hok
            rw [e1] at hq0
            obtain ⟨C, T, N⟩ := q
            obtain ⟨c1, ty0, c2, c3⟩ := w8 ci _ g1
            obtain ⟨rfl, rfl⟩ : ci = 5 ∧ f = 11 := ⟨congrArg Prod.fst hin, congrArg Prod.snd hin⟩
            cases g1
            have es := wd_set (A := A) (ad := ad) (m := m) hq e3 (fun r2 ok2 ne => ce_same ok2 (fun _ => rfl) (wL_ne ne))
            refine va_put (D := D) (v := .long v) (ty := .long) hx hb hts c1 ty0 c2 c3 hown hK hP.1 hD hS q0 hq0 rfl 11 g2 (hts _ g4) (fun x hx => hx) w10.1 (by rw [w10.2]; decide) rfl rfl e2 hd (fun H1 locs1 hP1 hD1 hS1 => ?_)
            rw [es] at hP1 hD1
            exact K H1 locs1 rfl (hr_wL hP hP1) hD1 hS1 (sv_t (sv_t hs))
          · cases h
        · cases h
      · cases h
    · cases h
  · -- iaload
    split at h
    · next j t k g r =>
      split at h
      · next N hN =>
        split at h
        · cases h
        · next hj =>
          cases h
          by_cases ht : t = 10
          · subst ht
            have h1 : okR (10, k, g) = true := sv_h (sv_t hs)
            have hkg : k = 0 ∧ g = 0 := by
              unfold okR at h1
              rcases Bool.or_eq_true _ _ ▸ h1 with h2 | h2
              · exact absurd (okW_lt h2).1 (by decide)
              · have h3 := of_decide_eq_true h2; simp at h3; exact h3
            obtain ⟨rfl, rfl⟩ := hkg
            have hNe : N = L9 := by
              have h2 : (m.1 10 0 1 0).toNatClampNeg = N := Option.some.inj hN
              rw [hP.2.1, nI_clamp hP.2.2.1] at h2
              exact h2.symm
            subst hNe
            have hlt : j.toNatClampNeg < N := Nat.not_le.mp fun q => hj (Or.inr q)
            have hval : m.1 10 0 0 j.toNatClampNeg = xs j.toNatClampNeg := hP.2.2.2 _ hlt
            show W p l e R s mi args below meth c H locs cells slots Q (F0 mi pc ls (.int j :: .ref (ad (10, 0, 0)) :: r.map (toV ad)))
            rw [had]
            refine va_sld hx hb hX hbl hbA hS hj hd ?_
            rw [← hval]
            exact K H locs rfl hP hD hS (sv_c rfl (sv_t (sv_t hs)))
          · have hok := vok_ok (sv_h (sv_t hs)) ht
            obtain ⟨q0, hq, hq0⟩ := wd_at (A := A) (ad := ad) (m := m) hok
            rw [(ia_ok hok hN).1] at hq0
            exact va_iald hx hb hK hP.1 q0 0 hq0 rfl hj hd (K H locs rfl hP hD hS (sv_c rfl (sv_t (sv_t hs))))
      · cases h
    · cases h
  · -- iastore
    split at h
    · next v j t k g r =>
      split at h
      · next N hN =>
        split at h
        · cases h
        · next ht =>
          split at h
          · cases h
          · next hj =>
            cases h
            have hok := vok_ok (sv_h (sv_t (sv_t hs))) ht
            obtain ⟨q0, hq, hq0⟩ := wd_at (A := A) (ad := ad) (m := m) hok
            rw [(ia_ok hok hN).1] at hq0
            have es := wd_set (A := A) (ad := ad) (m := m) hq ((ia_ok (A := A) (ad := ad) hok hN).2 j.toNatClampNeg v) (fun r2 ok2 ne => ce_same ok2 (wI_ne ne) (fun _ => rfl))
            refine va_iast hx hb hK hP.1 hD hS q0 0 hq0 rfl hj hd (fun H1 locs1 hP1 hD1 hS1 => ?_)
            rw [es] at hP1 hD1
            exact K H1 locs1 rfl (hr_wI hP ht hP1) hD1 hS1 (sv_t (sv_t (sv_t hs)))
      · cases h
    · cases h
  · -- laload
    split at h
    · next j k g r =>
      split at h
      · cases h
      · next hj =>
        cases h
        have hok := vok_ok (sv_h (sv_t hs)) (by decide)
        have hkg : k = 0 ∧ g = 0 := by simpa [okW] using hok
        obtain ⟨rfl, rfl⟩ := hkg
        obtain ⟨q0, hq, hq0⟩ := wd_at (A := A) (ad := ad) (m := m) hok
        exact va_lald hx hb hK hP.1 q0 1 hq0 rfl hj hd (K H locs rfl hP hD hS (sv_c rfl (sv_t (sv_t hs))))
    · cases h
  · -- lastore
    split at h
    · next v j k g r =>
      split at h
      · cases h
      · next hj =>
        cases h
        have hok := vok_ok (sv_h (sv_t (sv_t hs))) (by decide)
        have hkg : k = 0 ∧ g = 0 := by simpa [okW] using hok
        obtain ⟨rfl, rfl⟩ := hkg
        obtain ⟨q0, hq, hq0⟩ := wd_at (A := A) (ad := ad) (m := m) hok
        have es := wd_set (A := A) (ad := ad) (m := m) (m2 := wL m 9 0 0 j.toNatClampNeg v) hq rfl (fun r2 ok2 ne => ce_same ok2 (fun _ => rfl) (wL_ne ne))
        refine va_last hx hb hK hP.1 hD hS q0 1 hq0 rfl hj hd (fun H1 locs1 hP1 hD1 hS1 => ?_)
        have ef : (fun i => (wL m 9 0 0 j.toNatClampNeg v).2 9 0 0 i) = vp_updL (fun i => m.2 9 0 0 i) j.toNatClampNeg v := by
          funext i
          simp [wL, vp_updL]
        have ec : ce A ad (wL m 9 0 0 j.toNatClampNeg v) (9, 0, 0) = .inl (A.2.1, 1, .inr (.inl (vp_updL (fun i => m.2 9 0 0 i) j.toNatClampNeg v))) := by rw [← ef]; rfl
        rw [ec] at es
        rw [es] at hP1 hD1
        exact K H1 locs1 rfl (hr_wL hP hP1) hD1 hS1 (sv_t (sv_t (sv_t hs)))
    · cases h
  · -- aaload
    split at h
    · next j k g r =>
      split at h
      · cases h
      · next hj =>
        cases h
        have hok := vok_ok (sv_h (sv_t hs)) (by decide)
        have hkg : k = 0 ∧ g = 0 := by simpa [okW] using hok
        obtain ⟨rfl, rfl⟩ := hkg
        obtain ⟨q0, hq, hq0⟩ := wd_at (A := A) (ad := ad) (m := m) hok
        have hlt : j.toNatClampNeg < 6 := Nat.not_le.mp fun q => hj (Or.inr q)
        exact va_aldq hx hb hK hP.1 q0 2 hq0 rfl hj hd (K H locs rfl hP hD hS (sv_c (by simp [vok, okR, okW]; omega) (sv_t (sv_t hs))))
    · cases h
  · -- arraylength
    split at h
    · next t k g r =>
      split at h
      · next N hN =>
        cases h
        by_cases ht : t = 10
        · subst ht
          have h1 : okR (10, k, g) = true := sv_h hs
          have hkg : k = 0 ∧ g = 0 := by
            unfold okR at h1
            rcases Bool.or_eq_true _ _ ▸ h1 with h2 | h2
            · exact absurd (okW_lt h2).1 (by decide)
            · have h3 := of_decide_eq_true h2; simp at h3; exact h3
          obtain ⟨rfl, rfl⟩ := hkg
          have hNe : N = Int32.ofNat L9 := by
            have h2 : m.1 10 0 1 0 = N := Option.some.inj hN
            rw [hP.2.1] at h2
            exact h2.symm
          subst hNe
          show W p l e R s mi args below meth c H locs cells slots Q (F0 mi pc ls (.ref (ad (10, 0, 0)) :: r.map (toV ad)))
          rw [had]
          exact va_slen hx hb hX hbl hbA hS hd (K H locs rfl hP hD hS (sv_c rfl (sv_t hs)))
        · have hok := vok_ok (sv_h hs) ht
          obtain ⟨t0, cA, ty, x, g1, g2, g3⟩ := al_ok (A := A) (ad := ad) (m := m) hok hN
          obtain ⟨q0, hq, hq0⟩ := wd_at (A := A) (ad := ad) (m := m) hok
          rw [g2] at hq0
          exact va_alen hx hb hK hP.1 q0 t0 hq0 g1 g3 hd (K H locs rfl hP hD hS (sv_c rfl (sv_t hs)))
      · cases h
    · cases h
  · -- ldc2_w
    split at h
    · next v hv =>
      cases h
      exact lv_ldc2 hx hb hown (hts _ (w2 o _ (asc_mem hv))) hd (K H locs rfl hP hD hS (sv_c rfl hs))
    · split at h
      · next v hv =>
        cases h
        exact lv_ldc2d hx hb hown (hts _ (w3 o _ (asc_mem hv))) hd (K H locs rfl hP hD hS (sv_c rfl hs))
      · cases h
  · -- natives
    split at h
    · next hn =>
      split at h
      · next n0 dp k2 g2 sp k1 g1 =>
        split at h
        · next hc =>
          cases h
          obtain ⟨rfl, rfl, rfl, hlen⟩ := hc
          obtain ⟨c1, c2, c3, c4⟩ := w4 o _ (asc_mem hn)
          have ok2 := vok_ok (sv_h (sv_t (sv_t hs))) (by decide)
          have ok1 := vok_ok (sv_h (sv_t (sv_t (sv_t (sv_t hs))))) (by decide)
          obtain ⟨q1, hq1, hq10⟩ := wd_at (A := A) (ad := ad) (m := m) ok1
          obtain ⟨q2, hq2, hq20⟩ := wd_at (A := A) (ad := ad) (m := m) ok2
          have hb31 : nlen k1 < 2 ^ 31 := by unfold nlen; split <;> decide
          refine va_copyi hx hb hlsz hown (hts _ c1) (hts _ c2) (hts _ c3) (hts _ c4) hK hP.1 hD hS q1 q2 0 0 hq10 hq20 rfl rfl rfl (by decide) (by decide) (nI_pos hb31) (by rw [nI_clamp hb31]; show 0 + nlen k1 ≤ nlen k1; omega) (by rw [nI_clamp hb31, hlen]; show 0 + nlen k1 ≤ nlen k1; omega) (fun _ _ => rfl) hRf (Nat.le_trans (show ([] : List Nat).sum + (nativeFrameWords "java/lang/System" "arraycopy" 5 + 11) ≤ 30 by decide +kernel) hRl) hd (fun H1 locs1 hP1 hD1 hS1 => ?_)
          have ef : (fun i => (wC m k1 g1 (nlen k1) k2 g2).1 2 k2 g2 i) = va_cpy (fun i => m.1 2 k1 g1 i) (fun i => m.1 2 k2 g2 i) (0 : Int32).toNatClampNeg (0 : Int32).toNatClampNeg (nI (nlen k1)).toNatClampNeg := by
            funext i
            rw [nI_clamp hb31]
            simp only [wC, va_cpy, true_and]
            by_cases hi : i < nlen k1
            · rw [if_pos hi, if_pos ⟨Nat.zero_le _, by show i < 0 + nlen k1; omega⟩]
              show m.1 2 k1 g1 i = m.1 2 k1 g1 (0 + (i - 0))
              rw [Nat.zero_add, Nat.sub_zero]
            · rw [if_neg hi, if_neg]
              intro q
              exact hi (by have q2 : i < 0 + nlen k1 := q.2
                           omega)
          have ec : ce A ad (wC m k1 g1 (nlen k1) k2 g2) (2, k2, g2) = .inl (A.1, nlen k2, .inl (va_cpy (fun i => m.1 2 k1 g1 i) (fun i => m.1 2 k2 g2 i) (0 : Int32).toNatClampNeg (0 : Int32).toNatClampNeg (nI (nlen k1)).toNatClampNeg)) := by rw [← ef]; rfl
          have es := wd_set (A := A) (ad := ad) (m := m) hq2 ec (fun r2 ok2 ne => ce_same ok2 (wC_ne ne) (fun _ => rfl))
          rw [es] at hP1 hD1
          exact K H1 locs1 rfl (hr_wC hP hP1) hD1 hS1 (fun v hv => by cases hv)
        · cases h
      · cases h
    · next hn =>
      split at h
      · cases h
        obtain ⟨c1, c2, c3, c4⟩ := w5 o _ (asc_mem hn)
        exact vn_d2l hx hb hlsz hown (hts _ c1) (hts _ c2) (hts _ c3) (hts _ c4) hRf (Nat.le_trans (show ([] : List Nat).sum + 15 ≤ 30 by decide) hRl) hd (K H locs rfl hP hD hS (sv_c rfl (fun v hv => by cases hv)))
      · cases h
    · next hn =>
      split at h
      · next y x r =>
        split at h
        · next hc =>
          cases h
          obtain ⟨c1, c2, c3, c4⟩ := w6 o _ (asc_mem hn)
          exact va_mmax hx hb hlsz hown (hts _ c1) (hts _ c2) (hts _ c3) (hts _ c4) hRf (by rw [map_cat]; omega) hcl hsl hd (K H locs rfl hP hD hS (sv_c rfl (sv_t (sv_t hs))))
        · cases h
      · cases h
    · next hn =>
      split at h
      · next y x r =>
        split at h
        · next hc =>
          cases h
          obtain ⟨c1, c2, c3, c4⟩ := w7 o _ (asc_mem hn)
          exact va_mmin hx hb hlsz hown (hts _ c1) (hts _ c2) (hts _ c3) (hts _ c4) hRf (by rw [map_cat]; omega) hcl hsl hd (K H locs rfl hP hD hS (sv_c rfl (sv_t (sv_t hs))))
        · cases h
      · cases h
    · cases h
  · cases h
end SE
end
section
section GO
variable {A : AC} {D : va_G} {ad : PR → Nat} {Ba : Nat → Prop} {bs L9 : Nat} {xs : Nat → Int32}
/-- what holds of a method's start but its own code: the classes, the nest's words, the script -/
def TB (A : AC) (D : va_G) (Ba : Nat → Prop) (bs L9 : Nat) (xs : Nat → Int32) (s : State) : Prop := va_K D vwCl (tys A) s ∧ (∀ w ∈ NW, va_Nw w s) ∧ va_X bs L9 xs s s.heap ∧ bs < s.heap.size ∧ (∀ q, s.heap.size ≤ q → Ba q) ∧ ¬ Ba bs
def Cx (A : AC) (D : va_G) (Ba : Nat → Prop) (bs L9 : Nat) (xs : Nat → Int32) (M : MI) (p : Program) (R : Room) (s : State) (mi : MethodId) (args : Array Value) (meth : Method) (c : Code) : Prop :=
  p.tables.exec = Jvm.exec ∧ c.code = mB M ∧ c.maxLocals = mN M ∧ s.vm.findClass (RO (mO M)) = some mi.cls ∧ (∀ w ∈ BW, w.before args s = true) ∧ meth.sig.returnType = mRet M ∧ meth.locks = false ∧ mFr M ≤ R.frames ∧ mLo M ≤ R.locals ∧ 1 ≤ mFr M ∧ 30 ≤ mLo M ∧ dcG M ∧ TB A D Ba bs L9 xs s
theorem nw_nest {w : Cond} (h : w ∈ NW) : ∃ a i x h, w = .methodLinkNest a i x h := by
  have h2 := (List.mem_filter.mp h).2
  unfold isNest at h2
  split at h2
  · exact ⟨_, _, _, _, rfl⟩
  · cases h2
theorem tb_calling {U : State} {g : JFrame} {mk : MethodId} {a : Array Value} (h : TB A D Ba bs L9 xs U) : TB A D Ba bs L9 xs (U.calling g mk a) := by
  obtain ⟨h1, h2, h3, h4, h5, h6⟩ := h
  refine ⟨va_K.moved (u := U) (U := U.calling g mk a) (Vm.Alike.refl U.vm) h1, fun w hw => ?_, va_X.moved (u := U) (U := U.calling g mk a) (Vm.Alike.refl U.vm) h3, h4, h5, h6⟩
  obtain ⟨_, _, _, _, rfl⟩ := nw_nest hw
  exact va_Nw.same rfl (u := U) rfl (h2 _ hw)
theorem tb_moved {s U : State} {H : Heap} {locs : List Loc} (h : TB A D Ba bs L9 xs s) (hS : va_S Ba s.heap H locs) (hU : U.heap = H) (hW : s.WarmedH U.vm) : TB A D Ba bs L9 xs U := by
  obtain ⟨h1, h2, h3, h4, h5, h6⟩ := h
  refine ⟨va_K.moved hW.alike h1, fun w hw => ?_, ?_, by rw [hU]; exact Nat.lt_of_lt_of_le h4 hS.1, fun q hq => h5 q (by rw [hU] at hq; exact Nat.le_trans hS.1 hq), h6⟩
  · obtain ⟨_, _, _, _, rfl⟩ := nw_nest hw
    exact va_Nw.warmM hW (h2 _ hw)
  · rw [hU]
    exact (va_X.moved hW.alike h3).kept (hS.2.1 bs h4 h6)
theorem lvl_none {ad : PR → Nat} : ∀ (l : List (Option PV)) (i : Nat), lvl ad i (l ++ [none]) = lvl ad i l
  | [], i => rfl
  | none :: r, i => lvl_none r (i + 1)
  | some v :: r, i => by
    show (i, toV ad v) :: lvl ad (i + 1) (r ++ [none]) = (i, toV ad v) :: lvl ad (i + 1) r
    rw [lvl_none r (i + 1)]
theorem lvl_pad {ad : PR → Nat} : ∀ (n : Nat) (l : List (Option PV)), lvl ad 0 (lpad l n) = lvl ad 0 l
  | 0, l => rfl
  | n + 1, l => by
    show lvl ad 0 (lpad (l ++ [none]) n) = _
    rw [lvl_pad n, lvl_none]
theorem lpad_len : ∀ (n : Nat) (l : List (Option PV)), (lpad l n).length = l.length + n
  | 0, l => rfl
  | n + 1, l => by
    show (lpad (l ++ [none]) n).length = _
    rw [lpad_len n, List.length_append]
    show l.length + 1 + n = _
    omega
theorem lpad_get : ∀ (n : Nat) (l : List (Option PV)) (k : Nat) (v : PV), (lpad l n)[k]? = some (some v) → l[k]? = some (some v)
  | 0, l, k, v, h => h
  | n + 1, l, k, v, h => by
    have h2 := lpad_get n (l ++ [none]) k v h
    by_cases hk : k < l.length
    · rw [List.getElem?_append_left hk] at h2; exact h2
    · rw [List.getElem?_append_right (by omega)] at h2
      cases hkl : k - l.length with
      | zero => rw [hkl] at h2; cases h2
      | succ j => rw [hkl] at h2; cases h2
theorem lent_lvl {ad : PR → Nat} : ∀ (as : List PV) (i : Nat), lvl ad i (lent as) = lv_args i (as.map (toV ad))
  | [], i => rfl
  | v :: r, i => by
    unfold lent
    show _ = (i, toV ad v) :: lv_args (if (toV ad v).category = 2 then i + 2 else i + 1) (r.map (toV ad))
    rw [toV_cat]
    by_cases h : cat v = 2
    · rw [if_pos h, if_pos h]
      show (i, toV ad v) :: lvl ad (i + 1 + 1) (lent r) = _
      rw [lent_lvl r]
    · rw [if_neg h, if_neg h]
      show (i, toV ad v) :: lvl ad (i + 1) (lent r) = _
      rw [lent_lvl r]
theorem lent_len {ad : PR → Nat} : ∀ (as : List PV), (lg_sl (as.map (toV ad))).length = (lent as).length
  | [] => rfl
  | v :: r => by
    unfold lent
    show (lg_sl (toV ad v :: r.map (toV ad))).length = _
    unfold lg_sl
    rw [List.flatMap_cons, List.length_append]
    have ih := lent_len (ad := ad) r
    unfold lg_sl at ih
    rw [ih, toV_cat]
    by_cases h : cat v = 2
    · rw [if_pos h, if_pos h]; simp; omega
    · rw [if_neg h, if_neg h]; simp; omega
theorem lent_ok : ∀ (as : List PV), SV as → ∀ (k : Nat) (v : PV), (lent as)[k]? = some (some v) → vok v = true
  | [], _, k, v, h => by simp [lent] at h
  | w :: r, hs, k, v, h => by
    unfold lent at h
    by_cases hc : cat w = 2
    · rw [if_pos hc] at h
      match k, h with
      | 0, h => cases h; exact sv_h hs
      | 1, h => cases h
      | k + 2, h => exact lent_ok r (sv_t hs) k v h
    · rw [if_neg hc] at h
      match k, h with
      | 0, h => cases h; exact sv_h hs
      | k + 1, h => exact lent_ok r (sv_t hs) k v h
theorem lr_entry {as : List PV} {n : Nat} (hs : SV as) (hn : (lent as).length ≤ n) : LR ad n (lpad (lent as) (n - (lent as).length)) ((lg_sl (as.map (toV ad)) ++ List.replicate (n - (lg_sl (as.map (toV ad))).length) Slot.unset).toArray) := by
  refine ⟨by rw [lpad_len]; omega, ?_, fun k v h => lent_ok as hs k v (lpad_get _ _ k v h)⟩
  rw [lvl_pad, lent_lvl]
  exact lv_entry (as.map (toV ad)) (by rw [lent_len]; exact hn)
section ROWS
variable {p : Program} {l : Launch} {e : Env} {R : Room} {s : State} {mi : MethodId} {args : Array Value} {below : List Frame} {meth : Method} {c : Code} {H : Heap} {locs : List Loc} {cells slots : Nat} {Q : State → Prop} {pc : Nat} {ls : Array Slot} {st0 rest : List Value} {m m2 : PM} {v : Option PV}
/-- what a call brings -/
def Qc0 (A : AC) (D : va_G) (ad : PR → Nat) (Ba : Nat → Prop) (L9 : Nat) (xs : Nat → Int32) (v : Option PV) (m2 : PM) : Array Value → State → Outcome → State → Prop := fun _ st oc t => oc = .returned (v.map (toV ad)) ∧ (HR A D ad L9 xs m2 t.heap ∧ va_D Ba (wd A ad m2) ∧ ∀ u, v = some u → vok u = true) ∧ va_F Ba st t
theorem call_row {a : Array Value} (hr : va_Run p l e R s mi args below meth c H locs cells slots 0 0 (F0 mi pc ls st0) rest (Qc0 A D ad Ba L9 xs v m2 a) Ba) (hS : va_S Ba s.heap H locs)
    (kk : ∀ (H1 : Heap) (locs1 : List Loc), HR A D ad L9 xs m2 H1 → va_D Ba (wd A ad m2) → (∀ u, v = some u → vok u = true) → va_S Ba s.heap H1 locs1 → W p l e R s mi args below meth c H1 locs1 cells slots Q (F0 mi (pc + 3) ls ((v.map (toV ad)).toList ++ rest))) : W p l e R s mi args below meth c H locs cells slots Q (F0 mi pc ls st0) := by
  intro T hT X
  obtain ⟨v2, st₀, t, T', L, h0, X', hL, e1, e2, ⟨hv, ⟨hb, hd9, hk9⟩, hz, hk⟩, st⟩ := hr T hT X
  cases hv
  rw [h0] at hz hk
  obtain ⟨t2, a1, b1⟩ := kk T'.heap (locs ++ L) (by rw [e1]; exact hb) hd9 hk9
    ⟨Nat.le_trans hS.1 (by rw [e1]; exact hz), fun q h1 h2 => by rw [e1, hk q (Nat.lt_of_lt_of_le h1 hS.1) h2]; exact hS.2.1 q h1 h2, fun q hq => by
      rcases List.mem_append.mp hq with h | h
      · exact hS.2.2 q h
      · exact hL q h⟩ T' rfl X'
  exact ⟨t2, st t2 a1, b1⟩
end ROWS
end GO
end
section
section GK
variable {A : AC} {D : va_G} {ad : PR → Nat} {Ba : Nat → Prop} {bs L9 : Nat} {xs : Nat → Int32}
section INS
variable {p : Program} {l : Launch} {e : Env} {R : Room} {s : State} {mi : MethodId} {args : Array Value} {below : List Frame} {meth : Method} {c : Code} {H : Heap} {locs : List Loc} {cells slots : Nat} {Q : State → Prop}
variable {M : MI} {pc pc2 n : Nat} {ls : Array Slot} {L L2 : List (Option PV)} {st st2 : List PV} {m m2 : PM} {i : Instr}
theorem ins_ok (hw : WOK) (had : ad (10, 0, 0) = bs) (C0 : Cx A D Ba bs L9 xs M p R s mi args meth c) (hcl : cells ≤ R.cells) (hsl : slots ≤ R.slots) (hP : HR A D ad L9 xs m H) (hD : va_D Ba (wd A ad m)) (hS : va_S Ba s.heap H locs) (hl : LR ad (mN M) L ls) (hs : SV st)
    (hd : decode (mB M) pc = .ok (i, n)) (h : sm_ins (mO M) i n pc L st m = some (pc2, L2, st2, m2))
    (K : ∀ (H1 : Heap) (locs1 : List Loc) (ls1 : Array Slot), HR A D ad L9 xs m2 H1 → va_D Ba (wd A ad m2) → va_S Ba s.heap H1 locs1 → LR ad (mN M) L2 ls1 → SV st2 → W p l e R s mi args below meth c H1 locs1 cells slots Q (F0 mi pc2 ls1 (st2.map (toV ad)))) : W p l e R s mi args below meth c H locs cells slots Q (F0 mi pc ls (st.map (toV ad))) := by
  obtain ⟨hx, hb, hml, hown, hts, hr, hlk, hRf, hRl, h1f, h30, hdc, hK, hN, hX, hbl, hA, hbA⟩ := C0
  unfold sm_ins at h
  cases ha : sm_a i n pc L st m with
  | some r =>
    rw [ha] at h; cases h
    exact sa_ok hx hb hl hs hd ha (fun eL em h2 => by subst eL; subst em; exact K H locs ls hP hD hS hl h2)
  | none =>
    rw [ha] at h
    cases hb2 : sm_b i n pc L st m with
    | some r =>
      rw [hb2] at h; cases h
      exact sb_ok hx hb hl hs hd hb2 (fun ls2 em h1 h2 => by subst em; exact K H locs ls2 hP hD hS h1 h2)
    | none =>
      rw [hb2] at h
      cases hc : sm_c i n pc L st m with
      | some r =>
        rw [hc] at h; cases h
        exact sc_ok hx hb hs hd hc (fun eL em h2 => by subst eL; subst em; exact K H locs ls hP hD hS hl h2)
      | none =>
        rw [hc] at h
        cases hd2 : sm_d i n pc L st m with
        | some r =>
          rw [hd2] at h; cases h
          exact sd_ok hx hb hs hd hd2 (fun eL em h2 => by subst eL; subst em; exact K H locs ls hP hD hS hl h2)
        | none =>
          rw [hd2] at h
          exact se_ok hw hx hb hml hown hts hK (Nat.le_trans h1f hRf) (Nat.le_trans h30 hRl) hcl hsl hX hbl hbA had hP hD hS hl hs hd h (fun H1 locs1 eL h1 h2 h3 h4 => by subst eL; exact K H1 locs1 ls h1 h2 h3 hl h4)
end INS
theorem dc_at {M : MI} {pc n : Nat} {i : Instr} (h : dcG M) (h1 : asc (mT M) pc = some (i, n)) : decode (mB M) pc = .ok (i, n) := by
  have h2 := h (pc, i, n) (asc_mem h1)
  dsimp only at h2
  exact h2
/-- a method's contract, out of its run -/
def mWs (M : MI) : List Cond := Cond.code (mY M) (mB M) (mN M) (mRet M) :: BW
def mRm (M : MI) : Room := { frames := mFr M, cells := 0, slots := 0, locals := mLo M }
def mPc (A : AC) (D : va_G) (ad : PR → Nat) (Ba : Nat → Prop) (bs L9 : Nat) (xs : Nat → Int32) (as : List PV) (m : PM) : Array Value → State → Prop := va_Pc (as.map (toV ad)) (fun U => HR A D ad L9 xs m U.heap ∧ TB A D Ba bs L9 xs U)
/-- what a run is worth -/
def GoOK (A : AC) (D : va_G) (ad : PR → Nat) (Ba : Nat → Prop) (bs L9 : Nat) (xs : Nat → Int32) (l : Launch) (M : MI) (pc : Nat) (L : List (Option PV)) (st : List PV) (m : PM) (r : PS) : Prop :=
  ∀ (p : Program) (e : Env) (R : Room) (s : State) (mi : MethodId) (args : Array Value) (below : List Frame) (meth : Method) (c : Code) (H : Heap) (locs : List Loc) (cells slots : Nat) (Q : State → Prop) (ls : Array Slot),
    Cx A D Ba bs L9 xs M p R s mi args meth c → cells ≤ R.cells → slots ≤ R.slots → HR A D ad L9 xs m H → va_D Ba (wd A ad m) → va_S Ba s.heap H locs → LR ad (mN M) L ls → SV st →
    (∀ (H1 : Heap) (locs1 : List Loc) (ls1 : Array Slot), HR A D ad L9 xs r.2.2.2 H1 → va_D Ba (wd A ad r.2.2.2) → va_S Ba s.heap H1 locs1 → LR ad (mN M) r.2.1 ls1 → SV r.2.2.1 → W p l e R s mi args below meth c H1 locs1 cells slots Q (F0 mi r.1 ls1 (r.2.2.1.map (toV ad)))) →
    W p l e R s mi args below meth c H locs cells slots Q (F0 mi pc ls (st.map (toV ad)))
theorem sm_ret_ok {M : MI} {pc : Nat} {st : List PV} {v : Option PV} (h : sm_ret M pc st = some v) :
    (asc (mT M) pc = some (.ireturn, 1) ∧ ∃ (x : Int32) (ty : FieldType), st = [vI x] ∧ mRet M = some ty ∧ narrow ty (.int x) = .int x ∧ v = some (vI x)) ∨
    (asc (mT M) pc = some (.lreturn, 1) ∧ ∃ x : Int64, st = [vL x] ∧ mRet M = some .long ∧ v = some (vL x)) ∨
    (asc (mT M) pc = some (.dreturn, 1) ∧ ∃ x : UInt64, st = [vD x] ∧ mRet M = some .double ∧ v = some (vD x)) ∨
    (asc (mT M) pc = some (.areturn, 1) ∧ ∃ x : Option PR, st = [.inr (.inr (.inr x))] ∧ mRet M = some (.object "HotPanLocks$State") ∧ v = some (.inr (.inr (.inr x)))) ∨
    (asc (mT M) pc = some (.return_, 1) ∧ st = [] ∧ mRet M = none ∧ v = none) := by
  unfold sm_ret at h
  split at h
  · next h1 =>
    left
    refine ⟨h1, ?_⟩
    split at h
    · next x =>
      by_cases h2 : mRet M = some .int
      · rw [if_pos h2] at h; cases h
        exact ⟨x, _, rfl, h2, rfl, rfl⟩
      · rw [if_neg h2] at h
        by_cases h3 : mRet M = some .boolean
        · rw [if_pos h3] at h
          by_cases h4 : x = 0
          · rw [if_pos h4] at h; cases h; subst h4
            exact ⟨0, _, rfl, h3, by decide, rfl⟩
          · rw [if_neg h4] at h
            by_cases h5 : x = 1
            · rw [if_pos h5] at h; cases h; subst h5
              exact ⟨1, _, rfl, h3, by decide, rfl⟩
            · rw [if_neg h5] at h; cases h
        · rw [if_neg h3] at h; cases h
    · cases h
  · next h1 =>
    right; left
    refine ⟨h1, ?_⟩
    split at h
    · next x =>
      by_cases h2 : mRet M = some .long
      · rw [if_pos h2] at h; cases h; exact ⟨x, rfl, h2, rfl⟩
      · rw [if_neg h2] at h; cases h
    · cases h
  · next h1 =>
    right; right; left
    refine ⟨h1, ?_⟩
    split at h
    · next x =>
      by_cases h2 : mRet M = some .double
      · rw [if_pos h2] at h; cases h; exact ⟨x, rfl, h2, rfl⟩
      · rw [if_neg h2] at h; cases h
    · cases h
  · next h1 =>
    right; right; right; left
    refine ⟨h1, ?_⟩
    split at h
    · next x =>
      by_cases h2 : mRet M = some (.object "HotPanLocks$State")
      · rw [if_pos h2] at h; cases h; exact ⟨x, rfl, h2, rfl⟩
      · rw [if_neg h2] at h; cases h
    · cases h
  · next h1 =>
    right; right; right; right
    refine ⟨h1, ?_⟩
    split at h
    · by_cases h2 : mRet M = none
      · rw [if_pos h2] at h; cases h; exact ⟨rfl, h2, rfl⟩
      · rw [if_neg h2] at h; cases h
    · cases h
  · cases h
/-- the end of a method -/
theorem end_row {p : Program} {l : Launch} {e : Env} {R : Room} {s : State} {mi : MethodId} {args : Array Value} {below : List Frame} {meth : Method} {c : Code} {H : Heap} {locs : List Loc} {cells slots : Nat} {M : MI} {pc : Nat} {st : List PV} {v : Option PV} {m2 : PM} {ls : Array Slot}
    (hx : p.tables.exec = Jvm.exec) (hb : c.code = mB M) (hr : meth.sig.returnType = mRet M) (hlk : meth.locks = false) (hdc : dcG M) (hP : HR A D ad L9 xs m2 H) (hD : va_D Ba (wd A ad m2)) (hs : SV st) (hS : va_S Ba s.heap H locs) (h : sm_ret M pc st = some v) :
    W p l e R s mi args below meth c H locs cells slots (MQ below (Qc0 A D ad Ba L9 xs v m2) args s cells slots Ba) (F0 mi pc ls (st.map (toV ad))) := by
  rcases sm_ret_ok h with ⟨h1, x, ty, rfl, h2, h3, rfl⟩ | ⟨h1, x, rfl, h2, rfl⟩ | ⟨h1, x, rfl, h2, rfl⟩ | ⟨h1, x, rfl, h2, rfl⟩ | ⟨h1, rfl, h2, rfl⟩
  · exact W.zret hx hb (hr.trans h2) h3 (fun t ht hW => ⟨rfl, ⟨by rw [ht]; exact hP, hD, fun u hu => by cases hu <;> first | rfl | exact sv_h hs⟩, hS.F ht⟩) hS.2.2 (dc_at hdc h1) hlk
  · exact W.lret hx hb (hr.trans h2) (fun t ht hW => ⟨rfl, ⟨by rw [ht]; exact hP, hD, fun u hu => by cases hu <;> first | rfl | exact sv_h hs⟩, hS.F ht⟩) hS.2.2 (dc_at hdc h1) hlk
  · exact W.dret hx hb (hr.trans h2) (fun t ht hW => ⟨rfl, ⟨by rw [ht]; exact hP, hD, fun u hu => by cases hu <;> first | rfl | exact sv_h hs⟩, hS.F ht⟩) hS.2.2 (dc_at hdc h1) hlk
  · refine W.aret (v := toV ad (.inr (.inr (.inr x)))) hx hb (hr.trans h2) (Or.inl ⟨_, rfl⟩) ?_ (fun t ht hW => ⟨rfl, ⟨by rw [ht]; exact hP, hD, fun u hu => by cases hu <;> first | rfl | exact sv_h hs⟩, hS.F ht⟩) hS.2.2 (dc_at hdc h1) hlk
    cases x with
    | none => exact Or.inl rfl
    | some r => exact Or.inr ⟨_, rfl⟩
  · exact W.vret hx hb (hr.trans h2) (fun t ht hW => ⟨rfl, ⟨by rw [ht]; exact hP, hD, fun u hu => by cases hu <;> first | rfl | exact sv_h hs⟩, hS.F ht⟩) hS.2.2 (dc_at hdc h1) hlk
/-- a run to an answer gives the method's contract -/
theorem met_of {l : Launch} {M : MI} {as : List PV} {m m2 : PM} {v : Option PV} {pcE : Nat} {LE : List (Option PV)} {stE : List PV} (hg : miG M) (hdc : dcG M) (h1f : 1 ≤ mFr M) (h30 : 30 ≤ mLo M) (hD0 : va_D Ba (wd A ad m)) (hn : (lent as).length ≤ mN M) (hs : SV as)
    (G : GoOK A D ad Ba bs L9 xs l M 0 (lpad (lent as) (mN M - (lent as).length)) [] m (pcE, LE, stE, m2)) (hv : sm_ret M pcE stE = some v) :
    Met l (mY M) (mWs M) (mRm M) (mPc A D ad Ba bs L9 xs as m) (Qc0 A D ad Ba L9 xs v m2) 0 0 Ba := by
  obtain ⟨g1, g2, g3, g4, g5⟩ := hg
  refine Met.ofW (cc := mB M) (maxL := mN M) (ret := mRet M) g1 rfl ?_
  intro p e s mi args below meth c s₁ B hml hv0
  obtain ⟨rfl, hP, hT⟩ := hv0
  have hts := atoms_spec (ws := mWs M) B.pre
  have hown : s.vm.findClass (mY M).cls = some mi.cls := findClass_of_methodNamed B.named
  rw [lg_entry_eq]
  refine G p e _ s mi _ below meth c s.heap [] 0 0 _ _ ⟨B.exec, B.bytes, hml, by rw [g5]; exact hown, fun w hw => hts w (List.mem_cons_of_mem _ hw), B.returns, B.notSynchronized, Nat.le_refl _, Nat.le_refl _, h1f, h30, hdc, hT⟩ (Nat.zero_le _) (Nat.zero_le _) hP hD0 va_S.rf (lr_entry hs hn) (fun v h => nomatch h) ?_
  intro H1 locs1 ls1 hP1 hD1 hS1 hl1 hs1
  exact end_row B.exec B.bytes B.returns B.notSynchronized hdc hP1 hD1 hs1 hS1 hv
theorem good_in {ws : List Cond} (h : ∀ w ∈ ws, w ∈ BW) : GoodIn BW ws := fun w hw => ⟨h w hw, good_of_word (bw_gw (h w hw))⟩
theorem mws_in {M : MI} (hg : miG M) : ∀ w ∈ mWs M, w ∈ BW := fun w hw => (List.mem_cons.mp hw).elim (fun e => by rw [e]; exact hg.2.1) id
theorem pc_pre {s : State} {H : Heap} {locs : List Loc} {as : List PV} {m : PM} (hT : TB A D Ba bs L9 xs s) (hS : va_S Ba s.heap H locs) (hP : HR A D ad L9 xs m H) : FrameBlind (mPc A D ad Ba bs L9 xs as m) ∧ ∀ U : State, U.heap = H → s.WarmedH U.vm → mPc A D ad Ba bs L9 xs as m (as.map (toV ad)).toArray U :=
  ⟨fun a U g mk q => ⟨q.1, q.2.1, tb_calling q.2.2⟩, fun U hU hW => ⟨rfl, by rw [hU]; exact hP, tb_moved hT hS hU hW⟩⟩
set_option maxHeartbeats 4000000 in
theorem go_ok (hw : WOK) (hdcs : ∀ o, ∀ q ∈ clk o, dcG q.2.2) (had : ad (10, 0, 0) = bs) (l : Launch) : ∀ (n : Nat) (M : MI) (pc : Nat) (L : List (Option PV)) (st : List PV) (m : PM) (r : PS), sm_go n M pc L st m = some r → GoOK A D ad Ba bs L9 xs l M pc L st m r := by
  intro n
  induction n with
  | zero => intro M pc L st m r h; cases h
  | succ n ih =>
    intro M pc L st m r h p e R s mi args below meth c H locs cells slots Q ls C0 hcl hsl hP hD hS hl hs K
    obtain ⟨hx, hb, hml, hown, hts, hr, hlk, hRf, hRl, h1f, h30, hdc, hT⟩ := id C0
    unfold sm_go at h
    cases h1 : asc (mT M) pc with
    | none => rw [h1] at h; cases h
    | some q =>
      obtain ⟨i, len⟩ := q
      have hd : decode (mB M) pc = .ok (i, len) := dc_at hdc h1
      rw [h1] at h
      dsimp only at h
      cases h2 : sm_ins (mO M) i len pc L st m with
      | some q =>
        obtain ⟨pc2, L2, st2, m2⟩ := q
        rw [h2] at h
        exact ins_ok hw had C0 hcl hsl hP hD hS hl hs hd h2 (fun H1 locs1 ls1 a1 a2 a3 a4 a5 => ih M pc2 L2 st2 m2 r h p e R s mi args below meth c H1 locs1 cells slots Q ls1 C0 hcl hsl a1 a2 a3 a4 a5 K)
      | none =>
        rw [h2] at h
        dsimp only at h
        cases h3 : sm_cal M i st with
        | none =>
          rw [h3] at h
          dsimp only at h
          by_cases h4 : sm_stop i = true
          · rw [if_pos h4] at h; cases h
            exact K H locs ls hP hD hS hl hs
          · rw [if_neg h4] at h; cases h
        | some q =>
          obtain ⟨M2, as, rest⟩ := q
          rw [h3] at h
          dsimp only at h
          by_cases h4 : len = 3 ∧ sm_fit M M2 as rest = true
          · rw [if_pos h4] at h
            obtain ⟨rfl, hfit⟩ := h4
            simp only [sm_fit, Bool.and_eq_true, decide_eq_true_eq] at hfit
            obtain ⟨⟨⟨⟨⟨f1, f2⟩, f3⟩, f4⟩, f5⟩, f6⟩ := hfit
            cases h5 : sm_go n M2 0 (lpad (lent as) (mN M2 - (lent as).length)) [] m with
            | none => rw [h5] at h; cases h
            | some q =>
              obtain ⟨pcE, LE, stE, m2⟩ := q
              rw [h5] at h
              dsimp only at h
              cases h6 : sm_ret M2 pcE stE with
              | none => rw [h6] at h; cases h
              | some v =>
                rw [h6] at h
                dsimp only at h
                have G := ih M2 0 _ [] m _ h5
                have hRR : (mRm M2).frames + 1 ≤ R.frames ∧ 8 + (mN M2 + 11) + (mRm M2).locals ≤ R.locals := ⟨Nat.le_trans f1 hRf, Nat.le_trans f4 hRl⟩
                -- behind the call
                have after : SV rest → ∀ (H1 : Heap) (locs1 : List Loc), HR A D ad L9 xs m2 H1 → va_D Ba (wd A ad m2) → (∀ u, v = some u → vok u = true) → va_S Ba s.heap H1 locs1 → W p l e R s mi args below meth c H1 locs1 cells slots Q (F0 mi (pc + 3) ls ((v.map (toV ad)).toList ++ rest.map (toV ad))) := by
                  intro a4 H1 locs1 a1 a2 a6 a3
                  have k := ih M (pc + 3) L (v.toList ++ rest) m2 r h p e R s mi args below meth c H1 locs1 cells slots Q ls C0 hcl hsl a1 a2 a3 hl (fun u hu => by
                    rcases List.mem_append.mp hu with q | q
                    · cases v with
                      | none => cases q
                      | some z => exact a6 u (by rw [List.mem_singleton.mp q])
                    · exact a4 u q) K
                  cases v with
                  | none => exact k
                  | some z => exact k
                have hroom : 2 * (F0 mi pc ls (st.map (toV ad))).monitorRoom + ((rest.map (toV ad)).map fun v => v.category).sum ≤ 8 := lv_room (by rw [map_cat]; exact f5)
                have Sx : CallFix p mi c (mB M) (mN M) s args BW (RO (mO M)) := ⟨hx, hb, hml, hown, hts⟩
                unfold sm_cal at h3
                split at h3
                · next x =>
                  split at h3
                  · next M3 hc =>
                    by_cases h7 : mPar M3 ≤ st.length
                    · rw [if_pos h7] at h3; cases h3
                      obtain ⟨k1, g⟩ := hw.2.2.2.2.2.2.2.2.2.2 (mO M) _ (asc_mem hc)
                      have hdc2 := hdcs (mO M) _ (asc_mem hc)
                      have hsa : SV ((st.take (mPar M2)).reverse) := fun u hu => hs u (List.mem_of_mem_take (List.mem_reverse.mp hu))
                      have hsr : SV (st.drop (mPar M2)) := fun u hu => hs u (List.mem_of_mem_drop hu)
                      have hM := met_of (l := l) g hdc2 f2 f3 hD f6 hsa G h6
                      have hp := pc_pre (as := (st.take (mPar M2)).reverse) hT hS hP
                      refine call_row (rest := (st.drop (mPar M2)).map (toV ad)) (va_runS (As := ((st.take (mPar M2)).reverse).map (toV ad)) (rest := (st.drop (mPar M2)).map (toV ad)) Sx hM (va_cwS (mPar M2) hts (good_in (fun w hw2 => ?_)) rfl rfl rfl g.2.2.2.1 hRR) hp rfl ?_ hl.2.1.1 ?_ hroom hd ⟨hcl, hsl⟩) hS (after hsr)
                      · unfold va_wsS at hw2
                        rcases List.mem_append.mp hw2 with q | q
                        · simp only [List.mem_cons, List.not_mem_nil, or_false] at q
                          rcases q with rfl | rfl | rfl
                          · exact k1.1
                          · exact k1.2
                          · exact g.2.2.1
                        · exact mws_in g w q
                      · rw [List.length_map, List.length_reverse, List.length_take]; omega
                      · show st.map (toV ad) = _
                        rw [← List.map_reverse, List.reverse_reverse, ← List.map_append, List.take_append_drop]
                    · rw [if_neg h7] at h3; cases h3
                  · next M3 hc =>
                    by_cases h7 : mPar M3 ≤ st.length
                    · rw [if_pos h7] at h3; cases h3
                      obtain ⟨k1, g⟩ := hw.2.2.2.2.2.2.2.2.2.2 (mO M) _ (asc_mem hc)
                      have hdc2 := hdcs (mO M) _ (asc_mem hc)
                      have hsa : SV ((st.take (mPar M2)).reverse) := fun u hu => hs u (List.mem_of_mem_take (List.mem_reverse.mp hu))
                      have hsr : SV (st.drop (mPar M2)) := fun u hu => hs u (List.mem_of_mem_drop hu)
                      have hM := met_of (l := l) g hdc2 f2 f3 hD f6 hsa G h6
                      have hp := pc_pre (as := (st.take (mPar M2)).reverse) hT hS hP
                      obtain ⟨⟨host, k2⟩, k3⟩ := k1
                      have hi : (Cond.initialized (mY M2).cls).before args s = true := hts _ g.2.2.1
                      refine call_row (rest := (st.drop (mPar M2)).map (toV ad)) (va_runSN (As := ((st.take (mPar M2)).reverse).map (toV ad)) (rest := (st.drop (mPar M2)).map (toV ad)) Sx hM ⟨va_cnB (mPar M2) hts (good_in (mws_in g)) rfl rfl rfl (hT.2.1 _ k2) hi g.2.2.2.1 hRR, hts _ k3, trivial⟩ hp rfl ?_ hl.2.1.1 ?_ hroom hd ⟨hcl, hsl⟩) hS (after hsr)
                      · rw [List.length_map, List.length_reverse, List.length_take]; omega
                      · show st.map (toV ad) = _
                        rw [← List.map_reverse, List.reverse_reverse, ← List.map_append, List.take_append_drop]
                    · rw [if_neg h7] at h3; cases h3
                  · cases h3
                · next x =>
                  split at h3
                  · next M3 hc =>
                    split at h3
                    · next t k g0 hrc =>
                      split at h3
                      · next ht =>
                        cases h3
                        obtain ⟨k1, g⟩ := hw.2.2.2.2.2.2.2.2.2.2 (mO M) _ (asc_mem hc)
                        have hdc2 := hdcs (mO M) _ (asc_mem hc)
                        obtain ⟨k2, k3, k4, k5⟩ := k1
                        have hpl : mPar M2 < st.length := (List.getElem?_eq_some_iff.mp hrc).1
                        have etk : st.take (mPar M2 + 1) = st.take (mPar M2) ++ [vR t k g0] := by
                          rw [List.take_add_one, hrc]; rfl
                        have hsa : SV ((st.take (mPar M2 + 1)).reverse) := fun u hu => hs u (List.mem_of_mem_take (List.mem_reverse.mp hu))
                        have hsr : SV (st.drop (mPar M2 + 1)) := fun u hu => hs u (List.mem_of_mem_drop hu)
                        have hM := met_of (l := l) g hdc2 f2 f3 hD f6 hsa G h6
                        have hp := pc_pre (as := (st.take (mPar M2 + 1)).reverse) hT hS hP
                        have ear : ((st.take (mPar M2 + 1)).reverse).map (toV ad) = .ref (ad (t, k, g0)) :: ((st.take (mPar M2)).reverse).map (toV ad) := by
                          rw [etk, List.reverse_append]; rfl
                        have hvr : vok (vR t k g0) = true := hs _ (List.mem_of_getElem? hrc)
                        have hok := vok_ok hvr (tcl_ne ht)
                        obtain ⟨q0, hq, hq0⟩ := wd_at (A := A) (ad := ad) (m := m) hok
                        have hce : ∃ fs, ce A ad m (t, k, g0) = .inr (mO M2, fs) := by
                          have h10 := (okW_lt hok).1
                          rcases (show t = 0 ∨ t = 1 ∨ t = 2 ∨ t = 3 ∨ t = 4 ∨ t = 5 ∨ t = 6 ∨ t = 7 ∨ t = 8 ∨ t = 9 by omega) with rfl | rfl | rfl | rfl | rfl | rfl | rfl | rfl | rfl | rfl <;> simp [tcl] at ht <;> rw [← ht] <;> exact ⟨_, rfl⟩
                        obtain ⟨fs, hce⟩ := hce
                        rw [hce] at hq0
                        obtain ⟨qc, hqc, hqn⟩ := Option.map_eq_some_iff.mp k5
                        have hrv := va_recv hT.1 hP.1 hqc hq0
                        rw [hqn] at hrv
                        rw [ear] at hp
                        unfold mPc at hM hp
                        rw [ear] at hM hp
                        refine call_row (rest := (st.drop (mPar M2 + 1)).map (toV ad)) (va_runV (b := ad (t, k, g0)) (As := ((st.take (mPar M2)).reverse).map (toV ad)) (rest := (st.drop (mPar M2 + 1)).map (toV ad)) Sx hM (cwV (mPar M2) hts (good_in (fun w hw2 => ?_)) rfl rfl rfl ⟨rfl, g.2.2.2.1⟩ hRR) ⟨hp.1, hrv, hp.2⟩ rfl ?_ hl.2.1.1 ?_ hroom hd ⟨hcl, hsl⟩) hS (after hsr)
                        · unfold wsV at hw2
                          rcases List.mem_append.mp hw2 with q | q
                          · simp only [List.mem_cons, List.not_mem_nil, or_false] at q
                            rcases q with rfl | rfl | rfl | rfl
                            · exact k2
                            · exact k3
                            · exact k4
                            · exact g.2.2.1
                          · exact mws_in g w q
                        · rw [List.length_map, List.length_reverse, List.length_take]; omega
                        · show st.map (toV ad) = _
                          rw [← List.map_reverse, List.reverse_reverse]
                          have e3 : st = st.take (mPar M2) ++ vR t k g0 :: st.drop (mPar M2 + 1) := by
                            have e4 : st = st.take (mPar M2 + 1) ++ st.drop (mPar M2 + 1) := (List.take_append_drop _ _).symm
                            rw [etk, List.append_assoc] at e4
                            exact e4
                          have e5 := congrArg (List.map (toV ad)) e3
                          rw [List.map_append] at e5
                          exact e5
                      · cases h3
                    · cases h3
                  · cases h3
                · cases h3
          · rw [if_neg h4] at h; cases h
end GK
end
section
/-! less known of the locals: what runs so, runs so with more known -/
def LE : List (Option PV) → List (Option PV) → Prop
  | [], [] => True
  | none :: r, _ :: q => LE r q
  | some a :: r, some b :: q => a = b ∧ LE r q
  | _, _ => False
theorem le_len : ∀ {L K : List (Option PV)}, LE L K → L.length = K.length
  | [], [], _ => rfl
  | [], _ :: _, h => h.elim
  | none :: r, [], h => h.elim
  | some a :: r, [], h => h.elim
  | none :: r, b :: q, h => by simp only [List.length_cons]; rw [le_len (L := r) (K := q) h]
  | some a :: r, none :: q, h => h.elim
  | some a :: r, some b :: q, h => by simp only [List.length_cons]; rw [le_len h.2]
theorem le_get : ∀ {L K : List (Option PV)}, LE L K → ∀ {k : Nat} {v : PV}, L[k]? = some (some v) → K[k]? = some (some v)
  | [], [], _, k, v, h => h
  | [], _ :: _, h, _, _, _ => h.elim
  | none :: r, [], h, _, _, _ => h.elim
  | some a :: r, [], h, _, _, _ => h.elim
  | none :: r, b :: q, h, 0, v, hk => by cases hk
  | none :: r, b :: q, h, k + 1, v, hk => le_get (L := r) (K := q) h (k := k) hk
  | some a :: r, none :: q, h, _, _, _ => h.elim
  | some a :: r, some b :: q, h, 0, v, hk => by rw [← h.1]; exact hk
  | some a :: r, some b :: q, h, k + 1, v, hk => le_get h.2 (k := k) hk
theorem le_refl : ∀ (L : List (Option PV)), LE L L
  | [] => trivial
  | none :: r => le_refl r
  | some a :: r => ⟨rfl, le_refl r⟩
theorem le_set : ∀ {L K : List (Option PV)}, LE L K → ∀ (k : Nat) (x : Option PV), LE (L.set k x) (K.set k x)
  | [], [], _, k, x => trivial
  | [], _ :: _, h, _, _ => h.elim
  | none :: r, [], h, _, _ => h.elim
  | some a :: r, [], h, _, _ => h.elim
  | none :: r, b :: q, h, 0, none => h
  | none :: r, b :: q, h, 0, some v => ⟨rfl, h⟩
  | none :: r, b :: q, h, k + 1, x => le_set (L := r) (K := q) h k x
  | some a :: r, none :: q, h, _, _ => h.elim
  | some a :: r, some b :: q, h, 0, none => h.2
  | some a :: r, some b :: q, h, 0, some v => ⟨rfl, h.2⟩
  | some a :: r, some b :: q, h, k + 1, x => ⟨h.1, le_set h.2 k x⟩
theorem le_setn : ∀ {L K : List (Option PV)}, LE L K → ∀ (k : Nat), LE (L.set k none) K
  | [], [], _, k => trivial
  | [], _ :: _, h, _ => h.elim
  | none :: r, [], h, _ => h.elim
  | some a :: r, [], h, _ => h.elim
  | none :: r, b :: q, h, 0 => h
  | none :: r, b :: q, h, k + 1 => le_setn (L := r) (K := q) h k
  | some a :: r, none :: q, h, _ => h.elim
  | some a :: r, some b :: q, h, 0 => h.2
  | some a :: r, some b :: q, h, k + 1 => ⟨h.1, le_setn h.2 k⟩
theorem le_clr {L K : List (Option PV)} (h : LE L K) (i : Nat) : LE (clr L i) (clr K i) := by
  unfold clr
  cases i with
  | zero => exact h
  | succ j =>
    dsimp only
    cases hk : K[j]? with
    | none =>
      have hl : L[j]? = none := by
        rw [List.getElem?_eq_none_iff] at hk ⊢
        rw [le_len h]; exact hk
      rw [hl]; exact h
    | some o =>
      cases hl : L[j]? with
      | none =>
        rw [List.getElem?_eq_none_iff, le_len h] at hl
        rw [List.getElem?_eq_none_iff.mpr hl] at hk
        cases hk
      | some a =>
        cases a with
        | none =>
          cases o with
          | none => exact h
          | some w =>
            dsimp only
            split
            · have h2 := le_set h j none
              have e : L.set j none = L := by
                apply List.ext_getElem?
                intro q
                by_cases hq : q = j
                · subst hq
                  rw [List.getElem?_set_self (List.getElem?_eq_some_iff.mp hl).1, hl]
                · rw [List.getElem?_set_ne (Ne.symm hq)]
              rw [e] at h2
              exact h2
            · exact h
        | some w =>
          have h3 := le_get h hl
          rw [hk] at h3
          cases h3
          dsimp only
          split
          · exact le_set h j none
          · exact h
theorem le_lset {L K L2 : List (Option PV)} (h : LE L K) {i : Nat} {v : PV} (e : lset L i v = some L2) : ∃ K2, lset K i v = some K2 ∧ LE L2 K2 := by
  obtain ⟨hi, rfl⟩ := lset_len e
  exact ⟨_, by unfold lset; rw [if_pos (by rw [← le_len h]; exact hi)], le_set (le_clr h i) i (some v)⟩
theorem le_lset2 {L K L2 : List (Option PV)} (h : LE L K) {i : Nat} {v : PV} (e : lset2 L i v = some L2) : ∃ K2, lset2 K i v = some K2 ∧ LE L2 K2 := by
  obtain ⟨hi, rfl⟩ := lset2_len e
  exact ⟨_, by unfold lset2; rw [if_pos (by rw [← le_len h]; exact hi)], le_set (le_set (le_clr h i) i (some v)) (i + 1) none⟩
section LW
variable {o n pc pc2 : Nat} {L K L2 : List (Option PV)} {st st2 : List PV} {m m2 : PM} {i : Instr}
theorem le_a (hL : LE L K) (h : sm_a i n pc L st m = some (pc2, L2, st2, m2)) : L2 = L ∧ sm_a i n pc K st m = some (pc2, K, st2, m2) := by
  unfold sm_a at h
  split at h
  · cases h; exact ⟨rfl, rfl⟩
  · cases h; exact ⟨rfl, rfl⟩
  · cases h; exact ⟨rfl, rfl⟩
  · cases h; exact ⟨rfl, rfl⟩
  · cases h; exact ⟨rfl, rfl⟩
  · cases h; exact ⟨rfl, rfl⟩
  · split at h
    · next hk => cases h; exact ⟨rfl, by unfold sm_a; simp only [le_get hL hk]⟩
    · cases h
  · split at h
    · next hk => cases h; exact ⟨rfl, by unfold sm_a; simp only [le_get hL hk]⟩
    · cases h
  · split at h
    · next hk => cases h; exact ⟨rfl, by unfold sm_a; simp only [le_get hL hk]⟩
    · cases h
  · split at h
    · next hk => cases h; exact ⟨rfl, by unfold sm_a; simp only [le_get hL hk]⟩
    · cases h
  · split at h
    · next hk => cases h; exact ⟨rfl, by unfold sm_a; simp only [le_get hL hk]⟩
    · cases h
  · split at h
    · next hk => cases h; exact ⟨rfl, by unfold sm_a; simp only [le_get hL hk]⟩
    · cases h
  · split at h
    · next hk => cases h; exact ⟨rfl, by unfold sm_a; simp only [le_get hL hk]⟩
    · cases h
  · split at h
    · next hk => cases h; exact ⟨rfl, by unfold sm_a; simp only [le_get hL hk]⟩
    · cases h
  · cases h
theorem le_b (hL : LE L K) (h : sm_b i n pc L st m = some (pc2, L2, st2, m2)) : ∃ K2, sm_b i n pc K st m = some (pc2, K2, st2, m2) ∧ LE L2 K2 := by
  unfold sm_b at h
  split at h
  · split at h
    · split at h
      · next hk => cases h; obtain ⟨K2, h1, h2⟩ := le_lset hL hk; exact ⟨K2, by unfold sm_b; simp only [h1], h2⟩
      · cases h
    · cases h
  · split at h
    · split at h
      · next hk => cases h; obtain ⟨K2, h1, h2⟩ := le_lset hL hk; exact ⟨K2, by unfold sm_b; simp only [h1], h2⟩
      · cases h
    · cases h
  · split at h
    · split at h
      · next hk => cases h; obtain ⟨K2, h1, h2⟩ := le_lset2 hL hk; exact ⟨K2, by unfold sm_b; simp only [h1], h2⟩
      · cases h
    · cases h
  · split at h
    · split at h
      · next hk => cases h; obtain ⟨K2, h1, h2⟩ := le_lset2 hL hk; exact ⟨K2, by unfold sm_b; simp only [h1], h2⟩
      · cases h
    · cases h
  · split at h
    · split at h
      · next hk => cases h; obtain ⟨K2, h1, h2⟩ := le_lset2 hL hk; exact ⟨K2, by unfold sm_b; simp only [h1], h2⟩
      · cases h
    · cases h
  · split at h
    · split at h
      · next hk => cases h; obtain ⟨K2, h1, h2⟩ := le_lset2 hL hk; exact ⟨K2, by unfold sm_b; simp only [h1], h2⟩
      · cases h
    · cases h
  · split at h
    · split at h
      · next hk => cases h; obtain ⟨K2, h1, h2⟩ := le_lset hL hk; exact ⟨K2, by unfold sm_b; simp only [h1], h2⟩
      · cases h
    · cases h
  · split at h
    · split at h
      · next hk => cases h; obtain ⟨K2, h1, h2⟩ := le_lset hL hk; exact ⟨K2, by unfold sm_b; simp only [h1], h2⟩
      · cases h
    · cases h
  · split at h
    · next hk0 =>
      split at h
      · next hk => cases h; obtain ⟨K2, h1, h2⟩ := le_lset hL hk; exact ⟨K2, by unfold sm_b; simp only [le_get hL hk0, h1], h2⟩
      · cases h
    · cases h
  · split at h
    · split at h
      · next hc => cases h; exact ⟨K, by unfold sm_b; simp only [if_pos hc], hL⟩
      · cases h
    · cases h
  · split at h
    · split at h
      · next hc =>
        split at h
        · next hc2 => cases h; exact ⟨K, by unfold sm_b; simp only [if_pos hc, if_pos hc2], hL⟩
        · cases h
      · cases h
    · cases h
  · split at h
    · split at h
      · next hc => cases h; exact ⟨K, by unfold sm_b; simp only [if_pos hc], hL⟩
      · cases h
    · cases h
  · cases h
theorem le_c (h : sm_c i n pc L st m = some (pc2, L2, st2, m2)) (K : List (Option PV)) : L2 = L ∧ sm_c i n pc K st m = some (pc2, K, st2, m2) := by
  unfold sm_c at h
  split at h
  iterate 18 (next => cases h; exact ⟨rfl, rfl⟩)
  iterate 3 (next =>
    split at h
    · next hc => cases h; exact ⟨rfl, by unfold sm_c; simp only [if_pos hc]⟩
    · cases h)
  next => cases h
set_option maxHeartbeats 4000000 in
theorem le_d (h : sm_d i n pc L st m = some (pc2, L2, st2, m2)) (K : List (Option PV)) : L2 = L ∧ sm_d i n pc K st m = some (pc2, K, st2, m2) := by
  unfold sm_d at h
  split at h
  all_goals (repeat' split at h)
  all_goals first
    | (cases h; done)
    | (simp only [Option.some.injEq, Prod.mk.injEq] at h
       obtain ⟨rfl, rfl, rfl, rfl⟩ := h
       refine ⟨rfl, ?_⟩
       unfold sm_d
       simp only [*, if_true, if_false, ite_true, ite_false, not_false_eq_true, not_true_eq_false]
       done)
    | (simp only [Option.some.injEq, Prod.mk.injEq] at h
       obtain ⟨rfl, rfl, rfl, rfl⟩ := h
       refine ⟨rfl, ?_⟩
       unfold sm_d
       simp [*])
set_option maxHeartbeats 4000000 in
theorem le_e (h : sm_e o i n pc L st m = some (pc2, L2, st2, m2)) (K : List (Option PV)) : L2 = L ∧ sm_e o i n pc K st m = some (pc2, K, st2, m2) := by
  unfold sm_e at h
  split at h
  all_goals (repeat' split at h)
  all_goals first
    | (cases h; done)
    | (simp only [Option.some.injEq, Prod.mk.injEq] at h
       obtain ⟨rfl, rfl, rfl, rfl⟩ := h
       refine ⟨rfl, ?_⟩
       unfold sm_e
       simp only [*, if_true, if_false, ite_true, ite_false, not_false_eq_true, not_true_eq_false]
       done)
    | (simp only [Option.some.injEq, Prod.mk.injEq] at h
       obtain ⟨rfl, rfl, rfl, rfl⟩ := h
       refine ⟨rfl, ?_⟩
       unfold sm_e
       simp [*])
end LW
end
section
section LW2
variable {o n pc pc2 : Nat} {L K L2 : List (Option PV)} {st st2 : List PV} {m m2 : PM} {i : Instr} {r : PS}
theorem b_na (h : sm_b i n pc L st m = some r) (K : List (Option PV)) : sm_a i n pc K st m = none := by
  unfold sm_b at h
  split at h
  all_goals first | (cases h; done) | rfl
theorem c_n (h : sm_c i n pc L st m = some r) (K : List (Option PV)) : sm_a i n pc K st m = none ∧ sm_b i n pc K st m = none := by
  unfold sm_c at h
  split at h
  all_goals first | (cases h; done) | exact ⟨rfl, rfl⟩
theorem d_n (h : sm_d i n pc L st m = some r) (K : List (Option PV)) : sm_a i n pc K st m = none ∧ sm_b i n pc K st m = none ∧ sm_c i n pc K st m = none := by
  unfold sm_d at h
  split at h
  all_goals first | (cases h; done) | (refine ⟨?_, ?_, ?_⟩ <;> rfl) | (refine ⟨?_, ?_, ?_⟩ <;> simp [sm_a, sm_b, sm_c])
theorem e_n (h : sm_e o i n pc L st m = some r) (K : List (Option PV)) : sm_a i n pc K st m = none ∧ sm_b i n pc K st m = none ∧ sm_c i n pc K st m = none ∧ sm_d i n pc K st m = none := by
  unfold sm_e at h
  split at h
  all_goals first | (cases h; done) | (refine ⟨?_, ?_, ?_, ?_⟩ <;> rfl) | (refine ⟨?_, ?_, ?_, ?_⟩ <;> simp [sm_a, sm_b, sm_c, sm_d])
theorem le_ins (hL : LE L K) (h : sm_ins o i n pc L st m = some (pc2, L2, st2, m2)) : ∃ K2, sm_ins o i n pc K st m = some (pc2, K2, st2, m2) ∧ LE L2 K2 := by
  unfold sm_ins at h
  cases ha : sm_a i n pc L st m with
  | some r =>
    rw [ha] at h; cases h
    obtain ⟨rfl, h2⟩ := le_a hL ha
    exact ⟨K, by unfold sm_ins; rw [h2], hL⟩
  | none =>
    rw [ha] at h
    cases hb : sm_b i n pc L st m with
    | some r =>
      rw [hb] at h; cases h
      obtain ⟨K2, h2, h3⟩ := le_b hL hb
      exact ⟨K2, by unfold sm_ins; rw [b_na hb K, h2], h3⟩
    | none =>
      rw [hb] at h
      cases hc : sm_c i n pc L st m with
      | some r =>
        rw [hc] at h; cases h
        obtain ⟨rfl, h2⟩ := le_c hc K
        obtain ⟨n1, n2⟩ := c_n hc K
        exact ⟨K, by unfold sm_ins; rw [n1, n2, h2], hL⟩
      | none =>
        rw [hc] at h
        cases hd : sm_d i n pc L st m with
        | some r =>
          rw [hd] at h; cases h
          obtain ⟨rfl, h2⟩ := le_d hd K
          obtain ⟨n1, n2, n3⟩ := d_n hd K
          exact ⟨K, by unfold sm_ins; rw [n1, n2, n3, h2], hL⟩
        | none =>
          rw [hd] at h
          obtain ⟨rfl, h2⟩ := le_e (show sm_e o i n pc L st m = some (pc2, L2, st2, m2) from h) K
          obtain ⟨n1, n2, n3, n4⟩ := e_n h K
          exact ⟨K, by unfold sm_ins; rw [n1, n2, n3, n4, h2], hL⟩
theorem ins_none {M : MI} (h : sm_ins o i n pc L st m = none) (hc : (∃ q, sm_cal M i st = some q) ∨ sm_stop i = true) (K : List (Option PV)) : sm_ins o i n pc K st m = none := by
  have key : ∀ K : List (Option PV), sm_a i n pc K st m = none ∧ sm_b i n pc K st m = none ∧ sm_c i n pc K st m = none ∧ sm_d i n pc K st m = none := by
    intro K
    rcases hc with ⟨q, hq⟩ | hq
    · unfold sm_cal at hq
      split at hq
      · refine ⟨?_, ?_, ?_, ?_⟩ <;> rfl
      · refine ⟨?_, ?_, ?_, ?_⟩ <;> rfl
      · cases hq
    · unfold sm_stop at hq
      split at hq
      all_goals first | (cases hq; done) | (refine ⟨?_, ?_, ?_, ?_⟩ <;> rfl)
  obtain ⟨a1, a2, a3, a4⟩ := key K
  obtain ⟨b1, b2, b3, b4⟩ := key L
  unfold sm_ins at h ⊢
  rw [b1, b2, b3, b4] at h
  rw [a1, a2, a3, a4]
  cases he : sm_e o i n pc K st m with
  | none => rfl
  | some r =>
    obtain ⟨x1, x2, x3, x4⟩ := r
    have h2 := (le_e he L).2
    dsimp only at h
    rw [h2] at h
    cases h
end LW2
theorem le_go {n : Nat} : ∀ {M : MI} {pc : Nat} {L K : List (Option PV)} {st : List PV} {m : PM} {r : PS}, LE L K → sm_go n M pc L st m = some r → ∃ K2, sm_go n M pc K st m = some (r.1, K2, r.2.2.1, r.2.2.2) ∧ LE r.2.1 K2 := by
  induction n with
  | zero => intro M pc L K st m r hL h; cases h
  | succ n ih =>
    intro M pc L K st m r hL h
    unfold sm_go at h
    cases h1 : asc (mT M) pc with
    | none => rw [h1] at h; cases h
    | some q =>
      obtain ⟨i, len⟩ := q
      rw [h1] at h
      dsimp only at h
      cases h2 : sm_ins (mO M) i len pc L st m with
      | some q =>
        obtain ⟨pc2, L2, st2, m2⟩ := q
        rw [h2] at h
        obtain ⟨K2, h3, h4⟩ := le_ins hL h2
        obtain ⟨K3, h5, h6⟩ := ih h4 h
        refine ⟨K3, ?_, h6⟩
        unfold sm_go
        rw [h1]; dsimp only
        rw [h3]; exact h5
      | none =>
        rw [h2] at h
        dsimp only at h
        cases h3 : sm_cal M i st with
        | none =>
          rw [h3] at h
          dsimp only at h
          by_cases h4 : sm_stop i = true
          · rw [if_pos h4] at h; cases h
            refine ⟨K, ?_, hL⟩
            unfold sm_go
            rw [h1]; dsimp only
            rw [ins_none (M := M) h2 (Or.inr h4) K]; dsimp only
            rw [h3]; dsimp only
            rw [if_pos h4]
          · rw [if_neg h4] at h; cases h
        | some q =>
          obtain ⟨M2, as, rest⟩ := q
          rw [h3] at h
          dsimp only at h
          by_cases h4 : len = 3 ∧ sm_fit M M2 as rest = true
          · rw [if_pos h4] at h
            cases h5 : sm_go n M2 0 (lpad (lent as) (mN M2 - (lent as).length)) [] m with
            | none => rw [h5] at h; cases h
            | some q =>
              obtain ⟨pcE, LE', stE, m2⟩ := q
              rw [h5] at h
              dsimp only at h
              cases h6 : sm_ret M2 pcE stE with
              | none => rw [h6] at h; cases h
              | some v =>
                rw [h6] at h
                dsimp only at h
                obtain ⟨K3, h7, h8⟩ := ih hL h
                refine ⟨K3, ?_, h8⟩
                unfold sm_go
                rw [h1]; dsimp only
                rw [ins_none (M := M) h2 (Or.inl ⟨_, h3⟩) K]; dsimp only
                rw [h3]; dsimp only
                rw [if_pos h4, h5]; dsimp only
                rw [h6]
                exact h7
          · rw [if_neg h4] at h; cases h
theorem an_weak {M : MI} {pc : Nat} {L K : List (Option PV)} {st : List PV} {m m2 : PM} {v : OC} (hL : LE L K) (h : An M pc L st m v m2) : An M pc K st m v m2 := by
  obtain ⟨a, b, c, ⟨n, h1⟩, h2⟩ := h
  obtain ⟨K2, h3, -⟩ := le_go hL h1
  exact ⟨a, K2, c, ⟨n, h3⟩, h2⟩
end
section
/-! walks put together -/
def AnS (M : MI) (s : PS) (v : OC) (m2 : PM) : Prop := match s with
  | (pc, L, st, m) => An M pc L st m v m2
def Re (M : MI) (s s2 : PS) : Prop := ∀ (v : OC) (m2 : PM), AnS M s2 v m2 → AnS M s v m2
section COMB
variable {M : MI} {t f pc : Nat} {L : List (Option PV)} {st : List PV} {m m1 m2 : PM} {v : OC}
theorem re_if0 {c : Prop} [Decidable c] {s : PS} (ht : c → Re M (t, L, st, m) s) (hf : ¬ c → Re M (f, L, st, m) s) : Re M (if c then t else f, L, st, m) s := by
  by_cases h : c
  · rw [if_pos h]; exact ht h
  · rw [if_neg h]; exact hf h
theorem re_if1 {c : Prop} [Decidable c] {α : Type} (G : α → PS) {a b : α} (ht : c → Re M (t, L, st, m) (G a)) (hf : ¬ c → Re M (f, L, st, m) (G b)) : Re M (if c then t else f, L, st, m) (G (if c then a else b)) := by
  by_cases h : c
  · rw [if_pos h, if_pos h]; exact ht h
  · rw [if_neg h, if_neg h]; exact hf h
theorem re_if2 {c : Prop} [Decidable c] {α β : Type} (G : α → β → PS) {a b : α} {x y : β} (ht : c → Re M (t, L, st, m) (G a x)) (hf : ¬ c → Re M (f, L, st, m) (G b y)) : Re M (if c then t else f, L, st, m) (G (if c then a else b) (if c then x else y)) := by
  by_cases h : c
  · rw [if_pos h, if_pos h, if_pos h]; exact ht h
  · rw [if_neg h, if_neg h, if_neg h]; exact hf h
theorem re_if3 {c : Prop} [Decidable c] {α β γ : Type} (G : α → β → γ → PS) {a b : α} {x y : β} {u w : γ} (ht : c → Re M (t, L, st, m) (G a x u)) (hf : ¬ c → Re M (f, L, st, m) (G b y w)) : Re M (if c then t else f, L, st, m) (G (if c then a else b) (if c then x else y) (if c then u else w)) := by
  by_cases h : c
  · rw [if_pos h, if_pos h, if_pos h, if_pos h]; exact ht h
  · rw [if_neg h, if_neg h, if_neg h, if_neg h]; exact hf h
theorem an_t {c : Prop} [Decidable c] (h : c) (k : An M t L st m v m2) : An M (if c then t else f) L st m v m2 := by rw [if_pos h]; exact k
theorem an_f {c : Prop} [Decidable c] (h : ¬ c) (k : An M f L st m v m2) : An M (if c then t else f) L st m v m2 := by rw [if_neg h]; exact k
theorem an_ifi {c : Prop} [Decidable c] {a b : Int32} (ht : c → An M t L st m (.inl (some (vI a))) m2) (hf : ¬ c → An M f L st m (.inl (some (vI b))) m2) : An M (if c then t else f) L st m (.inl (some (vI (if c then a else b)))) m2 := by
  by_cases h : c
  · rw [if_pos h, if_pos h]; exact ht h
  · rw [if_neg h, if_neg h]; exact hf h
theorem an_ifl {c : Prop} [Decidable c] {a b : Int64} (ht : c → An M t L st m (.inl (some (vL a))) m2) (hf : ¬ c → An M f L st m (.inl (some (vL b))) m2) : An M (if c then t else f) L st m (.inl (some (vL (if c then a else b)))) m2 := by
  by_cases h : c
  · rw [if_pos h, if_pos h]; exact ht h
  · rw [if_neg h, if_neg h]; exact hf h
theorem an_ifd {c : Prop} [Decidable c] {a b : UInt64} (ht : c → An M t L st m (.inl (some (vD a))) m2) (hf : ¬ c → An M f L st m (.inl (some (vD b))) m2) : An M (if c then t else f) L st m (.inl (some (vD (if c then a else b)))) m2 := by
  by_cases h : c
  · rw [if_pos h, if_pos h]; exact ht h
  · rw [if_neg h, if_neg h]; exact hf h
theorem an_ifim {c : Prop} [Decidable c] {a b : Int32} (ht : c → An M t L st m (.inl (some (vI a))) m1) (hf : ¬ c → An M f L st m (.inl (some (vI b))) m2) : An M (if c then t else f) L st m (.inl (some (vI (if c then a else b)))) (if c then m1 else m2) := by
  by_cases h : c
  · rw [if_pos h, if_pos h, if_pos h]; exact ht h
  · rw [if_neg h, if_neg h, if_neg h]; exact hf h
theorem an_ifm {c : Prop} [Decidable c] (ht : c → An M t L st m v m1) (hf : ¬ c → An M f L st m v m2) : An M (if c then t else f) L st m v (if c then m1 else m2) := by
  by_cases h : c
  · rw [if_pos h, if_pos h]; exact ht h
  · rw [if_neg h, if_neg h]; exact hf h
theorem an_ifo {c : Prop} [Decidable c] {a b : OC} (ht : c → An M t L st m a m1) (hf : ¬ c → An M f L st m b m2) : An M (if c then t else f) L st m (if c then a else b) (if c then m1 else m2) := by
  by_cases h : c
  · rw [if_pos h, if_pos h, if_pos h]; exact ht h
  · rw [if_neg h, if_neg h, if_neg h]; exact hf h
theorem an_ifp {c : Prop} [Decidable c] {a b : OC} (ht : c → An M t L st m a m2) (hf : ¬ c → An M f L st m b m2) : An M (if c then t else f) L st m (if c then a else b) m2 := by
  by_cases h : c
  · rw [if_pos h, if_pos h]; exact ht h
  · rw [if_neg h, if_neg h]; exact hf h
theorem an_cL {K : List (Option PV)} (h : L = K) (k : An M pc K st m v m2) : An M pc L st m v m2 := by rw [h]; exact k
end COMB
/-- n rounds from the j-th on -/
def lp {σ : Type} (f : Nat → σ → σ) (n j : Nat) (s : σ) : σ := if n = 0 then s else lp f (n - 1) (j + 1) (f j s)
termination_by n
decreasing_by omega
theorem lp_0 {σ : Type} (f : Nat → σ → σ) (j : Nat) (s : σ) : lp f 0 j s = s := by rw [lp, if_pos rfl]
theorem lp_s {σ : Type} (f : Nat → σ → σ) (n j : Nat) (s : σ) : lp f (n + 1) j s = lp f n (j + 1) (f j s) := by rw [lp, if_neg (by omega)]; rfl
def lq {σ ρ : Type} (f : Nat → σ → σ ⊕ ρ) (n j : Nat) (s : σ) : σ ⊕ ρ := if n = 0 then .inl s else match f j s with
  | .inl s2 => lq f (n - 1) (j + 1) s2
  | .inr r => .inr r
termination_by n
decreasing_by omega
theorem lq_0 {σ ρ : Type} (f : Nat → σ → σ ⊕ ρ) (j : Nat) (s : σ) : lq f 0 j s = .inl s := by rw [lq, if_pos rfl]
theorem lq_l {σ ρ : Type} {f : Nat → σ → σ ⊕ ρ} {n j : Nat} {s s2 : σ} (h : f j s = .inl s2) : lq f (n + 1) j s = lq f n (j + 1) s2 := by rw [lq, if_neg (by omega), h]; rfl
theorem lq_r {σ ρ : Type} {f : Nat → σ → σ ⊕ ρ} {n j : Nat} {s : σ} {r : ρ} (h : f j s = .inr r) : lq f (n + 1) j s = .inr r := by rw [lq, if_neg (by omega), h]
theorem re_lp {σ : Type} {M : MI} (f : Nat → σ → σ) (P : Nat → σ → PS) (N : Nat) (E : σ → PS) (step : ∀ j s, j < N → Re M (P j s) (P (j + 1) (f j s))) (exit : ∀ s, Re M (P N s) (E s)) : ∀ n j s, n + j = N → Re M (P j s) (E (lp f n j s)) := by
  intro n
  induction n with
  | zero =>
    intro j s h
    obtain rfl : j = N := by omega
    rw [lp_0]; exact exit s
  | succ n ih =>
    intro j s h v m2 k
    rw [lp_s] at k
    exact step j s (by omega) v m2 (ih (j + 1) (f j s) (by omega) v m2 k)
theorem re_lq {σ ρ : Type} {M : MI} (f : Nat → σ → σ ⊕ ρ) (P : Nat → σ → PS) (N : Nat) (E : σ ⊕ ρ → PS) (step : ∀ j s, j < N → ∀ (v : OC) (m2 : PM), (∀ s2, f j s = .inl s2 → AnS M (P (j + 1) s2) v m2) → (∀ r, f j s = .inr r → AnS M (E (.inr r)) v m2) → AnS M (P j s) v m2) (exit : ∀ s, Re M (P N s) (E (.inl s))) : ∀ n j s, n + j = N → Re M (P j s) (E (lq f n j s)) := by
  intro n
  induction n with
  | zero =>
    intro j s h
    obtain rfl : j = N := by omega
    rw [lq_0]; exact exit s
  | succ n ih =>
    intro j s h v m2 k
    refine step j s (by omega) v m2 (fun s2 e => ?_) (fun r e => ?_)
    · rw [lq_l e] at k; exact ih (j + 1) s2 (by omega) v m2 k
    · rw [lq_r e] at k; exact k
/-- a round that may answer: V, W of the whole -/
theorem an_lq {σ ρ : Type} {M : MI} (f : Nat → σ → σ ⊕ ρ) (P : Nat → σ → PS) (N : Nat) (V : σ ⊕ ρ → OC) (X : σ ⊕ ρ → PM) (step : ∀ j s, j < N → ∀ (v : OC) (m2 : PM), (∀ s2, f j s = .inl s2 → AnS M (P (j + 1) s2) v m2) → (∀ r, f j s = .inr r → v = V (.inr r) ∧ m2 = X (.inr r)) → AnS M (P j s) v m2) (exit : ∀ s, AnS M (P N s) (V (.inl s)) (X (.inl s))) : ∀ n j s, n + j = N → AnS M (P j s) (V (lq f n j s)) (X (lq f n j s)) := by
  intro n
  induction n with
  | zero =>
    intro j s h
    obtain rfl : j = N := by omega
    rw [lq_0]; exact exit s
  | succ n ih =>
    intro j s h
    refine step j s (by omega) _ _ (fun s2 e => ?_) (fun r e => ?_)
    · rw [lq_l e]; exact ih (j + 1) s2 (by omega)
    · rw [lq_r e]; exact ⟨rfl, rfl⟩
theorem bnd_lt {B : Int32} {j : Nat} (h : j < B.toNatClampNeg) : ¬ B ≤ nI j := by
  have h1 : B.toNatClampNeg = B.toInt.toNat := rfl
  have h2 : B.toInt < 2 ^ 31 := Int32.toInt_lt B
  have hj : j < 2 ^ 31 := by omega
  rw [Int32.le_iff_toInt_le, nI_toInt hj]
  omega
theorem bnd_ge {B : Int32} {j : Nat} (h : j = B.toNatClampNeg) : B ≤ nI j := by
  have h1 : B.toNatClampNeg = B.toInt.toNat := rfl
  have h2 : B.toInt < 2 ^ 31 := Int32.toInt_lt B
  have hj : j < 2 ^ 31 := by omega
  rw [Int32.le_iff_toInt_le, nI_toInt hj]
  omega
def lqv {σ : Type} (x : σ ⊕ σ) : σ := match x with
  | .inl s => s
  | .inr s => s
def lqr {σ ρ : Type} (g : σ → ρ) (x : σ ⊕ ρ) : ρ := match x with
  | .inl s => g s
  | .inr r => r
/-- a switch's target -/
def swt (x : Int32) (td : Nat) : List Nat → Nat → Nat
  | [], _ => td
  | t :: r, j => if x = nI j then t else swt x td r (j + 1)
theorem swt_out {x : Int32} {td : Nat} : ∀ {ts : List Nat} {j : Nat}, (∀ i, i < ts.length → ¬ x = nI (j + i)) → swt x td ts j = td
  | [], _, _ => rfl
  | t :: r, j, h => by
    show (if x = nI j then t else swt x td r (j + 1)) = td
    rw [if_neg (show ¬ x = nI j from h 0 (by simp))]
    exact swt_out (fun i hi => by rw [Nat.add_assoc, Nat.add_comm 1 i]; exact h (i + 1) (by simp; omega))
theorem swt_in {x : Int32} {td t : Nat} : ∀ {ts : List Nat} {j i : Nat}, ts[i]? = some t → x = nI (j + i) → j + ts.length < 2 ^ 31 → swt x td ts j = t
  | [], _, i, h, _, _ => by simp at h
  | a :: r, j, 0, h, hx, _ => by
    show (if x = nI j then a else swt x td r (j + 1)) = t
    rw [if_pos (show x = nI j from hx)]
    cases h; rfl
  | a :: r, j, i + 1, h, hx, hb => by
    have hl : i < r.length := (List.getElem?_eq_some_iff.mp (show r[i]? = some t from h)).1
    have hb2 : j + (r.length + 1) < 2 ^ 31 := hb
    show (if x = nI j then a else swt x td r (j + 1)) = t
    rw [if_neg (by rw [hx, nI_eq (by omega) (by omega)]; omega)]
    exact swt_in (i := i) h (by rw [hx]; congr 1; omega) (by omega)
theorem an_tsw {M : MI} {pc : Nat} {L : List (Option PV)} {st : List PV} {m m2 : PM} {v : OC} {x : Int32} {d hi : Int} {os : Array Int} {len : Nat} (ts : List Nat) (td : Nat) (h : asc (mT M) pc = some (.tableswitch d 0 hi os, len)) (hd : bt pc d = some td) (ho : os.toList.map (bt pc) = ts.map some) (hh : hi + 1 = (ts.length : Int) ∧ ts.length < 2 ^ 31) (k : An M (swt x td ts 0) L st m v m2) : An M pc L (vI x :: st) m v m2 := by
  refine an_b 1 (pc2 := swt x td ts 0) (L2 := L) (st2 := st) (m1 := m) ?_ k
  have e : sm_one M pc L (vI x :: st) m = some (swt x td ts 0, L, st, m) := by
    unfold sm_one
    rw [h]
    show sm_ins _ _ _ _ _ _ _ = _
    have e2 : sm_d (.tableswitch d 0 hi os) len pc L (vI x :: st) m = some (swt x td ts 0, L, st, m) := by
      unfold sm_d
      dsimp only
      by_cases hc : x.toInt < 0 ∨ hi < x.toInt
      · rw [if_pos hc, hd]
        dsimp only
        rw [swt_out]
        intro i hil q
        rw [q, Nat.zero_add, nI_toInt (by omega)] at hc
        omega
      · rw [if_neg hc]
        have hlt : (x.toInt - 0).toNat < ts.length := by omega
        have hsz : os.size = ts.length := by
          have := congrArg List.length ho
          rw [List.length_map, List.length_map, Array.length_toList] at this
          exact this
        have h1 : (os.toList.map (bt pc))[(x.toInt - 0).toNat]? = (ts.map some)[(x.toInt - 0).toNat]? := by rw [ho]
        rw [List.getElem?_map, List.getElem?_map] at h1
        obtain ⟨t, ht⟩ : ∃ t, ts[(x.toInt - 0).toNat]? = some t := ⟨_, List.getElem?_eq_getElem hlt⟩
        rw [ht] at h1
        obtain ⟨o, hoo⟩ : ∃ o, os.toList[(x.toInt - 0).toNat]? = some o := ⟨_, List.getElem?_eq_getElem (by rw [Array.length_toList]; omega)⟩
        rw [hoo] at h1
        have h2 : bt pc o = some t := Option.some.inj h1
        have h3 : os[(x.toInt - 0).toNat]? = some o := by rw [← Array.getElem?_toList]; exact hoo
        rw [h3]
        dsimp only
        rw [h2]
        dsimp only
        rw [swt_in (i := (x.toInt - 0).toNat) (j := 0) ht]
        · apply Int32.toInt_inj.mp
          rw [nI_toInt (by omega)]
          omega
        · omega
    unfold sm_ins
    have n1 : sm_a (.tableswitch d 0 hi os) len pc L (vI x :: st) m = none := by simp [sm_a]
    have n2 : sm_b (.tableswitch d 0 hi os) len pc L (vI x :: st) m = none := by simp [sm_b]
    have n3 : sm_c (.tableswitch d 0 hi os) len pc L (vI x :: st) m = none := by simp [sm_c]
    rw [n1, n2, n3, e2]
  show (match sm_one M pc L (vI x :: st) m with | some s2 => sm_many 0 M s2 | none => none) = _
  rw [e]
  rfl
end
section
/-! the methods that touch arrays: by hand -/
theorem one_iald {M : MI} {pc : Nat} {L : List (Option PV)} {r : List PV} {m m2 : PM} {t k g : Nat} {j : Int32} {v : OC} (N : Nat) (h : asc (mT M) pc = some (.iaload, 1)) (hN : ilen m t k = some N) (hj : ¬ (j < 0 ∨ N ≤ j.toNatClampNeg)) (kk : An M (pc + 1) L (vI (m.1 t k g j.toNatClampNeg) :: r) m v m2) : An M pc L (vI j :: vR t k g :: r) m v m2 := by
  refine an_b 1 (pc2 := pc + 1) (L2 := L) (st2 := vI (m.1 t k g j.toNatClampNeg) :: r) (m1 := m) ?_ kk
  have e : sm_one M pc L (vI j :: vR t k g :: r) m = some (pc + 1, L, vI (m.1 t k g j.toNatClampNeg) :: r, m) := by
    unfold sm_one
    rw [h]
    have e2 : sm_e (mO M) .iaload 1 pc L (vI j :: vR t k g :: r) m = some (pc + 1, L, vI (m.1 t k g j.toNatClampNeg) :: r, m) := by
      unfold sm_e
      simp only [hN, if_neg hj]
    exact e2
  show (match sm_one M pc L (vI j :: vR t k g :: r) m with | some s2 => sm_many 0 M s2 | none => none) = _
  rw [e]
  rfl
theorem one_iast {M : MI} {pc : Nat} {L : List (Option PV)} {r : List PV} {m m2 : PM} {t k g : Nat} {j x : Int32} {v : OC} (N : Nat) (h : asc (mT M) pc = some (.iastore, 1)) (hN : ilen m t k = some N) (ht : ¬ t = 10) (hj : ¬ (j < 0 ∨ N ≤ j.toNatClampNeg)) (kk : An M (pc + 1) L r (wI m t k g j.toNatClampNeg x) v m2) : An M pc L (vI x :: vI j :: vR t k g :: r) m v m2 := by
  refine an_b 1 (pc2 := pc + 1) (L2 := L) (st2 := r) (m1 := wI m t k g j.toNatClampNeg x) ?_ kk
  have e : sm_one M pc L (vI x :: vI j :: vR t k g :: r) m = some (pc + 1, L, r, wI m t k g j.toNatClampNeg x) := by
    unfold sm_one
    rw [h]
    have e2 : sm_e (mO M) .iastore 1 pc L (vI x :: vI j :: vR t k g :: r) m = some (pc + 1, L, r, wI m t k g j.toNatClampNeg x) := by
      unfold sm_e
      simp only [hN, if_neg ht, if_neg hj]
    exact e2
  show (match sm_one M pc L (vI x :: vI j :: vR t k g :: r) m with | some s2 => sm_many 0 M s2 | none => none) = _
  rw [e]
  rfl
theorem nlen_lt (k : Nat) : nlen k < 2 ^ 31 := by unfold nlen; split <;> decide
theorem in_of {i : Int32} {k : Nat} (h1 : ¬ i < 0) (h2 : ¬ nI (nlen k) ≤ i) : ¬ (i < 0 ∨ nlen k ≤ i.toNatClampNeg) := by
  rintro (q | q)
  · exact h1 q
  · apply h2
    obtain ⟨j, hj, rfl⟩ := nI_of h1
    rw [nI_clamp hj] at q
    exact nI_le q hj
/-- Numbers.at -/
def v_X1_at (m : PM) (k g : Nat) (i : Int32) : Int32 := if i < 0 then 0 else if nI (nlen k) ≤ i then 0 else m.1 2 k g i.toNatClampNeg
theorem r_X1_at (m : PM) (k g : Nat) (i : Int32) : Rn MX1_at [vR 1 k g, vI i] m (some (vI (v_X1_at m k g i))) m := by
  refine rn_of [some (vR 1 k g), some (vI i)] rfl ?_
  unfold v_X1_at
  refine an_b 2 (pc2 := if i < 0 then 22 else 4) (L2 := [some (vR 1 k g), some (vI i)]) (st2 := []) (m1 := m) rfl ?_
  refine an_ifi (fun h => ?_) (fun h => ?_)
  · refine an_b 1 (pc2 := 23) (L2 := [some (vR 1 k g), some (vI i)]) (st2 := [vI 0]) (m1 := m) rfl ?_
    exact an_ret rfl rfl rfl rfl rfl
  · refine an_b 5 (pc2 := if nI (nlen k) ≤ i then 22 else 13) (L2 := [some (vR 1 k g), some (vI i)]) (st2 := []) (m1 := m) rfl ?_
    refine an_ifi (fun h2 => ?_) (fun h2 => ?_)
    · refine an_b 1 (pc2 := 23) (L2 := [some (vR 1 k g), some (vI i)]) (st2 := [vI 0]) (m1 := m) rfl ?_
      exact an_ret rfl rfl rfl rfl rfl
    · refine an_b 3 (pc2 := 18) (L2 := [some (vR 1 k g), some (vI i)]) (st2 := [vI i, vR 2 k g]) (m1 := m) rfl ?_
      refine one_iald (nlen k) rfl rfl (in_of h h2) ?_
      refine an_b 1 (pc2 := 23) (L2 := [some (vR 1 k g), some (vI i)]) (st2 := [vI (m.1 2 k g i.toNatClampNeg)]) (m1 := m) rfl ?_
      exact an_ret rfl rfl rfl rfl rfl
/-- Numbers.put -/
def w_X1_put (m : PM) (k g : Nat) (i x : Int32) : PM := if i < 0 then m else if nI (nlen k) ≤ i then m else wI m 2 k g i.toNatClampNeg x
theorem r_X1_put (m : PM) (k g : Nat) (i x : Int32) : Rn MX1_put [vR 1 k g, vI i, vI x] m none (w_X1_put m k g i x) := by
  refine rn_of [some (vR 1 k g), some (vI i), some (vI x)] rfl ?_
  unfold w_X1_put
  refine an_b 2 (pc2 := if i < 0 then 20 else 4) (L2 := [some (vR 1 k g), some (vI i), some (vI x)]) (st2 := []) (m1 := m) rfl ?_
  refine an_ifm (fun h => ?_) (fun h => ?_)
  · exact an_ret rfl rfl rfl rfl rfl
  · refine an_b 5 (pc2 := if nI (nlen k) ≤ i then 20 else 13) (L2 := [some (vR 1 k g), some (vI i), some (vI x)]) (st2 := []) (m1 := m) rfl ?_
    refine an_ifm (fun h2 => ?_) (fun h2 => ?_)
    · exact an_ret rfl rfl rfl rfl rfl
    · refine an_b 4 (pc2 := 19) (L2 := [some (vR 1 k g), some (vI i), some (vI x)]) (st2 := [vI x, vI i, vR 2 k g]) (m1 := m) rfl ?_
      refine one_iast (nlen k) rfl rfl (by decide) (in_of h h2) ?_
      exact an_ret rfl rfl rfl rfl rfl
/-- Numbers.sum -/
def v_X1_sum (m : PM) (k g : Nat) : Int32 := lp (fun j s => s + m.1 2 k g j) (nlen k) 0 0
theorem r_X1_sum (m : PM) (k g : Nat) : Rn MX1_sum [vR 1 k g] m (some (vI (v_X1_sum m k g))) m := by
  refine rn_of [some (vR 1 k g), none, none] rfl ?_
  unfold v_X1_sum
  refine an_b 4 (pc2 := 4) (L2 := [some (vR 1 k g), some (vI 0), some (vI (nI 0))]) (st2 := []) (m1 := m) rfl ?_
  refine re_lp (σ := Int32) (fun j s => s + m.1 2 k g j) (fun j s => (4, [some (vR 1 k g), some (vI s), some (vI (nI j))], [], m)) (nlen k) (fun s => (28, [some (vR 1 k g), some (vI s), none], [], m)) (fun j s hj v9 m9 K => ?_) (fun s v9 m9 K => ?_) (nlen k) 0 0 (Nat.add_zero _) _ _ ?_
  · show An MX1_sum 4 [some (vR 1 k g), some (vI s), some (vI (nI j))] [] m v9 m9
    refine an_b 5 (pc2 := if nI (nlen k) ≤ nI j then 28 else 13) (L2 := [some (vR 1 k g), some (vI s), some (vI (nI j))]) (st2 := []) (m1 := m) rfl ?_
    have hb := nlen_lt k
    refine an_f (nI_ge hj hb) ?_
    refine an_b 4 (pc2 := 19) (L2 := [some (vR 1 k g), some (vI s), some (vI (nI j))]) (st2 := [vI (nI j), vR 2 k g, vI s]) (m1 := m) rfl ?_
    refine one_iald (nlen k) rfl rfl (nI_in hj hb) ?_
    rw [nI_clamp (by omega)]
    refine an_b 4 (pc2 := 4) (L2 := [some (vR 1 k g), some (vI (s + m.1 2 k g j)), some (vI (nI j + 1))]) (st2 := []) (m1 := m) rfl ?_
    refine an_cL (K := [some (vR 1 k g), some (vI (s + m.1 2 k g j)), some (vI (nI (j + 1)))]) (by simp only [nI_1]) ?_
    exact K
  · show An MX1_sum 4 [some (vR 1 k g), some (vI s), some (vI (nI (nlen k)))] [] m v9 m9
    refine an_b 5 (pc2 := if nI (nlen k) ≤ nI (nlen k) then 28 else 13) (L2 := [some (vR 1 k g), some (vI s), some (vI (nI (nlen k)))]) (st2 := []) (m1 := m) rfl ?_
    refine an_t (nI_le (Nat.le_refl _) (nlen_lt k)) ?_
    refine an_weak (L := [some (vR 1 k g), some (vI s), none]) ⟨rfl, rfl, trivial⟩ ?_
    exact K
  show An MX1_sum 28 [some (vR 1 k g), some (vI (lp (fun j s => s + m.1 2 k g j) (nlen k) 0 0)), none] [] m _ _
  refine an_b 1 (pc2 := 29) (L2 := [some (vR 1 k g), some (vI (lp (fun j s => s + m.1 2 k g j) (nlen k) 0 0)), none]) (st2 := [vI (lp (fun j s => s + m.1 2 k g j) (nlen k) 0 0)]) (m1 := m) rfl ?_
  exact an_ret rfl rfl rfl rfl rfl
/-- Numbers.copyFrom -/
def w_X1_copyFrom (m : PM) (k g k1 g1 : Nat) : PM := if ¬ nI (nlen k1) = nI (nlen k) then m else wC m k1 g1 (nlen k1) k g
theorem r_X1_copyFrom (m : PM) (k g k1 g1 : Nat) : Rn MX1_copyFrom [vR 1 k g, vR 1 k1 g1] m none (w_X1_copyFrom m k g k1 g1) := by
  refine rn_of [some (vR 1 k g), some (vR 1 k1 g1)] rfl ?_
  unfold w_X1_copyFrom
  refine an_b 9 (pc2 := if ¬ nI (nlen k1) = nI (nlen k) then 35 else 17) (L2 := [some (vR 1 k g), some (vR 1 k1 g1)]) (st2 := []) (m1 := m) rfl ?_
  refine an_ifm (fun h => ?_) (fun h => ?_)
  · exact an_ret rfl rfl rfl rfl rfl
  · have h : nI (nlen k1) = nI (nlen k) := Decidable.not_not.mp h
    have h2 : nlen k1 = nlen k := (nI_eq (nlen_lt k1) (nlen_lt k)).mp h
    refine an_b 9 (pc2 := 32) (L2 := [some (vR 1 k g), some (vR 1 k1 g1)]) (st2 := [vI (nI (nlen k)), vI 0, vR 2 k g, vI 0, vR 2 k1 g1]) (m1 := m) rfl ?_
    refine an_b 1 (pc2 := 35) (L2 := [some (vR 1 k g), some (vR 1 k1 g1)]) (st2 := []) (m1 := wC m k1 g1 (nlen k1) k g) ?_ ?_
    · have e : sm_one MX1_copyFrom 32 [some (vR 1 k g), some (vR 1 k1 g1)] [vI (nI (nlen k)), vI 0, vR 2 k g, vI 0, vR 2 k1 g1] m = (if (0 : Int32) = 0 ∧ (0 : Int32) = 0 ∧ nI (nlen k) = nI (nlen k1) ∧ nlen k = nlen k1 then some (35, [some (vR 1 k g), some (vR 1 k1 g1)], [], wC m k1 g1 (nlen k1) k g) else none) := rfl
      show (match sm_one MX1_copyFrom 32 [some (vR 1 k g), some (vR 1 k1 g1)] [vI (nI (nlen k)), vI 0, vR 2 k g, vI 0, vR 2 k1 g1] m with | some s2 => sm_many 0 MX1_copyFrom s2 | none => none) = _
      rw [e, if_pos ⟨rfl, rfl, h.symm, h2.symm⟩]
      rfl
    · exact an_ret rfl rfl rfl rfl rfl
end
section
def w_X2_copyFrom (m : PM) (g : Nat) (g1 : Nat) : PM := (wI (w_X1_copyFrom (w_X1_copyFrom (w_X1_copyFrom (w_X1_copyFrom (w_X1_copyFrom (w_X1_copyFrom (w_X1_copyFrom (w_X1_copyFrom (w_X1_copyFrom (w_X1_copyFrom (w_X1_copyFrom m 0 g 0 g1) 1 g 1 g1) 2 g 2 g1) 3 g 3 g1) 4 g 4 g1) 5 g 5 g1) 6 g 6 g1) 7 g 7 g1) 8 g 8 g1) 9 g 9 g1) 10 g 10 g1) 0 0 g 11 ((w_X1_copyFrom (w_X1_copyFrom (w_X1_copyFrom (w_X1_copyFrom (w_X1_copyFrom (w_X1_copyFrom (w_X1_copyFrom (w_X1_copyFrom (w_X1_copyFrom (w_X1_copyFrom (w_X1_copyFrom m 0 g 0 g1) 1 g 1 g1) 2 g 2 g1) 3 g 3 g1) 4 g 4 g1) 5 g 5 g1) 6 g 6 g1) 7 g 7 g1) 8 g 8 g1) 9 g 9 g1) 10 g 10 g1).1 0 0 g1 11))
set_option maxRecDepth 100000 in
theorem r_X2_copyFrom (m : PM) (g : Nat) (g1 : Nat) : Rn MX2_copyFrom [vR 0 0 g, vR 0 0 g1] m none (w_X2_copyFrom m g g1) := by
  refine rn_of [some (vR 0 0 g), some (vR 0 0 g1)] rfl ?_
  unfold w_X2_copyFrom
  refine an_b 6 (pc2 := 13) (L2 := [some (vR 0 0 g), some (vR 0 0 g1)]) (st2 := [vR 1 0 g1, vR 1 0 g]) (m1 := m) rfl ?_
  refine an_call (r_X1_copyFrom m 0 g 0 g1) rfl rfl rfl rfl ?_
  refine an_b 4 (pc2 := 24) (L2 := [some (vR 0 0 g), some (vR 0 0 g1)]) (st2 := [vR 1 1 g1, vR 1 1 g]) (m1 := (w_X1_copyFrom m 0 g 0 g1)) rfl ?_
  refine an_call (r_X1_copyFrom (w_X1_copyFrom m 0 g 0 g1) 1 g 1 g1) rfl rfl rfl rfl ?_
  refine an_b 4 (pc2 := 35) (L2 := [some (vR 0 0 g), some (vR 0 0 g1)]) (st2 := [vR 1 2 g1, vR 1 2 g]) (m1 := (w_X1_copyFrom (w_X1_copyFrom m 0 g 0 g1) 1 g 1 g1)) rfl ?_
  refine an_call (r_X1_copyFrom (w_X1_copyFrom (w_X1_copyFrom m 0 g 0 g1) 1 g 1 g1) 2 g 2 g1) rfl rfl rfl rfl ?_
  refine an_b 4 (pc2 := 46) (L2 := [some (vR 0 0 g), some (vR 0 0 g1)]) (st2 := [vR 1 3 g1, vR 1 3 g]) (m1 := (w_X1_copyFrom (w_X1_copyFrom (w_X1_copyFrom m 0 g 0 g1) 1 g 1 g1) 2 g 2 g1)) rfl ?_
  refine an_call (r_X1_copyFrom (w_X1_copyFrom (w_X1_copyFrom (w_X1_copyFrom m 0 g 0 g1) 1 g 1 g1) 2 g 2 g1) 3 g 3 g1) rfl rfl rfl rfl ?_
  refine an_b 4 (pc2 := 57) (L2 := [some (vR 0 0 g), some (vR 0 0 g1)]) (st2 := [vR 1 4 g1, vR 1 4 g]) (m1 := (w_X1_copyFrom (w_X1_copyFrom (w_X1_copyFrom (w_X1_copyFrom m 0 g 0 g1) 1 g 1 g1) 2 g 2 g1) 3 g 3 g1)) rfl ?_
  refine an_call (r_X1_copyFrom (w_X1_copyFrom (w_X1_copyFrom (w_X1_copyFrom (w_X1_copyFrom m 0 g 0 g1) 1 g 1 g1) 2 g 2 g1) 3 g 3 g1) 4 g 4 g1) rfl rfl rfl rfl ?_
  refine an_b 4 (pc2 := 68) (L2 := [some (vR 0 0 g), some (vR 0 0 g1)]) (st2 := [vR 1 5 g1, vR 1 5 g]) (m1 := (w_X1_copyFrom (w_X1_copyFrom (w_X1_copyFrom (w_X1_copyFrom (w_X1_copyFrom m 0 g 0 g1) 1 g 1 g1) 2 g 2 g1) 3 g 3 g1) 4 g 4 g1)) rfl ?_
  refine an_call (r_X1_copyFrom (w_X1_copyFrom (w_X1_copyFrom (w_X1_copyFrom (w_X1_copyFrom (w_X1_copyFrom m 0 g 0 g1) 1 g 1 g1) 2 g 2 g1) 3 g 3 g1) 4 g 4 g1) 5 g 5 g1) rfl rfl rfl rfl ?_
  refine an_b 4 (pc2 := 79) (L2 := [some (vR 0 0 g), some (vR 0 0 g1)]) (st2 := [vR 1 6 g1, vR 1 6 g]) (m1 := (w_X1_copyFrom (w_X1_copyFrom (w_X1_copyFrom (w_X1_copyFrom (w_X1_copyFrom (w_X1_copyFrom m 0 g 0 g1) 1 g 1 g1) 2 g 2 g1) 3 g 3 g1) 4 g 4 g1) 5 g 5 g1)) rfl ?_
  refine an_call (r_X1_copyFrom (w_X1_copyFrom (w_X1_copyFrom (w_X1_copyFrom (w_X1_copyFrom (w_X1_copyFrom (w_X1_copyFrom m 0 g 0 g1) 1 g 1 g1) 2 g 2 g1) 3 g 3 g1) 4 g 4 g1) 5 g 5 g1) 6 g 6 g1) rfl rfl rfl rfl ?_
  refine an_b 4 (pc2 := 90) (L2 := [some (vR 0 0 g), some (vR 0 0 g1)]) (st2 := [vR 1 7 g1, vR 1 7 g]) (m1 := (w_X1_copyFrom (w_X1_copyFrom (w_X1_copyFrom (w_X1_copyFrom (w_X1_copyFrom (w_X1_copyFrom (w_X1_copyFrom m 0 g 0 g1) 1 g 1 g1) 2 g 2 g1) 3 g 3 g1) 4 g 4 g1) 5 g 5 g1) 6 g 6 g1)) rfl ?_
  refine an_call (r_X1_copyFrom (w_X1_copyFrom (w_X1_copyFrom (w_X1_copyFrom (w_X1_copyFrom (w_X1_copyFrom (w_X1_copyFrom (w_X1_copyFrom m 0 g 0 g1) 1 g 1 g1) 2 g 2 g1) 3 g 3 g1) 4 g 4 g1) 5 g 5 g1) 6 g 6 g1) 7 g 7 g1) rfl rfl rfl rfl ?_
  refine an_b 4 (pc2 := 101) (L2 := [some (vR 0 0 g), some (vR 0 0 g1)]) (st2 := [vR 1 8 g1, vR 1 8 g]) (m1 := (w_X1_copyFrom (w_X1_copyFrom (w_X1_copyFrom (w_X1_copyFrom (w_X1_copyFrom (w_X1_copyFrom (w_X1_copyFrom (w_X1_copyFrom m 0 g 0 g1) 1 g 1 g1) 2 g 2 g1) 3 g 3 g1) 4 g 4 g1) 5 g 5 g1) 6 g 6 g1) 7 g 7 g1)) rfl ?_
  refine an_call (r_X1_copyFrom (w_X1_copyFrom (w_X1_copyFrom (w_X1_copyFrom (w_X1_copyFrom (w_X1_copyFrom (w_X1_copyFrom (w_X1_copyFrom (w_X1_copyFrom m 0 g 0 g1) 1 g 1 g1) 2 g 2 g1) 3 g 3 g1) 4 g 4 g1) 5 g 5 g1) 6 g 6 g1) 7 g 7 g1) 8 g 8 g1) rfl rfl rfl rfl ?_
  refine an_b 4 (pc2 := 112) (L2 := [some (vR 0 0 g), some (vR 0 0 g1)]) (st2 := [vR 1 9 g1, vR 1 9 g]) (m1 := (w_X1_copyFrom (w_X1_copyFrom (w_X1_copyFrom (w_X1_copyFrom (w_X1_copyFrom (w_X1_copyFrom (w_X1_copyFrom (w_X1_copyFrom (w_X1_copyFrom m 0 g 0 g1) 1 g 1 g1) 2 g 2 g1) 3 g 3 g1) 4 g 4 g1) 5 g 5 g1) 6 g 6 g1) 7 g 7 g1) 8 g 8 g1)) rfl ?_
  refine an_call (r_X1_copyFrom (w_X1_copyFrom (w_X1_copyFrom (w_X1_copyFrom (w_X1_copyFrom (w_X1_copyFrom (w_X1_copyFrom (w_X1_copyFrom (w_X1_copyFrom (w_X1_copyFrom m 0 g 0 g1) 1 g 1 g1) 2 g 2 g1) 3 g 3 g1) 4 g 4 g1) 5 g 5 g1) 6 g 6 g1) 7 g 7 g1) 8 g 8 g1) 9 g 9 g1) rfl rfl rfl rfl ?_
  refine an_b 4 (pc2 := 123) (L2 := [some (vR 0 0 g), some (vR 0 0 g1)]) (st2 := [vR 1 10 g1, vR 1 10 g]) (m1 := (w_X1_copyFrom (w_X1_copyFrom (w_X1_copyFrom (w_X1_copyFrom (w_X1_copyFrom (w_X1_copyFrom (w_X1_copyFrom (w_X1_copyFrom (w_X1_copyFrom (w_X1_copyFrom m 0 g 0 g1) 1 g 1 g1) 2 g 2 g1) 3 g 3 g1) 4 g 4 g1) 5 g 5 g1) 6 g 6 g1) 7 g 7 g1) 8 g 8 g1) 9 g 9 g1)) rfl ?_
  refine an_call (r_X1_copyFrom (w_X1_copyFrom (w_X1_copyFrom (w_X1_copyFrom (w_X1_copyFrom (w_X1_copyFrom (w_X1_copyFrom (w_X1_copyFrom (w_X1_copyFrom (w_X1_copyFrom (w_X1_copyFrom m 0 g 0 g1) 1 g 1 g1) 2 g 2 g1) 3 g 3 g1) 4 g 4 g1) 5 g 5 g1) 6 g 6 g1) 7 g 7 g1) 8 g 8 g1) 9 g 9 g1) 10 g 10 g1) rfl rfl rfl rfl ?_
  refine an_b 4 (pc2 := 134) (L2 := [some (vR 0 0 g), some (vR 0 0 g1)]) (st2 := []) (m1 := (wI (w_X1_copyFrom (w_X1_copyFrom (w_X1_copyFrom (w_X1_copyFrom (w_X1_copyFrom (w_X1_copyFrom (w_X1_copyFrom (w_X1_copyFrom (w_X1_copyFrom (w_X1_copyFrom (w_X1_copyFrom m 0 g 0 g1) 1 g 1 g1) 2 g 2 g1) 3 g 3 g1) 4 g 4 g1) 5 g 5 g1) 6 g 6 g1) 7 g 7 g1) 8 g 8 g1) 9 g 9 g1) 10 g 10 g1) 0 0 g 11 ((w_X1_copyFrom (w_X1_copyFrom (w_X1_copyFrom (w_X1_copyFrom (w_X1_copyFrom (w_X1_copyFrom (w_X1_copyFrom (w_X1_copyFrom (w_X1_copyFrom (w_X1_copyFrom (w_X1_copyFrom m 0 g 0 g1) 1 g 1 g1) 2 g 2 g1) 3 g 3 g1) 4 g 4 g1) 5 g 5 g1) 6 g 6 g1) 7 g 7 g1) 8 g 8 g1) 9 g 9 g1) 10 g 10 g1).1 0 0 g1 11))) rfl ?_
  exact an_ret rfl rfl rfl rfl rfl
def w_X1_raise (m : PM) (k : Nat) (g : Nat) (a1 : Int32) : PM := (w_X1_put m k g a1 ((v_X1_at m k g a1) + (1 : Int32)))
set_option maxRecDepth 100000 in
theorem r_X1_raise (m : PM) (k : Nat) (g : Nat) (a1 : Int32) : Rn MX1_raise [vR 1 k g, vI a1] m none (w_X1_raise m k g a1) := by
  refine rn_of [some (vR 1 k g), some (vI a1)] rfl ?_
  unfold w_X1_raise
  refine an_b 4 (pc2 := 4) (L2 := [some (vR 1 k g), some (vI a1)]) (st2 := [vI a1, vR 1 k g, vI a1, vR 1 k g]) (m1 := m) rfl ?_
  refine an_call (r_X1_at m k g a1) rfl rfl rfl rfl ?_
  refine an_b 2 (pc2 := 9) (L2 := [some (vR 1 k g), some (vI a1)]) (st2 := [vI ((v_X1_at m k g a1) + (1 : Int32)), vI a1, vR 1 k g]) (m1 := m) rfl ?_
  refine an_call (r_X1_put m k g a1 ((v_X1_at m k g a1) + (1 : Int32))) rfl rfl rfl rfl ?_
  exact an_ret rfl rfl rfl rfl rfl
def v_X2_isWaiting (m : PM) (g : Nat) (a1 : Int32) : Int32 := (if (v_X1_at m 1 g a1) = (-1 : Int32) then (0 : Int32) else (1 : Int32))
set_option maxRecDepth 100000 in
theorem r_X2_isWaiting (m : PM) (g : Nat) (a1 : Int32) : Rn MX2_isWaiting [vR 0 0 g, vI a1] m (some (vI (v_X2_isWaiting m g a1))) m := by
  refine rn_of [some (vR 0 0 g), some (vI a1)] rfl ?_
  unfold v_X2_isWaiting
  refine an_b 3 (pc2 := 5) (L2 := [some (vR 0 0 g), some (vI a1)]) (st2 := [vI a1, vR 1 1 g]) (m1 := m) rfl ?_
  refine an_call (r_X1_at m 1 g a1) rfl rfl rfl rfl ?_
  refine an_b 2 (pc2 := if (v_X1_at m 1 g a1) = (-1 : Int32) then 16 else 12) (L2 := [some (vR 0 0 g), some (vI a1)]) (st2 := []) (m1 := m) rfl ?_
  refine an_ifi (c := (v_X1_at m 1 g a1) = (-1 : Int32)) (fun h1 => ?_) (fun h1 => ?_)
  · refine an_b 1 (pc2 := 17) (L2 := [some (vR 0 0 g), some (vI a1)]) (st2 := [vI (0 : Int32)]) (m1 := m) rfl ?_
    exact an_ret rfl rfl rfl rfl rfl
  · refine an_b 2 (pc2 := 17) (L2 := [some (vR 0 0 g), some (vI a1)]) (st2 := [vI (1 : Int32)]) (m1 := m) rfl ?_
    exact an_ret rfl rfl rfl rfl rfl
def b_X2_queueLength_1 (m : PM) (g : Nat) (a1 : Int32)  (j1 : Nat) (s1 : Int32) : Int32 := (if ¬ (v_X1_at m 1 g (nI j1)) = a1 then s1 else (s1 + (1 : Int32)))
def v_X2_queueLength (m : PM) (g : Nat) (a1 : Int32) : Int32 := (lp (b_X2_queueLength_1 m g a1) 8 0 (0 : Int32))
set_option maxRecDepth 100000 in
theorem r_X2_queueLength (m : PM) (g : Nat) (a1 : Int32) : Rn MX2_queueLength [vR 0 0 g, vI a1] m (some (vI (v_X2_queueLength m g a1))) m := by
  refine rn_of [some (vR 0 0 g), some (vI a1), none, none] rfl ?_
  unfold v_X2_queueLength
  refine an_b 4 (pc2 := 4) (L2 := [some (vR 0 0 g), some (vI a1), some (vI (0 : Int32)), some (vI (0 : Int32))]) (st2 := []) (m1 := m) rfl ?_
  refine re_lp (σ := Int32) (b_X2_queueLength_1 m g a1) (fun j1 s1 => (4, [some (vR 0 0 g), some (vI a1), some (vI s1), some (vI (nI j1))], [], m)) 8 (fun s1 => (31, [some (vR 0 0 g), some (vI a1), some (vI s1), none], [], m)) (fun j1 s1 hj1 v9 m9 K1 => ?_) (fun s1 v9 m9 K1 => ?_) 8 0 (0 : Int32) (Nat.add_zero _) _ _ ?_
  · show An MX2_queueLength 4 [some (vR 0 0 g), some (vI a1), some (vI s1), some (vI (nI j1))] [] m v9 m9
    refine an_b 3 (pc2 := if (8 : Int32) ≤ (nI j1) then 31 else 10) (L2 := [some (vR 0 0 g), some (vI a1), some (vI s1), some (vI (nI j1))]) (st2 := []) (m1 := m) rfl ?_
    refine an_f (nI_ge (a := j1) (b := 8) (by omega) (by omega)) ?_
    refine an_b 3 (pc2 := 15) (L2 := [some (vR 0 0 g), some (vI a1), some (vI s1), some (vI (nI j1))]) (st2 := [vI (nI j1), vR 1 1 g]) (m1 := m) rfl ?_
    refine an_call (r_X1_at m 1 g (nI j1)) rfl rfl rfl rfl ?_
    refine an_b 2 (pc2 := if ¬ (v_X1_at m 1 g (nI j1)) = a1 then 25 else 22) (L2 := [some (vR 0 0 g), some (vI a1), some (vI s1), some (vI (nI j1))]) (st2 := []) (m1 := m) rfl ?_
    refine re_if1 (c := ¬ (v_X1_at m 1 g (nI j1)) = a1) (a := s1) (b := s1 + (1 : Int32)) (fun x => (25, [some (vR 0 0 g), some (vI a1), some (vI x), some (vI (nI j1))], [], m)) (fun h1 v9 m9 K2 => ?_) (fun h1 v9 m9 K2 => ?_) _ _ ?_
    · exact K2
    · refine an_b 1 (pc2 := 25) (L2 := [some (vR 0 0 g), some (vI a1), some (vI (s1 + (1 : Int32))), some (vI (nI j1))]) (st2 := []) (m1 := m) rfl ?_
      exact K2
    refine an_b 2 (pc2 := 4) (L2 := [some (vR 0 0 g), some (vI a1), some (vI (if ¬ (v_X1_at m 1 g (nI j1)) = a1 then s1 else (s1 + (1 : Int32)))), some (vI ((nI j1) + (1 : Int32)))]) (st2 := []) (m1 := m) rfl ?_
    refine an_cL (K := [some (vR 0 0 g), some (vI a1), some (vI (if ¬ (v_X1_at m 1 g (nI j1)) = a1 then s1 else (s1 + (1 : Int32)))), some (vI (nI (j1 + 1)))]) (by simp only [nI_1]) ?_
    exact K1
  · show An MX2_queueLength 4 [some (vR 0 0 g), some (vI a1), some (vI s1), some (vI (nI 8))] [] m v9 m9
    refine an_b 3 (pc2 := if (8 : Int32) ≤ (nI 8) then 31 else 10) (L2 := [some (vR 0 0 g), some (vI a1), some (vI s1), some (vI (nI 8))]) (st2 := []) (m1 := m) rfl ?_
    refine an_t (nI_le (a := 8) (b := 8) (by omega) (by omega)) ?_
    refine an_weak (L := [some (vR 0 0 g), some (vI a1), some (vI s1), none]) (⟨rfl, rfl, rfl, trivial⟩) ?_
    exact K1
  show An MX2_queueLength 31 [some (vR 0 0 g), some (vI a1), some (vI (lp (b_X2_queueLength_1 m g a1) 8 0 (0 : Int32))), none] [] m _ _
  refine an_b 1 (pc2 := 32) (L2 := [some (vR 0 0 g), some (vI a1), some (vI (lp (b_X2_queueLength_1 m g a1) 8 0 (0 : Int32))), none]) (st2 := [vI (lp (b_X2_queueLength_1 m g a1) 8 0 (0 : Int32))]) (m1 := m) rfl ?_
  exact an_ret rfl rfl rfl rfl rfl
def b_X2_handAt_1 (m : PM) (g : Nat) (a1 : Int32) (a2 : Int32)  (j1 : Nat) (s1 : Unit) : (Unit) ⊕ (Int32) := if ¬ (v_X1_at m 1 g (nI j1)) = a1 then .inl () else if ¬ (v_X1_at m 3 g (nI j1)) = a2 then .inl () else .inr (nI j1)
def v_X2_handAt (m : PM) (g : Nat) (a1 : Int32) (a2 : Int32) : Int32 := (lqr (fun s1 : Unit => (-1 : Int32)) (lq (b_X2_handAt_1 m g a1 a2) 8 0 ()))
set_option maxRecDepth 100000 in
theorem r_X2_handAt (m : PM) (g : Nat) (a1 : Int32) (a2 : Int32) : Rn MX2_handAt [vR 0 0 g, vI a1, vI a2] m (some (vI (v_X2_handAt m g a1 a2))) m := by
  refine rn_of [some (vR 0 0 g), some (vI a1), some (vI a2), none] rfl ?_
  unfold v_X2_handAt
  refine an_b 2 (pc2 := 2) (L2 := [some (vR 0 0 g), some (vI a1), some (vI a2), some (vI (0 : Int32))]) (st2 := []) (m1 := m) rfl ?_
  refine an_lq (σ := Unit) (ρ := Int32) (b_X2_handAt_1 m g a1 a2) (fun j1 s1 => (2, [some (vR 0 0 g), some (vI a1), some (vI a2), some (vI (nI j1))], [], m)) 8 (fun x9 => .inl (some (vI (lqr (fun s1 => (-1 : Int32)) x9)))) (fun _ => m) (fun j1 s1 hj1 v9 m9 hc1 hr1 => ?_) (fun s1 => ?_) 8 0 () (Nat.add_zero _)
  · show An MX2_handAt 2 [some (vR 0 0 g), some (vI a1), some (vI a2), some (vI (nI j1))] [] m v9 m9
    refine an_b 3 (pc2 := if (8 : Int32) ≤ (nI j1) then 40 else 8) (L2 := [some (vR 0 0 g), some (vI a1), some (vI a2), some (vI (nI j1))]) (st2 := []) (m1 := m) rfl ?_
    refine an_f (nI_ge (a := j1) (b := 8) (by omega) (by omega)) ?_
    refine an_b 3 (pc2 := 13) (L2 := [some (vR 0 0 g), some (vI a1), some (vI a2), some (vI (nI j1))]) (st2 := [vI (nI j1), vR 1 1 g]) (m1 := m) rfl ?_
    refine an_call (r_X1_at m 1 g (nI j1)) rfl rfl rfl rfl ?_
    refine an_b 2 (pc2 := if ¬ (v_X1_at m 1 g (nI j1)) = a1 then 34 else 20) (L2 := [some (vR 0 0 g), some (vI a1), some (vI a2), some (vI (nI j1))]) (st2 := []) (m1 := m) rfl ?_
    refine an_if (c := ¬ (v_X1_at m 1 g (nI j1)) = a1) (fun h1 => ?_) (fun h1 => ?_)
    · refine an_b 2 (pc2 := 2) (L2 := [some (vR 0 0 g), some (vI a1), some (vI a2), some (vI ((nI j1) + (1 : Int32)))]) (st2 := []) (m1 := m) rfl ?_
      refine an_cL (K := [some (vR 0 0 g), some (vI a1), some (vI a2), some (vI (nI (j1 + 1)))]) (by simp only [nI_1]) ?_
      exact hc1 _ (by unfold b_X2_handAt_1; rw [if_pos h1])
    · refine an_b 3 (pc2 := 25) (L2 := [some (vR 0 0 g), some (vI a1), some (vI a2), some (vI (nI j1))]) (st2 := [vI (nI j1), vR 1 3 g]) (m1 := m) rfl ?_
      refine an_call (r_X1_at m 3 g (nI j1)) rfl rfl rfl rfl ?_
      refine an_b 2 (pc2 := if ¬ (v_X1_at m 3 g (nI j1)) = a2 then 34 else 32) (L2 := [some (vR 0 0 g), some (vI a1), some (vI a2), some (vI (nI j1))]) (st2 := []) (m1 := m) rfl ?_
      refine an_if (c := ¬ (v_X1_at m 3 g (nI j1)) = a2) (fun h2 => ?_) (fun h2 => ?_)
      · refine an_b 2 (pc2 := 2) (L2 := [some (vR 0 0 g), some (vI a1), some (vI a2), some (vI ((nI j1) + (1 : Int32)))]) (st2 := []) (m1 := m) rfl ?_
        refine an_cL (K := [some (vR 0 0 g), some (vI a1), some (vI a2), some (vI (nI (j1 + 1)))]) (by simp only [nI_1]) ?_
        exact hc1 _ (by unfold b_X2_handAt_1; rw [if_neg h1, if_pos h2])
      · refine an_b 1 (pc2 := 33) (L2 := [some (vR 0 0 g), some (vI a1), some (vI a2), some (vI (nI j1))]) (st2 := [vI (nI j1)]) (m1 := m) rfl ?_
        obtain ⟨rfl, rfl⟩ := hr1 _ (by unfold b_X2_handAt_1; rw [if_neg h1, if_neg h2])
        exact an_ret rfl rfl rfl rfl rfl
  · show An MX2_handAt 2 [some (vR 0 0 g), some (vI a1), some (vI a2), some (vI (nI 8))] [] m _ _
    refine an_b 3 (pc2 := if (8 : Int32) ≤ (nI 8) then 40 else 8) (L2 := [some (vR 0 0 g), some (vI a1), some (vI a2), some (vI (nI 8))]) (st2 := []) (m1 := m) rfl ?_
    refine an_t (nI_le (a := 8) (b := 8) (by omega) (by omega)) ?_
    refine an_b 1 (pc2 := 41) (L2 := [some (vR 0 0 g), some (vI a1), some (vI a2), some (vI (nI 8))]) (st2 := [vI (-1 : Int32)]) (m1 := m) rfl ?_
    exact an_ret rfl rfl rfl rfl rfl
def v_X4_cell (m : PM) (a1 : Int32) (a2 : Int32) : Int32 := ((a1 * (12 : Int32)) + a2)
set_option maxRecDepth 100000 in
theorem r_X4_cell (m : PM) (a1 : Int32) (a2 : Int32) : Rn MX4_cell [vI a1, vI a2] m (some (vI (v_X4_cell m a1 a2))) m := by
  refine rn_of [some (vI a1), some (vI a2)] rfl ?_
  unfold v_X4_cell
  refine an_b 5 (pc2 := 6) (L2 := [some (vI a1), some (vI a2)]) (st2 := [vI ((a1 * (12 : Int32)) + a2)]) (m1 := m) rfl ?_
  exact an_ret rfl rfl rfl rfl rfl
def b_X2_placeForHolder_1 (m : PM) (g : Nat) (a1 : Int32)  (j1 : Nat) (s1 : Int32) : Int32 := (if ¬ (v_X1_at m 1 g (nI j1)) = a1 then s1 else (if (v_X1_at m 0 g (v_X4_cell m (nI j1) a1)) ≤ 0 then s1 else (if s1 < ((v_X1_at m 3 g (nI j1)) + (1 : Int32)) then ((v_X1_at m 3 g (nI j1)) + (1 : Int32)) else s1)))
def v_X2_placeForHolder (m : PM) (g : Nat) (a1 : Int32) : Int32 := (lp (b_X2_placeForHolder_1 m g a1) 8 0 (0 : Int32))
set_option maxRecDepth 100000 in
theorem r_X2_placeForHolder (m : PM) (g : Nat) (a1 : Int32) : Rn MX2_placeForHolder [vR 0 0 g, vI a1] m (some (vI (v_X2_placeForHolder m g a1))) m := by
  refine rn_of [some (vR 0 0 g), some (vI a1), none, none] rfl ?_
  unfold v_X2_placeForHolder
  refine an_b 4 (pc2 := 4) (L2 := [some (vR 0 0 g), some (vI a1), some (vI (0 : Int32)), some (vI (0 : Int32))]) (st2 := []) (m1 := m) rfl ?_
  refine re_lp (σ := Int32) (b_X2_placeForHolder_1 m g a1) (fun j1 s1 => (4, [some (vR 0 0 g), some (vI a1), some (vI s1), some (vI (nI j1))], [], m)) 8 (fun s1 => (58, [some (vR 0 0 g), some (vI a1), some (vI s1), none], [], m)) (fun j1 s1 hj1 v9 m9 K1 => ?_) (fun s1 v9 m9 K1 => ?_) 8 0 (0 : Int32) (Nat.add_zero _) _ _ ?_
  · show An MX2_placeForHolder 4 [some (vR 0 0 g), some (vI a1), some (vI s1), some (vI (nI j1))] [] m v9 m9
    refine an_b 3 (pc2 := if (8 : Int32) ≤ (nI j1) then 58 else 10) (L2 := [some (vR 0 0 g), some (vI a1), some (vI s1), some (vI (nI j1))]) (st2 := []) (m1 := m) rfl ?_
    refine an_f (nI_ge (a := j1) (b := 8) (by omega) (by omega)) ?_
    refine an_b 3 (pc2 := 15) (L2 := [some (vR 0 0 g), some (vI a1), some (vI s1), some (vI (nI j1))]) (st2 := [vI (nI j1), vR 1 1 g]) (m1 := m) rfl ?_
    refine an_call (r_X1_at m 1 g (nI j1)) rfl rfl rfl rfl ?_
    refine an_b 2 (pc2 := if ¬ (v_X1_at m 1 g (nI j1)) = a1 then 52 else 22) (L2 := [some (vR 0 0 g), some (vI a1), some (vI s1), some (vI (nI j1))]) (st2 := []) (m1 := m) rfl ?_
    refine re_if1 (c := ¬ (v_X1_at m 1 g (nI j1)) = a1) (a := s1) (b := (if (v_X1_at m 0 g (v_X4_cell m (nI j1) a1)) ≤ 0 then s1 else (if s1 < ((v_X1_at m 3 g (nI j1)) + (1 : Int32)) then ((v_X1_at m 3 g (nI j1)) + (1 : Int32)) else s1))) (fun x => (52, [some (vR 0 0 g), some (vI a1), some (vI x), some (vI (nI j1))], [], m)) (fun h1 v9 m9 K4 => ?_) (fun h1 v9 m9 K4 => ?_) _ _ ?_
    · exact K4
    · refine an_b 4 (pc2 := 28) (L2 := [some (vR 0 0 g), some (vI a1), some (vI s1), some (vI (nI j1))]) (st2 := [vI a1, vI (nI j1), vR 1 0 g]) (m1 := m) rfl ?_
      refine an_call (r_X4_cell m (nI j1) a1) rfl rfl rfl rfl ?_
      refine an_call (r_X1_at m 0 g (v_X4_cell m (nI j1) a1)) rfl rfl rfl rfl ?_
      refine an_b 1 (pc2 := if (v_X1_at m 0 g (v_X4_cell m (nI j1) a1)) ≤ 0 then 52 else 37) (L2 := [some (vR 0 0 g), some (vI a1), some (vI s1), some (vI (nI j1))]) (st2 := []) (m1 := m) rfl ?_
      refine re_if1 (c := (v_X1_at m 0 g (v_X4_cell m (nI j1) a1)) ≤ 0) (a := s1) (b := (if s1 < ((v_X1_at m 3 g (nI j1)) + (1 : Int32)) then ((v_X1_at m 3 g (nI j1)) + (1 : Int32)) else s1)) (fun x => (52, [some (vR 0 0 g), some (vI a1), some (vI x), some (vI (nI j1))], [], m)) (fun h2 v9 m9 K3 => ?_) (fun h2 v9 m9 K3 => ?_) _ _ ?_
      · exact K3
      · refine an_b 4 (pc2 := 43) (L2 := [some (vR 0 0 g), some (vI a1), some (vI s1), some (vI (nI j1))]) (st2 := [vI (nI j1), vR 1 3 g, vI s1]) (m1 := m) rfl ?_
        refine an_call (r_X1_at m 3 g (nI j1)) rfl rfl rfl rfl ?_
        refine an_b 4 (pc2 := 52) (L2 := [some (vR 0 0 g), some (vI a1), some (vI (if s1 < ((v_X1_at m 3 g (nI j1)) + (1 : Int32)) then ((v_X1_at m 3 g (nI j1)) + (1 : Int32)) else s1)), some (vI (nI j1))]) (st2 := []) (m1 := m) rfl ?_
        exact K3
      exact K4
    refine an_b 2 (pc2 := 4) (L2 := [some (vR 0 0 g), some (vI a1), some (vI (if ¬ (v_X1_at m 1 g (nI j1)) = a1 then s1 else (if (v_X1_at m 0 g (v_X4_cell m (nI j1) a1)) ≤ 0 then s1 else (if s1 < ((v_X1_at m 3 g (nI j1)) + (1 : Int32)) then ((v_X1_at m 3 g (nI j1)) + (1 : Int32)) else s1)))), some (vI ((nI j1) + (1 : Int32)))]) (st2 := []) (m1 := m) rfl ?_
    refine an_cL (K := [some (vR 0 0 g), some (vI a1), some (vI (if ¬ (v_X1_at m 1 g (nI j1)) = a1 then s1 else (if (v_X1_at m 0 g (v_X4_cell m (nI j1) a1)) ≤ 0 then s1 else (if s1 < ((v_X1_at m 3 g (nI j1)) + (1 : Int32)) then ((v_X1_at m 3 g (nI j1)) + (1 : Int32)) else s1)))), some (vI (nI (j1 + 1)))]) (by simp only [nI_1]) ?_
    exact K1
  · show An MX2_placeForHolder 4 [some (vR 0 0 g), some (vI a1), some (vI s1), some (vI (nI 8))] [] m v9 m9
    refine an_b 3 (pc2 := if (8 : Int32) ≤ (nI 8) then 58 else 10) (L2 := [some (vR 0 0 g), some (vI a1), some (vI s1), some (vI (nI 8))]) (st2 := []) (m1 := m) rfl ?_
    refine an_t (nI_le (a := 8) (b := 8) (by omega) (by omega)) ?_
    refine an_weak (L := [some (vR 0 0 g), some (vI a1), some (vI s1), none]) (⟨rfl, rfl, rfl, trivial⟩) ?_
    exact K1
  show An MX2_placeForHolder 58 [some (vR 0 0 g), some (vI a1), some (vI (lp (b_X2_placeForHolder_1 m g a1) 8 0 (0 : Int32))), none] [] m _ _
  refine an_b 1 (pc2 := 59) (L2 := [some (vR 0 0 g), some (vI a1), some (vI (lp (b_X2_placeForHolder_1 m g a1) 8 0 (0 : Int32))), none]) (st2 := [vI (lp (b_X2_placeForHolder_1 m g a1) 8 0 (0 : Int32))]) (m1 := m) rfl ?_
  exact an_ret rfl rfl rfl rfl rfl
def b_X2_enqueue_1 (m : PM) (g : Nat) (a1 : Int32) (a2 : Int32) (a3 : Int32)  (j1 : Nat) (s1 : PM) : PM := (if ¬ (v_X1_at s1 1 g (nI j1)) = a2 then s1 else (if (v_X1_at s1 3 g (nI j1)) < (if (v_X1_at m 0 g (v_X4_cell m a1 a2)) ≤ 0 then (v_X2_queueLength m g a2) else (v_X2_placeForHolder m g a2)) then s1 else (w_X1_raise s1 3 g (nI j1))))
def w_X2_enqueue (m : PM) (g : Nat) (a1 : Int32) (a2 : Int32) (a3 : Int32) : PM := (w_X1_put (w_X1_put (w_X1_put (lp (b_X2_enqueue_1 m g a1 a2 a3) 8 0 m) 1 g a1 a2) 2 g a1 a3) 3 g a1 (if (v_X1_at m 0 g (v_X4_cell m a1 a2)) ≤ 0 then (v_X2_queueLength m g a2) else (v_X2_placeForHolder m g a2)))
set_option maxRecDepth 100000 in
theorem r_X2_enqueue (m : PM) (g : Nat) (a1 : Int32) (a2 : Int32) (a3 : Int32) : Rn MX2_enqueue [vR 0 0 g, vI a1, vI a2, vI a3] m none (w_X2_enqueue m g a1 a2 a3) := by
  refine rn_of [some (vR 0 0 g), some (vI a1), some (vI a2), some (vI a3), none, none] rfl ?_
  unfold w_X2_enqueue
  refine an_b 4 (pc2 := 6) (L2 := [some (vR 0 0 g), some (vI a1), some (vI a2), some (vI a3), none, none]) (st2 := [vI a2, vI a1, vR 1 0 g]) (m1 := m) rfl ?_
  refine an_call (r_X4_cell m a1 a2) rfl rfl rfl rfl ?_
  refine an_call (r_X1_at m 0 g (v_X4_cell m a1 a2)) rfl rfl rfl rfl ?_
  refine an_b 1 (pc2 := if (v_X1_at m 0 g (v_X4_cell m a1 a2)) ≤ 0 then 23 else 15) (L2 := [some (vR 0 0 g), some (vI a1), some (vI a2), some (vI a3), none, none]) (st2 := []) (m1 := m) rfl ?_
  refine re_if1 (c := (v_X1_at m 0 g (v_X4_cell m a1 a2)) ≤ 0) (a := (v_X2_queueLength m g a2)) (b := (v_X2_placeForHolder m g a2)) (fun x => (28, [some (vR 0 0 g), some (vI a1), some (vI a2), some (vI a3), none, none], [vI x], m)) (fun h1 v9 m9 K2 => ?_) (fun h1 v9 m9 K2 => ?_) _ _ ?_
  · refine an_b 2 (pc2 := 25) (L2 := [some (vR 0 0 g), some (vI a1), some (vI a2), some (vI a3), none, none]) (st2 := [vI a2, vR 0 0 g]) (m1 := m) rfl ?_
    refine an_call (r_X2_queueLength m g a2) rfl rfl rfl rfl ?_
    exact K2
  · refine an_b 2 (pc2 := 17) (L2 := [some (vR 0 0 g), some (vI a1), some (vI a2), some (vI a3), none, none]) (st2 := [vI a2, vR 0 0 g]) (m1 := m) rfl ?_
    refine an_call (r_X2_placeForHolder m g a2) rfl rfl rfl rfl ?_
    refine an_b 1 (pc2 := 28) (L2 := [some (vR 0 0 g), some (vI a1), some (vI a2), some (vI a3), none, none]) (st2 := [vI (v_X2_placeForHolder m g a2)]) (m1 := m) rfl ?_
    exact K2
  refine an_b 3 (pc2 := 33) (L2 := [some (vR 0 0 g), some (vI a1), some (vI a2), some (vI a3), some (vI (if (v_X1_at m 0 g (v_X4_cell m a1 a2)) ≤ 0 then (v_X2_queueLength m g a2) else (v_X2_placeForHolder m g a2))), some (vI (0 : Int32))]) (st2 := []) (m1 := m) rfl ?_
  refine re_lp (σ := PM) (b_X2_enqueue_1 m g a1 a2 a3) (fun j1 s1 => (33, [some (vR 0 0 g), some (vI a1), some (vI a2), some (vI a3), some (vI (if (v_X1_at m 0 g (v_X4_cell m a1 a2)) ≤ 0 then (v_X2_queueLength m g a2) else (v_X2_placeForHolder m g a2))), some (vI (nI j1))], [], s1)) 8 (fun s1 => (82, [some (vR 0 0 g), some (vI a1), some (vI a2), some (vI a3), some (vI (if (v_X1_at m 0 g (v_X4_cell m a1 a2)) ≤ 0 then (v_X2_queueLength m g a2) else (v_X2_placeForHolder m g a2))), none], [], s1)) (fun j1 s1 hj1 v9 m9 K1 => ?_) (fun s1 v9 m9 K1 => ?_) 8 0 m (Nat.add_zero _) _ _ ?_
  · show An MX2_enqueue 33 [some (vR 0 0 g), some (vI a1), some (vI a2), some (vI a3), some (vI (if (v_X1_at m 0 g (v_X4_cell m a1 a2)) ≤ 0 then (v_X2_queueLength m g a2) else (v_X2_placeForHolder m g a2))), some (vI (nI j1))] [] s1 v9 m9
    refine an_b 3 (pc2 := if (8 : Int32) ≤ (nI j1) then 82 else 40) (L2 := [some (vR 0 0 g), some (vI a1), some (vI a2), some (vI a3), some (vI (if (v_X1_at m 0 g (v_X4_cell m a1 a2)) ≤ 0 then (v_X2_queueLength m g a2) else (v_X2_placeForHolder m g a2))), some (vI (nI j1))]) (st2 := []) (m1 := s1) rfl ?_
    refine an_f (nI_ge (a := j1) (b := 8) (by omega) (by omega)) ?_
    refine an_b 3 (pc2 := 46) (L2 := [some (vR 0 0 g), some (vI a1), some (vI a2), some (vI a3), some (vI (if (v_X1_at m 0 g (v_X4_cell m a1 a2)) ≤ 0 then (v_X2_queueLength m g a2) else (v_X2_placeForHolder m g a2))), some (vI (nI j1))]) (st2 := [vI (nI j1), vR 1 1 g]) (m1 := s1) rfl ?_
    refine an_call (r_X1_at s1 1 g (nI j1)) rfl rfl rfl rfl ?_
    refine an_b 2 (pc2 := if ¬ (v_X1_at s1 1 g (nI j1)) = a2 then 76 else 53) (L2 := [some (vR 0 0 g), some (vI a1), some (vI a2), some (vI a3), some (vI (if (v_X1_at m 0 g (v_X4_cell m a1 a2)) ≤ 0 then (v_X2_queueLength m g a2) else (v_X2_placeForHolder m g a2))), some (vI (nI j1))]) (st2 := []) (m1 := s1) rfl ?_
    refine re_if1 (c := ¬ (v_X1_at s1 1 g (nI j1)) = a2) (a := s1) (b := (if (v_X1_at s1 3 g (nI j1)) < (if (v_X1_at m 0 g (v_X4_cell m a1 a2)) ≤ 0 then (v_X2_queueLength m g a2) else (v_X2_placeForHolder m g a2)) then s1 else (w_X1_raise s1 3 g (nI j1)))) (fun x => (76, [some (vR 0 0 g), some (vI a1), some (vI a2), some (vI a3), some (vI (if (v_X1_at m 0 g (v_X4_cell m a1 a2)) ≤ 0 then (v_X2_queueLength m g a2) else (v_X2_placeForHolder m g a2))), some (vI (nI j1))], [], x)) (fun h3 v9 m9 K6 => ?_) (fun h3 v9 m9 K6 => ?_) _ _ ?_
    · exact K6
    · refine an_b 3 (pc2 := 59) (L2 := [some (vR 0 0 g), some (vI a1), some (vI a2), some (vI a3), some (vI (if (v_X1_at m 0 g (v_X4_cell m a1 a2)) ≤ 0 then (v_X2_queueLength m g a2) else (v_X2_placeForHolder m g a2))), some (vI (nI j1))]) (st2 := [vI (nI j1), vR 1 3 g]) (m1 := s1) rfl ?_
      refine an_call (r_X1_at s1 3 g (nI j1)) rfl rfl rfl rfl ?_
      refine an_b 2 (pc2 := if (v_X1_at s1 3 g (nI j1)) < (if (v_X1_at m 0 g (v_X4_cell m a1 a2)) ≤ 0 then (v_X2_queueLength m g a2) else (v_X2_placeForHolder m g a2)) then 76 else 67) (L2 := [some (vR 0 0 g), some (vI a1), some (vI a2), some (vI a3), some (vI (if (v_X1_at m 0 g (v_X4_cell m a1 a2)) ≤ 0 then (v_X2_queueLength m g a2) else (v_X2_placeForHolder m g a2))), some (vI (nI j1))]) (st2 := []) (m1 := s1) rfl ?_
      refine re_if1 (c := (v_X1_at s1 3 g (nI j1)) < (if (v_X1_at m 0 g (v_X4_cell m a1 a2)) ≤ 0 then (v_X2_queueLength m g a2) else (v_X2_placeForHolder m g a2))) (a := s1) (b := (w_X1_raise s1 3 g (nI j1))) (fun x => (76, [some (vR 0 0 g), some (vI a1), some (vI a2), some (vI a3), some (vI (if (v_X1_at m 0 g (v_X4_cell m a1 a2)) ≤ 0 then (v_X2_queueLength m g a2) else (v_X2_placeForHolder m g a2))), some (vI (nI j1))], [], x)) (fun h4 v9 m9 K5 => ?_) (fun h4 v9 m9 K5 => ?_) _ _ ?_
      · exact K5
      · refine an_b 3 (pc2 := 73) (L2 := [some (vR 0 0 g), some (vI a1), some (vI a2), some (vI a3), some (vI (if (v_X1_at m 0 g (v_X4_cell m a1 a2)) ≤ 0 then (v_X2_queueLength m g a2) else (v_X2_placeForHolder m g a2))), some (vI (nI j1))]) (st2 := [vI (nI j1), vR 1 3 g]) (m1 := s1) rfl ?_
        refine an_call (r_X1_raise s1 3 g (nI j1)) rfl rfl rfl rfl ?_
        exact K5
      exact K6
    refine an_b 2 (pc2 := 33) (L2 := [some (vR 0 0 g), some (vI a1), some (vI a2), some (vI a3), some (vI (if (v_X1_at m 0 g (v_X4_cell m a1 a2)) ≤ 0 then (v_X2_queueLength m g a2) else (v_X2_placeForHolder m g a2))), some (vI ((nI j1) + (1 : Int32)))]) (st2 := []) (m1 := (if ¬ (v_X1_at s1 1 g (nI j1)) = a2 then s1 else (if (v_X1_at s1 3 g (nI j1)) < (if (v_X1_at m 0 g (v_X4_cell m a1 a2)) ≤ 0 then (v_X2_queueLength m g a2) else (v_X2_placeForHolder m g a2)) then s1 else (w_X1_raise s1 3 g (nI j1))))) rfl ?_
    refine an_cL (K := [some (vR 0 0 g), some (vI a1), some (vI a2), some (vI a3), some (vI (if (v_X1_at m 0 g (v_X4_cell m a1 a2)) ≤ 0 then (v_X2_queueLength m g a2) else (v_X2_placeForHolder m g a2))), some (vI (nI (j1 + 1)))]) (by simp only [nI_1]) ?_
    exact K1
  · show An MX2_enqueue 33 [some (vR 0 0 g), some (vI a1), some (vI a2), some (vI a3), some (vI (if (v_X1_at m 0 g (v_X4_cell m a1 a2)) ≤ 0 then (v_X2_queueLength m g a2) else (v_X2_placeForHolder m g a2))), some (vI (nI 8))] [] s1 v9 m9
    refine an_b 3 (pc2 := if (8 : Int32) ≤ (nI 8) then 82 else 40) (L2 := [some (vR 0 0 g), some (vI a1), some (vI a2), some (vI a3), some (vI (if (v_X1_at m 0 g (v_X4_cell m a1 a2)) ≤ 0 then (v_X2_queueLength m g a2) else (v_X2_placeForHolder m g a2))), some (vI (nI 8))]) (st2 := []) (m1 := s1) rfl ?_
    refine an_t (nI_le (a := 8) (b := 8) (by omega) (by omega)) ?_
    refine an_weak (L := [some (vR 0 0 g), some (vI a1), some (vI a2), some (vI a3), some (vI (if (v_X1_at m 0 g (v_X4_cell m a1 a2)) ≤ 0 then (v_X2_queueLength m g a2) else (v_X2_placeForHolder m g a2))), none]) (⟨rfl, rfl, rfl, rfl, rfl, trivial⟩) ?_
    exact K1
  show An MX2_enqueue 82 [some (vR 0 0 g), some (vI a1), some (vI a2), some (vI a3), some (vI (if (v_X1_at m 0 g (v_X4_cell m a1 a2)) ≤ 0 then (v_X2_queueLength m g a2) else (v_X2_placeForHolder m g a2))), none] [] (lp (b_X2_enqueue_1 m g a1 a2 a3) 8 0 m) _ _
  refine an_b 4 (pc2 := 88) (L2 := [some (vR 0 0 g), some (vI a1), some (vI a2), some (vI a3), some (vI (if (v_X1_at m 0 g (v_X4_cell m a1 a2)) ≤ 0 then (v_X2_queueLength m g a2) else (v_X2_placeForHolder m g a2))), none]) (st2 := [vI a2, vI a1, vR 1 1 g]) (m1 := (lp (b_X2_enqueue_1 m g a1 a2 a3) 8 0 m)) rfl ?_
  refine an_call (r_X1_put (lp (b_X2_enqueue_1 m g a1 a2 a3) 8 0 m) 1 g a1 a2) rfl rfl rfl rfl ?_
  refine an_b 4 (pc2 := 97) (L2 := [some (vR 0 0 g), some (vI a1), some (vI a2), some (vI a3), some (vI (if (v_X1_at m 0 g (v_X4_cell m a1 a2)) ≤ 0 then (v_X2_queueLength m g a2) else (v_X2_placeForHolder m g a2))), none]) (st2 := [vI a3, vI a1, vR 1 2 g]) (m1 := (w_X1_put (lp (b_X2_enqueue_1 m g a1 a2 a3) 8 0 m) 1 g a1 a2)) rfl ?_
  refine an_call (r_X1_put (w_X1_put (lp (b_X2_enqueue_1 m g a1 a2 a3) 8 0 m) 1 g a1 a2) 2 g a1 a3) rfl rfl rfl rfl ?_
  refine an_b 4 (pc2 := 107) (L2 := [some (vR 0 0 g), some (vI a1), some (vI a2), some (vI a3), some (vI (if (v_X1_at m 0 g (v_X4_cell m a1 a2)) ≤ 0 then (v_X2_queueLength m g a2) else (v_X2_placeForHolder m g a2))), none]) (st2 := [vI (if (v_X1_at m 0 g (v_X4_cell m a1 a2)) ≤ 0 then (v_X2_queueLength m g a2) else (v_X2_placeForHolder m g a2)), vI a1, vR 1 3 g]) (m1 := (w_X1_put (w_X1_put (lp (b_X2_enqueue_1 m g a1 a2 a3) 8 0 m) 1 g a1 a2) 2 g a1 a3)) rfl ?_
  refine an_call (r_X1_put (w_X1_put (w_X1_put (lp (b_X2_enqueue_1 m g a1 a2 a3) 8 0 m) 1 g a1 a2) 2 g a1 a3) 3 g a1 (if (v_X1_at m 0 g (v_X4_cell m a1 a2)) ≤ 0 then (v_X2_queueLength m g a2) else (v_X2_placeForHolder m g a2))) rfl rfl rfl rfl ?_
  exact an_ret rfl rfl rfl rfl rfl
def b_X2_dequeue_1 (m : PM) (g : Nat) (a1 : Int32)  (j1 : Nat) (s1 : PM) : PM := (if ¬ (v_X1_at s1 1 g (nI j1)) = (v_X1_at m 1 g a1) then s1 else (if (v_X1_at s1 3 g (nI j1)) ≤ (v_X1_at m 3 g a1) then s1 else (w_X1_put s1 3 g (nI j1) ((v_X1_at s1 3 g (nI j1)) - (1 : Int32)))))
def w_X2_dequeue (m : PM) (g : Nat) (a1 : Int32) : PM := (lp (b_X2_dequeue_1 m g a1) 8 0 (w_X1_put (w_X1_put m 1 g a1 (-1 : Int32)) 2 g a1 (0 : Int32)))
set_option maxRecDepth 100000 in
theorem r_X2_dequeue (m : PM) (g : Nat) (a1 : Int32) : Rn MX2_dequeue [vR 0 0 g, vI a1] m none (w_X2_dequeue m g a1) := by
  refine rn_of [some (vR 0 0 g), some (vI a1), none, none, none] rfl ?_
  unfold w_X2_dequeue
  refine an_b 3 (pc2 := 5) (L2 := [some (vR 0 0 g), some (vI a1), none, none, none]) (st2 := [vI a1, vR 1 1 g]) (m1 := m) rfl ?_
  refine an_call (r_X1_at m 1 g a1) rfl rfl rfl rfl ?_
  refine an_b 4 (pc2 := 14) (L2 := [some (vR 0 0 g), some (vI a1), some (vI (v_X1_at m 1 g a1)), none, none]) (st2 := [vI a1, vR 1 3 g]) (m1 := m) rfl ?_
  refine an_call (r_X1_at m 3 g a1) rfl rfl rfl rfl ?_
  refine an_b 5 (pc2 := 24) (L2 := [some (vR 0 0 g), some (vI a1), some (vI (v_X1_at m 1 g a1)), some (vI (v_X1_at m 3 g a1)), none]) (st2 := [vI (-1 : Int32), vI a1, vR 1 1 g]) (m1 := m) rfl ?_
  refine an_call (r_X1_put m 1 g a1 (-1 : Int32)) rfl rfl rfl rfl ?_
  refine an_b 4 (pc2 := 33) (L2 := [some (vR 0 0 g), some (vI a1), some (vI (v_X1_at m 1 g a1)), some (vI (v_X1_at m 3 g a1)), none]) (st2 := [vI (0 : Int32), vI a1, vR 1 2 g]) (m1 := (w_X1_put m 1 g a1 (-1 : Int32))) rfl ?_
  refine an_call (r_X1_put (w_X1_put m 1 g a1 (-1 : Int32)) 2 g a1 (0 : Int32)) rfl rfl rfl rfl ?_
  refine an_b 2 (pc2 := 39) (L2 := [some (vR 0 0 g), some (vI a1), some (vI (v_X1_at m 1 g a1)), some (vI (v_X1_at m 3 g a1)), some (vI (0 : Int32))]) (st2 := []) (m1 := (w_X1_put (w_X1_put m 1 g a1 (-1 : Int32)) 2 g a1 (0 : Int32))) rfl ?_
  refine re_lp (σ := PM) (b_X2_dequeue_1 m g a1) (fun j1 s1 => (39, [some (vR 0 0 g), some (vI a1), some (vI (v_X1_at m 1 g a1)), some (vI (v_X1_at m 3 g a1)), some (vI (nI j1))], [], s1)) 8 (fun s1 => (98, [some (vR 0 0 g), some (vI a1), some (vI (v_X1_at m 1 g a1)), some (vI (v_X1_at m 3 g a1)), none], [], s1)) (fun j1 s1 hj1 v9 m9 K1 => ?_) (fun s1 v9 m9 K1 => ?_) 8 0 (w_X1_put (w_X1_put m 1 g a1 (-1 : Int32)) 2 g a1 (0 : Int32)) (Nat.add_zero _) _ _ ?_
  · show An MX2_dequeue 39 [some (vR 0 0 g), some (vI a1), some (vI (v_X1_at m 1 g a1)), some (vI (v_X1_at m 3 g a1)), some (vI (nI j1))] [] s1 v9 m9
    refine an_b 3 (pc2 := if (8 : Int32) ≤ (nI j1) then 98 else 46) (L2 := [some (vR 0 0 g), some (vI a1), some (vI (v_X1_at m 1 g a1)), some (vI (v_X1_at m 3 g a1)), some (vI (nI j1))]) (st2 := []) (m1 := s1) rfl ?_
    refine an_f (nI_ge (a := j1) (b := 8) (by omega) (by omega)) ?_
    refine an_b 3 (pc2 := 52) (L2 := [some (vR 0 0 g), some (vI a1), some (vI (v_X1_at m 1 g a1)), some (vI (v_X1_at m 3 g a1)), some (vI (nI j1))]) (st2 := [vI (nI j1), vR 1 1 g]) (m1 := s1) rfl ?_
    refine an_call (r_X1_at s1 1 g (nI j1)) rfl rfl rfl rfl ?_
    refine an_b 2 (pc2 := if ¬ (v_X1_at s1 1 g (nI j1)) = (v_X1_at m 1 g a1) then 92 else 59) (L2 := [some (vR 0 0 g), some (vI a1), some (vI (v_X1_at m 1 g a1)), some (vI (v_X1_at m 3 g a1)), some (vI (nI j1))]) (st2 := []) (m1 := s1) rfl ?_
    refine re_if1 (c := ¬ (v_X1_at s1 1 g (nI j1)) = (v_X1_at m 1 g a1)) (a := s1) (b := (if (v_X1_at s1 3 g (nI j1)) ≤ (v_X1_at m 3 g a1) then s1 else (w_X1_put s1 3 g (nI j1) ((v_X1_at s1 3 g (nI j1)) - (1 : Int32))))) (fun x => (92, [some (vR 0 0 g), some (vI a1), some (vI (v_X1_at m 1 g a1)), some (vI (v_X1_at m 3 g a1)), some (vI (nI j1))], [], x)) (fun h1 v9 m9 K4 => ?_) (fun h1 v9 m9 K4 => ?_) _ _ ?_
    · exact K4
    · refine an_b 3 (pc2 := 65) (L2 := [some (vR 0 0 g), some (vI a1), some (vI (v_X1_at m 1 g a1)), some (vI (v_X1_at m 3 g a1)), some (vI (nI j1))]) (st2 := [vI (nI j1), vR 1 3 g]) (m1 := s1) rfl ?_
      refine an_call (r_X1_at s1 3 g (nI j1)) rfl rfl rfl rfl ?_
      refine an_b 2 (pc2 := if (v_X1_at s1 3 g (nI j1)) ≤ (v_X1_at m 3 g a1) then 92 else 72) (L2 := [some (vR 0 0 g), some (vI a1), some (vI (v_X1_at m 1 g a1)), some (vI (v_X1_at m 3 g a1)), some (vI (nI j1))]) (st2 := []) (m1 := s1) rfl ?_
      refine re_if1 (c := (v_X1_at s1 3 g (nI j1)) ≤ (v_X1_at m 3 g a1)) (a := s1) (b := (w_X1_put s1 3 g (nI j1) ((v_X1_at s1 3 g (nI j1)) - (1 : Int32)))) (fun x => (92, [some (vR 0 0 g), some (vI a1), some (vI (v_X1_at m 1 g a1)), some (vI (v_X1_at m 3 g a1)), some (vI (nI j1))], [], x)) (fun h2 v9 m9 K3 => ?_) (fun h2 v9 m9 K3 => ?_) _ _ ?_
      · exact K3
      · refine an_b 6 (pc2 := 84) (L2 := [some (vR 0 0 g), some (vI a1), some (vI (v_X1_at m 1 g a1)), some (vI (v_X1_at m 3 g a1)), some (vI (nI j1))]) (st2 := [vI (nI j1), vR 1 3 g, vI (nI j1), vR 1 3 g]) (m1 := s1) rfl ?_
        refine an_call (r_X1_at s1 3 g (nI j1)) rfl rfl rfl rfl ?_
        refine an_b 2 (pc2 := 89) (L2 := [some (vR 0 0 g), some (vI a1), some (vI (v_X1_at m 1 g a1)), some (vI (v_X1_at m 3 g a1)), some (vI (nI j1))]) (st2 := [vI ((v_X1_at s1 3 g (nI j1)) - (1 : Int32)), vI (nI j1), vR 1 3 g]) (m1 := s1) rfl ?_
        refine an_call (r_X1_put s1 3 g (nI j1) ((v_X1_at s1 3 g (nI j1)) - (1 : Int32))) rfl rfl rfl rfl ?_
        exact K3
      exact K4
    refine an_b 2 (pc2 := 39) (L2 := [some (vR 0 0 g), some (vI a1), some (vI (v_X1_at m 1 g a1)), some (vI (v_X1_at m 3 g a1)), some (vI ((nI j1) + (1 : Int32)))]) (st2 := []) (m1 := (if ¬ (v_X1_at s1 1 g (nI j1)) = (v_X1_at m 1 g a1) then s1 else (if (v_X1_at s1 3 g (nI j1)) ≤ (v_X1_at m 3 g a1) then s1 else (w_X1_put s1 3 g (nI j1) ((v_X1_at s1 3 g (nI j1)) - (1 : Int32)))))) rfl ?_
    refine an_cL (K := [some (vR 0 0 g), some (vI a1), some (vI (v_X1_at m 1 g a1)), some (vI (v_X1_at m 3 g a1)), some (vI (nI (j1 + 1)))]) (by simp only [nI_1]) ?_
    exact K1
  · show An MX2_dequeue 39 [some (vR 0 0 g), some (vI a1), some (vI (v_X1_at m 1 g a1)), some (vI (v_X1_at m 3 g a1)), some (vI (nI 8))] [] s1 v9 m9
    refine an_b 3 (pc2 := if (8 : Int32) ≤ (nI 8) then 98 else 46) (L2 := [some (vR 0 0 g), some (vI a1), some (vI (v_X1_at m 1 g a1)), some (vI (v_X1_at m 3 g a1)), some (vI (nI 8))]) (st2 := []) (m1 := s1) rfl ?_
    refine an_t (nI_le (a := 8) (b := 8) (by omega) (by omega)) ?_
    refine an_weak (L := [some (vR 0 0 g), some (vI a1), some (vI (v_X1_at m 1 g a1)), some (vI (v_X1_at m 3 g a1)), none]) (⟨rfl, rfl, rfl, rfl, trivial⟩) ?_
    exact K1
  show An MX2_dequeue 98 [some (vR 0 0 g), some (vI a1), some (vI (v_X1_at m 1 g a1)), some (vI (v_X1_at m 3 g a1)), none] [] (lp (b_X2_dequeue_1 m g a1) 8 0 (w_X1_put (w_X1_put m 1 g a1 (-1 : Int32)) 2 g a1 (0 : Int32))) _ _
  exact an_ret rfl rfl rfl rfl rfl
def b_X2_clashes_1 (m : PM) (g : Nat) (a1 : Int32) (a2 : Int32) (a3 : Int32) (a4 : Int32)  (j1 : Nat) (s1 : Unit) : (Unit) ⊕ (Int32) := if (nI j1) = a3 then .inl () else if (nI j1) = a4 then .inl () else if ((v_X1_at m 0 g (v_X4_cell m (nI j1) a1)) + a2) ≤ (3 : Int32) then .inl () else .inr (1 : Int32)
def v_X2_clashes (m : PM) (g : Nat) (a1 : Int32) (a2 : Int32) (a3 : Int32) (a4 : Int32) : Int32 := (lqr (fun s1 : Unit => (0 : Int32)) (lq (b_X2_clashes_1 m g a1 a2 a3 a4) 8 0 ()))
set_option maxRecDepth 100000 in
theorem r_X2_clashes (m : PM) (g : Nat) (a1 : Int32) (a2 : Int32) (a3 : Int32) (a4 : Int32) : Rn MX2_clashes [vR 0 0 g, vI a1, vI a2, vI a3, vI a4] m (some (vI (v_X2_clashes m g a1 a2 a3 a4))) m := by
  refine rn_of [some (vR 0 0 g), some (vI a1), some (vI a2), some (vI a3), some (vI a4), none] rfl ?_
  unfold v_X2_clashes
  refine an_b 2 (pc2 := 3) (L2 := [some (vR 0 0 g), some (vI a1), some (vI a2), some (vI a3), some (vI a4), some (vI (0 : Int32))]) (st2 := []) (m1 := m) rfl ?_
  refine an_lq (σ := Unit) (ρ := Int32) (b_X2_clashes_1 m g a1 a2 a3 a4) (fun j1 s1 => (3, [some (vR 0 0 g), some (vI a1), some (vI a2), some (vI a3), some (vI a4), some (vI (nI j1))], [], m)) 8 (fun x9 => .inl (some (vI (lqr (fun s1 => (0 : Int32)) x9)))) (fun _ => m) (fun j1 s1 hj1 v9 m9 hc1 hr1 => ?_) (fun s1 => ?_) 8 0 () (Nat.add_zero _)
  · show An MX2_clashes 3 [some (vR 0 0 g), some (vI a1), some (vI a2), some (vI a3), some (vI a4), some (vI (nI j1))] [] m v9 m9
    refine an_b 3 (pc2 := if (8 : Int32) ≤ (nI j1) then 50 else 10) (L2 := [some (vR 0 0 g), some (vI a1), some (vI a2), some (vI a3), some (vI a4), some (vI (nI j1))]) (st2 := []) (m1 := m) rfl ?_
    refine an_f (nI_ge (a := j1) (b := 8) (by omega) (by omega)) ?_
    refine an_b 3 (pc2 := if (nI j1) = a3 then 44 else 16) (L2 := [some (vR 0 0 g), some (vI a1), some (vI a2), some (vI a3), some (vI a4), some (vI (nI j1))]) (st2 := []) (m1 := m) rfl ?_
    refine an_if (c := (nI j1) = a3) (fun h1 => ?_) (fun h1 => ?_)
    · refine an_b 2 (pc2 := 3) (L2 := [some (vR 0 0 g), some (vI a1), some (vI a2), some (vI a3), some (vI a4), some (vI ((nI j1) + (1 : Int32)))]) (st2 := []) (m1 := m) rfl ?_
      refine an_cL (K := [some (vR 0 0 g), some (vI a1), some (vI a2), some (vI a3), some (vI a4), some (vI (nI (j1 + 1)))]) (by simp only [nI_1]) ?_
      exact hc1 _ (by unfold b_X2_clashes_1; rw [if_pos h1])
    · refine an_b 3 (pc2 := if (nI j1) = a4 then 44 else 23) (L2 := [some (vR 0 0 g), some (vI a1), some (vI a2), some (vI a3), some (vI a4), some (vI (nI j1))]) (st2 := []) (m1 := m) rfl ?_
      refine an_if (c := (nI j1) = a4) (fun h2 => ?_) (fun h2 => ?_)
      · refine an_b 2 (pc2 := 3) (L2 := [some (vR 0 0 g), some (vI a1), some (vI a2), some (vI a3), some (vI a4), some (vI ((nI j1) + (1 : Int32)))]) (st2 := []) (m1 := m) rfl ?_
        refine an_cL (K := [some (vR 0 0 g), some (vI a1), some (vI a2), some (vI a3), some (vI a4), some (vI (nI (j1 + 1)))]) (by simp only [nI_1]) ?_
        exact hc1 _ (by unfold b_X2_clashes_1; rw [if_neg h1, if_pos h2])
      · refine an_b 4 (pc2 := 30) (L2 := [some (vR 0 0 g), some (vI a1), some (vI a2), some (vI a3), some (vI a4), some (vI (nI j1))]) (st2 := [vI a1, vI (nI j1), vR 1 0 g]) (m1 := m) rfl ?_
        refine an_call (r_X4_cell m (nI j1) a1) rfl rfl rfl rfl ?_
        refine an_call (r_X1_at m 0 g (v_X4_cell m (nI j1) a1)) rfl rfl rfl rfl ?_
        refine an_b 4 (pc2 := if ((v_X1_at m 0 g (v_X4_cell m (nI j1) a1)) + a2) ≤ (3 : Int32) then 44 else 42) (L2 := [some (vR 0 0 g), some (vI a1), some (vI a2), some (vI a3), some (vI a4), some (vI (nI j1))]) (st2 := []) (m1 := m) rfl ?_
        refine an_if (c := ((v_X1_at m 0 g (v_X4_cell m (nI j1) a1)) + a2) ≤ (3 : Int32)) (fun h3 => ?_) (fun h3 => ?_)
        · refine an_b 2 (pc2 := 3) (L2 := [some (vR 0 0 g), some (vI a1), some (vI a2), some (vI a3), some (vI a4), some (vI ((nI j1) + (1 : Int32)))]) (st2 := []) (m1 := m) rfl ?_
          refine an_cL (K := [some (vR 0 0 g), some (vI a1), some (vI a2), some (vI a3), some (vI a4), some (vI (nI (j1 + 1)))]) (by simp only [nI_1]) ?_
          exact hc1 _ (by unfold b_X2_clashes_1; rw [if_neg h1, if_neg h2, if_pos h3])
        · refine an_b 1 (pc2 := 43) (L2 := [some (vR 0 0 g), some (vI a1), some (vI a2), some (vI a3), some (vI a4), some (vI (nI j1))]) (st2 := [vI (1 : Int32)]) (m1 := m) rfl ?_
          obtain ⟨rfl, rfl⟩ := hr1 _ (by unfold b_X2_clashes_1; rw [if_neg h1, if_neg h2, if_neg h3])
          exact an_ret rfl rfl rfl rfl rfl
  · show An MX2_clashes 3 [some (vR 0 0 g), some (vI a1), some (vI a2), some (vI a3), some (vI a4), some (vI (nI 8))] [] m _ _
    refine an_b 3 (pc2 := if (8 : Int32) ≤ (nI 8) then 50 else 10) (L2 := [some (vR 0 0 g), some (vI a1), some (vI a2), some (vI a3), some (vI a4), some (vI (nI 8))]) (st2 := []) (m1 := m) rfl ?_
    refine an_t (nI_le (a := 8) (b := 8) (by omega) (by omega)) ?_
    refine an_b 1 (pc2 := 51) (L2 := [some (vR 0 0 g), some (vI a1), some (vI a2), some (vI a3), some (vI a4), some (vI (nI 8))]) (st2 := [vI (0 : Int32)]) (m1 := m) rfl ?_
    exact an_ret rfl rfl rfl rfl rfl
def w_X2_grant (m : PM) (g : Nat) (a1 : Int32) : PM := (w_X2_dequeue (w_X1_raise (w_X1_put m 0 g (v_X4_cell m a1 (v_X1_at m 1 g a1)) (v_X1_at m 2 g a1)) 8 g a1) g a1)
set_option maxRecDepth 100000 in
theorem r_X2_grant (m : PM) (g : Nat) (a1 : Int32) : Rn MX2_grant [vR 0 0 g, vI a1] m none (w_X2_grant m g a1) := by
  refine rn_of [some (vR 0 0 g), some (vI a1)] rfl ?_
  unfold w_X2_grant
  refine an_b 6 (pc2 := 10) (L2 := [some (vR 0 0 g), some (vI a1)]) (st2 := [vI a1, vR 1 1 g, vI a1, vR 1 0 g]) (m1 := m) rfl ?_
  refine an_call (r_X1_at m 1 g a1) rfl rfl rfl rfl ?_
  refine an_call (r_X4_cell m a1 (v_X1_at m 1 g a1)) rfl rfl rfl rfl ?_
  refine an_b 3 (pc2 := 21) (L2 := [some (vR 0 0 g), some (vI a1)]) (st2 := [vI a1, vR 1 2 g, vI (v_X4_cell m a1 (v_X1_at m 1 g a1)), vR 1 0 g]) (m1 := m) rfl ?_
  refine an_call (r_X1_at m 2 g a1) rfl rfl rfl rfl ?_
  refine an_call (r_X1_put m 0 g (v_X4_cell m a1 (v_X1_at m 1 g a1)) (v_X1_at m 2 g a1)) rfl rfl rfl rfl ?_
  refine an_b 3 (pc2 := 32) (L2 := [some (vR 0 0 g), some (vI a1)]) (st2 := [vI a1, vR 1 8 g]) (m1 := (w_X1_put m 0 g (v_X4_cell m a1 (v_X1_at m 1 g a1)) (v_X1_at m 2 g a1))) rfl ?_
  refine an_call (r_X1_raise (w_X1_put m 0 g (v_X4_cell m a1 (v_X1_at m 1 g a1)) (v_X1_at m 2 g a1)) 8 g a1) rfl rfl rfl rfl ?_
  refine an_b 2 (pc2 := 37) (L2 := [some (vR 0 0 g), some (vI a1)]) (st2 := [vI a1, vR 0 0 g]) (m1 := (w_X1_raise (w_X1_put m 0 g (v_X4_cell m a1 (v_X1_at m 1 g a1)) (v_X1_at m 2 g a1)) 8 g a1)) rfl ?_
  refine an_call (r_X2_dequeue (w_X1_raise (w_X1_put m 0 g (v_X4_cell m a1 (v_X1_at m 1 g a1)) (v_X1_at m 2 g a1)) 8 g a1) g a1) rfl rfl rfl rfl ?_
  exact an_ret rfl rfl rfl rfl rfl
def b_X2_settle_1 (m : PM) (g : Nat) (a1 : Int32)  (j1 : Nat) (s1 : Int32 × PM) : (Int32 × PM) ⊕ (Int32 × PM) := if (v_X2_handAt s1.2 g a1 (0 : Int32)) = (-1 : Int32) then .inr (s1.1, s1.2) else if (v_X2_clashes s1.2 g a1 (v_X1_at s1.2 2 g (v_X2_handAt s1.2 g a1 (0 : Int32))) (v_X2_handAt s1.2 g a1 (0 : Int32)) (v_X2_handAt s1.2 g a1 (0 : Int32))) = 0 then .inl (s1.1 + (1 : Int32), (w_X2_grant s1.2 g (v_X2_handAt s1.2 g a1 (0 : Int32)))) else .inr (s1.1, s1.2)
def v_X2_settle (m : PM) (g : Nat) (a1 : Int32) : Int32 := (lqv (lq (b_X2_settle_1 m g a1) 8 0 ((0 : Int32), m))).1
def w_X2_settle (m : PM) (g : Nat) (a1 : Int32) : PM := (lqv (lq (b_X2_settle_1 m g a1) 8 0 ((0 : Int32), m))).2
set_option maxRecDepth 100000 in
theorem r_X2_settle (m : PM) (g : Nat) (a1 : Int32) : Rn MX2_settle [vR 0 0 g, vI a1] m (some (vI (v_X2_settle m g a1))) (w_X2_settle m g a1) := by
  refine rn_of [some (vR 0 0 g), some (vI a1), none, none, none] rfl ?_
  unfold v_X2_settle w_X2_settle
  refine an_b 4 (pc2 := 4) (L2 := [some (vR 0 0 g), some (vI a1), some (vI (0 : Int32)), some (vI (0 : Int32)), none]) (st2 := []) (m1 := m) rfl ?_
  refine re_lq (σ := Int32 × PM) (ρ := Int32 × PM) (b_X2_settle_1 m g a1) (fun j1 s1 => (4, [some (vR 0 0 g), some (vI a1), some (vI s1.1), some (vI (nI j1)), none], [], s1.2)) 8 (fun x9 => (63, [some (vR 0 0 g), some (vI a1), some (vI ((lqv x9).1)), none, none], [], (lqv x9).2)) (fun j1 s1 hj1 v9 m9 hc1 hr1 => ?_) (fun s1 v9 m9 K1 => ?_) 8 0 ((0 : Int32), m) (Nat.add_zero _) _ _ ?_
  · show An MX2_settle 4 [some (vR 0 0 g), some (vI a1), some (vI s1.1), some (vI (nI j1)), none] [] s1.2 v9 m9
    refine an_b 3 (pc2 := if (8 : Int32) ≤ (nI j1) then 63 else 10) (L2 := [some (vR 0 0 g), some (vI a1), some (vI s1.1), some (vI (nI j1)), none]) (st2 := []) (m1 := s1.2) rfl ?_
    refine an_f (nI_ge (a := j1) (b := 8) (by omega) (by omega)) ?_
    refine an_b 3 (pc2 := 13) (L2 := [some (vR 0 0 g), some (vI a1), some (vI s1.1), some (vI (nI j1)), none]) (st2 := [vI (0 : Int32), vI a1, vR 0 0 g]) (m1 := s1.2) rfl ?_
    refine an_call (r_X2_handAt s1.2 g a1 (0 : Int32)) rfl rfl rfl rfl ?_
    refine an_b 4 (pc2 := if (v_X2_handAt s1.2 g a1 (0 : Int32)) = (-1 : Int32) then 63 else 24) (L2 := [some (vR 0 0 g), some (vI a1), some (vI s1.1), some (vI (nI j1)), some (vI (v_X2_handAt s1.2 g a1 (0 : Int32)))]) (st2 := []) (m1 := s1.2) rfl ?_
    refine an_if (c := (v_X2_handAt s1.2 g a1 (0 : Int32)) = (-1 : Int32)) (fun h1 => ?_) (fun h1 => ?_)
    · refine an_weak (L := [some (vR 0 0 g), some (vI a1), some (vI s1.1), none, none]) (⟨rfl, rfl, rfl, trivial⟩) ?_
      exact hr1 _ (by unfold b_X2_settle_1; rw [if_pos h1])
    · refine an_b 5 (pc2 := 32) (L2 := [some (vR 0 0 g), some (vI a1), some (vI s1.1), some (vI (nI j1)), some (vI (v_X2_handAt s1.2 g a1 (0 : Int32)))]) (st2 := [vI (v_X2_handAt s1.2 g a1 (0 : Int32)), vR 1 2 g, vI a1, vR 0 0 g]) (m1 := s1.2) rfl ?_
      refine an_call (r_X1_at s1.2 2 g (v_X2_handAt s1.2 g a1 (0 : Int32))) rfl rfl rfl rfl ?_
      refine an_b 2 (pc2 := 39) (L2 := [some (vR 0 0 g), some (vI a1), some (vI s1.1), some (vI (nI j1)), some (vI (v_X2_handAt s1.2 g a1 (0 : Int32)))]) (st2 := [vI (v_X2_handAt s1.2 g a1 (0 : Int32)), vI (v_X2_handAt s1.2 g a1 (0 : Int32)), vI (v_X1_at s1.2 2 g (v_X2_handAt s1.2 g a1 (0 : Int32))), vI a1, vR 0 0 g]) (m1 := s1.2) rfl ?_
      refine an_call (r_X2_clashes s1.2 g a1 (v_X1_at s1.2 2 g (v_X2_handAt s1.2 g a1 (0 : Int32))) (v_X2_handAt s1.2 g a1 (0 : Int32)) (v_X2_handAt s1.2 g a1 (0 : Int32))) rfl rfl rfl rfl ?_
      refine an_b 1 (pc2 := if (v_X2_clashes s1.2 g a1 (v_X1_at s1.2 2 g (v_X2_handAt s1.2 g a1 (0 : Int32))) (v_X2_handAt s1.2 g a1 (0 : Int32)) (v_X2_handAt s1.2 g a1 (0 : Int32))) = 0 then 48 else 45) (L2 := [some (vR 0 0 g), some (vI a1), some (vI s1.1), some (vI (nI j1)), some (vI (v_X2_handAt s1.2 g a1 (0 : Int32)))]) (st2 := []) (m1 := s1.2) rfl ?_
      refine an_if (c := (v_X2_clashes s1.2 g a1 (v_X1_at s1.2 2 g (v_X2_handAt s1.2 g a1 (0 : Int32))) (v_X2_handAt s1.2 g a1 (0 : Int32)) (v_X2_handAt s1.2 g a1 (0 : Int32))) = 0) (fun h2 => ?_) (fun h2 => ?_)
      · refine an_b 2 (pc2 := 51) (L2 := [some (vR 0 0 g), some (vI a1), some (vI s1.1), some (vI (nI j1)), some (vI (v_X2_handAt s1.2 g a1 (0 : Int32)))]) (st2 := [vI (v_X2_handAt s1.2 g a1 (0 : Int32)), vR 0 0 g]) (m1 := s1.2) rfl ?_
        refine an_call (r_X2_grant s1.2 g (v_X2_handAt s1.2 g a1 (0 : Int32))) rfl rfl rfl rfl ?_
        refine an_b 3 (pc2 := 4) (L2 := [some (vR 0 0 g), some (vI a1), some (vI (s1.1 + (1 : Int32))), some (vI ((nI j1) + (1 : Int32))), some (vI (v_X2_handAt s1.2 g a1 (0 : Int32)))]) (st2 := []) (m1 := (w_X2_grant s1.2 g (v_X2_handAt s1.2 g a1 (0 : Int32)))) rfl ?_
        refine an_weak (L := [some (vR 0 0 g), some (vI a1), some (vI (s1.1 + (1 : Int32))), some (vI ((nI j1) + (1 : Int32))), none]) (⟨rfl, rfl, rfl, rfl, trivial⟩) ?_
        refine an_cL (K := [some (vR 0 0 g), some (vI a1), some (vI (s1.1 + (1 : Int32))), some (vI (nI (j1 + 1))), none]) (by simp only [nI_1]) ?_
        exact hc1 _ (by unfold b_X2_settle_1; rw [if_neg h1, if_pos h2])
      · refine an_b 1 (pc2 := 63) (L2 := [some (vR 0 0 g), some (vI a1), some (vI s1.1), some (vI (nI j1)), some (vI (v_X2_handAt s1.2 g a1 (0 : Int32)))]) (st2 := []) (m1 := s1.2) rfl ?_
        refine an_weak (L := [some (vR 0 0 g), some (vI a1), some (vI s1.1), none, none]) (⟨rfl, rfl, rfl, trivial⟩) ?_
        exact hr1 _ (by unfold b_X2_settle_1; rw [if_neg h1, if_neg h2])
  · show An MX2_settle 4 [some (vR 0 0 g), some (vI a1), some (vI s1.1), some (vI (nI 8)), none] [] s1.2 v9 m9
    refine an_b 3 (pc2 := if (8 : Int32) ≤ (nI 8) then 63 else 10) (L2 := [some (vR 0 0 g), some (vI a1), some (vI s1.1), some (vI (nI 8)), none]) (st2 := []) (m1 := s1.2) rfl ?_
    refine an_t (nI_le (a := 8) (b := 8) (by omega) (by omega)) ?_
    refine an_weak (L := [some (vR 0 0 g), some (vI a1), some (vI s1.1), none, none]) (⟨rfl, rfl, rfl, trivial⟩) ?_
    exact K1
  show An MX2_settle 63 [some (vR 0 0 g), some (vI a1), some (vI ((lqv (lq (b_X2_settle_1 m g a1) 8 0 ((0 : Int32), m))).1)), none, none] [] (lqv (lq (b_X2_settle_1 m g a1) 8 0 ((0 : Int32), m))).2 _ _
  refine an_b 1 (pc2 := 64) (L2 := [some (vR 0 0 g), some (vI a1), some (vI ((lqv (lq (b_X2_settle_1 m g a1) 8 0 ((0 : Int32), m))).1)), none, none]) (st2 := [vI ((lqv (lq (b_X2_settle_1 m g a1) 8 0 ((0 : Int32), m))).1)]) (m1 := (lqv (lq (b_X2_settle_1 m g a1) 8 0 ((0 : Int32), m))).2) rfl ?_
  exact an_ret rfl rfl rfl rfl rfl
def b_X2_direct_1 (m : PM) (g : Nat) (a1 : Int32)  (j1 : Nat) (s1 : Int32) : Int32 := (if (nI j1) = a1 then s1 else (if ¬ (if ((v_X1_at m 0 g (v_X4_cell m (nI j1) (v_X1_at m 1 g a1))) + (v_X1_at m 2 g a1)) ≤ (3 : Int32) then (0 : Int32) else (1 : Int32)) = 0 then (s1 ||| ((1 : Int32) <<< ((nI j1) &&& (31 : Int32)))) else (if (if ¬ (v_X1_at m 1 g (nI j1)) = (v_X1_at m 1 g a1) then (0 : Int32) else (if (v_X1_at m 3 g a1) ≤ (v_X1_at m 3 g (nI j1)) then (0 : Int32) else (1 : Int32))) = 0 then s1 else (s1 ||| ((1 : Int32) <<< ((nI j1) &&& (31 : Int32)))))))
def v_X2_direct (m : PM) (g : Nat) (a1 : Int32) : Int32 := (if ¬ (v_X2_isWaiting m g a1) = 0 then (lp (b_X2_direct_1 m g a1) 8 0 (0 : Int32)) else (0 : Int32))
set_option maxRecDepth 100000 in
theorem r_X2_direct (m : PM) (g : Nat) (a1 : Int32) : Rn MX2_direct [vR 0 0 g, vI a1] m (some (vI (v_X2_direct m g a1))) m := by
  refine rn_of [some (vR 0 0 g), some (vI a1), none, none, none, none, none, none, none] rfl ?_
  unfold v_X2_direct
  refine an_b 2 (pc2 := 2) (L2 := [some (vR 0 0 g), some (vI a1), none, none, none, none, none, none, none]) (st2 := [vI a1, vR 0 0 g]) (m1 := m) rfl ?_
  refine an_call (r_X2_isWaiting m g a1) rfl rfl rfl rfl ?_
  refine an_b 1 (pc2 := if ¬ (v_X2_isWaiting m g a1) = 0 then 10 else 8) (L2 := [some (vR 0 0 g), some (vI a1), none, none, none, none, none, none, none]) (st2 := []) (m1 := m) rfl ?_
  refine an_ifi (c := ¬ (v_X2_isWaiting m g a1) = 0) (fun h1 => ?_) (fun h1 => ?_)
  · refine an_b 3 (pc2 := 15) (L2 := [some (vR 0 0 g), some (vI a1), none, none, none, none, none, none, none]) (st2 := [vI a1, vR 1 1 g]) (m1 := m) rfl ?_
    refine an_call (r_X1_at m 1 g a1) rfl rfl rfl rfl ?_
    refine an_b 4 (pc2 := 24) (L2 := [some (vR 0 0 g), some (vI a1), some (vI (v_X1_at m 1 g a1)), none, none, none, none, none, none]) (st2 := [vI a1, vR 1 2 g]) (m1 := m) rfl ?_
    refine an_call (r_X1_at m 2 g a1) rfl rfl rfl rfl ?_
    refine an_b 4 (pc2 := 33) (L2 := [some (vR 0 0 g), some (vI a1), some (vI (v_X1_at m 1 g a1)), some (vI (v_X1_at m 2 g a1)), none, none, none, none, none]) (st2 := [vI a1, vR 1 3 g]) (m1 := m) rfl ?_
    refine an_call (r_X1_at m 3 g a1) rfl rfl rfl rfl ?_
    refine an_b 5 (pc2 := 44) (L2 := [some (vR 0 0 g), some (vI a1), some (vI (v_X1_at m 1 g a1)), some (vI (v_X1_at m 2 g a1)), some (vI (v_X1_at m 3 g a1)), some (vI (0 : Int32)), some (vI (0 : Int32)), none, none]) (st2 := []) (m1 := m) rfl ?_
    refine re_lp (σ := Int32) (b_X2_direct_1 m g a1) (fun j1 s1 => (44, [some (vR 0 0 g), some (vI a1), some (vI (v_X1_at m 1 g a1)), some (vI (v_X1_at m 2 g a1)), some (vI (v_X1_at m 3 g a1)), some (vI s1), some (vI (nI j1)), none, none], [], m)) 8 (fun s1 => (142, [some (vR 0 0 g), some (vI a1), some (vI (v_X1_at m 1 g a1)), some (vI (v_X1_at m 2 g a1)), some (vI (v_X1_at m 3 g a1)), some (vI s1), none, none, none], [], m)) (fun j1 s1 hj1 v9 m9 K1 => ?_) (fun s1 v9 m9 K1 => ?_) 8 0 (0 : Int32) (Nat.add_zero _) _ _ ?_
    · show An MX2_direct 44 [some (vR 0 0 g), some (vI a1), some (vI (v_X1_at m 1 g a1)), some (vI (v_X1_at m 2 g a1)), some (vI (v_X1_at m 3 g a1)), some (vI s1), some (vI (nI j1)), none, none] [] m v9 m9
      refine an_b 3 (pc2 := if (8 : Int32) ≤ (nI j1) then 142 else 51) (L2 := [some (vR 0 0 g), some (vI a1), some (vI (v_X1_at m 1 g a1)), some (vI (v_X1_at m 2 g a1)), some (vI (v_X1_at m 3 g a1)), some (vI s1), some (vI (nI j1)), none, none]) (st2 := []) (m1 := m) rfl ?_
      refine an_f (nI_ge (a := j1) (b := 8) (by omega) (by omega)) ?_
      refine an_b 4 (pc2 := 58) (L2 := [some (vR 0 0 g), some (vI a1), some (vI (v_X1_at m 1 g a1)), some (vI (v_X1_at m 2 g a1)), some (vI (v_X1_at m 3 g a1)), some (vI s1), some (vI (nI j1)), none, none]) (st2 := [vI (v_X1_at m 1 g a1), vI (nI j1), vR 1 0 g]) (m1 := m) rfl ?_
      refine an_call (r_X4_cell m (nI j1) (v_X1_at m 1 g a1)) rfl rfl rfl rfl ?_
      refine an_call (r_X1_at m 0 g (v_X4_cell m (nI j1) (v_X1_at m 1 g a1))) rfl rfl rfl rfl ?_
      refine an_b 4 (pc2 := if ((v_X1_at m 0 g (v_X4_cell m (nI j1) (v_X1_at m 1 g a1))) + (v_X1_at m 2 g a1)) ≤ (3 : Int32) then 74 else 70) (L2 := [some (vR 0 0 g), some (vI a1), some (vI (v_X1_at m 1 g a1)), some (vI (v_X1_at m 2 g a1)), some (vI (v_X1_at m 3 g a1)), some (vI s1), some (vI (nI j1)), none, none]) (st2 := []) (m1 := m) rfl ?_
      refine re_if1 (c := ((v_X1_at m 0 g (v_X4_cell m (nI j1) (v_X1_at m 1 g a1))) + (v_X1_at m 2 g a1)) ≤ (3 : Int32)) (a := (0 : Int32)) (b := (1 : Int32)) (fun x => (75, [some (vR 0 0 g), some (vI a1), some (vI (v_X1_at m 1 g a1)), some (vI (v_X1_at m 2 g a1)), some (vI (v_X1_at m 3 g a1)), some (vI s1), some (vI (nI j1)), none, none], [vI x], m)) (fun h2 v9 m9 K3 => ?_) (fun h2 v9 m9 K3 => ?_) _ _ ?_
      · refine an_b 1 (pc2 := 75) (L2 := [some (vR 0 0 g), some (vI a1), some (vI (v_X1_at m 1 g a1)), some (vI (v_X1_at m 2 g a1)), some (vI (v_X1_at m 3 g a1)), some (vI s1), some (vI (nI j1)), none, none]) (st2 := [vI (0 : Int32)]) (m1 := m) rfl ?_
        exact K3
      · refine an_b 2 (pc2 := 75) (L2 := [some (vR 0 0 g), some (vI a1), some (vI (v_X1_at m 1 g a1)), some (vI (v_X1_at m 2 g a1)), some (vI (v_X1_at m 3 g a1)), some (vI s1), some (vI (nI j1)), none, none]) (st2 := [vI (1 : Int32)]) (m1 := m) rfl ?_
        exact K3
      refine an_b 4 (pc2 := 83) (L2 := [some (vR 0 0 g), some (vI a1), some (vI (v_X1_at m 1 g a1)), some (vI (v_X1_at m 2 g a1)), some (vI (v_X1_at m 3 g a1)), some (vI s1), some (vI (nI j1)), some (vI (if ((v_X1_at m 0 g (v_X4_cell m (nI j1) (v_X1_at m 1 g a1))) + (v_X1_at m 2 g a1)) ≤ (3 : Int32) then (0 : Int32) else (1 : Int32))), none]) (st2 := [vI (nI j1), vR 1 1 g]) (m1 := m) rfl ?_
      refine an_call (r_X1_at m 1 g (nI j1)) rfl rfl rfl rfl ?_
      refine an_b 2 (pc2 := if ¬ (v_X1_at m 1 g (nI j1)) = (v_X1_at m 1 g a1) then 108 else 90) (L2 := [some (vR 0 0 g), some (vI a1), some (vI (v_X1_at m 1 g a1)), some (vI (v_X1_at m 2 g a1)), some (vI (v_X1_at m 3 g a1)), some (vI s1), some (vI (nI j1)), some (vI (if ((v_X1_at m 0 g (v_X4_cell m (nI j1) (v_X1_at m 1 g a1))) + (v_X1_at m 2 g a1)) ≤ (3 : Int32) then (0 : Int32) else (1 : Int32))), none]) (st2 := []) (m1 := m) rfl ?_
      refine re_if1 (c := ¬ (v_X1_at m 1 g (nI j1)) = (v_X1_at m 1 g a1)) (a := (0 : Int32)) (b := (if (v_X1_at m 3 g a1) ≤ (v_X1_at m 3 g (nI j1)) then (0 : Int32) else (1 : Int32))) (fun x => (109, [some (vR 0 0 g), some (vI a1), some (vI (v_X1_at m 1 g a1)), some (vI (v_X1_at m 2 g a1)), some (vI (v_X1_at m 3 g a1)), some (vI s1), some (vI (nI j1)), some (vI (if ((v_X1_at m 0 g (v_X4_cell m (nI j1) (v_X1_at m 1 g a1))) + (v_X1_at m 2 g a1)) ≤ (3 : Int32) then (0 : Int32) else (1 : Int32))), none], [vI x], m)) (fun h4 v9 m9 K7 => ?_) (fun h4 v9 m9 K7 => ?_) _ _ ?_
      · refine an_b 1 (pc2 := 109) (L2 := [some (vR 0 0 g), some (vI a1), some (vI (v_X1_at m 1 g a1)), some (vI (v_X1_at m 2 g a1)), some (vI (v_X1_at m 3 g a1)), some (vI s1), some (vI (nI j1)), some (vI (if ((v_X1_at m 0 g (v_X4_cell m (nI j1) (v_X1_at m 1 g a1))) + (v_X1_at m 2 g a1)) ≤ (3 : Int32) then (0 : Int32) else (1 : Int32))), none]) (st2 := [vI (0 : Int32)]) (m1 := m) rfl ?_
        exact K7
      · refine an_b 3 (pc2 := 96) (L2 := [some (vR 0 0 g), some (vI a1), some (vI (v_X1_at m 1 g a1)), some (vI (v_X1_at m 2 g a1)), some (vI (v_X1_at m 3 g a1)), some (vI s1), some (vI (nI j1)), some (vI (if ((v_X1_at m 0 g (v_X4_cell m (nI j1) (v_X1_at m 1 g a1))) + (v_X1_at m 2 g a1)) ≤ (3 : Int32) then (0 : Int32) else (1 : Int32))), none]) (st2 := [vI (nI j1), vR 1 3 g]) (m1 := m) rfl ?_
        refine an_call (r_X1_at m 3 g (nI j1)) rfl rfl rfl rfl ?_
        refine an_b 2 (pc2 := if (v_X1_at m 3 g a1) ≤ (v_X1_at m 3 g (nI j1)) then 108 else 104) (L2 := [some (vR 0 0 g), some (vI a1), some (vI (v_X1_at m 1 g a1)), some (vI (v_X1_at m 2 g a1)), some (vI (v_X1_at m 3 g a1)), some (vI s1), some (vI (nI j1)), some (vI (if ((v_X1_at m 0 g (v_X4_cell m (nI j1) (v_X1_at m 1 g a1))) + (v_X1_at m 2 g a1)) ≤ (3 : Int32) then (0 : Int32) else (1 : Int32))), none]) (st2 := []) (m1 := m) rfl ?_
        refine re_if1 (c := (v_X1_at m 3 g a1) ≤ (v_X1_at m 3 g (nI j1))) (a := (0 : Int32)) (b := (1 : Int32)) (fun x => (109, [some (vR 0 0 g), some (vI a1), some (vI (v_X1_at m 1 g a1)), some (vI (v_X1_at m 2 g a1)), some (vI (v_X1_at m 3 g a1)), some (vI s1), some (vI (nI j1)), some (vI (if ((v_X1_at m 0 g (v_X4_cell m (nI j1) (v_X1_at m 1 g a1))) + (v_X1_at m 2 g a1)) ≤ (3 : Int32) then (0 : Int32) else (1 : Int32))), none], [vI x], m)) (fun h5 v9 m9 K6 => ?_) (fun h5 v9 m9 K6 => ?_) _ _ ?_
        · refine an_b 1 (pc2 := 109) (L2 := [some (vR 0 0 g), some (vI a1), some (vI (v_X1_at m 1 g a1)), some (vI (v_X1_at m 2 g a1)), some (vI (v_X1_at m 3 g a1)), some (vI s1), some (vI (nI j1)), some (vI (if ((v_X1_at m 0 g (v_X4_cell m (nI j1) (v_X1_at m 1 g a1))) + (v_X1_at m 2 g a1)) ≤ (3 : Int32) then (0 : Int32) else (1 : Int32))), none]) (st2 := [vI (0 : Int32)]) (m1 := m) rfl ?_
          exact K6
        · refine an_b 2 (pc2 := 109) (L2 := [some (vR 0 0 g), some (vI a1), some (vI (v_X1_at m 1 g a1)), some (vI (v_X1_at m 2 g a1)), some (vI (v_X1_at m 3 g a1)), some (vI s1), some (vI (nI j1)), some (vI (if ((v_X1_at m 0 g (v_X4_cell m (nI j1) (v_X1_at m 1 g a1))) + (v_X1_at m 2 g a1)) ≤ (3 : Int32) then (0 : Int32) else (1 : Int32))), none]) (st2 := [vI (1 : Int32)]) (m1 := m) rfl ?_
          exact K6
        exact K7
      refine an_b 4 (pc2 := if (nI j1) = a1 then 136 else 117) (L2 := [some (vR 0 0 g), some (vI a1), some (vI (v_X1_at m 1 g a1)), some (vI (v_X1_at m 2 g a1)), some (vI (v_X1_at m 3 g a1)), some (vI s1), some (vI (nI j1)), some (vI (if ((v_X1_at m 0 g (v_X4_cell m (nI j1) (v_X1_at m 1 g a1))) + (v_X1_at m 2 g a1)) ≤ (3 : Int32) then (0 : Int32) else (1 : Int32))), some (vI (if ¬ (v_X1_at m 1 g (nI j1)) = (v_X1_at m 1 g a1) then (0 : Int32) else (if (v_X1_at m 3 g a1) ≤ (v_X1_at m 3 g (nI j1)) then (0 : Int32) else (1 : Int32))))]) (st2 := []) (m1 := m) rfl ?_
      refine re_if1 (c := (nI j1) = a1) (a := s1) (b := (if ¬ (if ((v_X1_at m 0 g (v_X4_cell m (nI j1) (v_X1_at m 1 g a1))) + (v_X1_at m 2 g a1)) ≤ (3 : Int32) then (0 : Int32) else (1 : Int32)) = 0 then (s1 ||| ((1 : Int32) <<< ((nI j1) &&& (31 : Int32)))) else (if (if ¬ (v_X1_at m 1 g (nI j1)) = (v_X1_at m 1 g a1) then (0 : Int32) else (if (v_X1_at m 3 g a1) ≤ (v_X1_at m 3 g (nI j1)) then (0 : Int32) else (1 : Int32))) = 0 then s1 else (s1 ||| ((1 : Int32) <<< ((nI j1) &&& (31 : Int32))))))) (fun x => (136, [some (vR 0 0 g), some (vI a1), some (vI (v_X1_at m 1 g a1)), some (vI (v_X1_at m 2 g a1)), some (vI (v_X1_at m 3 g a1)), some (vI x), some (vI (nI j1)), some (vI (if ((v_X1_at m 0 g (v_X4_cell m (nI j1) (v_X1_at m 1 g a1))) + (v_X1_at m 2 g a1)) ≤ (3 : Int32) then (0 : Int32) else (1 : Int32))), some (vI (if ¬ (v_X1_at m 1 g (nI j1)) = (v_X1_at m 1 g a1) then (0 : Int32) else (if (v_X1_at m 3 g a1) ≤ (v_X1_at m 3 g (nI j1)) then (0 : Int32) else (1 : Int32))))], [], m)) (fun h8 v9 m9 K13 => ?_) (fun h8 v9 m9 K13 => ?_) _ _ ?_
      · exact K13
      · refine an_b 2 (pc2 := if ¬ (if ((v_X1_at m 0 g (v_X4_cell m (nI j1) (v_X1_at m 1 g a1))) + (v_X1_at m 2 g a1)) ≤ (3 : Int32) then (0 : Int32) else (1 : Int32)) = 0 then 127 else 122) (L2 := [some (vR 0 0 g), some (vI a1), some (vI (v_X1_at m 1 g a1)), some (vI (v_X1_at m 2 g a1)), some (vI (v_X1_at m 3 g a1)), some (vI s1), some (vI (nI j1)), some (vI (if ((v_X1_at m 0 g (v_X4_cell m (nI j1) (v_X1_at m 1 g a1))) + (v_X1_at m 2 g a1)) ≤ (3 : Int32) then (0 : Int32) else (1 : Int32))), some (vI (if ¬ (v_X1_at m 1 g (nI j1)) = (v_X1_at m 1 g a1) then (0 : Int32) else (if (v_X1_at m 3 g a1) ≤ (v_X1_at m 3 g (nI j1)) then (0 : Int32) else (1 : Int32))))]) (st2 := []) (m1 := m) rfl ?_
        refine re_if1 (c := ¬ (if ((v_X1_at m 0 g (v_X4_cell m (nI j1) (v_X1_at m 1 g a1))) + (v_X1_at m 2 g a1)) ≤ (3 : Int32) then (0 : Int32) else (1 : Int32)) = 0) (a := (s1 ||| ((1 : Int32) <<< ((nI j1) &&& (31 : Int32))))) (b := (if (if ¬ (v_X1_at m 1 g (nI j1)) = (v_X1_at m 1 g a1) then (0 : Int32) else (if (v_X1_at m 3 g a1) ≤ (v_X1_at m 3 g (nI j1)) then (0 : Int32) else (1 : Int32))) = 0 then s1 else (s1 ||| ((1 : Int32) <<< ((nI j1) &&& (31 : Int32)))))) (fun x => (136, [some (vR 0 0 g), some (vI a1), some (vI (v_X1_at m 1 g a1)), some (vI (v_X1_at m 2 g a1)), some (vI (v_X1_at m 3 g a1)), some (vI x), some (vI (nI j1)), some (vI (if ((v_X1_at m 0 g (v_X4_cell m (nI j1) (v_X1_at m 1 g a1))) + (v_X1_at m 2 g a1)) ≤ (3 : Int32) then (0 : Int32) else (1 : Int32))), some (vI (if ¬ (v_X1_at m 1 g (nI j1)) = (v_X1_at m 1 g a1) then (0 : Int32) else (if (v_X1_at m 3 g a1) ≤ (v_X1_at m 3 g (nI j1)) then (0 : Int32) else (1 : Int32))))], [], m)) (fun h9 v9 m9 K12 => ?_) (fun h9 v9 m9 K12 => ?_) _ _ ?_
        · refine an_b 6 (pc2 := 136) (L2 := [some (vR 0 0 g), some (vI a1), some (vI (v_X1_at m 1 g a1)), some (vI (v_X1_at m 2 g a1)), some (vI (v_X1_at m 3 g a1)), some (vI (s1 ||| ((1 : Int32) <<< ((nI j1) &&& (31 : Int32))))), some (vI (nI j1)), some (vI (if ((v_X1_at m 0 g (v_X4_cell m (nI j1) (v_X1_at m 1 g a1))) + (v_X1_at m 2 g a1)) ≤ (3 : Int32) then (0 : Int32) else (1 : Int32))), some (vI (if ¬ (v_X1_at m 1 g (nI j1)) = (v_X1_at m 1 g a1) then (0 : Int32) else (if (v_X1_at m 3 g a1) ≤ (v_X1_at m 3 g (nI j1)) then (0 : Int32) else (1 : Int32))))]) (st2 := []) (m1 := m) rfl ?_
          exact K12
        · refine an_b 2 (pc2 := if (if ¬ (v_X1_at m 1 g (nI j1)) = (v_X1_at m 1 g a1) then (0 : Int32) else (if (v_X1_at m 3 g a1) ≤ (v_X1_at m 3 g (nI j1)) then (0 : Int32) else (1 : Int32))) = 0 then 136 else 127) (L2 := [some (vR 0 0 g), some (vI a1), some (vI (v_X1_at m 1 g a1)), some (vI (v_X1_at m 2 g a1)), some (vI (v_X1_at m 3 g a1)), some (vI s1), some (vI (nI j1)), some (vI (if ((v_X1_at m 0 g (v_X4_cell m (nI j1) (v_X1_at m 1 g a1))) + (v_X1_at m 2 g a1)) ≤ (3 : Int32) then (0 : Int32) else (1 : Int32))), some (vI (if ¬ (v_X1_at m 1 g (nI j1)) = (v_X1_at m 1 g a1) then (0 : Int32) else (if (v_X1_at m 3 g a1) ≤ (v_X1_at m 3 g (nI j1)) then (0 : Int32) else (1 : Int32))))]) (st2 := []) (m1 := m) rfl ?_
          refine re_if1 (c := (if ¬ (v_X1_at m 1 g (nI j1)) = (v_X1_at m 1 g a1) then (0 : Int32) else (if (v_X1_at m 3 g a1) ≤ (v_X1_at m 3 g (nI j1)) then (0 : Int32) else (1 : Int32))) = 0) (a := s1) (b := (s1 ||| ((1 : Int32) <<< ((nI j1) &&& (31 : Int32))))) (fun x => (136, [some (vR 0 0 g), some (vI a1), some (vI (v_X1_at m 1 g a1)), some (vI (v_X1_at m 2 g a1)), some (vI (v_X1_at m 3 g a1)), some (vI x), some (vI (nI j1)), some (vI (if ((v_X1_at m 0 g (v_X4_cell m (nI j1) (v_X1_at m 1 g a1))) + (v_X1_at m 2 g a1)) ≤ (3 : Int32) then (0 : Int32) else (1 : Int32))), some (vI (if ¬ (v_X1_at m 1 g (nI j1)) = (v_X1_at m 1 g a1) then (0 : Int32) else (if (v_X1_at m 3 g a1) ≤ (v_X1_at m 3 g (nI j1)) then (0 : Int32) else (1 : Int32))))], [], m)) (fun h10 v9 m9 K11 => ?_) (fun h10 v9 m9 K11 => ?_) _ _ ?_
          · exact K11
          · refine an_b 6 (pc2 := 136) (L2 := [some (vR 0 0 g), some (vI a1), some (vI (v_X1_at m 1 g a1)), some (vI (v_X1_at m 2 g a1)), some (vI (v_X1_at m 3 g a1)), some (vI (s1 ||| ((1 : Int32) <<< ((nI j1) &&& (31 : Int32))))), some (vI (nI j1)), some (vI (if ((v_X1_at m 0 g (v_X4_cell m (nI j1) (v_X1_at m 1 g a1))) + (v_X1_at m 2 g a1)) ≤ (3 : Int32) then (0 : Int32) else (1 : Int32))), some (vI (if ¬ (v_X1_at m 1 g (nI j1)) = (v_X1_at m 1 g a1) then (0 : Int32) else (if (v_X1_at m 3 g a1) ≤ (v_X1_at m 3 g (nI j1)) then (0 : Int32) else (1 : Int32))))]) (st2 := []) (m1 := m) rfl ?_
            exact K11
          exact K12
        exact K13
      refine an_b 2 (pc2 := 44) (L2 := [some (vR 0 0 g), some (vI a1), some (vI (v_X1_at m 1 g a1)), some (vI (v_X1_at m 2 g a1)), some (vI (v_X1_at m 3 g a1)), some (vI (if (nI j1) = a1 then s1 else (if ¬ (if ((v_X1_at m 0 g (v_X4_cell m (nI j1) (v_X1_at m 1 g a1))) + (v_X1_at m 2 g a1)) ≤ (3 : Int32) then (0 : Int32) else (1 : Int32)) = 0 then (s1 ||| ((1 : Int32) <<< ((nI j1) &&& (31 : Int32)))) else (if (if ¬ (v_X1_at m 1 g (nI j1)) = (v_X1_at m 1 g a1) then (0 : Int32) else (if (v_X1_at m 3 g a1) ≤ (v_X1_at m 3 g (nI j1)) then (0 : Int32) else (1 : Int32))) = 0 then s1 else (s1 ||| ((1 : Int32) <<< ((nI j1) &&& (31 : Int32)))))))), some (vI ((nI j1) + (1 : Int32))), some (vI (if ((v_X1_at m 0 g (v_X4_cell m (nI j1) (v_X1_at m 1 g a1))) + (v_X1_at m 2 g a1)) ≤ (3 : Int32) then (0 : Int32) else (1 : Int32))), some (vI (if ¬ (v_X1_at m 1 g (nI j1)) = (v_X1_at m 1 g a1) then (0 : Int32) else (if (v_X1_at m 3 g a1) ≤ (v_X1_at m 3 g (nI j1)) then (0 : Int32) else (1 : Int32))))]) (st2 := []) (m1 := m) rfl ?_
      refine an_weak (L := [some (vR 0 0 g), some (vI a1), some (vI (v_X1_at m 1 g a1)), some (vI (v_X1_at m 2 g a1)), some (vI (v_X1_at m 3 g a1)), some (vI (if (nI j1) = a1 then s1 else (if ¬ (if ((v_X1_at m 0 g (v_X4_cell m (nI j1) (v_X1_at m 1 g a1))) + (v_X1_at m 2 g a1)) ≤ (3 : Int32) then (0 : Int32) else (1 : Int32)) = 0 then (s1 ||| ((1 : Int32) <<< ((nI j1) &&& (31 : Int32)))) else (if (if ¬ (v_X1_at m 1 g (nI j1)) = (v_X1_at m 1 g a1) then (0 : Int32) else (if (v_X1_at m 3 g a1) ≤ (v_X1_at m 3 g (nI j1)) then (0 : Int32) else (1 : Int32))) = 0 then s1 else (s1 ||| ((1 : Int32) <<< ((nI j1) &&& (31 : Int32)))))))), some (vI ((nI j1) + (1 : Int32))), none, none]) (⟨rfl, rfl, rfl, rfl, rfl, rfl, rfl, trivial⟩) ?_
      refine an_cL (K := [some (vR 0 0 g), some (vI a1), some (vI (v_X1_at m 1 g a1)), some (vI (v_X1_at m 2 g a1)), some (vI (v_X1_at m 3 g a1)), some (vI (if (nI j1) = a1 then s1 else (if ¬ (if ((v_X1_at m 0 g (v_X4_cell m (nI j1) (v_X1_at m 1 g a1))) + (v_X1_at m 2 g a1)) ≤ (3 : Int32) then (0 : Int32) else (1 : Int32)) = 0 then (s1 ||| ((1 : Int32) <<< ((nI j1) &&& (31 : Int32)))) else (if (if ¬ (v_X1_at m 1 g (nI j1)) = (v_X1_at m 1 g a1) then (0 : Int32) else (if (v_X1_at m 3 g a1) ≤ (v_X1_at m 3 g (nI j1)) then (0 : Int32) else (1 : Int32))) = 0 then s1 else (s1 ||| ((1 : Int32) <<< ((nI j1) &&& (31 : Int32)))))))), some (vI (nI (j1 + 1))), none, none]) (by simp only [nI_1]) ?_
      exact K1
    · show An MX2_direct 44 [some (vR 0 0 g), some (vI a1), some (vI (v_X1_at m 1 g a1)), some (vI (v_X1_at m 2 g a1)), some (vI (v_X1_at m 3 g a1)), some (vI s1), some (vI (nI 8)), none, none] [] m v9 m9
      refine an_b 3 (pc2 := if (8 : Int32) ≤ (nI 8) then 142 else 51) (L2 := [some (vR 0 0 g), some (vI a1), some (vI (v_X1_at m 1 g a1)), some (vI (v_X1_at m 2 g a1)), some (vI (v_X1_at m 3 g a1)), some (vI s1), some (vI (nI 8)), none, none]) (st2 := []) (m1 := m) rfl ?_
      refine an_t (nI_le (a := 8) (b := 8) (by omega) (by omega)) ?_
      refine an_weak (L := [some (vR 0 0 g), some (vI a1), some (vI (v_X1_at m 1 g a1)), some (vI (v_X1_at m 2 g a1)), some (vI (v_X1_at m 3 g a1)), some (vI s1), none, none, none]) (⟨rfl, rfl, rfl, rfl, rfl, rfl, trivial⟩) ?_
      exact K1
    show An MX2_direct 142 [some (vR 0 0 g), some (vI a1), some (vI (v_X1_at m 1 g a1)), some (vI (v_X1_at m 2 g a1)), some (vI (v_X1_at m 3 g a1)), some (vI (lp (b_X2_direct_1 m g a1) 8 0 (0 : Int32))), none, none, none] [] m _ _
    refine an_b 1 (pc2 := 144) (L2 := [some (vR 0 0 g), some (vI a1), some (vI (v_X1_at m 1 g a1)), some (vI (v_X1_at m 2 g a1)), some (vI (v_X1_at m 3 g a1)), some (vI (lp (b_X2_direct_1 m g a1) 8 0 (0 : Int32))), none, none, none]) (st2 := [vI (lp (b_X2_direct_1 m g a1) 8 0 (0 : Int32))]) (m1 := m) rfl ?_
    exact an_ret rfl rfl rfl rfl rfl
  · refine an_b 1 (pc2 := 9) (L2 := [some (vR 0 0 g), some (vI a1), none, none, none, none, none, none, none]) (st2 := [vI (0 : Int32)]) (m1 := m) rfl ?_
    exact an_ret rfl rfl rfl rfl rfl
def v_X4_has (m : PM) (a1 : Int32) (a2 : Int32) : Int32 := (if ((a1 >>> (a2 &&& (31 : Int32))) &&& (1 : Int32)) = 0 then (0 : Int32) else (1 : Int32))
set_option maxRecDepth 100000 in
theorem r_X4_has (m : PM) (a1 : Int32) (a2 : Int32) : Rn MX4_has [vI a1, vI a2] m (some (vI (v_X4_has m a1 a2))) m := by
  refine rn_of [some (vI a1), some (vI a2)] rfl ?_
  unfold v_X4_has
  refine an_b 6 (pc2 := if ((a1 >>> (a2 &&& (31 : Int32))) &&& (1 : Int32)) = 0 then 12 else 8) (L2 := [some (vI a1), some (vI a2)]) (st2 := []) (m1 := m) rfl ?_
  refine an_ifi (c := ((a1 >>> (a2 &&& (31 : Int32))) &&& (1 : Int32)) = 0) (fun h1 => ?_) (fun h1 => ?_)
  · refine an_b 1 (pc2 := 13) (L2 := [some (vI a1), some (vI a2)]) (st2 := [vI (0 : Int32)]) (m1 := m) rfl ?_
    exact an_ret rfl rfl rfl rfl rfl
  · refine an_b 2 (pc2 := 13) (L2 := [some (vI a1), some (vI a2)]) (st2 := [vI (1 : Int32)]) (m1 := m) rfl ?_
    exact an_ret rfl rfl rfl rfl rfl
def b_X2_reach_2 (m : PM) (g : Nat) (a1 : Int32) (j1 : Nat) (s1 : Int32) (j2 : Nat) (s2 : Int32) : Int32 := (if (v_X4_has m s1 (nI j2)) = 0 then s2 else (s2 ||| (v_X2_direct m g (nI j2))))
def b_X2_reach_1 (m : PM) (g : Nat) (a1 : Int32)  (j1 : Nat) (s1 : Int32) : (Int32) ⊕ (Int32) := if ¬ (lp (b_X2_reach_2 m g a1 j1 s1) 8 0 s1) = s1 then .inl (lp (b_X2_reach_2 m g a1 j1 s1) 8 0 s1) else .inr s1
def v_X2_reach (m : PM) (g : Nat) (a1 : Int32) : Int32 := (lqv (lq (b_X2_reach_1 m g a1) 8 0 (v_X2_direct m g a1)))
set_option maxRecDepth 100000 in
theorem r_X2_reach (m : PM) (g : Nat) (a1 : Int32) : Rn MX2_reach [vR 0 0 g, vI a1] m (some (vI (v_X2_reach m g a1))) m := by
  refine rn_of [some (vR 0 0 g), some (vI a1), none, none, none, none] rfl ?_
  unfold v_X2_reach
  refine an_b 2 (pc2 := 2) (L2 := [some (vR 0 0 g), some (vI a1), none, none, none, none]) (st2 := [vI a1, vR 0 0 g]) (m1 := m) rfl ?_
  refine an_call (r_X2_direct m g a1) rfl rfl rfl rfl ?_
  refine an_b 3 (pc2 := 8) (L2 := [some (vR 0 0 g), some (vI a1), some (vI (v_X2_direct m g a1)), some (vI (0 : Int32)), none, none]) (st2 := []) (m1 := m) rfl ?_
  refine re_lq (σ := Int32) (ρ := Int32) (b_X2_reach_1 m g a1) (fun j1 s1 => (8, [some (vR 0 0 g), some (vI a1), some (vI s1), some (vI (nI j1)), none, none], [], m)) 8 (fun x9 => (71, [some (vR 0 0 g), some (vI a1), some (vI (lqv x9)), none, none, none], [], m)) (fun j1 s1 hj1 v9 m9 hc1 hr1 => ?_) (fun s1 v9 m9 K1 => ?_) 8 0 (v_X2_direct m g a1) (Nat.add_zero _) _ _ ?_
  · show An MX2_reach 8 [some (vR 0 0 g), some (vI a1), some (vI s1), some (vI (nI j1)), none, none] [] m v9 m9
    refine an_b 3 (pc2 := if (8 : Int32) ≤ (nI j1) then 71 else 14) (L2 := [some (vR 0 0 g), some (vI a1), some (vI s1), some (vI (nI j1)), none, none]) (st2 := []) (m1 := m) rfl ?_
    refine an_f (nI_ge (a := j1) (b := 8) (by omega) (by omega)) ?_
    refine an_b 4 (pc2 := 20) (L2 := [some (vR 0 0 g), some (vI a1), some (vI s1), some (vI (nI j1)), some (vI s1), some (vI (0 : Int32))]) (st2 := []) (m1 := m) rfl ?_
    refine re_lp (σ := Int32) (b_X2_reach_2 m g a1 j1 s1) (fun j2 s2 => (20, [some (vR 0 0 g), some (vI a1), some (vI s1), some (vI (nI j1)), some (vI s2), some (vI (nI j2))], [], m)) 8 (fun s2 => (53, [some (vR 0 0 g), some (vI a1), some (vI s1), some (vI (nI j1)), some (vI s2), none], [], m)) (fun j2 s2 hj2 v9 m9 K2 => ?_) (fun s2 v9 m9 K2 => ?_) 8 0 s1 (Nat.add_zero _) _ _ ?_
    · show An MX2_reach 20 [some (vR 0 0 g), some (vI a1), some (vI s1), some (vI (nI j1)), some (vI s2), some (vI (nI j2))] [] m v9 m9
      refine an_b 3 (pc2 := if (8 : Int32) ≤ (nI j2) then 53 else 27) (L2 := [some (vR 0 0 g), some (vI a1), some (vI s1), some (vI (nI j1)), some (vI s2), some (vI (nI j2))]) (st2 := []) (m1 := m) rfl ?_
      refine an_f (nI_ge (a := j2) (b := 8) (by omega) (by omega)) ?_
      refine an_b 2 (pc2 := 30) (L2 := [some (vR 0 0 g), some (vI a1), some (vI s1), some (vI (nI j1)), some (vI s2), some (vI (nI j2))]) (st2 := [vI (nI j2), vI s1]) (m1 := m) rfl ?_
      refine an_call (r_X4_has m s1 (nI j2)) rfl rfl rfl rfl ?_
      refine an_b 1 (pc2 := if (v_X4_has m s1 (nI j2)) = 0 then 47 else 36) (L2 := [some (vR 0 0 g), some (vI a1), some (vI s1), some (vI (nI j1)), some (vI s2), some (vI (nI j2))]) (st2 := []) (m1 := m) rfl ?_
      refine re_if1 (c := (v_X4_has m s1 (nI j2)) = 0) (a := s2) (b := (s2 ||| (v_X2_direct m g (nI j2)))) (fun x => (47, [some (vR 0 0 g), some (vI a1), some (vI s1), some (vI (nI j1)), some (vI x), some (vI (nI j2))], [], m)) (fun h1 v9 m9 K2 => ?_) (fun h1 v9 m9 K2 => ?_) _ _ ?_
      · exact K2
      · refine an_b 3 (pc2 := 41) (L2 := [some (vR 0 0 g), some (vI a1), some (vI s1), some (vI (nI j1)), some (vI s2), some (vI (nI j2))]) (st2 := [vI (nI j2), vR 0 0 g, vI s2]) (m1 := m) rfl ?_
        refine an_call (r_X2_direct m g (nI j2)) rfl rfl rfl rfl ?_
        refine an_b 2 (pc2 := 47) (L2 := [some (vR 0 0 g), some (vI a1), some (vI s1), some (vI (nI j1)), some (vI (s2 ||| (v_X2_direct m g (nI j2)))), some (vI (nI j2))]) (st2 := []) (m1 := m) rfl ?_
        exact K2
      refine an_b 2 (pc2 := 20) (L2 := [some (vR 0 0 g), some (vI a1), some (vI s1), some (vI (nI j1)), some (vI (if (v_X4_has m s1 (nI j2)) = 0 then s2 else (s2 ||| (v_X2_direct m g (nI j2))))), some (vI ((nI j2) + (1 : Int32)))]) (st2 := []) (m1 := m) rfl ?_
      refine an_cL (K := [some (vR 0 0 g), some (vI a1), some (vI s1), some (vI (nI j1)), some (vI (if (v_X4_has m s1 (nI j2)) = 0 then s2 else (s2 ||| (v_X2_direct m g (nI j2))))), some (vI (nI (j2 + 1)))]) (by simp only [nI_1]) ?_
      exact K2
    · show An MX2_reach 20 [some (vR 0 0 g), some (vI a1), some (vI s1), some (vI (nI j1)), some (vI s2), some (vI (nI 8))] [] m v9 m9
      refine an_b 3 (pc2 := if (8 : Int32) ≤ (nI 8) then 53 else 27) (L2 := [some (vR 0 0 g), some (vI a1), some (vI s1), some (vI (nI j1)), some (vI s2), some (vI (nI 8))]) (st2 := []) (m1 := m) rfl ?_
      refine an_t (nI_le (a := 8) (b := 8) (by omega) (by omega)) ?_
      refine an_weak (L := [some (vR 0 0 g), some (vI a1), some (vI s1), some (vI (nI j1)), some (vI s2), none]) (⟨rfl, rfl, rfl, rfl, rfl, trivial⟩) ?_
      exact K2
    show An MX2_reach 53 [some (vR 0 0 g), some (vI a1), some (vI s1), some (vI (nI j1)), some (vI (lp (b_X2_reach_2 m g a1 j1 s1) 8 0 s1)), none] [] m _ _
    refine an_b 3 (pc2 := if ¬ (lp (b_X2_reach_2 m g a1 j1 s1) 8 0 s1) = s1 then 62 else 59) (L2 := [some (vR 0 0 g), some (vI a1), some (vI s1), some (vI (nI j1)), some (vI (lp (b_X2_reach_2 m g a1 j1 s1) 8 0 s1)), none]) (st2 := []) (m1 := m) rfl ?_
    refine an_if (c := ¬ (lp (b_X2_reach_2 m g a1 j1 s1) 8 0 s1) = s1) (fun h3 => ?_) (fun h3 => ?_)
    · refine an_b 4 (pc2 := 8) (L2 := [some (vR 0 0 g), some (vI a1), some (vI (lp (b_X2_reach_2 m g a1 j1 s1) 8 0 s1)), some (vI ((nI j1) + (1 : Int32))), some (vI (lp (b_X2_reach_2 m g a1 j1 s1) 8 0 s1)), none]) (st2 := []) (m1 := m) rfl ?_
      refine an_weak (L := [some (vR 0 0 g), some (vI a1), some (vI (lp (b_X2_reach_2 m g a1 j1 s1) 8 0 s1)), some (vI ((nI j1) + (1 : Int32))), none, none]) (⟨rfl, rfl, rfl, rfl, trivial⟩) ?_
      refine an_cL (K := [some (vR 0 0 g), some (vI a1), some (vI (lp (b_X2_reach_2 m g a1 j1 s1) 8 0 s1)), some (vI (nI (j1 + 1))), none, none]) (by simp only [nI_1]) ?_
      exact hc1 _ (by unfold b_X2_reach_1; rw [if_pos h3])
    · refine an_b 1 (pc2 := 71) (L2 := [some (vR 0 0 g), some (vI a1), some (vI s1), some (vI (nI j1)), some (vI (lp (b_X2_reach_2 m g a1 j1 s1) 8 0 s1)), none]) (st2 := []) (m1 := m) rfl ?_
      refine an_weak (L := [some (vR 0 0 g), some (vI a1), some (vI s1), none, none, none]) (⟨rfl, rfl, rfl, trivial⟩) ?_
      exact hr1 _ (by unfold b_X2_reach_1; rw [if_neg h3])
  · show An MX2_reach 8 [some (vR 0 0 g), some (vI a1), some (vI s1), some (vI (nI 8)), none, none] [] m v9 m9
    refine an_b 3 (pc2 := if (8 : Int32) ≤ (nI 8) then 71 else 14) (L2 := [some (vR 0 0 g), some (vI a1), some (vI s1), some (vI (nI 8)), none, none]) (st2 := []) (m1 := m) rfl ?_
    refine an_t (nI_le (a := 8) (b := 8) (by omega) (by omega)) ?_
    refine an_weak (L := [some (vR 0 0 g), some (vI a1), some (vI s1), none, none, none]) (⟨rfl, rfl, rfl, trivial⟩) ?_
    exact K1
  show An MX2_reach 71 [some (vR 0 0 g), some (vI a1), some (vI (lqv (lq (b_X2_reach_1 m g a1) 8 0 (v_X2_direct m g a1)))), none, none, none] [] m _ _
  refine an_b 1 (pc2 := 72) (L2 := [some (vR 0 0 g), some (vI a1), some (vI (lqv (lq (b_X2_reach_1 m g a1) 8 0 (v_X2_direct m g a1)))), none, none, none]) (st2 := [vI (lqv (lq (b_X2_reach_1 m g a1) 8 0 (v_X2_direct m g a1)))]) (m1 := m) rfl ?_
  exact an_ret rfl rfl rfl rfl rfl
def b_X2_work_1 (m : PM) (g : Nat) (a1 : Int32)  (j1 : Nat) (s1 : Int32) : Int32 := (s1 + (v_X1_at m 0 g (v_X4_cell m a1 (nI j1))))
def v_X2_work (m : PM) (g : Nat) (a1 : Int32) : Int32 := (lp (b_X2_work_1 m g a1) 12 0 (0 : Int32))
set_option maxRecDepth 100000 in
theorem r_X2_work (m : PM) (g : Nat) (a1 : Int32) : Rn MX2_work [vR 0 0 g, vI a1] m (some (vI (v_X2_work m g a1))) m := by
  refine rn_of [some (vR 0 0 g), some (vI a1), none, none] rfl ?_
  unfold v_X2_work
  refine an_b 4 (pc2 := 4) (L2 := [some (vR 0 0 g), some (vI a1), some (vI (0 : Int32)), some (vI (0 : Int32))]) (st2 := []) (m1 := m) rfl ?_
  refine re_lp (σ := Int32) (b_X2_work_1 m g a1) (fun j1 s1 => (4, [some (vR 0 0 g), some (vI a1), some (vI s1), some (vI (nI j1))], [], m)) 12 (fun s1 => (31, [some (vR 0 0 g), some (vI a1), some (vI s1), none], [], m)) (fun j1 s1 hj1 v9 m9 K1 => ?_) (fun s1 v9 m9 K1 => ?_) 12 0 (0 : Int32) (Nat.add_zero _) _ _ ?_
  · show An MX2_work 4 [some (vR 0 0 g), some (vI a1), some (vI s1), some (vI (nI j1))] [] m v9 m9
    refine an_b 3 (pc2 := if (12 : Int32) ≤ (nI j1) then 31 else 10) (L2 := [some (vR 0 0 g), some (vI a1), some (vI s1), some (vI (nI j1))]) (st2 := []) (m1 := m) rfl ?_
    refine an_f (nI_ge (a := j1) (b := 12) (by omega) (by omega)) ?_
    refine an_b 5 (pc2 := 17) (L2 := [some (vR 0 0 g), some (vI a1), some (vI s1), some (vI (nI j1))]) (st2 := [vI (nI j1), vI a1, vR 1 0 g, vI s1]) (m1 := m) rfl ?_
    refine an_call (r_X4_cell m a1 (nI j1)) rfl rfl rfl rfl ?_
    refine an_call (r_X1_at m 0 g (v_X4_cell m a1 (nI j1))) rfl rfl rfl rfl ?_
    refine an_b 4 (pc2 := 4) (L2 := [some (vR 0 0 g), some (vI a1), some (vI (s1 + (v_X1_at m 0 g (v_X4_cell m a1 (nI j1))))), some (vI ((nI j1) + (1 : Int32)))]) (st2 := []) (m1 := m) rfl ?_
    refine an_cL (K := [some (vR 0 0 g), some (vI a1), some (vI (s1 + (v_X1_at m 0 g (v_X4_cell m a1 (nI j1))))), some (vI (nI (j1 + 1)))]) (by simp only [nI_1]) ?_
    exact K1
  · show An MX2_work 4 [some (vR 0 0 g), some (vI a1), some (vI s1), some (vI (nI 12))] [] m v9 m9
    refine an_b 3 (pc2 := if (12 : Int32) ≤ (nI 12) then 31 else 10) (L2 := [some (vR 0 0 g), some (vI a1), some (vI s1), some (vI (nI 12))]) (st2 := []) (m1 := m) rfl ?_
    refine an_t (nI_le (a := 12) (b := 12) (by omega) (by omega)) ?_
    refine an_weak (L := [some (vR 0 0 g), some (vI a1), some (vI s1), none]) (⟨rfl, rfl, rfl, trivial⟩) ?_
    exact K1
  show An MX2_work 31 [some (vR 0 0 g), some (vI a1), some (vI (lp (b_X2_work_1 m g a1) 12 0 (0 : Int32))), none] [] m _ _
  refine an_b 1 (pc2 := 32) (L2 := [some (vR 0 0 g), some (vI a1), some (vI (lp (b_X2_work_1 m g a1) 12 0 (0 : Int32))), none]) (st2 := [vI (lp (b_X2_work_1 m g a1) 12 0 (0 : Int32))]) (m1 := m) rfl ?_
  exact an_ret rfl rfl rfl rfl rfl
def b_X2_loserFor_1 (m : PM) (g : Nat) (a1 : Int32)  (j1 : Nat) (s1 : Int32 × Int32) : Int32 × Int32 := ((if (v_X4_has m (v_X2_reach m g a1) (nI j1)) = 0 then s1.1 else (if (v_X4_has m (v_X2_reach m g (nI j1)) a1) = 0 then s1.1 else (if s1.1 = (-1 : Int32) then (nI j1) else (if s1.2 < (v_X2_work m g (nI j1)) then s1.1 else (nI j1))))), (if (v_X4_has m (v_X2_reach m g a1) (nI j1)) = 0 then s1.2 else (if (v_X4_has m (v_X2_reach m g (nI j1)) a1) = 0 then s1.2 else (if s1.1 = (-1 : Int32) then (v_X2_work m g (nI j1)) else (if s1.2 < (v_X2_work m g (nI j1)) then s1.2 else (v_X2_work m g (nI j1)))))))
def v_X2_loserFor (m : PM) (g : Nat) (a1 : Int32) : Int32 := (if ¬ (v_X4_has m (v_X2_reach m g a1) a1) = 0 then ((lp (b_X2_loserFor_1 m g a1) 8 0 ((-1 : Int32), (0 : Int32))).1) else (-1 : Int32))
set_option maxRecDepth 100000 in
theorem r_X2_loserFor (m : PM) (g : Nat) (a1 : Int32) : Rn MX2_loserFor [vR 0 0 g, vI a1] m (some (vI (v_X2_loserFor m g a1))) m := by
  refine rn_of [some (vR 0 0 g), some (vI a1), none, none, none, none, none] rfl ?_
  unfold v_X2_loserFor
  refine an_b 2 (pc2 := 2) (L2 := [some (vR 0 0 g), some (vI a1), none, none, none, none, none]) (st2 := [vI a1, vR 0 0 g]) (m1 := m) rfl ?_
  refine an_call (r_X2_reach m g a1) rfl rfl rfl rfl ?_
  refine an_b 5 (pc2 := 10) (L2 := [some (vR 0 0 g), some (vI a1), some (vI (v_X2_reach m g a1)), some (vI (-1 : Int32)), none, none, none]) (st2 := [vI a1, vI (v_X2_reach m g a1)]) (m1 := m) rfl ?_
  refine an_call (r_X4_has m (v_X2_reach m g a1) a1) rfl rfl rfl rfl ?_
  refine an_b 1 (pc2 := if ¬ (v_X4_has m (v_X2_reach m g a1) a1) = 0 then 18 else 16) (L2 := [some (vR 0 0 g), some (vI a1), some (vI (v_X2_reach m g a1)), some (vI (-1 : Int32)), none, none, none]) (st2 := []) (m1 := m) rfl ?_
  refine an_ifi (c := ¬ (v_X4_has m (v_X2_reach m g a1) a1) = 0) (fun h1 => ?_) (fun h1 => ?_)
  · refine an_b 4 (pc2 := 24) (L2 := [some (vR 0 0 g), some (vI a1), some (vI (v_X2_reach m g a1)), some (vI (-1 : Int32)), some (vI (0 : Int32)), some (vI (0 : Int32)), none]) (st2 := []) (m1 := m) rfl ?_
    refine re_lp (σ := Int32 × Int32) (b_X2_loserFor_1 m g a1) (fun j1 s1 => (24, [some (vR 0 0 g), some (vI a1), some (vI (v_X2_reach m g a1)), some (vI s1.1), some (vI s1.2), some (vI (nI j1)), none], [], m)) 8 (fun s1 => (86, [some (vR 0 0 g), some (vI a1), some (vI (v_X2_reach m g a1)), some (vI s1.1), none, none, none], [], m)) (fun j1 s1 hj1 v9 m9 K1 => ?_) (fun s1 v9 m9 K1 => ?_) 8 0 ((-1 : Int32), (0 : Int32)) (Nat.add_zero _) _ _ ?_
    · show An MX2_loserFor 24 [some (vR 0 0 g), some (vI a1), some (vI (v_X2_reach m g a1)), some (vI s1.1), some (vI s1.2), some (vI (nI j1)), none] [] m v9 m9
      refine an_b 3 (pc2 := if (8 : Int32) ≤ (nI j1) then 86 else 31) (L2 := [some (vR 0 0 g), some (vI a1), some (vI (v_X2_reach m g a1)), some (vI s1.1), some (vI s1.2), some (vI (nI j1)), none]) (st2 := []) (m1 := m) rfl ?_
      refine an_f (nI_ge (a := j1) (b := 8) (by omega) (by omega)) ?_
      refine an_b 2 (pc2 := 34) (L2 := [some (vR 0 0 g), some (vI a1), some (vI (v_X2_reach m g a1)), some (vI s1.1), some (vI s1.2), some (vI (nI j1)), none]) (st2 := [vI (nI j1), vI (v_X2_reach m g a1)]) (m1 := m) rfl ?_
      refine an_call (r_X4_has m (v_X2_reach m g a1) (nI j1)) rfl rfl rfl rfl ?_
      refine an_b 1 (pc2 := if (v_X4_has m (v_X2_reach m g a1) (nI j1)) = 0 then 80 else 40) (L2 := [some (vR 0 0 g), some (vI a1), some (vI (v_X2_reach m g a1)), some (vI s1.1), some (vI s1.2), some (vI (nI j1)), none]) (st2 := []) (m1 := m) rfl ?_
      refine re_if2 (c := (v_X4_has m (v_X2_reach m g a1) (nI j1)) = 0) (a := s1.1) (b := (if (v_X4_has m (v_X2_reach m g (nI j1)) a1) = 0 then s1.1 else (if s1.1 = (-1 : Int32) then (nI j1) else (if s1.2 < (v_X2_work m g (nI j1)) then s1.1 else (nI j1))))) (x := s1.2) (y := (if (v_X4_has m (v_X2_reach m g (nI j1)) a1) = 0 then s1.2 else (if s1.1 = (-1 : Int32) then (v_X2_work m g (nI j1)) else (if s1.2 < (v_X2_work m g (nI j1)) then s1.2 else (v_X2_work m g (nI j1)))))) (fun x y => (80, [some (vR 0 0 g), some (vI a1), some (vI (v_X2_reach m g a1)), some (vI x), some (vI y), some (vI (nI j1)), none], [], m)) (fun h2 v9 m9 K9 => ?_) (fun h2 v9 m9 K9 => ?_) _ _ ?_
      · exact K9
      · refine an_b 2 (pc2 := 43) (L2 := [some (vR 0 0 g), some (vI a1), some (vI (v_X2_reach m g a1)), some (vI s1.1), some (vI s1.2), some (vI (nI j1)), none]) (st2 := [vI (nI j1), vR 0 0 g]) (m1 := m) rfl ?_
        refine an_call (r_X2_reach m g (nI j1)) rfl rfl rfl rfl ?_
        refine an_b 1 (pc2 := 47) (L2 := [some (vR 0 0 g), some (vI a1), some (vI (v_X2_reach m g a1)), some (vI s1.1), some (vI s1.2), some (vI (nI j1)), none]) (st2 := [vI a1, vI (v_X2_reach m g (nI j1))]) (m1 := m) rfl ?_
        refine an_call (r_X4_has m (v_X2_reach m g (nI j1)) a1) rfl rfl rfl rfl ?_
        refine an_b 1 (pc2 := if (v_X4_has m (v_X2_reach m g (nI j1)) a1) = 0 then 80 else 53) (L2 := [some (vR 0 0 g), some (vI a1), some (vI (v_X2_reach m g a1)), some (vI s1.1), some (vI s1.2), some (vI (nI j1)), none]) (st2 := []) (m1 := m) rfl ?_
        refine re_if2 (c := (v_X4_has m (v_X2_reach m g (nI j1)) a1) = 0) (a := s1.1) (b := (if s1.1 = (-1 : Int32) then (nI j1) else (if s1.2 < (v_X2_work m g (nI j1)) then s1.1 else (nI j1)))) (x := s1.2) (y := (if s1.1 = (-1 : Int32) then (v_X2_work m g (nI j1)) else (if s1.2 < (v_X2_work m g (nI j1)) then s1.2 else (v_X2_work m g (nI j1))))) (fun x y => (80, [some (vR 0 0 g), some (vI a1), some (vI (v_X2_reach m g a1)), some (vI x), some (vI y), some (vI (nI j1)), none], [], m)) (fun h3 v9 m9 K8 => ?_) (fun h3 v9 m9 K8 => ?_) _ _ ?_
        · exact K8
        · refine an_b 2 (pc2 := 56) (L2 := [some (vR 0 0 g), some (vI a1), some (vI (v_X2_reach m g a1)), some (vI s1.1), some (vI s1.2), some (vI (nI j1)), none]) (st2 := [vI (nI j1), vR 0 0 g]) (m1 := m) rfl ?_
          refine an_call (r_X2_work m g (nI j1)) rfl rfl rfl rfl ?_
          refine an_b 4 (pc2 := if s1.1 = (-1 : Int32) then 73 else 66) (L2 := [some (vR 0 0 g), some (vI a1), some (vI (v_X2_reach m g a1)), some (vI s1.1), some (vI s1.2), some (vI (nI j1)), some (vI (v_X2_work m g (nI j1)))]) (st2 := []) (m1 := m) rfl ?_
          refine re_if2 (c := s1.1 = (-1 : Int32)) (a := (nI j1)) (b := (if s1.2 < (v_X2_work m g (nI j1)) then s1.1 else (nI j1))) (x := (v_X2_work m g (nI j1))) (y := (if s1.2 < (v_X2_work m g (nI j1)) then s1.2 else (v_X2_work m g (nI j1)))) (fun x y => (80, [some (vR 0 0 g), some (vI a1), some (vI (v_X2_reach m g a1)), some (vI x), some (vI y), some (vI (nI j1)), some (vI (v_X2_work m g (nI j1)))], [], m)) (fun h4 v9 m9 K7 => ?_) (fun h4 v9 m9 K7 => ?_) _ _ ?_
          · refine an_b 4 (pc2 := 80) (L2 := [some (vR 0 0 g), some (vI a1), some (vI (v_X2_reach m g a1)), some (vI (nI j1)), some (vI (v_X2_work m g (nI j1))), some (vI (nI j1)), some (vI (v_X2_work m g (nI j1)))]) (st2 := []) (m1 := m) rfl ?_
            exact K7
          · refine an_b 3 (pc2 := if s1.2 < (v_X2_work m g (nI j1)) then 80 else 73) (L2 := [some (vR 0 0 g), some (vI a1), some (vI (v_X2_reach m g a1)), some (vI s1.1), some (vI s1.2), some (vI (nI j1)), some (vI (v_X2_work m g (nI j1)))]) (st2 := []) (m1 := m) rfl ?_
            refine re_if2 (c := s1.2 < (v_X2_work m g (nI j1))) (a := s1.1) (b := (nI j1)) (x := s1.2) (y := (v_X2_work m g (nI j1))) (fun x y => (80, [some (vR 0 0 g), some (vI a1), some (vI (v_X2_reach m g a1)), some (vI x), some (vI y), some (vI (nI j1)), some (vI (v_X2_work m g (nI j1)))], [], m)) (fun h5 v9 m9 K6 => ?_) (fun h5 v9 m9 K6 => ?_) _ _ ?_
            · exact K6
            · refine an_b 4 (pc2 := 80) (L2 := [some (vR 0 0 g), some (vI a1), some (vI (v_X2_reach m g a1)), some (vI (nI j1)), some (vI (v_X2_work m g (nI j1))), some (vI (nI j1)), some (vI (v_X2_work m g (nI j1)))]) (st2 := []) (m1 := m) rfl ?_
              exact K6
            exact K7
          refine an_weak (L := [some (vR 0 0 g), some (vI a1), some (vI (v_X2_reach m g a1)), some (vI (if s1.1 = (-1 : Int32) then (nI j1) else (if s1.2 < (v_X2_work m g (nI j1)) then s1.1 else (nI j1)))), some (vI (if s1.1 = (-1 : Int32) then (v_X2_work m g (nI j1)) else (if s1.2 < (v_X2_work m g (nI j1)) then s1.2 else (v_X2_work m g (nI j1))))), some (vI (nI j1)), none]) (⟨rfl, rfl, rfl, rfl, rfl, rfl, trivial⟩) ?_
          exact K8
        exact K9
      refine an_b 2 (pc2 := 24) (L2 := [some (vR 0 0 g), some (vI a1), some (vI (v_X2_reach m g a1)), some (vI (if (v_X4_has m (v_X2_reach m g a1) (nI j1)) = 0 then s1.1 else (if (v_X4_has m (v_X2_reach m g (nI j1)) a1) = 0 then s1.1 else (if s1.1 = (-1 : Int32) then (nI j1) else (if s1.2 < (v_X2_work m g (nI j1)) then s1.1 else (nI j1)))))), some (vI (if (v_X4_has m (v_X2_reach m g a1) (nI j1)) = 0 then s1.2 else (if (v_X4_has m (v_X2_reach m g (nI j1)) a1) = 0 then s1.2 else (if s1.1 = (-1 : Int32) then (v_X2_work m g (nI j1)) else (if s1.2 < (v_X2_work m g (nI j1)) then s1.2 else (v_X2_work m g (nI j1))))))), some (vI ((nI j1) + (1 : Int32))), none]) (st2 := []) (m1 := m) rfl ?_
      refine an_cL (K := [some (vR 0 0 g), some (vI a1), some (vI (v_X2_reach m g a1)), some (vI (if (v_X4_has m (v_X2_reach m g a1) (nI j1)) = 0 then s1.1 else (if (v_X4_has m (v_X2_reach m g (nI j1)) a1) = 0 then s1.1 else (if s1.1 = (-1 : Int32) then (nI j1) else (if s1.2 < (v_X2_work m g (nI j1)) then s1.1 else (nI j1)))))), some (vI (if (v_X4_has m (v_X2_reach m g a1) (nI j1)) = 0 then s1.2 else (if (v_X4_has m (v_X2_reach m g (nI j1)) a1) = 0 then s1.2 else (if s1.1 = (-1 : Int32) then (v_X2_work m g (nI j1)) else (if s1.2 < (v_X2_work m g (nI j1)) then s1.2 else (v_X2_work m g (nI j1))))))), some (vI (nI (j1 + 1))), none]) (by simp only [nI_1]) ?_
      exact K1
    · show An MX2_loserFor 24 [some (vR 0 0 g), some (vI a1), some (vI (v_X2_reach m g a1)), some (vI s1.1), some (vI s1.2), some (vI (nI 8)), none] [] m v9 m9
      refine an_b 3 (pc2 := if (8 : Int32) ≤ (nI 8) then 86 else 31) (L2 := [some (vR 0 0 g), some (vI a1), some (vI (v_X2_reach m g a1)), some (vI s1.1), some (vI s1.2), some (vI (nI 8)), none]) (st2 := []) (m1 := m) rfl ?_
      refine an_t (nI_le (a := 8) (b := 8) (by omega) (by omega)) ?_
      refine an_weak (L := [some (vR 0 0 g), some (vI a1), some (vI (v_X2_reach m g a1)), some (vI s1.1), none, none, none]) (⟨rfl, rfl, rfl, rfl, trivial⟩) ?_
      exact K1
    show An MX2_loserFor 86 [some (vR 0 0 g), some (vI a1), some (vI (v_X2_reach m g a1)), some (vI ((lp (b_X2_loserFor_1 m g a1) 8 0 ((-1 : Int32), (0 : Int32))).1)), none, none, none] [] m _ _
    refine an_b 1 (pc2 := 87) (L2 := [some (vR 0 0 g), some (vI a1), some (vI (v_X2_reach m g a1)), some (vI ((lp (b_X2_loserFor_1 m g a1) 8 0 ((-1 : Int32), (0 : Int32))).1)), none, none, none]) (st2 := [vI ((lp (b_X2_loserFor_1 m g a1) 8 0 ((-1 : Int32), (0 : Int32))).1)]) (m1 := m) rfl ?_
    exact an_ret rfl rfl rfl rfl rfl
  · refine an_b 1 (pc2 := 17) (L2 := [some (vR 0 0 g), some (vI a1), some (vI (v_X2_reach m g a1)), some (vI (-1 : Int32)), none, none, none]) (st2 := [vI (-1 : Int32)]) (m1 := m) rfl ?_
    exact an_ret rfl rfl rfl rfl rfl
def b_X2_strip_1 (m : PM) (g : Nat) (a1 : Int32)  (j1 : Nat) (s1 : Int32 × PM) : Int32 × PM := ((if (v_X1_at s1.2 0 g (v_X4_cell s1.2 a1 (nI j1))) ≤ 0 then s1.1 else (s1.1 ||| ((1 : Int32) <<< ((nI j1) &&& (31 : Int32))))), (if (v_X1_at s1.2 0 g (v_X4_cell s1.2 a1 (nI j1))) ≤ 0 then s1.2 else (w_X1_put s1.2 0 g (v_X4_cell s1.2 a1 (nI j1)) (0 : Int32))))
def v_X2_strip (m : PM) (g : Nat) (a1 : Int32) : Int32 := (if (v_X2_isWaiting ((lp (b_X2_strip_1 m g a1) 12 0 ((0 : Int32), m)).2) g a1) = 0 then ((lp (b_X2_strip_1 m g a1) 12 0 ((0 : Int32), m)).1) else (((lp (b_X2_strip_1 m g a1) 12 0 ((0 : Int32), m)).1) ||| ((1 : Int32) <<< ((v_X1_at ((lp (b_X2_strip_1 m g a1) 12 0 ((0 : Int32), m)).2) 1 g a1) &&& (31 : Int32)))))
def w_X2_strip (m : PM) (g : Nat) (a1 : Int32) : PM := (w_X1_raise (if (v_X2_isWaiting ((lp (b_X2_strip_1 m g a1) 12 0 ((0 : Int32), m)).2) g a1) = 0 then (lp (b_X2_strip_1 m g a1) 12 0 ((0 : Int32), m)).2 else (w_X2_dequeue ((lp (b_X2_strip_1 m g a1) 12 0 ((0 : Int32), m)).2) g a1)) 7 g a1)
set_option maxRecDepth 100000 in
theorem r_X2_strip (m : PM) (g : Nat) (a1 : Int32) : Rn MX2_strip [vR 0 0 g, vI a1] m (some (vI (v_X2_strip m g a1))) (w_X2_strip m g a1) := by
  refine rn_of [some (vR 0 0 g), some (vI a1), none, none] rfl ?_
  unfold v_X2_strip w_X2_strip
  refine an_b 4 (pc2 := 4) (L2 := [some (vR 0 0 g), some (vI a1), some (vI (0 : Int32)), some (vI (0 : Int32))]) (st2 := []) (m1 := m) rfl ?_
  refine re_lp (σ := Int32 × PM) (b_X2_strip_1 m g a1) (fun j1 s1 => (4, [some (vR 0 0 g), some (vI a1), some (vI s1.1), some (vI (nI j1))], [], s1.2)) 12 (fun s1 => (50, [some (vR 0 0 g), some (vI a1), some (vI s1.1), none], [], s1.2)) (fun j1 s1 hj1 v9 m9 K1 => ?_) (fun s1 v9 m9 K1 => ?_) 12 0 ((0 : Int32), m) (Nat.add_zero _) _ _ ?_
  · show An MX2_strip 4 [some (vR 0 0 g), some (vI a1), some (vI s1.1), some (vI (nI j1))] [] s1.2 v9 m9
    refine an_b 3 (pc2 := if (12 : Int32) ≤ (nI j1) then 50 else 10) (L2 := [some (vR 0 0 g), some (vI a1), some (vI s1.1), some (vI (nI j1))]) (st2 := []) (m1 := s1.2) rfl ?_
    refine an_f (nI_ge (a := j1) (b := 12) (by omega) (by omega)) ?_
    refine an_b 4 (pc2 := 16) (L2 := [some (vR 0 0 g), some (vI a1), some (vI s1.1), some (vI (nI j1))]) (st2 := [vI (nI j1), vI a1, vR 1 0 g]) (m1 := s1.2) rfl ?_
    refine an_call (r_X4_cell s1.2 a1 (nI j1)) rfl rfl rfl rfl ?_
    refine an_call (r_X1_at s1.2 0 g (v_X4_cell s1.2 a1 (nI j1))) rfl rfl rfl rfl ?_
    refine an_b 1 (pc2 := if (v_X1_at s1.2 0 g (v_X4_cell s1.2 a1 (nI j1))) ≤ 0 then 44 else 25) (L2 := [some (vR 0 0 g), some (vI a1), some (vI s1.1), some (vI (nI j1))]) (st2 := []) (m1 := s1.2) rfl ?_
    refine re_if2 (c := (v_X1_at s1.2 0 g (v_X4_cell s1.2 a1 (nI j1))) ≤ 0) (a := s1.1) (b := (s1.1 ||| ((1 : Int32) <<< ((nI j1) &&& (31 : Int32))))) (x := s1.2) (y := (w_X1_put s1.2 0 g (v_X4_cell s1.2 a1 (nI j1)) (0 : Int32))) (fun x y => (44, [some (vR 0 0 g), some (vI a1), some (vI x), some (vI (nI j1))], [], y)) (fun h1 v9 m9 K2 => ?_) (fun h1 v9 m9 K2 => ?_) _ _ ?_
    · exact K2
    · refine an_b 10 (pc2 := 37) (L2 := [some (vR 0 0 g), some (vI a1), some (vI (s1.1 ||| ((1 : Int32) <<< ((nI j1) &&& (31 : Int32))))), some (vI (nI j1))]) (st2 := [vI (nI j1), vI a1, vR 1 0 g]) (m1 := s1.2) rfl ?_
      refine an_call (r_X4_cell s1.2 a1 (nI j1)) rfl rfl rfl rfl ?_
      refine an_b 1 (pc2 := 41) (L2 := [some (vR 0 0 g), some (vI a1), some (vI (s1.1 ||| ((1 : Int32) <<< ((nI j1) &&& (31 : Int32))))), some (vI (nI j1))]) (st2 := [vI (0 : Int32), vI (v_X4_cell s1.2 a1 (nI j1)), vR 1 0 g]) (m1 := s1.2) rfl ?_
      refine an_call (r_X1_put s1.2 0 g (v_X4_cell s1.2 a1 (nI j1)) (0 : Int32)) rfl rfl rfl rfl ?_
      exact K2
    refine an_b 2 (pc2 := 4) (L2 := [some (vR 0 0 g), some (vI a1), some (vI (if (v_X1_at s1.2 0 g (v_X4_cell s1.2 a1 (nI j1))) ≤ 0 then s1.1 else (s1.1 ||| ((1 : Int32) <<< ((nI j1) &&& (31 : Int32)))))), some (vI ((nI j1) + (1 : Int32)))]) (st2 := []) (m1 := (if (v_X1_at s1.2 0 g (v_X4_cell s1.2 a1 (nI j1))) ≤ 0 then s1.2 else (w_X1_put s1.2 0 g (v_X4_cell s1.2 a1 (nI j1)) (0 : Int32)))) rfl ?_
    refine an_cL (K := [some (vR 0 0 g), some (vI a1), some (vI (if (v_X1_at s1.2 0 g (v_X4_cell s1.2 a1 (nI j1))) ≤ 0 then s1.1 else (s1.1 ||| ((1 : Int32) <<< ((nI j1) &&& (31 : Int32)))))), some (vI (nI (j1 + 1)))]) (by simp only [nI_1]) ?_
    exact K1
  · show An MX2_strip 4 [some (vR 0 0 g), some (vI a1), some (vI s1.1), some (vI (nI 12))] [] s1.2 v9 m9
    refine an_b 3 (pc2 := if (12 : Int32) ≤ (nI 12) then 50 else 10) (L2 := [some (vR 0 0 g), some (vI a1), some (vI s1.1), some (vI (nI 12))]) (st2 := []) (m1 := s1.2) rfl ?_
    refine an_t (nI_le (a := 12) (b := 12) (by omega) (by omega)) ?_
    refine an_weak (L := [some (vR 0 0 g), some (vI a1), some (vI s1.1), none]) (⟨rfl, rfl, rfl, trivial⟩) ?_
    exact K1
  show An MX2_strip 50 [some (vR 0 0 g), some (vI a1), some (vI ((lp (b_X2_strip_1 m g a1) 12 0 ((0 : Int32), m)).1)), none] [] (lp (b_X2_strip_1 m g a1) 12 0 ((0 : Int32), m)).2 _ _
  refine an_b 2 (pc2 := 52) (L2 := [some (vR 0 0 g), some (vI a1), some (vI ((lp (b_X2_strip_1 m g a1) 12 0 ((0 : Int32), m)).1)), none]) (st2 := [vI a1, vR 0 0 g]) (m1 := (lp (b_X2_strip_1 m g a1) 12 0 ((0 : Int32), m)).2) rfl ?_
  refine an_call (r_X2_isWaiting ((lp (b_X2_strip_1 m g a1) 12 0 ((0 : Int32), m)).2) g a1) rfl rfl rfl rfl ?_
  refine an_b 1 (pc2 := if (v_X2_isWaiting ((lp (b_X2_strip_1 m g a1) 12 0 ((0 : Int32), m)).2) g a1) = 0 then 76 else 58) (L2 := [some (vR 0 0 g), some (vI a1), some (vI ((lp (b_X2_strip_1 m g a1) 12 0 ((0 : Int32), m)).1)), none]) (st2 := []) (m1 := (lp (b_X2_strip_1 m g a1) 12 0 ((0 : Int32), m)).2) rfl ?_
  refine re_if2 (c := (v_X2_isWaiting ((lp (b_X2_strip_1 m g a1) 12 0 ((0 : Int32), m)).2) g a1) = 0) (a := (lp (b_X2_strip_1 m g a1) 12 0 ((0 : Int32), m)).1) (b := (((lp (b_X2_strip_1 m g a1) 12 0 ((0 : Int32), m)).1) ||| ((1 : Int32) <<< ((v_X1_at ((lp (b_X2_strip_1 m g a1) 12 0 ((0 : Int32), m)).2) 1 g a1) &&& (31 : Int32))))) (x := (lp (b_X2_strip_1 m g a1) 12 0 ((0 : Int32), m)).2) (y := (w_X2_dequeue ((lp (b_X2_strip_1 m g a1) 12 0 ((0 : Int32), m)).2) g a1)) (fun x y => (76, [some (vR 0 0 g), some (vI a1), some (vI x), none], [], y)) (fun h3 v9 m9 K4 => ?_) (fun h3 v9 m9 K4 => ?_) _ _ ?_
  · exact K4
  · refine an_b 5 (pc2 := 65) (L2 := [some (vR 0 0 g), some (vI a1), some (vI ((lp (b_X2_strip_1 m g a1) 12 0 ((0 : Int32), m)).1)), none]) (st2 := [vI a1, vR 1 1 g, vI (1 : Int32), vI ((lp (b_X2_strip_1 m g a1) 12 0 ((0 : Int32), m)).1)]) (m1 := (lp (b_X2_strip_1 m g a1) 12 0 ((0 : Int32), m)).2) rfl ?_
    refine an_call (r_X1_at ((lp (b_X2_strip_1 m g a1) 12 0 ((0 : Int32), m)).2) 1 g a1) rfl rfl rfl rfl ?_
    refine an_b 5 (pc2 := 73) (L2 := [some (vR 0 0 g), some (vI a1), some (vI (((lp (b_X2_strip_1 m g a1) 12 0 ((0 : Int32), m)).1) ||| ((1 : Int32) <<< ((v_X1_at ((lp (b_X2_strip_1 m g a1) 12 0 ((0 : Int32), m)).2) 1 g a1) &&& (31 : Int32))))), none]) (st2 := [vI a1, vR 0 0 g]) (m1 := (lp (b_X2_strip_1 m g a1) 12 0 ((0 : Int32), m)).2) rfl ?_
    refine an_call (r_X2_dequeue ((lp (b_X2_strip_1 m g a1) 12 0 ((0 : Int32), m)).2) g a1) rfl rfl rfl rfl ?_
    exact K4
  refine an_b 3 (pc2 := 81) (L2 := [some (vR 0 0 g), some (vI a1), some (vI (if (v_X2_isWaiting ((lp (b_X2_strip_1 m g a1) 12 0 ((0 : Int32), m)).2) g a1) = 0 then ((lp (b_X2_strip_1 m g a1) 12 0 ((0 : Int32), m)).1) else (((lp (b_X2_strip_1 m g a1) 12 0 ((0 : Int32), m)).1) ||| ((1 : Int32) <<< ((v_X1_at ((lp (b_X2_strip_1 m g a1) 12 0 ((0 : Int32), m)).2) 1 g a1) &&& (31 : Int32)))))), none]) (st2 := [vI a1, vR 1 7 g]) (m1 := (if (v_X2_isWaiting ((lp (b_X2_strip_1 m g a1) 12 0 ((0 : Int32), m)).2) g a1) = 0 then (lp (b_X2_strip_1 m g a1) 12 0 ((0 : Int32), m)).2 else (w_X2_dequeue ((lp (b_X2_strip_1 m g a1) 12 0 ((0 : Int32), m)).2) g a1))) rfl ?_
  refine an_call (r_X1_raise (if (v_X2_isWaiting ((lp (b_X2_strip_1 m g a1) 12 0 ((0 : Int32), m)).2) g a1) = 0 then (lp (b_X2_strip_1 m g a1) 12 0 ((0 : Int32), m)).2 else (w_X2_dequeue ((lp (b_X2_strip_1 m g a1) 12 0 ((0 : Int32), m)).2) g a1)) 7 g a1) rfl rfl rfl rfl ?_
  refine an_b 1 (pc2 := 85) (L2 := [some (vR 0 0 g), some (vI a1), some (vI (if (v_X2_isWaiting ((lp (b_X2_strip_1 m g a1) 12 0 ((0 : Int32), m)).2) g a1) = 0 then ((lp (b_X2_strip_1 m g a1) 12 0 ((0 : Int32), m)).1) else (((lp (b_X2_strip_1 m g a1) 12 0 ((0 : Int32), m)).1) ||| ((1 : Int32) <<< ((v_X1_at ((lp (b_X2_strip_1 m g a1) 12 0 ((0 : Int32), m)).2) 1 g a1) &&& (31 : Int32)))))), none]) (st2 := [vI (if (v_X2_isWaiting ((lp (b_X2_strip_1 m g a1) 12 0 ((0 : Int32), m)).2) g a1) = 0 then ((lp (b_X2_strip_1 m g a1) 12 0 ((0 : Int32), m)).1) else (((lp (b_X2_strip_1 m g a1) 12 0 ((0 : Int32), m)).1) ||| ((1 : Int32) <<< ((v_X1_at ((lp (b_X2_strip_1 m g a1) 12 0 ((0 : Int32), m)).2) 1 g a1) &&& (31 : Int32)))))]) (m1 := (w_X1_raise (if (v_X2_isWaiting ((lp (b_X2_strip_1 m g a1) 12 0 ((0 : Int32), m)).2) g a1) = 0 then (lp (b_X2_strip_1 m g a1) 12 0 ((0 : Int32), m)).2 else (w_X2_dequeue ((lp (b_X2_strip_1 m g a1) 12 0 ((0 : Int32), m)).2) g a1)) 7 g a1)) rfl ?_
  exact an_ret rfl rfl rfl rfl rfl
def b_X2_takeAsking_2 (m : PM) (g : Nat) (a1 : Int32) (a2 : Int32) (a3 : Int32) (j1 : Nat) (s1 : PM) (j2 : Nat) (s2 : PM) : PM := (if (v_X4_has s2 (v_X2_strip s1 g (v_X2_loserFor s1 g a1)) (nI j2)) = 0 then s2 else (w_X2_settle s2 g (nI j2)))
def b_X2_takeAsking_1 (m : PM) (g : Nat) (a1 : Int32) (a2 : Int32) (a3 : Int32)  (j1 : Nat) (s1 : PM) : (PM) ⊕ (PM) := if ¬ (v_X2_loserFor s1 g a1) = (-1 : Int32) then .inl (lp (b_X2_takeAsking_2 m g a1 a2 a3 j1 s1) 12 0 (w_X2_strip s1 g (v_X2_loserFor s1 g a1))) else .inr s1
def v_X2_takeAsking (m : PM) (g : Nat) (a1 : Int32) (a2 : Int32) (a3 : Int32) : Int32 := (if (v_X1_at (w_X1_raise m 9 g a1) 0 g (v_X4_cell (w_X1_raise m 9 g a1) a1 a2)) < a3 then (if (v_X1_at (lqv (lq (b_X2_takeAsking_1 m g a1 a2 a3) 8 0 (w_X2_settle (w_X2_enqueue (w_X1_raise m 9 g a1) g a1 a2 a3) g a2))) 0 g (v_X4_cell (lqv (lq (b_X2_takeAsking_1 m g a1 a2 a3) 8 0 (w_X2_settle (w_X2_enqueue (w_X1_raise m 9 g a1) g a1 a2 a3) g a2))) a1 a2)) < a3 then (if (v_X2_isWaiting (lqv (lq (b_X2_takeAsking_1 m g a1 a2 a3) 8 0 (w_X2_settle (w_X2_enqueue (w_X1_raise m 9 g a1) g a1 a2 a3) g a2))) g a1) = 0 then (2 : Int32) else (1 : Int32)) else (0 : Int32)) else (0 : Int32))
def w_X2_takeAsking (m : PM) (g : Nat) (a1 : Int32) (a2 : Int32) (a3 : Int32) : PM := (if (v_X1_at (w_X1_raise m 9 g a1) 0 g (v_X4_cell (w_X1_raise m 9 g a1) a1 a2)) < a3 then (lqv (lq (b_X2_takeAsking_1 m g a1 a2 a3) 8 0 (w_X2_settle (w_X2_enqueue (w_X1_raise m 9 g a1) g a1 a2 a3) g a2))) else (w_X1_raise (w_X1_raise m 9 g a1) 8 g a1))
set_option maxRecDepth 100000 in
theorem r_X2_takeAsking (m : PM) (g : Nat) (a1 : Int32) (a2 : Int32) (a3 : Int32) : Rn MX2_takeAsking [vR 0 0 g, vI a1, vI a2, vI a3] m (some (vI (v_X2_takeAsking m g a1 a2 a3))) (w_X2_takeAsking m g a1 a2 a3) := by
  refine rn_of [some (vR 0 0 g), some (vI a1), some (vI a2), some (vI a3), none, none, none, none] rfl ?_
  unfold v_X2_takeAsking w_X2_takeAsking
  refine an_b 3 (pc2 := 5) (L2 := [some (vR 0 0 g), some (vI a1), some (vI a2), some (vI a3), none, none, none, none]) (st2 := [vI a1, vR 1 9 g]) (m1 := m) rfl ?_
  refine an_call (r_X1_raise m 9 g a1) rfl rfl rfl rfl ?_
  refine an_b 4 (pc2 := 14) (L2 := [some (vR 0 0 g), some (vI a1), some (vI a2), some (vI a3), none, none, none, none]) (st2 := [vI a2, vI a1, vR 1 0 g]) (m1 := (w_X1_raise m 9 g a1)) rfl ?_
  refine an_call (r_X4_cell (w_X1_raise m 9 g a1) a1 a2) rfl rfl rfl rfl ?_
  refine an_call (r_X1_at (w_X1_raise m 9 g a1) 0 g (v_X4_cell (w_X1_raise m 9 g a1) a1 a2)) rfl rfl rfl rfl ?_
  refine an_b 2 (pc2 := if (v_X1_at (w_X1_raise m 9 g a1) 0 g (v_X4_cell (w_X1_raise m 9 g a1) a1 a2)) < a3 then 34 else 24) (L2 := [some (vR 0 0 g), some (vI a1), some (vI a2), some (vI a3), none, none, none, none]) (st2 := []) (m1 := (w_X1_raise m 9 g a1)) rfl ?_
  refine an_ifim (c := (v_X1_at (w_X1_raise m 9 g a1) 0 g (v_X4_cell (w_X1_raise m 9 g a1) a1 a2)) < a3) (fun h1 => ?_) (fun h1 => ?_)
  · refine an_b 4 (pc2 := 38) (L2 := [some (vR 0 0 g), some (vI a1), some (vI a2), some (vI a3), none, none, none, none]) (st2 := [vI a3, vI a2, vI a1, vR 0 0 g]) (m1 := (w_X1_raise m 9 g a1)) rfl ?_
    refine an_call (r_X2_enqueue (w_X1_raise m 9 g a1) g a1 a2 a3) rfl rfl rfl rfl ?_
    refine an_b 2 (pc2 := 43) (L2 := [some (vR 0 0 g), some (vI a1), some (vI a2), some (vI a3), none, none, none, none]) (st2 := [vI a2, vR 0 0 g]) (m1 := (w_X2_enqueue (w_X1_raise m 9 g a1) g a1 a2 a3)) rfl ?_
    refine an_call (r_X2_settle (w_X2_enqueue (w_X1_raise m 9 g a1) g a1 a2 a3) g a2) rfl rfl rfl rfl ?_
    refine an_b 3 (pc2 := 50) (L2 := [some (vR 0 0 g), some (vI a1), some (vI a2), some (vI a3), some (vI (0 : Int32)), none, none, none]) (st2 := []) (m1 := (w_X2_settle (w_X2_enqueue (w_X1_raise m 9 g a1) g a1 a2 a3) g a2)) rfl ?_
    refine re_lq (σ := PM) (ρ := PM) (b_X2_takeAsking_1 m g a1 a2 a3) (fun j1 s1 => (50, [some (vR 0 0 g), some (vI a1), some (vI a2), some (vI a3), some (vI (nI j1)), none, none, none], [], s1)) 8 (fun x9 => (120, [some (vR 0 0 g), some (vI a1), some (vI a2), some (vI a3), none, none, none, none], [], (lqv x9))) (fun j1 s1 hj1 v9 m9 hc1 hr1 => ?_) (fun s1 v9 m9 K1 => ?_) 8 0 (w_X2_settle (w_X2_enqueue (w_X1_raise m 9 g a1) g a1 a2 a3) g a2) (Nat.add_zero _) _ _ ?_
    · show An MX2_takeAsking 50 [some (vR 0 0 g), some (vI a1), some (vI a2), some (vI a3), some (vI (nI j1)), none, none, none] [] s1 v9 m9
      refine an_b 3 (pc2 := if (8 : Int32) ≤ (nI j1) then 120 else 57) (L2 := [some (vR 0 0 g), some (vI a1), some (vI a2), some (vI a3), some (vI (nI j1)), none, none, none]) (st2 := []) (m1 := s1) rfl ?_
      refine an_f (nI_ge (a := j1) (b := 8) (by omega) (by omega)) ?_
      refine an_b 2 (pc2 := 59) (L2 := [some (vR 0 0 g), some (vI a1), some (vI a2), some (vI a3), some (vI (nI j1)), none, none, none]) (st2 := [vI a1, vR 0 0 g]) (m1 := s1) rfl ?_
      refine an_call (r_X2_loserFor s1 g a1) rfl rfl rfl rfl ?_
      refine an_b 4 (pc2 := if ¬ (v_X2_loserFor s1 g a1) = (-1 : Int32) then 73 else 70) (L2 := [some (vR 0 0 g), some (vI a1), some (vI a2), some (vI a3), some (vI (nI j1)), some (vI (v_X2_loserFor s1 g a1)), none, none]) (st2 := []) (m1 := s1) rfl ?_
      refine an_if (c := ¬ (v_X2_loserFor s1 g a1) = (-1 : Int32)) (fun h2 => ?_) (fun h2 => ?_)
      · refine an_b 2 (pc2 := 76) (L2 := [some (vR 0 0 g), some (vI a1), some (vI a2), some (vI a3), some (vI (nI j1)), some (vI (v_X2_loserFor s1 g a1)), none, none]) (st2 := [vI (v_X2_loserFor s1 g a1), vR 0 0 g]) (m1 := s1) rfl ?_
        refine an_call (r_X2_strip s1 g (v_X2_loserFor s1 g a1)) rfl rfl rfl rfl ?_
        refine an_b 3 (pc2 := 84) (L2 := [some (vR 0 0 g), some (vI a1), some (vI a2), some (vI a3), some (vI (nI j1)), some (vI (v_X2_loserFor s1 g a1)), some (vI (v_X2_strip s1 g (v_X2_loserFor s1 g a1))), some (vI (0 : Int32))]) (st2 := []) (m1 := (w_X2_strip s1 g (v_X2_loserFor s1 g a1))) rfl ?_
        refine re_lp (σ := PM) (b_X2_takeAsking_2 m g a1 a2 a3 j1 s1) (fun j2 s2 => (84, [some (vR 0 0 g), some (vI a1), some (vI a2), some (vI a3), some (vI (nI j1)), some (vI (v_X2_loserFor s1 g a1)), some (vI (v_X2_strip s1 g (v_X2_loserFor s1 g a1))), some (vI (nI j2))], [], s2)) 12 (fun s2 => (114, [some (vR 0 0 g), some (vI a1), some (vI a2), some (vI a3), some (vI (nI j1)), some (vI (v_X2_loserFor s1 g a1)), some (vI (v_X2_strip s1 g (v_X2_loserFor s1 g a1))), none], [], s2)) (fun j2 s2 hj2 v9 m9 K2 => ?_) (fun s2 v9 m9 K2 => ?_) 12 0 (w_X2_strip s1 g (v_X2_loserFor s1 g a1)) (Nat.add_zero _) _ _ ?_
        · show An MX2_takeAsking 84 [some (vR 0 0 g), some (vI a1), some (vI a2), some (vI a3), some (vI (nI j1)), some (vI (v_X2_loserFor s1 g a1)), some (vI (v_X2_strip s1 g (v_X2_loserFor s1 g a1))), some (vI (nI j2))] [] s2 v9 m9
          refine an_b 3 (pc2 := if (12 : Int32) ≤ (nI j2) then 114 else 91) (L2 := [some (vR 0 0 g), some (vI a1), some (vI a2), some (vI a3), some (vI (nI j1)), some (vI (v_X2_loserFor s1 g a1)), some (vI (v_X2_strip s1 g (v_X2_loserFor s1 g a1))), some (vI (nI j2))]) (st2 := []) (m1 := s2) rfl ?_
          refine an_f (nI_ge (a := j2) (b := 12) (by omega) (by omega)) ?_
          refine an_b 2 (pc2 := 95) (L2 := [some (vR 0 0 g), some (vI a1), some (vI a2), some (vI a3), some (vI (nI j1)), some (vI (v_X2_loserFor s1 g a1)), some (vI (v_X2_strip s1 g (v_X2_loserFor s1 g a1))), some (vI (nI j2))]) (st2 := [vI (nI j2), vI (v_X2_strip s1 g (v_X2_loserFor s1 g a1))]) (m1 := s2) rfl ?_
          refine an_call (r_X4_has s2 (v_X2_strip s1 g (v_X2_loserFor s1 g a1)) (nI j2)) rfl rfl rfl rfl ?_
          refine an_b 1 (pc2 := if (v_X4_has s2 (v_X2_strip s1 g (v_X2_loserFor s1 g a1)) (nI j2)) = 0 then 108 else 101) (L2 := [some (vR 0 0 g), some (vI a1), some (vI a2), some (vI a3), some (vI (nI j1)), some (vI (v_X2_loserFor s1 g a1)), some (vI (v_X2_strip s1 g (v_X2_loserFor s1 g a1))), some (vI (nI j2))]) (st2 := []) (m1 := s2) rfl ?_
          refine re_if1 (c := (v_X4_has s2 (v_X2_strip s1 g (v_X2_loserFor s1 g a1)) (nI j2)) = 0) (a := s2) (b := (w_X2_settle s2 g (nI j2))) (fun x => (108, [some (vR 0 0 g), some (vI a1), some (vI a2), some (vI a3), some (vI (nI j1)), some (vI (v_X2_loserFor s1 g a1)), some (vI (v_X2_strip s1 g (v_X2_loserFor s1 g a1))), some (vI (nI j2))], [], x)) (fun h3 v9 m9 K4 => ?_) (fun h3 v9 m9 K4 => ?_) _ _ ?_
          · exact K4
          · refine an_b 2 (pc2 := 104) (L2 := [some (vR 0 0 g), some (vI a1), some (vI a2), some (vI a3), some (vI (nI j1)), some (vI (v_X2_loserFor s1 g a1)), some (vI (v_X2_strip s1 g (v_X2_loserFor s1 g a1))), some (vI (nI j2))]) (st2 := [vI (nI j2), vR 0 0 g]) (m1 := s2) rfl ?_
            refine an_call (r_X2_settle s2 g (nI j2)) rfl rfl rfl rfl ?_
            refine an_b 1 (pc2 := 108) (L2 := [some (vR 0 0 g), some (vI a1), some (vI a2), some (vI a3), some (vI (nI j1)), some (vI (v_X2_loserFor s1 g a1)), some (vI (v_X2_strip s1 g (v_X2_loserFor s1 g a1))), some (vI (nI j2))]) (st2 := []) (m1 := (w_X2_settle s2 g (nI j2))) rfl ?_
            exact K4
          refine an_b 2 (pc2 := 84) (L2 := [some (vR 0 0 g), some (vI a1), some (vI a2), some (vI a3), some (vI (nI j1)), some (vI (v_X2_loserFor s1 g a1)), some (vI (v_X2_strip s1 g (v_X2_loserFor s1 g a1))), some (vI ((nI j2) + (1 : Int32)))]) (st2 := []) (m1 := (if (v_X4_has s2 (v_X2_strip s1 g (v_X2_loserFor s1 g a1)) (nI j2)) = 0 then s2 else (w_X2_settle s2 g (nI j2)))) rfl ?_
          refine an_cL (K := [some (vR 0 0 g), some (vI a1), some (vI a2), some (vI a3), some (vI (nI j1)), some (vI (v_X2_loserFor s1 g a1)), some (vI (v_X2_strip s1 g (v_X2_loserFor s1 g a1))), some (vI (nI (j2 + 1)))]) (by simp only [nI_1]) ?_
          exact K2
        · show An MX2_takeAsking 84 [some (vR 0 0 g), some (vI a1), some (vI a2), some (vI a3), some (vI (nI j1)), some (vI (v_X2_loserFor s1 g a1)), some (vI (v_X2_strip s1 g (v_X2_loserFor s1 g a1))), some (vI (nI 12))] [] s2 v9 m9
          refine an_b 3 (pc2 := if (12 : Int32) ≤ (nI 12) then 114 else 91) (L2 := [some (vR 0 0 g), some (vI a1), some (vI a2), some (vI a3), some (vI (nI j1)), some (vI (v_X2_loserFor s1 g a1)), some (vI (v_X2_strip s1 g (v_X2_loserFor s1 g a1))), some (vI (nI 12))]) (st2 := []) (m1 := s2) rfl ?_
          refine an_t (nI_le (a := 12) (b := 12) (by omega) (by omega)) ?_
          refine an_weak (L := [some (vR 0 0 g), some (vI a1), some (vI a2), some (vI a3), some (vI (nI j1)), some (vI (v_X2_loserFor s1 g a1)), some (vI (v_X2_strip s1 g (v_X2_loserFor s1 g a1))), none]) (⟨rfl, rfl, rfl, rfl, rfl, rfl, rfl, trivial⟩) ?_
          exact K2
        show An MX2_takeAsking 114 [some (vR 0 0 g), some (vI a1), some (vI a2), some (vI a3), some (vI (nI j1)), some (vI (v_X2_loserFor s1 g a1)), some (vI (v_X2_strip s1 g (v_X2_loserFor s1 g a1))), none] [] (lp (b_X2_takeAsking_2 m g a1 a2 a3 j1 s1) 12 0 (w_X2_strip s1 g (v_X2_loserFor s1 g a1))) _ _
        refine an_b 2 (pc2 := 50) (L2 := [some (vR 0 0 g), some (vI a1), some (vI a2), some (vI a3), some (vI ((nI j1) + (1 : Int32))), some (vI (v_X2_loserFor s1 g a1)), some (vI (v_X2_strip s1 g (v_X2_loserFor s1 g a1))), none]) (st2 := []) (m1 := (lp (b_X2_takeAsking_2 m g a1 a2 a3 j1 s1) 12 0 (w_X2_strip s1 g (v_X2_loserFor s1 g a1)))) rfl ?_
        refine an_weak (L := [some (vR 0 0 g), some (vI a1), some (vI a2), some (vI a3), some (vI ((nI j1) + (1 : Int32))), none, none, none]) (⟨rfl, rfl, rfl, rfl, rfl, trivial⟩) ?_
        refine an_cL (K := [some (vR 0 0 g), some (vI a1), some (vI a2), some (vI a3), some (vI (nI (j1 + 1))), none, none, none]) (by simp only [nI_1]) ?_
        exact hc1 _ (by unfold b_X2_takeAsking_1; rw [if_pos h2])
      · refine an_b 1 (pc2 := 120) (L2 := [some (vR 0 0 g), some (vI a1), some (vI a2), some (vI a3), some (vI (nI j1)), some (vI (v_X2_loserFor s1 g a1)), none, none]) (st2 := []) (m1 := s1) rfl ?_
        refine an_weak (L := [some (vR 0 0 g), some (vI a1), some (vI a2), some (vI a3), none, none, none, none]) (⟨rfl, rfl, rfl, rfl, trivial⟩) ?_
        exact hr1 _ (by unfold b_X2_takeAsking_1; rw [if_neg h2])
    · show An MX2_takeAsking 50 [some (vR 0 0 g), some (vI a1), some (vI a2), some (vI a3), some (vI (nI 8)), none, none, none] [] s1 v9 m9
      refine an_b 3 (pc2 := if (8 : Int32) ≤ (nI 8) then 120 else 57) (L2 := [some (vR 0 0 g), some (vI a1), some (vI a2), some (vI a3), some (vI (nI 8)), none, none, none]) (st2 := []) (m1 := s1) rfl ?_
      refine an_t (nI_le (a := 8) (b := 8) (by omega) (by omega)) ?_
      refine an_weak (L := [some (vR 0 0 g), some (vI a1), some (vI a2), some (vI a3), none, none, none, none]) (⟨rfl, rfl, rfl, rfl, trivial⟩) ?_
      exact K1
    show An MX2_takeAsking 120 [some (vR 0 0 g), some (vI a1), some (vI a2), some (vI a3), none, none, none, none] [] (lqv (lq (b_X2_takeAsking_1 m g a1 a2 a3) 8 0 (w_X2_settle (w_X2_enqueue (w_X1_raise m 9 g a1) g a1 a2 a3) g a2))) _ _
    refine an_b 4 (pc2 := 126) (L2 := [some (vR 0 0 g), some (vI a1), some (vI a2), some (vI a3), none, none, none, none]) (st2 := [vI a2, vI a1, vR 1 0 g]) (m1 := (lqv (lq (b_X2_takeAsking_1 m g a1 a2 a3) 8 0 (w_X2_settle (w_X2_enqueue (w_X1_raise m 9 g a1) g a1 a2 a3) g a2)))) rfl ?_
    refine an_call (r_X4_cell (lqv (lq (b_X2_takeAsking_1 m g a1 a2 a3) 8 0 (w_X2_settle (w_X2_enqueue (w_X1_raise m 9 g a1) g a1 a2 a3) g a2))) a1 a2) rfl rfl rfl rfl ?_
    refine an_call (r_X1_at (lqv (lq (b_X2_takeAsking_1 m g a1 a2 a3) 8 0 (w_X2_settle (w_X2_enqueue (w_X1_raise m 9 g a1) g a1 a2 a3) g a2))) 0 g (v_X4_cell (lqv (lq (b_X2_takeAsking_1 m g a1 a2 a3) 8 0 (w_X2_settle (w_X2_enqueue (w_X1_raise m 9 g a1) g a1 a2 a3) g a2))) a1 a2)) rfl rfl rfl rfl ?_
    refine an_b 2 (pc2 := if (v_X1_at (lqv (lq (b_X2_takeAsking_1 m g a1 a2 a3) 8 0 (w_X2_settle (w_X2_enqueue (w_X1_raise m 9 g a1) g a1 a2 a3) g a2))) 0 g (v_X4_cell (lqv (lq (b_X2_takeAsking_1 m g a1 a2 a3) 8 0 (w_X2_settle (w_X2_enqueue (w_X1_raise m 9 g a1) g a1 a2 a3) g a2))) a1 a2)) < a3 then 138 else 136) (L2 := [some (vR 0 0 g), some (vI a1), some (vI a2), some (vI a3), none, none, none, none]) (st2 := []) (m1 := (lqv (lq (b_X2_takeAsking_1 m g a1 a2 a3) 8 0 (w_X2_settle (w_X2_enqueue (w_X1_raise m 9 g a1) g a1 a2 a3) g a2)))) rfl ?_
    refine an_ifi (c := (v_X1_at (lqv (lq (b_X2_takeAsking_1 m g a1 a2 a3) 8 0 (w_X2_settle (w_X2_enqueue (w_X1_raise m 9 g a1) g a1 a2 a3) g a2))) 0 g (v_X4_cell (lqv (lq (b_X2_takeAsking_1 m g a1 a2 a3) 8 0 (w_X2_settle (w_X2_enqueue (w_X1_raise m 9 g a1) g a1 a2 a3) g a2))) a1 a2)) < a3) (fun h5 => ?_) (fun h5 => ?_)
    · refine an_b 2 (pc2 := 140) (L2 := [some (vR 0 0 g), some (vI a1), some (vI a2), some (vI a3), none, none, none, none]) (st2 := [vI a1, vR 0 0 g]) (m1 := (lqv (lq (b_X2_takeAsking_1 m g a1 a2 a3) 8 0 (w_X2_settle (w_X2_enqueue (w_X1_raise m 9 g a1) g a1 a2 a3) g a2)))) rfl ?_
      refine an_call (r_X2_isWaiting (lqv (lq (b_X2_takeAsking_1 m g a1 a2 a3) 8 0 (w_X2_settle (w_X2_enqueue (w_X1_raise m 9 g a1) g a1 a2 a3) g a2))) g a1) rfl rfl rfl rfl ?_
      refine an_b 1 (pc2 := if (v_X2_isWaiting (lqv (lq (b_X2_takeAsking_1 m g a1 a2 a3) 8 0 (w_X2_settle (w_X2_enqueue (w_X1_raise m 9 g a1) g a1 a2 a3) g a2))) g a1) = 0 then 150 else 146) (L2 := [some (vR 0 0 g), some (vI a1), some (vI a2), some (vI a3), none, none, none, none]) (st2 := []) (m1 := (lqv (lq (b_X2_takeAsking_1 m g a1 a2 a3) 8 0 (w_X2_settle (w_X2_enqueue (w_X1_raise m 9 g a1) g a1 a2 a3) g a2)))) rfl ?_
      refine an_ifi (c := (v_X2_isWaiting (lqv (lq (b_X2_takeAsking_1 m g a1 a2 a3) 8 0 (w_X2_settle (w_X2_enqueue (w_X1_raise m 9 g a1) g a1 a2 a3) g a2))) g a1) = 0) (fun h6 => ?_) (fun h6 => ?_)
      · refine an_b 1 (pc2 := 151) (L2 := [some (vR 0 0 g), some (vI a1), some (vI a2), some (vI a3), none, none, none, none]) (st2 := [vI (2 : Int32)]) (m1 := (lqv (lq (b_X2_takeAsking_1 m g a1 a2 a3) 8 0 (w_X2_settle (w_X2_enqueue (w_X1_raise m 9 g a1) g a1 a2 a3) g a2)))) rfl ?_
        exact an_ret rfl rfl rfl rfl rfl
      · refine an_b 2 (pc2 := 151) (L2 := [some (vR 0 0 g), some (vI a1), some (vI a2), some (vI a3), none, none, none, none]) (st2 := [vI (1 : Int32)]) (m1 := (lqv (lq (b_X2_takeAsking_1 m g a1 a2 a3) 8 0 (w_X2_settle (w_X2_enqueue (w_X1_raise m 9 g a1) g a1 a2 a3) g a2)))) rfl ?_
        exact an_ret rfl rfl rfl rfl rfl
    · refine an_b 1 (pc2 := 137) (L2 := [some (vR 0 0 g), some (vI a1), some (vI a2), some (vI a3), none, none, none, none]) (st2 := [vI (0 : Int32)]) (m1 := (lqv (lq (b_X2_takeAsking_1 m g a1 a2 a3) 8 0 (w_X2_settle (w_X2_enqueue (w_X1_raise m 9 g a1) g a1 a2 a3) g a2)))) rfl ?_
      exact an_ret rfl rfl rfl rfl rfl
  · refine an_b 3 (pc2 := 29) (L2 := [some (vR 0 0 g), some (vI a1), some (vI a2), some (vI a3), none, none, none, none]) (st2 := [vI a1, vR 1 8 g]) (m1 := (w_X1_raise m 9 g a1)) rfl ?_
    refine an_call (r_X1_raise (w_X1_raise m 9 g a1) 8 g a1) rfl rfl rfl rfl ?_
    refine an_b 1 (pc2 := 33) (L2 := [some (vR 0 0 g), some (vI a1), some (vI a2), some (vI a3), none, none, none, none]) (st2 := [vI (0 : Int32)]) (m1 := (w_X1_raise (w_X1_raise m 9 g a1) 8 g a1)) rfl ?_
    exact an_ret rfl rfl rfl rfl rfl
def v_X2_canLetGo (m : PM) (g : Nat) (a1 : Int32) (a2 : Int32) : Int32 := (if (v_X1_at m 0 g (v_X4_cell m a1 a2)) ≤ 0 then (0 : Int32) else (if (v_X1_at m 1 g a1) = a2 then (0 : Int32) else (1 : Int32)))
set_option maxRecDepth 100000 in
theorem r_X2_canLetGo (m : PM) (g : Nat) (a1 : Int32) (a2 : Int32) : Rn MX2_canLetGo [vR 0 0 g, vI a1, vI a2] m (some (vI (v_X2_canLetGo m g a1 a2))) m := by
  refine rn_of [some (vR 0 0 g), some (vI a1), some (vI a2)] rfl ?_
  unfold v_X2_canLetGo
  refine an_b 4 (pc2 := 6) (L2 := [some (vR 0 0 g), some (vI a1), some (vI a2)]) (st2 := [vI a2, vI a1, vR 1 0 g]) (m1 := m) rfl ?_
  refine an_call (r_X4_cell m a1 a2) rfl rfl rfl rfl ?_
  refine an_call (r_X1_at m 0 g (v_X4_cell m a1 a2)) rfl rfl rfl rfl ?_
  refine an_b 1 (pc2 := if (v_X1_at m 0 g (v_X4_cell m a1 a2)) ≤ 0 then 31 else 15) (L2 := [some (vR 0 0 g), some (vI a1), some (vI a2)]) (st2 := []) (m1 := m) rfl ?_
  refine an_ifi (c := (v_X1_at m 0 g (v_X4_cell m a1 a2)) ≤ 0) (fun h1 => ?_) (fun h1 => ?_)
  · refine an_b 1 (pc2 := 32) (L2 := [some (vR 0 0 g), some (vI a1), some (vI a2)]) (st2 := [vI (0 : Int32)]) (m1 := m) rfl ?_
    exact an_ret rfl rfl rfl rfl rfl
  · refine an_b 3 (pc2 := 20) (L2 := [some (vR 0 0 g), some (vI a1), some (vI a2)]) (st2 := [vI a1, vR 1 1 g]) (m1 := m) rfl ?_
    refine an_call (r_X1_at m 1 g a1) rfl rfl rfl rfl ?_
    refine an_b 2 (pc2 := if (v_X1_at m 1 g a1) = a2 then 31 else 27) (L2 := [some (vR 0 0 g), some (vI a1), some (vI a2)]) (st2 := []) (m1 := m) rfl ?_
    refine an_ifi (c := (v_X1_at m 1 g a1) = a2) (fun h2 => ?_) (fun h2 => ?_)
    · refine an_b 1 (pc2 := 32) (L2 := [some (vR 0 0 g), some (vI a1), some (vI a2)]) (st2 := [vI (0 : Int32)]) (m1 := m) rfl ?_
      exact an_ret rfl rfl rfl rfl rfl
    · refine an_b 2 (pc2 := 32) (L2 := [some (vR 0 0 g), some (vI a1), some (vI a2)]) (st2 := [vI (1 : Int32)]) (m1 := m) rfl ?_
      exact an_ret rfl rfl rfl rfl rfl
def v_X2_letGo (m : PM) (g : Nat) (a1 : Int32) (a2 : Int32) : Int32 := (v_X2_settle (w_X1_put m 0 g (v_X4_cell m a1 a2) (0 : Int32)) g a2)
def w_X2_letGo (m : PM) (g : Nat) (a1 : Int32) (a2 : Int32) : PM := (w_X2_settle (w_X1_put m 0 g (v_X4_cell m a1 a2) (0 : Int32)) g a2)
set_option maxRecDepth 100000 in
theorem r_X2_letGo (m : PM) (g : Nat) (a1 : Int32) (a2 : Int32) : Rn MX2_letGo [vR 0 0 g, vI a1, vI a2] m (some (vI (v_X2_letGo m g a1 a2))) (w_X2_letGo m g a1 a2) := by
  refine rn_of [some (vR 0 0 g), some (vI a1), some (vI a2)] rfl ?_
  unfold v_X2_letGo w_X2_letGo
  refine an_b 4 (pc2 := 6) (L2 := [some (vR 0 0 g), some (vI a1), some (vI a2)]) (st2 := [vI a2, vI a1, vR 1 0 g]) (m1 := m) rfl ?_
  refine an_call (r_X4_cell m a1 a2) rfl rfl rfl rfl ?_
  refine an_b 1 (pc2 := 10) (L2 := [some (vR 0 0 g), some (vI a1), some (vI a2)]) (st2 := [vI (0 : Int32), vI (v_X4_cell m a1 a2), vR 1 0 g]) (m1 := m) rfl ?_
  refine an_call (r_X1_put m 0 g (v_X4_cell m a1 a2) (0 : Int32)) rfl rfl rfl rfl ?_
  refine an_b 2 (pc2 := 15) (L2 := [some (vR 0 0 g), some (vI a1), some (vI a2)]) (st2 := [vI a2, vR 0 0 g]) (m1 := (w_X1_put m 0 g (v_X4_cell m a1 a2) (0 : Int32))) rfl ?_
  refine an_call (r_X2_settle (w_X1_put m 0 g (v_X4_cell m a1 a2) (0 : Int32)) g a2) rfl rfl rfl rfl ?_
  exact an_ret rfl rfl rfl rfl rfl
def v_X2_stopWaiting (m : PM) (g : Nat) (a1 : Int32) : Int32 := (v_X1_at m 1 g a1)
def w_X2_stopWaiting (m : PM) (g : Nat) (a1 : Int32) : PM := (w_X2_settle (w_X2_dequeue m g a1) g (v_X1_at m 1 g a1))
set_option maxRecDepth 100000 in
theorem r_X2_stopWaiting (m : PM) (g : Nat) (a1 : Int32) : Rn MX2_stopWaiting [vR 0 0 g, vI a1] m (some (vI (v_X2_stopWaiting m g a1))) (w_X2_stopWaiting m g a1) := by
  refine rn_of [some (vR 0 0 g), some (vI a1), none] rfl ?_
  unfold v_X2_stopWaiting w_X2_stopWaiting
  refine an_b 3 (pc2 := 5) (L2 := [some (vR 0 0 g), some (vI a1), none]) (st2 := [vI a1, vR 1 1 g]) (m1 := m) rfl ?_
  refine an_call (r_X1_at m 1 g a1) rfl rfl rfl rfl ?_
  refine an_b 3 (pc2 := 11) (L2 := [some (vR 0 0 g), some (vI a1), some (vI (v_X1_at m 1 g a1))]) (st2 := [vI a1, vR 0 0 g]) (m1 := m) rfl ?_
  refine an_call (r_X2_dequeue m g a1) rfl rfl rfl rfl ?_
  refine an_b 2 (pc2 := 16) (L2 := [some (vR 0 0 g), some (vI a1), some (vI (v_X1_at m 1 g a1))]) (st2 := [vI (v_X1_at m 1 g a1), vR 0 0 g]) (m1 := (w_X2_dequeue m g a1)) rfl ?_
  refine an_call (r_X2_settle (w_X2_dequeue m g a1) g (v_X1_at m 1 g a1)) rfl rfl rfl rfl ?_
  refine an_b 2 (pc2 := 21) (L2 := [some (vR 0 0 g), some (vI a1), some (vI (v_X1_at m 1 g a1))]) (st2 := [vI (v_X1_at m 1 g a1)]) (m1 := (w_X2_settle (w_X2_dequeue m g a1) g (v_X1_at m 1 g a1))) rfl ?_
  exact an_ret rfl rfl rfl rfl rfl
def v_X2_canPassOver (m : PM) (g : Nat) (a1 : Int32) (a2 : Int32) (a3 : Int32) : Int32 := (if (v_X2_canLetGo m g a1 a2) = 0 then (0 : Int32) else (if a1 = a3 then (0 : Int32) else (if ¬ (v_X1_at m 1 g a3) = a2 then (0 : Int32) else (if ¬ (v_X2_clashes m g a2 (v_X1_at m 2 g a3) a1 a3) = 0 then (0 : Int32) else (1 : Int32)))))
set_option maxRecDepth 100000 in
theorem r_X2_canPassOver (m : PM) (g : Nat) (a1 : Int32) (a2 : Int32) (a3 : Int32) : Rn MX2_canPassOver [vR 0 0 g, vI a1, vI a2, vI a3] m (some (vI (v_X2_canPassOver m g a1 a2 a3))) m := by
  refine rn_of [some (vR 0 0 g), some (vI a1), some (vI a2), some (vI a3)] rfl ?_
  unfold v_X2_canPassOver
  refine an_b 3 (pc2 := 3) (L2 := [some (vR 0 0 g), some (vI a1), some (vI a2), some (vI a3)]) (st2 := [vI a2, vI a1, vR 0 0 g]) (m1 := m) rfl ?_
  refine an_call (r_X2_canLetGo m g a1 a2) rfl rfl rfl rfl ?_
  refine an_b 1 (pc2 := if (v_X2_canLetGo m g a1 a2) = 0 then 48 else 9) (L2 := [some (vR 0 0 g), some (vI a1), some (vI a2), some (vI a3)]) (st2 := []) (m1 := m) rfl ?_
  refine an_ifi (c := (v_X2_canLetGo m g a1 a2) = 0) (fun h1 => ?_) (fun h1 => ?_)
  · refine an_b 1 (pc2 := 49) (L2 := [some (vR 0 0 g), some (vI a1), some (vI a2), some (vI a3)]) (st2 := [vI (0 : Int32)]) (m1 := m) rfl ?_
    exact an_ret rfl rfl rfl rfl rfl
  · refine an_b 3 (pc2 := if a1 = a3 then 48 else 14) (L2 := [some (vR 0 0 g), some (vI a1), some (vI a2), some (vI a3)]) (st2 := []) (m1 := m) rfl ?_
    refine an_ifi (c := a1 = a3) (fun h2 => ?_) (fun h2 => ?_)
    · refine an_b 1 (pc2 := 49) (L2 := [some (vR 0 0 g), some (vI a1), some (vI a2), some (vI a3)]) (st2 := [vI (0 : Int32)]) (m1 := m) rfl ?_
      exact an_ret rfl rfl rfl rfl rfl
    · refine an_b 3 (pc2 := 19) (L2 := [some (vR 0 0 g), some (vI a1), some (vI a2), some (vI a3)]) (st2 := [vI a3, vR 1 1 g]) (m1 := m) rfl ?_
      refine an_call (r_X1_at m 1 g a3) rfl rfl rfl rfl ?_
      refine an_b 2 (pc2 := if ¬ (v_X1_at m 1 g a3) = a2 then 48 else 26) (L2 := [some (vR 0 0 g), some (vI a1), some (vI a2), some (vI a3)]) (st2 := []) (m1 := m) rfl ?_
      refine an_ifi (c := ¬ (v_X1_at m 1 g a3) = a2) (fun h3 => ?_) (fun h3 => ?_)
      · refine an_b 1 (pc2 := 49) (L2 := [some (vR 0 0 g), some (vI a1), some (vI a2), some (vI a3)]) (st2 := [vI (0 : Int32)]) (m1 := m) rfl ?_
        exact an_ret rfl rfl rfl rfl rfl
      · refine an_b 5 (pc2 := 33) (L2 := [some (vR 0 0 g), some (vI a1), some (vI a2), some (vI a3)]) (st2 := [vI a3, vR 1 2 g, vI a2, vR 0 0 g]) (m1 := m) rfl ?_
        refine an_call (r_X1_at m 2 g a3) rfl rfl rfl rfl ?_
        refine an_b 2 (pc2 := 38) (L2 := [some (vR 0 0 g), some (vI a1), some (vI a2), some (vI a3)]) (st2 := [vI a3, vI a1, vI (v_X1_at m 2 g a3), vI a2, vR 0 0 g]) (m1 := m) rfl ?_
        refine an_call (r_X2_clashes m g a2 (v_X1_at m 2 g a3) a1 a3) rfl rfl rfl rfl ?_
        refine an_b 1 (pc2 := if ¬ (v_X2_clashes m g a2 (v_X1_at m 2 g a3) a1 a3) = 0 then 48 else 44) (L2 := [some (vR 0 0 g), some (vI a1), some (vI a2), some (vI a3)]) (st2 := []) (m1 := m) rfl ?_
        refine an_ifi (c := ¬ (v_X2_clashes m g a2 (v_X1_at m 2 g a3) a1 a3) = 0) (fun h4 => ?_) (fun h4 => ?_)
        · refine an_b 1 (pc2 := 49) (L2 := [some (vR 0 0 g), some (vI a1), some (vI a2), some (vI a3)]) (st2 := [vI (0 : Int32)]) (m1 := m) rfl ?_
          exact an_ret rfl rfl rfl rfl rfl
        · refine an_b 2 (pc2 := 49) (L2 := [some (vR 0 0 g), some (vI a1), some (vI a2), some (vI a3)]) (st2 := [vI (1 : Int32)]) (m1 := m) rfl ?_
          exact an_ret rfl rfl rfl rfl rfl
def v_X2_passOver (m : PM) (g : Nat) (a1 : Int32) (a2 : Int32) (a3 : Int32) : Int32 := (v_X1_at (w_X2_settle (w_X1_raise (w_X2_grant (w_X1_put m 0 g (v_X4_cell m a1 a2) (0 : Int32)) g a3) 5 g a2) g a2) 0 g (v_X4_cell (w_X2_settle (w_X1_raise (w_X2_grant (w_X1_put m 0 g (v_X4_cell m a1 a2) (0 : Int32)) g a3) 5 g a2) g a2) a3 a2))
def w_X2_passOver (m : PM) (g : Nat) (a1 : Int32) (a2 : Int32) (a3 : Int32) : PM := (w_X2_settle (w_X1_raise (w_X2_grant (w_X1_put m 0 g (v_X4_cell m a1 a2) (0 : Int32)) g a3) 5 g a2) g a2)
set_option maxRecDepth 100000 in
theorem r_X2_passOver (m : PM) (g : Nat) (a1 : Int32) (a2 : Int32) (a3 : Int32) : Rn MX2_passOver [vR 0 0 g, vI a1, vI a2, vI a3] m (some (vI (v_X2_passOver m g a1 a2 a3))) (w_X2_passOver m g a1 a2 a3) := by
  refine rn_of [some (vR 0 0 g), some (vI a1), some (vI a2), some (vI a3)] rfl ?_
  unfold v_X2_passOver w_X2_passOver
  refine an_b 4 (pc2 := 6) (L2 := [some (vR 0 0 g), some (vI a1), some (vI a2), some (vI a3)]) (st2 := [vI a2, vI a1, vR 1 0 g]) (m1 := m) rfl ?_
  refine an_call (r_X4_cell m a1 a2) rfl rfl rfl rfl ?_
  refine an_b 1 (pc2 := 10) (L2 := [some (vR 0 0 g), some (vI a1), some (vI a2), some (vI a3)]) (st2 := [vI (0 : Int32), vI (v_X4_cell m a1 a2), vR 1 0 g]) (m1 := m) rfl ?_
  refine an_call (r_X1_put m 0 g (v_X4_cell m a1 a2) (0 : Int32)) rfl rfl rfl rfl ?_
  refine an_b 2 (pc2 := 15) (L2 := [some (vR 0 0 g), some (vI a1), some (vI a2), some (vI a3)]) (st2 := [vI a3, vR 0 0 g]) (m1 := (w_X1_put m 0 g (v_X4_cell m a1 a2) (0 : Int32))) rfl ?_
  refine an_call (r_X2_grant (w_X1_put m 0 g (v_X4_cell m a1 a2) (0 : Int32)) g a3) rfl rfl rfl rfl ?_
  refine an_b 3 (pc2 := 23) (L2 := [some (vR 0 0 g), some (vI a1), some (vI a2), some (vI a3)]) (st2 := [vI a2, vR 1 5 g]) (m1 := (w_X2_grant (w_X1_put m 0 g (v_X4_cell m a1 a2) (0 : Int32)) g a3)) rfl ?_
  refine an_call (r_X1_raise (w_X2_grant (w_X1_put m 0 g (v_X4_cell m a1 a2) (0 : Int32)) g a3) 5 g a2) rfl rfl rfl rfl ?_
  refine an_b 2 (pc2 := 28) (L2 := [some (vR 0 0 g), some (vI a1), some (vI a2), some (vI a3)]) (st2 := [vI a2, vR 0 0 g]) (m1 := (w_X1_raise (w_X2_grant (w_X1_put m 0 g (v_X4_cell m a1 a2) (0 : Int32)) g a3) 5 g a2)) rfl ?_
  refine an_call (r_X2_settle (w_X1_raise (w_X2_grant (w_X1_put m 0 g (v_X4_cell m a1 a2) (0 : Int32)) g a3) 5 g a2) g a2) rfl rfl rfl rfl ?_
  refine an_b 5 (pc2 := 38) (L2 := [some (vR 0 0 g), some (vI a1), some (vI a2), some (vI a3)]) (st2 := [vI a2, vI a3, vR 1 0 g]) (m1 := (w_X2_settle (w_X1_raise (w_X2_grant (w_X1_put m 0 g (v_X4_cell m a1 a2) (0 : Int32)) g a3) 5 g a2) g a2)) rfl ?_
  refine an_call (r_X4_cell (w_X2_settle (w_X1_raise (w_X2_grant (w_X1_put m 0 g (v_X4_cell m a1 a2) (0 : Int32)) g a3) 5 g a2) g a2) a3 a2) rfl rfl rfl rfl ?_
  refine an_call (r_X1_at (w_X2_settle (w_X1_raise (w_X2_grant (w_X1_put m 0 g (v_X4_cell m a1 a2) (0 : Int32)) g a3) 5 g a2) g a2) 0 g (v_X4_cell (w_X2_settle (w_X1_raise (w_X2_grant (w_X1_put m 0 g (v_X4_cell m a1 a2) (0 : Int32)) g a3) 5 g a2) g a2) a3 a2)) rfl rfl rfl rfl ?_
  exact an_ret rfl rfl rfl rfl rfl
def b_X2_takersOf_1 (m : PM) (g : Nat) (a1 : Int32) (a2 : Int32)  (j1 : Nat) (s1 : Int32) : Int32 := (if (v_X2_canPassOver m g a1 a2 (nI j1)) = 0 then s1 else (s1 ||| ((1 : Int32) <<< ((nI j1) &&& (31 : Int32)))))
def v_X2_takersOf (m : PM) (g : Nat) (a1 : Int32) (a2 : Int32) : Int32 := (lp (b_X2_takersOf_1 m g a1 a2) 8 0 (0 : Int32))
set_option maxRecDepth 100000 in
theorem r_X2_takersOf (m : PM) (g : Nat) (a1 : Int32) (a2 : Int32) : Rn MX2_takersOf [vR 0 0 g, vI a1, vI a2] m (some (vI (v_X2_takersOf m g a1 a2))) m := by
  refine rn_of [some (vR 0 0 g), some (vI a1), some (vI a2), none, none] rfl ?_
  unfold v_X2_takersOf
  refine an_b 4 (pc2 := 5) (L2 := [some (vR 0 0 g), some (vI a1), some (vI a2), some (vI (0 : Int32)), some (vI (0 : Int32))]) (st2 := []) (m1 := m) rfl ?_
  refine re_lp (σ := Int32) (b_X2_takersOf_1 m g a1 a2) (fun j1 s1 => (5, [some (vR 0 0 g), some (vI a1), some (vI a2), some (vI s1), some (vI (nI j1))], [], m)) 8 (fun s1 => (36, [some (vR 0 0 g), some (vI a1), some (vI a2), some (vI s1), none], [], m)) (fun j1 s1 hj1 v9 m9 K1 => ?_) (fun s1 v9 m9 K1 => ?_) 8 0 (0 : Int32) (Nat.add_zero _) _ _ ?_
  · show An MX2_takersOf 5 [some (vR 0 0 g), some (vI a1), some (vI a2), some (vI s1), some (vI (nI j1))] [] m v9 m9
    refine an_b 3 (pc2 := if (8 : Int32) ≤ (nI j1) then 36 else 12) (L2 := [some (vR 0 0 g), some (vI a1), some (vI a2), some (vI s1), some (vI (nI j1))]) (st2 := []) (m1 := m) rfl ?_
    refine an_f (nI_ge (a := j1) (b := 8) (by omega) (by omega)) ?_
    refine an_b 4 (pc2 := 17) (L2 := [some (vR 0 0 g), some (vI a1), some (vI a2), some (vI s1), some (vI (nI j1))]) (st2 := [vI (nI j1), vI a2, vI a1, vR 0 0 g]) (m1 := m) rfl ?_
    refine an_call (r_X2_canPassOver m g a1 a2 (nI j1)) rfl rfl rfl rfl ?_
    refine an_b 1 (pc2 := if (v_X2_canPassOver m g a1 a2 (nI j1)) = 0 then 30 else 23) (L2 := [some (vR 0 0 g), some (vI a1), some (vI a2), some (vI s1), some (vI (nI j1))]) (st2 := []) (m1 := m) rfl ?_
    refine re_if1 (c := (v_X2_canPassOver m g a1 a2 (nI j1)) = 0) (a := s1) (b := (s1 ||| ((1 : Int32) <<< ((nI j1) &&& (31 : Int32))))) (fun x => (30, [some (vR 0 0 g), some (vI a1), some (vI a2), some (vI x), some (vI (nI j1))], [], m)) (fun h1 v9 m9 K2 => ?_) (fun h1 v9 m9 K2 => ?_) _ _ ?_
    · exact K2
    · refine an_b 6 (pc2 := 30) (L2 := [some (vR 0 0 g), some (vI a1), some (vI a2), some (vI (s1 ||| ((1 : Int32) <<< ((nI j1) &&& (31 : Int32))))), some (vI (nI j1))]) (st2 := []) (m1 := m) rfl ?_
      exact K2
    refine an_b 2 (pc2 := 5) (L2 := [some (vR 0 0 g), some (vI a1), some (vI a2), some (vI (if (v_X2_canPassOver m g a1 a2 (nI j1)) = 0 then s1 else (s1 ||| ((1 : Int32) <<< ((nI j1) &&& (31 : Int32)))))), some (vI ((nI j1) + (1 : Int32)))]) (st2 := []) (m1 := m) rfl ?_
    refine an_cL (K := [some (vR 0 0 g), some (vI a1), some (vI a2), some (vI (if (v_X2_canPassOver m g a1 a2 (nI j1)) = 0 then s1 else (s1 ||| ((1 : Int32) <<< ((nI j1) &&& (31 : Int32)))))), some (vI (nI (j1 + 1)))]) (by simp only [nI_1]) ?_
    exact K1
  · show An MX2_takersOf 5 [some (vR 0 0 g), some (vI a1), some (vI a2), some (vI s1), some (vI (nI 8))] [] m v9 m9
    refine an_b 3 (pc2 := if (8 : Int32) ≤ (nI 8) then 36 else 12) (L2 := [some (vR 0 0 g), some (vI a1), some (vI a2), some (vI s1), some (vI (nI 8))]) (st2 := []) (m1 := m) rfl ?_
    refine an_t (nI_le (a := 8) (b := 8) (by omega) (by omega)) ?_
    refine an_weak (L := [some (vR 0 0 g), some (vI a1), some (vI a2), some (vI s1), none]) (⟨rfl, rfl, rfl, rfl, trivial⟩) ?_
    exact K1
  show An MX2_takersOf 36 [some (vR 0 0 g), some (vI a1), some (vI a2), some (vI (lp (b_X2_takersOf_1 m g a1 a2) 8 0 (0 : Int32))), none] [] m _ _
  refine an_b 1 (pc2 := 37) (L2 := [some (vR 0 0 g), some (vI a1), some (vI a2), some (vI (lp (b_X2_takersOf_1 m g a1 a2) 8 0 (0 : Int32))), none]) (st2 := [vI (lp (b_X2_takersOf_1 m g a1 a2) 8 0 (0 : Int32))]) (m1 := m) rfl ?_
  exact an_ret rfl rfl rfl rfl rfl
def v_X2_heatAfter (m : PM) (g : Nat) (a1 : Int32) (a2 : Int32) : Int32 := (if a2 ≤ 0 then (if (0 : Int32) < (a1 - (v_X1_at m 10 g (2 : Int32))) then (a1 - (v_X1_at m 10 g (2 : Int32))) else (0 : Int32)) else (if (a1 + (a2 * (v_X1_at m 10 g (1 : Int32)))) < (1000 : Int32) then (a1 + (a2 * (v_X1_at m 10 g (1 : Int32)))) else (1000 : Int32)))
set_option maxRecDepth 100000 in
theorem r_X2_heatAfter (m : PM) (g : Nat) (a1 : Int32) (a2 : Int32) : Rn MX2_heatAfter [vR 0 0 g, vI a1, vI a2] m (some (vI (v_X2_heatAfter m g a1 a2))) m := by
  refine rn_of [some (vR 0 0 g), some (vI a1), some (vI a2)] rfl ?_
  unfold v_X2_heatAfter
  refine an_b 2 (pc2 := if a2 ≤ 0 then 23 else 4) (L2 := [some (vR 0 0 g), some (vI a1), some (vI a2)]) (st2 := []) (m1 := m) rfl ?_
  refine an_ifi (c := a2 ≤ 0) (fun h1 => ?_) (fun h1 => ?_)
  · refine an_b 5 (pc2 := 30) (L2 := [some (vR 0 0 g), some (vI a1), some (vI a2)]) (st2 := [vI (2 : Int32), vR 1 10 g, vI a1, vI (0 : Int32)]) (m1 := m) rfl ?_
    refine an_call (r_X1_at m 10 g (2 : Int32)) rfl rfl rfl rfl ?_
    refine an_b 2 (pc2 := 37) (L2 := [some (vR 0 0 g), some (vI a1), some (vI a2)]) (st2 := [vI (if (0 : Int32) < (a1 - (v_X1_at m 10 g (2 : Int32))) then (a1 - (v_X1_at m 10 g (2 : Int32))) else (0 : Int32))]) (m1 := m) rfl ?_
    exact an_ret rfl rfl rfl rfl rfl
  · refine an_b 6 (pc2 := 14) (L2 := [some (vR 0 0 g), some (vI a1), some (vI a2)]) (st2 := [vI (1 : Int32), vR 1 10 g, vI a2, vI a1, vI (1000 : Int32)]) (m1 := m) rfl ?_
    refine an_call (r_X1_at m 10 g (1 : Int32)) rfl rfl rfl rfl ?_
    refine an_b 3 (pc2 := 22) (L2 := [some (vR 0 0 g), some (vI a1), some (vI a2)]) (st2 := [vI (if (a1 + (a2 * (v_X1_at m 10 g (1 : Int32)))) < (1000 : Int32) then (a1 + (a2 * (v_X1_at m 10 g (1 : Int32)))) else (1000 : Int32))]) (m1 := m) rfl ?_
    exact an_ret rfl rfl rfl rfl rfl
def b_X2_greatestMode_1 (m : PM) (g : Nat) (a1 : Int32)  (j1 : Nat) (s1 : Int32) : Int32 := (if s1 < (v_X1_at m 0 g (v_X4_cell m (nI j1) a1)) then (v_X1_at m 0 g (v_X4_cell m (nI j1) a1)) else s1)
def v_X2_greatestMode (m : PM) (g : Nat) (a1 : Int32) : Int32 := (lp (b_X2_greatestMode_1 m g a1) 8 0 (0 : Int32))
set_option maxRecDepth 100000 in
theorem r_X2_greatestMode (m : PM) (g : Nat) (a1 : Int32) : Rn MX2_greatestMode [vR 0 0 g, vI a1] m (some (vI (v_X2_greatestMode m g a1))) m := by
  refine rn_of [some (vR 0 0 g), some (vI a1), none, none] rfl ?_
  unfold v_X2_greatestMode
  refine an_b 4 (pc2 := 4) (L2 := [some (vR 0 0 g), some (vI a1), some (vI (0 : Int32)), some (vI (0 : Int32))]) (st2 := []) (m1 := m) rfl ?_
  refine re_lp (σ := Int32) (b_X2_greatestMode_1 m g a1) (fun j1 s1 => (4, [some (vR 0 0 g), some (vI a1), some (vI s1), some (vI (nI j1))], [], m)) 8 (fun s1 => (33, [some (vR 0 0 g), some (vI a1), some (vI s1), none], [], m)) (fun j1 s1 hj1 v9 m9 K1 => ?_) (fun s1 v9 m9 K1 => ?_) 8 0 (0 : Int32) (Nat.add_zero _) _ _ ?_
  · show An MX2_greatestMode 4 [some (vR 0 0 g), some (vI a1), some (vI s1), some (vI (nI j1))] [] m v9 m9
    refine an_b 3 (pc2 := if (8 : Int32) ≤ (nI j1) then 33 else 10) (L2 := [some (vR 0 0 g), some (vI a1), some (vI s1), some (vI (nI j1))]) (st2 := []) (m1 := m) rfl ?_
    refine an_f (nI_ge (a := j1) (b := 8) (by omega) (by omega)) ?_
    refine an_b 5 (pc2 := 17) (L2 := [some (vR 0 0 g), some (vI a1), some (vI s1), some (vI (nI j1))]) (st2 := [vI a1, vI (nI j1), vR 1 0 g, vI s1]) (m1 := m) rfl ?_
    refine an_call (r_X4_cell m (nI j1) a1) rfl rfl rfl rfl ?_
    refine an_call (r_X1_at m 0 g (v_X4_cell m (nI j1) a1)) rfl rfl rfl rfl ?_
    refine an_b 4 (pc2 := 4) (L2 := [some (vR 0 0 g), some (vI a1), some (vI (if s1 < (v_X1_at m 0 g (v_X4_cell m (nI j1) a1)) then (v_X1_at m 0 g (v_X4_cell m (nI j1) a1)) else s1)), some (vI ((nI j1) + (1 : Int32)))]) (st2 := []) (m1 := m) rfl ?_
    refine an_cL (K := [some (vR 0 0 g), some (vI a1), some (vI (if s1 < (v_X1_at m 0 g (v_X4_cell m (nI j1) a1)) then (v_X1_at m 0 g (v_X4_cell m (nI j1) a1)) else s1)), some (vI (nI (j1 + 1)))]) (by simp only [nI_1]) ?_
    exact K1
  · show An MX2_greatestMode 4 [some (vR 0 0 g), some (vI a1), some (vI s1), some (vI (nI 8))] [] m v9 m9
    refine an_b 3 (pc2 := if (8 : Int32) ≤ (nI 8) then 33 else 10) (L2 := [some (vR 0 0 g), some (vI a1), some (vI s1), some (vI (nI 8))]) (st2 := []) (m1 := m) rfl ?_
    refine an_t (nI_le (a := 8) (b := 8) (by omega) (by omega)) ?_
    refine an_weak (L := [some (vR 0 0 g), some (vI a1), some (vI s1), none]) (⟨rfl, rfl, rfl, trivial⟩) ?_
    exact K1
  show An MX2_greatestMode 33 [some (vR 0 0 g), some (vI a1), some (vI (lp (b_X2_greatestMode_1 m g a1) 8 0 (0 : Int32))), none] [] m _ _
  refine an_b 1 (pc2 := 34) (L2 := [some (vR 0 0 g), some (vI a1), some (vI (lp (b_X2_greatestMode_1 m g a1) 8 0 (0 : Int32))), none]) (st2 := [vI (lp (b_X2_greatestMode_1 m g a1) 8 0 (0 : Int32))]) (m1 := m) rfl ?_
  exact an_ret rfl rfl rfl rfl rfl
def b_X2_burn_1 (m : PM) (g : Nat) (a1 : Int32)  (j1 : Nat) (s1 : Int32 × PM) : Int32 × PM := ((if (v_X1_at s1.2 0 g (v_X4_cell s1.2 (nI j1) a1)) ≤ 0 then s1.1 else (s1.1 + (1 : Int32))), (if (v_X1_at s1.2 0 g (v_X4_cell s1.2 (nI j1) a1)) ≤ 0 then s1.2 else (w_X1_raise (w_X1_put s1.2 0 g (v_X4_cell s1.2 (nI j1) a1) (0 : Int32)) 6 g (nI j1))))
def v_X2_burn (m : PM) (g : Nat) (a1 : Int32) : Int32 := (lp (b_X2_burn_1 m g a1) 8 0 ((0 : Int32), m)).1
def w_X2_burn (m : PM) (g : Nat) (a1 : Int32) : PM := (if ((lp (b_X2_burn_1 m g a1) 8 0 ((0 : Int32), m)).1) ≤ 0 then (lp (b_X2_burn_1 m g a1) 8 0 ((0 : Int32), m)).2 else (w_X2_settle ((lp (b_X2_burn_1 m g a1) 8 0 ((0 : Int32), m)).2) g a1))
set_option maxRecDepth 100000 in
theorem r_X2_burn (m : PM) (g : Nat) (a1 : Int32) : Rn MX2_burn [vR 0 0 g, vI a1] m (some (vI (v_X2_burn m g a1))) (w_X2_burn m g a1) := by
  refine rn_of [some (vR 0 0 g), some (vI a1), none, none] rfl ?_
  unfold v_X2_burn w_X2_burn
  refine an_b 4 (pc2 := 4) (L2 := [some (vR 0 0 g), some (vI a1), some (vI (0 : Int32)), some (vI (0 : Int32))]) (st2 := []) (m1 := m) rfl ?_
  refine re_lp (σ := Int32 × PM) (b_X2_burn_1 m g a1) (fun j1 s1 => (4, [some (vR 0 0 g), some (vI a1), some (vI s1.1), some (vI (nI j1))], [], s1.2)) 8 (fun s1 => (55, [some (vR 0 0 g), some (vI a1), some (vI s1.1), none], [], s1.2)) (fun j1 s1 hj1 v9 m9 K1 => ?_) (fun s1 v9 m9 K1 => ?_) 8 0 ((0 : Int32), m) (Nat.add_zero _) _ _ ?_
  · show An MX2_burn 4 [some (vR 0 0 g), some (vI a1), some (vI s1.1), some (vI (nI j1))] [] s1.2 v9 m9
    refine an_b 3 (pc2 := if (8 : Int32) ≤ (nI j1) then 55 else 10) (L2 := [some (vR 0 0 g), some (vI a1), some (vI s1.1), some (vI (nI j1))]) (st2 := []) (m1 := s1.2) rfl ?_
    refine an_f (nI_ge (a := j1) (b := 8) (by omega) (by omega)) ?_
    refine an_b 4 (pc2 := 16) (L2 := [some (vR 0 0 g), some (vI a1), some (vI s1.1), some (vI (nI j1))]) (st2 := [vI a1, vI (nI j1), vR 1 0 g]) (m1 := s1.2) rfl ?_
    refine an_call (r_X4_cell s1.2 (nI j1) a1) rfl rfl rfl rfl ?_
    refine an_call (r_X1_at s1.2 0 g (v_X4_cell s1.2 (nI j1) a1)) rfl rfl rfl rfl ?_
    refine an_b 1 (pc2 := if (v_X1_at s1.2 0 g (v_X4_cell s1.2 (nI j1) a1)) ≤ 0 then 49 else 25) (L2 := [some (vR 0 0 g), some (vI a1), some (vI s1.1), some (vI (nI j1))]) (st2 := []) (m1 := s1.2) rfl ?_
    refine re_if2 (c := (v_X1_at s1.2 0 g (v_X4_cell s1.2 (nI j1) a1)) ≤ 0) (a := s1.1) (b := s1.1 + (1 : Int32)) (x := s1.2) (y := (w_X1_raise (w_X1_put s1.2 0 g (v_X4_cell s1.2 (nI j1) a1) (0 : Int32)) 6 g (nI j1))) (fun x y => (49, [some (vR 0 0 g), some (vI a1), some (vI x), some (vI (nI j1))], [], y)) (fun h1 v9 m9 K2 => ?_) (fun h1 v9 m9 K2 => ?_) _ _ ?_
    · exact K2
    · refine an_b 4 (pc2 := 31) (L2 := [some (vR 0 0 g), some (vI a1), some (vI s1.1), some (vI (nI j1))]) (st2 := [vI a1, vI (nI j1), vR 1 0 g]) (m1 := s1.2) rfl ?_
      refine an_call (r_X4_cell s1.2 (nI j1) a1) rfl rfl rfl rfl ?_
      refine an_b 1 (pc2 := 35) (L2 := [some (vR 0 0 g), some (vI a1), some (vI s1.1), some (vI (nI j1))]) (st2 := [vI (0 : Int32), vI (v_X4_cell s1.2 (nI j1) a1), vR 1 0 g]) (m1 := s1.2) rfl ?_
      refine an_call (r_X1_put s1.2 0 g (v_X4_cell s1.2 (nI j1) a1) (0 : Int32)) rfl rfl rfl rfl ?_
      refine an_b 3 (pc2 := 43) (L2 := [some (vR 0 0 g), some (vI a1), some (vI s1.1), some (vI (nI j1))]) (st2 := [vI (nI j1), vR 1 6 g]) (m1 := (w_X1_put s1.2 0 g (v_X4_cell s1.2 (nI j1) a1) (0 : Int32))) rfl ?_
      refine an_call (r_X1_raise (w_X1_put s1.2 0 g (v_X4_cell s1.2 (nI j1) a1) (0 : Int32)) 6 g (nI j1)) rfl rfl rfl rfl ?_
      refine an_b 1 (pc2 := 49) (L2 := [some (vR 0 0 g), some (vI a1), some (vI (s1.1 + (1 : Int32))), some (vI (nI j1))]) (st2 := []) (m1 := (w_X1_raise (w_X1_put s1.2 0 g (v_X4_cell s1.2 (nI j1) a1) (0 : Int32)) 6 g (nI j1))) rfl ?_
      exact K2
    refine an_b 2 (pc2 := 4) (L2 := [some (vR 0 0 g), some (vI a1), some (vI (if (v_X1_at s1.2 0 g (v_X4_cell s1.2 (nI j1) a1)) ≤ 0 then s1.1 else (s1.1 + (1 : Int32)))), some (vI ((nI j1) + (1 : Int32)))]) (st2 := []) (m1 := (if (v_X1_at s1.2 0 g (v_X4_cell s1.2 (nI j1) a1)) ≤ 0 then s1.2 else (w_X1_raise (w_X1_put s1.2 0 g (v_X4_cell s1.2 (nI j1) a1) (0 : Int32)) 6 g (nI j1)))) rfl ?_
    refine an_cL (K := [some (vR 0 0 g), some (vI a1), some (vI (if (v_X1_at s1.2 0 g (v_X4_cell s1.2 (nI j1) a1)) ≤ 0 then s1.1 else (s1.1 + (1 : Int32)))), some (vI (nI (j1 + 1)))]) (by simp only [nI_1]) ?_
    exact K1
  · show An MX2_burn 4 [some (vR 0 0 g), some (vI a1), some (vI s1.1), some (vI (nI 8))] [] s1.2 v9 m9
    refine an_b 3 (pc2 := if (8 : Int32) ≤ (nI 8) then 55 else 10) (L2 := [some (vR 0 0 g), some (vI a1), some (vI s1.1), some (vI (nI 8))]) (st2 := []) (m1 := s1.2) rfl ?_
    refine an_t (nI_le (a := 8) (b := 8) (by omega) (by omega)) ?_
    refine an_weak (L := [some (vR 0 0 g), some (vI a1), some (vI s1.1), none]) (⟨rfl, rfl, rfl, trivial⟩) ?_
    exact K1
  show An MX2_burn 55 [some (vR 0 0 g), some (vI a1), some (vI ((lp (b_X2_burn_1 m g a1) 8 0 ((0 : Int32), m)).1)), none] [] (lp (b_X2_burn_1 m g a1) 8 0 ((0 : Int32), m)).2 _ _
  refine an_b 2 (pc2 := if ((lp (b_X2_burn_1 m g a1) 8 0 ((0 : Int32), m)).1) ≤ 0 then 65 else 59) (L2 := [some (vR 0 0 g), some (vI a1), some (vI ((lp (b_X2_burn_1 m g a1) 8 0 ((0 : Int32), m)).1)), none]) (st2 := []) (m1 := (lp (b_X2_burn_1 m g a1) 8 0 ((0 : Int32), m)).2) rfl ?_
  refine re_if1 (c := ((lp (b_X2_burn_1 m g a1) 8 0 ((0 : Int32), m)).1) ≤ 0) (a := (lp (b_X2_burn_1 m g a1) 8 0 ((0 : Int32), m)).2) (b := (w_X2_settle ((lp (b_X2_burn_1 m g a1) 8 0 ((0 : Int32), m)).2) g a1)) (fun x => (65, [some (vR 0 0 g), some (vI a1), some (vI ((lp (b_X2_burn_1 m g a1) 8 0 ((0 : Int32), m)).1)), none], [], x)) (fun h3 v9 m9 K4 => ?_) (fun h3 v9 m9 K4 => ?_) _ _ ?_
  · exact K4
  · refine an_b 2 (pc2 := 61) (L2 := [some (vR 0 0 g), some (vI a1), some (vI ((lp (b_X2_burn_1 m g a1) 8 0 ((0 : Int32), m)).1)), none]) (st2 := [vI a1, vR 0 0 g]) (m1 := (lp (b_X2_burn_1 m g a1) 8 0 ((0 : Int32), m)).2) rfl ?_
    refine an_call (r_X2_settle ((lp (b_X2_burn_1 m g a1) 8 0 ((0 : Int32), m)).2) g a1) rfl rfl rfl rfl ?_
    refine an_b 1 (pc2 := 65) (L2 := [some (vR 0 0 g), some (vI a1), some (vI ((lp (b_X2_burn_1 m g a1) 8 0 ((0 : Int32), m)).1)), none]) (st2 := []) (m1 := (w_X2_settle ((lp (b_X2_burn_1 m g a1) 8 0 ((0 : Int32), m)).2) g a1)) rfl ?_
    exact K4
  refine an_b 1 (pc2 := 66) (L2 := [some (vR 0 0 g), some (vI a1), some (vI ((lp (b_X2_burn_1 m g a1) 8 0 ((0 : Int32), m)).1)), none]) (st2 := [vI ((lp (b_X2_burn_1 m g a1) 8 0 ((0 : Int32), m)).1)]) (m1 := (if ((lp (b_X2_burn_1 m g a1) 8 0 ((0 : Int32), m)).1) ≤ 0 then (lp (b_X2_burn_1 m g a1) 8 0 ((0 : Int32), m)).2 else (w_X2_settle ((lp (b_X2_burn_1 m g a1) 8 0 ((0 : Int32), m)).2) g a1))) rfl ?_
  exact an_ret rfl rfl rfl rfl rfl
def b_X2_tick_1 (m : PM) (g : Nat)  (j1 : Nat) (s1 : PM) : PM := (w_X1_put s1 4 g (nI j1) (v_X2_heatAfter s1 g (v_X1_at s1 4 g (nI j1)) (v_X2_greatestMode s1 g (nI j1))))
def b_X2_tick_2 (m : PM) (g : Nat)  (j2 : Nat) (s2 : Int32 × PM) : Int32 × PM := ((if (v_X1_at s2.2 4 g (nI j2)) ≤ (v_X1_at s2.2 10 g (0 : Int32)) then s2.1 else (s2.1 + (v_X2_burn s2.2 g (nI j2)))), (if (v_X1_at s2.2 4 g (nI j2)) ≤ (v_X1_at s2.2 10 g (0 : Int32)) then s2.2 else (w_X2_burn s2.2 g (nI j2))))
def v_X2_tick (m : PM) (g : Nat) : Int32 := (lp (b_X2_tick_2 m g) 12 0 ((0 : Int32), (lp (b_X2_tick_1 m g) 12 0 (wI m 0 0 g 11 ((m.1 0 0 g 11) + (1 : Int32)))))).1
def w_X2_tick (m : PM) (g : Nat) : PM := (lp (b_X2_tick_2 m g) 12 0 ((0 : Int32), (lp (b_X2_tick_1 m g) 12 0 (wI m 0 0 g 11 ((m.1 0 0 g 11) + (1 : Int32)))))).2
set_option maxRecDepth 100000 in
theorem r_X2_tick (m : PM) (g : Nat) : Rn MX2_tick [vR 0 0 g] m (some (vI (v_X2_tick m g))) (w_X2_tick m g) := by
  refine rn_of [some (vR 0 0 g), none, none] rfl ?_
  unfold v_X2_tick w_X2_tick
  refine an_b 8 (pc2 := 12) (L2 := [some (vR 0 0 g), some (vI (0 : Int32)), none]) (st2 := []) (m1 := (wI m 0 0 g 11 ((m.1 0 0 g 11) + (1 : Int32)))) rfl ?_
  refine re_lp (σ := PM) (b_X2_tick_1 m g) (fun j1 s1 => (12, [some (vR 0 0 g), some (vI (nI j1)), none], [], s1)) 12 (fun s1 => (49, [some (vR 0 0 g), none, none], [], s1)) (fun j1 s1 hj1 v9 m9 K1 => ?_) (fun s1 v9 m9 K1 => ?_) 12 0 (wI m 0 0 g 11 ((m.1 0 0 g 11) + (1 : Int32))) (Nat.add_zero _) _ _ ?_
  · show An MX2_tick 12 [some (vR 0 0 g), some (vI (nI j1)), none] [] s1 v9 m9
    refine an_b 3 (pc2 := if (12 : Int32) ≤ (nI j1) then 49 else 18) (L2 := [some (vR 0 0 g), some (vI (nI j1)), none]) (st2 := []) (m1 := s1) rfl ?_
    refine an_f (nI_ge (a := j1) (b := 12) (by omega) (by omega)) ?_
    refine an_b 7 (pc2 := 29) (L2 := [some (vR 0 0 g), some (vI (nI j1)), none]) (st2 := [vI (nI j1), vR 1 4 g, vR 0 0 g, vI (nI j1), vR 1 4 g]) (m1 := s1) rfl ?_
    refine an_call (r_X1_at s1 4 g (nI j1)) rfl rfl rfl rfl ?_
    refine an_b 2 (pc2 := 34) (L2 := [some (vR 0 0 g), some (vI (nI j1)), none]) (st2 := [vI (nI j1), vR 0 0 g, vI (v_X1_at s1 4 g (nI j1)), vR 0 0 g, vI (nI j1), vR 1 4 g]) (m1 := s1) rfl ?_
    refine an_call (r_X2_greatestMode s1 g (nI j1)) rfl rfl rfl rfl ?_
    refine an_call (r_X2_heatAfter s1 g (v_X1_at s1 4 g (nI j1)) (v_X2_greatestMode s1 g (nI j1))) rfl rfl rfl rfl ?_
    refine an_call (r_X1_put s1 4 g (nI j1) (v_X2_heatAfter s1 g (v_X1_at s1 4 g (nI j1)) (v_X2_greatestMode s1 g (nI j1)))) rfl rfl rfl rfl ?_
    refine an_b 2 (pc2 := 12) (L2 := [some (vR 0 0 g), some (vI ((nI j1) + (1 : Int32))), none]) (st2 := []) (m1 := (w_X1_put s1 4 g (nI j1) (v_X2_heatAfter s1 g (v_X1_at s1 4 g (nI j1)) (v_X2_greatestMode s1 g (nI j1))))) rfl ?_
    refine an_cL (K := [some (vR 0 0 g), some (vI (nI (j1 + 1))), none]) (by simp only [nI_1]) ?_
    exact K1
  · show An MX2_tick 12 [some (vR 0 0 g), some (vI (nI 12)), none] [] s1 v9 m9
    refine an_b 3 (pc2 := if (12 : Int32) ≤ (nI 12) then 49 else 18) (L2 := [some (vR 0 0 g), some (vI (nI 12)), none]) (st2 := []) (m1 := s1) rfl ?_
    refine an_t (nI_le (a := 12) (b := 12) (by omega) (by omega)) ?_
    refine an_weak (L := [some (vR 0 0 g), none, none]) (⟨rfl, trivial⟩) ?_
    exact K1
  show An MX2_tick 49 [some (vR 0 0 g), none, none] [] (lp (b_X2_tick_1 m g) 12 0 (wI m 0 0 g 11 ((m.1 0 0 g 11) + (1 : Int32)))) _ _
  refine an_b 4 (pc2 := 53) (L2 := [some (vR 0 0 g), some (vI (0 : Int32)), some (vI (0 : Int32))]) (st2 := []) (m1 := (lp (b_X2_tick_1 m g) 12 0 (wI m 0 0 g 11 ((m.1 0 0 g 11) + (1 : Int32))))) rfl ?_
  refine re_lp (σ := Int32 × PM) (b_X2_tick_2 m g) (fun j2 s2 => (53, [some (vR 0 0 g), some (vI s2.1), some (vI (nI j2))], [], s2.2)) 12 (fun s2 => (92, [some (vR 0 0 g), some (vI s2.1), none], [], s2.2)) (fun j2 s2 hj2 v9 m9 K2 => ?_) (fun s2 v9 m9 K2 => ?_) 12 0 ((0 : Int32), (lp (b_X2_tick_1 m g) 12 0 (wI m 0 0 g 11 ((m.1 0 0 g 11) + (1 : Int32))))) (Nat.add_zero _) _ _ ?_
  · show An MX2_tick 53 [some (vR 0 0 g), some (vI s2.1), some (vI (nI j2))] [] s2.2 v9 m9
    refine an_b 3 (pc2 := if (12 : Int32) ≤ (nI j2) then 92 else 59) (L2 := [some (vR 0 0 g), some (vI s2.1), some (vI (nI j2))]) (st2 := []) (m1 := s2.2) rfl ?_
    refine an_f (nI_ge (a := j2) (b := 12) (by omega) (by omega)) ?_
    refine an_b 3 (pc2 := 64) (L2 := [some (vR 0 0 g), some (vI s2.1), some (vI (nI j2))]) (st2 := [vI (nI j2), vR 1 4 g]) (m1 := s2.2) rfl ?_
    refine an_call (r_X1_at s2.2 4 g (nI j2)) rfl rfl rfl rfl ?_
    refine an_b 3 (pc2 := 72) (L2 := [some (vR 0 0 g), some (vI s2.1), some (vI (nI j2))]) (st2 := [vI (0 : Int32), vR 1 10 g, vI (v_X1_at s2.2 4 g (nI j2))]) (m1 := s2.2) rfl ?_
    refine an_call (r_X1_at s2.2 10 g (0 : Int32)) rfl rfl rfl rfl ?_
    refine an_b 1 (pc2 := if (v_X1_at s2.2 4 g (nI j2)) ≤ (v_X1_at s2.2 10 g (0 : Int32)) then 86 else 78) (L2 := [some (vR 0 0 g), some (vI s2.1), some (vI (nI j2))]) (st2 := []) (m1 := s2.2) rfl ?_
    refine re_if2 (c := (v_X1_at s2.2 4 g (nI j2)) ≤ (v_X1_at s2.2 10 g (0 : Int32))) (a := s2.1) (b := (s2.1 + (v_X2_burn s2.2 g (nI j2)))) (x := s2.2) (y := (w_X2_burn s2.2 g (nI j2))) (fun x y => (86, [some (vR 0 0 g), some (vI x), some (vI (nI j2))], [], y)) (fun h1 v9 m9 K2 => ?_) (fun h1 v9 m9 K2 => ?_) _ _ ?_
    · exact K2
    · refine an_b 3 (pc2 := 81) (L2 := [some (vR 0 0 g), some (vI s2.1), some (vI (nI j2))]) (st2 := [vI (nI j2), vR 0 0 g, vI s2.1]) (m1 := s2.2) rfl ?_
      refine an_call (r_X2_burn s2.2 g (nI j2)) rfl rfl rfl rfl ?_
      refine an_b 2 (pc2 := 86) (L2 := [some (vR 0 0 g), some (vI (s2.1 + (v_X2_burn s2.2 g (nI j2)))), some (vI (nI j2))]) (st2 := []) (m1 := (w_X2_burn s2.2 g (nI j2))) rfl ?_
      exact K2
    refine an_b 2 (pc2 := 53) (L2 := [some (vR 0 0 g), some (vI (if (v_X1_at s2.2 4 g (nI j2)) ≤ (v_X1_at s2.2 10 g (0 : Int32)) then s2.1 else (s2.1 + (v_X2_burn s2.2 g (nI j2))))), some (vI ((nI j2) + (1 : Int32)))]) (st2 := []) (m1 := (if (v_X1_at s2.2 4 g (nI j2)) ≤ (v_X1_at s2.2 10 g (0 : Int32)) then s2.2 else (w_X2_burn s2.2 g (nI j2)))) rfl ?_
    refine an_cL (K := [some (vR 0 0 g), some (vI (if (v_X1_at s2.2 4 g (nI j2)) ≤ (v_X1_at s2.2 10 g (0 : Int32)) then s2.1 else (s2.1 + (v_X2_burn s2.2 g (nI j2))))), some (vI (nI (j2 + 1)))]) (by simp only [nI_1]) ?_
    exact K2
  · show An MX2_tick 53 [some (vR 0 0 g), some (vI s2.1), some (vI (nI 12))] [] s2.2 v9 m9
    refine an_b 3 (pc2 := if (12 : Int32) ≤ (nI 12) then 92 else 59) (L2 := [some (vR 0 0 g), some (vI s2.1), some (vI (nI 12))]) (st2 := []) (m1 := s2.2) rfl ?_
    refine an_t (nI_le (a := 12) (b := 12) (by omega) (by omega)) ?_
    refine an_weak (L := [some (vR 0 0 g), some (vI s2.1), none]) (⟨rfl, rfl, trivial⟩) ?_
    exact K2
  show An MX2_tick 92 [some (vR 0 0 g), some (vI ((lp (b_X2_tick_2 m g) 12 0 ((0 : Int32), (lp (b_X2_tick_1 m g) 12 0 (wI m 0 0 g 11 ((m.1 0 0 g 11) + (1 : Int32)))))).1)), none] [] (lp (b_X2_tick_2 m g) 12 0 ((0 : Int32), (lp (b_X2_tick_1 m g) 12 0 (wI m 0 0 g 11 ((m.1 0 0 g 11) + (1 : Int32)))))).2 _ _
  refine an_b 1 (pc2 := 93) (L2 := [some (vR 0 0 g), some (vI ((lp (b_X2_tick_2 m g) 12 0 ((0 : Int32), (lp (b_X2_tick_1 m g) 12 0 (wI m 0 0 g 11 ((m.1 0 0 g 11) + (1 : Int32)))))).1)), none]) (st2 := [vI ((lp (b_X2_tick_2 m g) 12 0 ((0 : Int32), (lp (b_X2_tick_1 m g) 12 0 (wI m 0 0 g 11 ((m.1 0 0 g 11) + (1 : Int32)))))).1)]) (m1 := (lp (b_X2_tick_2 m g) 12 0 ((0 : Int32), (lp (b_X2_tick_1 m g) 12 0 (wI m 0 0 g 11 ((m.1 0 0 g 11) + (1 : Int32)))))).2) rfl ?_
  exact an_ret rfl rfl rfl rfl rfl
def b_X2_ticksToBurn_1 (m : PM) (g : Nat) (a1 : Int32)  (j1 : Nat) (s1 : Int32) : (Int32) ⊕ (Int32) := if (v_X2_heatAfter m g s1 (v_X2_greatestMode m g a1)) ≤ (v_X1_at m 10 g (0 : Int32)) then .inl (v_X2_heatAfter m g s1 (v_X2_greatestMode m g a1)) else .inr (nI (j1 + 1))
def v_X2_ticksToBurn (m : PM) (g : Nat) (a1 : Int32) : Int32 := (if ¬ (v_X2_greatestMode m g a1) = 0 then (lqr (fun s1 : Int32 => (-1 : Int32)) (lq (b_X2_ticksToBurn_1 m g a1) 300 0 (v_X1_at m 4 g a1))) else (-1 : Int32))
set_option maxRecDepth 100000 in
theorem r_X2_ticksToBurn (m : PM) (g : Nat) (a1 : Int32) : Rn MX2_ticksToBurn [vR 0 0 g, vI a1] m (some (vI (v_X2_ticksToBurn m g a1))) m := by
  refine rn_of [some (vR 0 0 g), some (vI a1), none, none, none] rfl ?_
  unfold v_X2_ticksToBurn
  refine an_b 2 (pc2 := 2) (L2 := [some (vR 0 0 g), some (vI a1), none, none, none]) (st2 := [vI a1, vR 0 0 g]) (m1 := m) rfl ?_
  refine an_call (r_X2_greatestMode m g a1) rfl rfl rfl rfl ?_
  refine an_b 3 (pc2 := if ¬ (v_X2_greatestMode m g a1) = 0 then 12 else 10) (L2 := [some (vR 0 0 g), some (vI a1), some (vI (v_X2_greatestMode m g a1)), none, none]) (st2 := []) (m1 := m) rfl ?_
  refine an_ifi (c := ¬ (v_X2_greatestMode m g a1) = 0) (fun h1 => ?_) (fun h1 => ?_)
  · refine an_b 3 (pc2 := 17) (L2 := [some (vR 0 0 g), some (vI a1), some (vI (v_X2_greatestMode m g a1)), none, none]) (st2 := [vI a1, vR 1 4 g]) (m1 := m) rfl ?_
    refine an_call (r_X1_at m 4 g a1) rfl rfl rfl rfl ?_
    refine an_b 3 (pc2 := 24) (L2 := [some (vR 0 0 g), some (vI a1), some (vI (v_X2_greatestMode m g a1)), some (vI (v_X1_at m 4 g a1)), some (vI (1 : Int32))]) (st2 := []) (m1 := m) rfl ?_
    refine an_lq (σ := Int32) (ρ := Int32) (b_X2_ticksToBurn_1 m g a1) (fun j1 s1 => (24, [some (vR 0 0 g), some (vI a1), some (vI (v_X2_greatestMode m g a1)), some (vI s1), some (vI (nI (j1 + 1)))], [], m)) 300 (fun x9 => .inl (some (vI (lqr (fun s1 => (-1 : Int32)) x9)))) (fun _ => m) (fun j1 s1 hj1 v9 m9 hc1 hr1 => ?_) (fun s1 => ?_) 300 0 (v_X1_at m 4 g a1) (Nat.add_zero _)
    · show An MX2_ticksToBurn 24 [some (vR 0 0 g), some (vI a1), some (vI (v_X2_greatestMode m g a1)), some (vI s1), some (vI (nI (j1 + 1)))] [] m v9 m9
      refine an_b 3 (pc2 := if (300 : Int32) < (nI (j1 + 1)) then 60 else 32) (L2 := [some (vR 0 0 g), some (vI a1), some (vI (v_X2_greatestMode m g a1)), some (vI s1), some (vI (nI (j1 + 1)))]) (st2 := []) (m1 := m) rfl ?_
      refine an_f (nI_nlt (a := 300) (b := j1 + 1) (by omega) (by omega)) ?_
      refine an_b 3 (pc2 := 35) (L2 := [some (vR 0 0 g), some (vI a1), some (vI (v_X2_greatestMode m g a1)), some (vI s1), some (vI (nI (j1 + 1)))]) (st2 := [vI (v_X2_greatestMode m g a1), vI s1, vR 0 0 g]) (m1 := m) rfl ?_
      refine an_call (r_X2_heatAfter m g s1 (v_X2_greatestMode m g a1)) rfl rfl rfl rfl ?_
      refine an_b 5 (pc2 := 45) (L2 := [some (vR 0 0 g), some (vI a1), some (vI (v_X2_greatestMode m g a1)), some (vI (v_X2_heatAfter m g s1 (v_X2_greatestMode m g a1))), some (vI (nI (j1 + 1)))]) (st2 := [vI (0 : Int32), vR 1 10 g, vI (v_X2_heatAfter m g s1 (v_X2_greatestMode m g a1))]) (m1 := m) rfl ?_
      refine an_call (r_X1_at m 10 g (0 : Int32)) rfl rfl rfl rfl ?_
      refine an_b 1 (pc2 := if (v_X2_heatAfter m g s1 (v_X2_greatestMode m g a1)) ≤ (v_X1_at m 10 g (0 : Int32)) then 54 else 51) (L2 := [some (vR 0 0 g), some (vI a1), some (vI (v_X2_greatestMode m g a1)), some (vI (v_X2_heatAfter m g s1 (v_X2_greatestMode m g a1))), some (vI (nI (j1 + 1)))]) (st2 := []) (m1 := m) rfl ?_
      refine an_if (c := (v_X2_heatAfter m g s1 (v_X2_greatestMode m g a1)) ≤ (v_X1_at m 10 g (0 : Int32))) (fun h2 => ?_) (fun h2 => ?_)
      · refine an_b 2 (pc2 := 24) (L2 := [some (vR 0 0 g), some (vI a1), some (vI (v_X2_greatestMode m g a1)), some (vI (v_X2_heatAfter m g s1 (v_X2_greatestMode m g a1))), some (vI ((nI (j1 + 1)) + (1 : Int32)))]) (st2 := []) (m1 := m) rfl ?_
        refine an_cL (K := [some (vR 0 0 g), some (vI a1), some (vI (v_X2_greatestMode m g a1)), some (vI (v_X2_heatAfter m g s1 (v_X2_greatestMode m g a1))), some (vI (nI (j1 + 1 + 1)))]) (by simp only [nI_1, Nat.add_right_comm]) ?_
        exact hc1 _ (by unfold b_X2_ticksToBurn_1; rw [if_pos h2])
      · refine an_b 1 (pc2 := 53) (L2 := [some (vR 0 0 g), some (vI a1), some (vI (v_X2_greatestMode m g a1)), some (vI (v_X2_heatAfter m g s1 (v_X2_greatestMode m g a1))), some (vI (nI (j1 + 1)))]) (st2 := [vI (nI (j1 + 1))]) (m1 := m) rfl ?_
        obtain ⟨rfl, rfl⟩ := hr1 _ (by unfold b_X2_ticksToBurn_1; rw [if_neg h2])
        exact an_ret rfl rfl rfl rfl rfl
    · show An MX2_ticksToBurn 24 [some (vR 0 0 g), some (vI a1), some (vI (v_X2_greatestMode m g a1)), some (vI s1), some (vI (nI (300 + 1)))] [] m _ _
      refine an_b 3 (pc2 := if (300 : Int32) < (nI (300 + 1)) then 60 else 32) (L2 := [some (vR 0 0 g), some (vI a1), some (vI (v_X2_greatestMode m g a1)), some (vI s1), some (vI (nI (300 + 1)))]) (st2 := []) (m1 := m) rfl ?_
      refine an_t (nI_lt (a := 300) (b := 300 + 1) (by omega) (by omega)) ?_
      refine an_b 1 (pc2 := 61) (L2 := [some (vR 0 0 g), some (vI a1), some (vI (v_X2_greatestMode m g a1)), some (vI s1), some (vI (nI (300 + 1)))]) (st2 := [vI (-1 : Int32)]) (m1 := m) rfl ?_
      exact an_ret rfl rfl rfl rfl rfl
  · refine an_b 1 (pc2 := 11) (L2 := [some (vR 0 0 g), some (vI a1), some (vI (v_X2_greatestMode m g a1)), none, none]) (st2 := [vI (-1 : Int32)]) (m1 := m) rfl ?_
    exact an_ret rfl rfl rfl rfl rfl
def b_X2_holders_1 (m : PM) (g : Nat) (a1 : Int32)  (j1 : Nat) (s1 : Int32) : Int32 := (if (v_X1_at m 0 g (v_X4_cell m (nI j1) a1)) ≤ 0 then s1 else (s1 ||| ((1 : Int32) <<< ((nI j1) &&& (31 : Int32)))))
def v_X2_holders (m : PM) (g : Nat) (a1 : Int32) : Int32 := (lp (b_X2_holders_1 m g a1) 8 0 (0 : Int32))
set_option maxRecDepth 100000 in
theorem r_X2_holders (m : PM) (g : Nat) (a1 : Int32) : Rn MX2_holders [vR 0 0 g, vI a1] m (some (vI (v_X2_holders m g a1))) m := by
  refine rn_of [some (vR 0 0 g), some (vI a1), none, none] rfl ?_
  unfold v_X2_holders
  refine an_b 4 (pc2 := 4) (L2 := [some (vR 0 0 g), some (vI a1), some (vI (0 : Int32)), some (vI (0 : Int32))]) (st2 := []) (m1 := m) rfl ?_
  refine re_lp (σ := Int32) (b_X2_holders_1 m g a1) (fun j1 s1 => (4, [some (vR 0 0 g), some (vI a1), some (vI s1), some (vI (nI j1))], [], m)) 8 (fun s1 => (37, [some (vR 0 0 g), some (vI a1), some (vI s1), none], [], m)) (fun j1 s1 hj1 v9 m9 K1 => ?_) (fun s1 v9 m9 K1 => ?_) 8 0 (0 : Int32) (Nat.add_zero _) _ _ ?_
  · show An MX2_holders 4 [some (vR 0 0 g), some (vI a1), some (vI s1), some (vI (nI j1))] [] m v9 m9
    refine an_b 3 (pc2 := if (8 : Int32) ≤ (nI j1) then 37 else 10) (L2 := [some (vR 0 0 g), some (vI a1), some (vI s1), some (vI (nI j1))]) (st2 := []) (m1 := m) rfl ?_
    refine an_f (nI_ge (a := j1) (b := 8) (by omega) (by omega)) ?_
    refine an_b 4 (pc2 := 16) (L2 := [some (vR 0 0 g), some (vI a1), some (vI s1), some (vI (nI j1))]) (st2 := [vI a1, vI (nI j1), vR 1 0 g]) (m1 := m) rfl ?_
    refine an_call (r_X4_cell m (nI j1) a1) rfl rfl rfl rfl ?_
    refine an_call (r_X1_at m 0 g (v_X4_cell m (nI j1) a1)) rfl rfl rfl rfl ?_
    refine an_b 1 (pc2 := if (v_X1_at m 0 g (v_X4_cell m (nI j1) a1)) ≤ 0 then 31 else 25) (L2 := [some (vR 0 0 g), some (vI a1), some (vI s1), some (vI (nI j1))]) (st2 := []) (m1 := m) rfl ?_
    refine re_if1 (c := (v_X1_at m 0 g (v_X4_cell m (nI j1) a1)) ≤ 0) (a := s1) (b := (s1 ||| ((1 : Int32) <<< ((nI j1) &&& (31 : Int32))))) (fun x => (31, [some (vR 0 0 g), some (vI a1), some (vI x), some (vI (nI j1))], [], m)) (fun h1 v9 m9 K2 => ?_) (fun h1 v9 m9 K2 => ?_) _ _ ?_
    · exact K2
    · refine an_b 6 (pc2 := 31) (L2 := [some (vR 0 0 g), some (vI a1), some (vI (s1 ||| ((1 : Int32) <<< ((nI j1) &&& (31 : Int32))))), some (vI (nI j1))]) (st2 := []) (m1 := m) rfl ?_
      exact K2
    refine an_b 2 (pc2 := 4) (L2 := [some (vR 0 0 g), some (vI a1), some (vI (if (v_X1_at m 0 g (v_X4_cell m (nI j1) a1)) ≤ 0 then s1 else (s1 ||| ((1 : Int32) <<< ((nI j1) &&& (31 : Int32)))))), some (vI ((nI j1) + (1 : Int32)))]) (st2 := []) (m1 := m) rfl ?_
    refine an_cL (K := [some (vR 0 0 g), some (vI a1), some (vI (if (v_X1_at m 0 g (v_X4_cell m (nI j1) a1)) ≤ 0 then s1 else (s1 ||| ((1 : Int32) <<< ((nI j1) &&& (31 : Int32)))))), some (vI (nI (j1 + 1)))]) (by simp only [nI_1]) ?_
    exact K1
  · show An MX2_holders 4 [some (vR 0 0 g), some (vI a1), some (vI s1), some (vI (nI 8))] [] m v9 m9
    refine an_b 3 (pc2 := if (8 : Int32) ≤ (nI 8) then 37 else 10) (L2 := [some (vR 0 0 g), some (vI a1), some (vI s1), some (vI (nI 8))]) (st2 := []) (m1 := m) rfl ?_
    refine an_t (nI_le (a := 8) (b := 8) (by omega) (by omega)) ?_
    refine an_weak (L := [some (vR 0 0 g), some (vI a1), some (vI s1), none]) (⟨rfl, rfl, rfl, trivial⟩) ?_
    exact K1
  show An MX2_holders 37 [some (vR 0 0 g), some (vI a1), some (vI (lp (b_X2_holders_1 m g a1) 8 0 (0 : Int32))), none] [] m _ _
  refine an_b 1 (pc2 := 38) (L2 := [some (vR 0 0 g), some (vI a1), some (vI (lp (b_X2_holders_1 m g a1) 8 0 (0 : Int32))), none]) (st2 := [vI (lp (b_X2_holders_1 m g a1) 8 0 (0 : Int32))]) (m1 := m) rfl ?_
  exact an_ret rfl rfl rfl rfl rfl
def b_X2_locksOf_1 (m : PM) (g : Nat) (a1 : Int32)  (j1 : Nat) (s1 : Int32) : Int32 := (if (v_X1_at m 0 g (v_X4_cell m a1 (nI j1))) ≤ 0 then s1 else (s1 + (1 : Int32)))
def v_X2_locksOf (m : PM) (g : Nat) (a1 : Int32) : Int32 := (lp (b_X2_locksOf_1 m g a1) 12 0 (0 : Int32))
set_option maxRecDepth 100000 in
theorem r_X2_locksOf (m : PM) (g : Nat) (a1 : Int32) : Rn MX2_locksOf [vR 0 0 g, vI a1] m (some (vI (v_X2_locksOf m g a1))) m := by
  refine rn_of [some (vR 0 0 g), some (vI a1), none, none] rfl ?_
  unfold v_X2_locksOf
  refine an_b 4 (pc2 := 4) (L2 := [some (vR 0 0 g), some (vI a1), some (vI (0 : Int32)), some (vI (0 : Int32))]) (st2 := []) (m1 := m) rfl ?_
  refine re_lp (σ := Int32) (b_X2_locksOf_1 m g a1) (fun j1 s1 => (4, [some (vR 0 0 g), some (vI a1), some (vI s1), some (vI (nI j1))], [], m)) 12 (fun s1 => (34, [some (vR 0 0 g), some (vI a1), some (vI s1), none], [], m)) (fun j1 s1 hj1 v9 m9 K1 => ?_) (fun s1 v9 m9 K1 => ?_) 12 0 (0 : Int32) (Nat.add_zero _) _ _ ?_
  · show An MX2_locksOf 4 [some (vR 0 0 g), some (vI a1), some (vI s1), some (vI (nI j1))] [] m v9 m9
    refine an_b 3 (pc2 := if (12 : Int32) ≤ (nI j1) then 34 else 10) (L2 := [some (vR 0 0 g), some (vI a1), some (vI s1), some (vI (nI j1))]) (st2 := []) (m1 := m) rfl ?_
    refine an_f (nI_ge (a := j1) (b := 12) (by omega) (by omega)) ?_
    refine an_b 4 (pc2 := 16) (L2 := [some (vR 0 0 g), some (vI a1), some (vI s1), some (vI (nI j1))]) (st2 := [vI (nI j1), vI a1, vR 1 0 g]) (m1 := m) rfl ?_
    refine an_call (r_X4_cell m a1 (nI j1)) rfl rfl rfl rfl ?_
    refine an_call (r_X1_at m 0 g (v_X4_cell m a1 (nI j1))) rfl rfl rfl rfl ?_
    refine an_b 1 (pc2 := if (v_X1_at m 0 g (v_X4_cell m a1 (nI j1))) ≤ 0 then 28 else 25) (L2 := [some (vR 0 0 g), some (vI a1), some (vI s1), some (vI (nI j1))]) (st2 := []) (m1 := m) rfl ?_
    refine re_if1 (c := (v_X1_at m 0 g (v_X4_cell m a1 (nI j1))) ≤ 0) (a := s1) (b := s1 + (1 : Int32)) (fun x => (28, [some (vR 0 0 g), some (vI a1), some (vI x), some (vI (nI j1))], [], m)) (fun h1 v9 m9 K2 => ?_) (fun h1 v9 m9 K2 => ?_) _ _ ?_
    · exact K2
    · refine an_b 1 (pc2 := 28) (L2 := [some (vR 0 0 g), some (vI a1), some (vI (s1 + (1 : Int32))), some (vI (nI j1))]) (st2 := []) (m1 := m) rfl ?_
      exact K2
    refine an_b 2 (pc2 := 4) (L2 := [some (vR 0 0 g), some (vI a1), some (vI (if (v_X1_at m 0 g (v_X4_cell m a1 (nI j1))) ≤ 0 then s1 else (s1 + (1 : Int32)))), some (vI ((nI j1) + (1 : Int32)))]) (st2 := []) (m1 := m) rfl ?_
    refine an_cL (K := [some (vR 0 0 g), some (vI a1), some (vI (if (v_X1_at m 0 g (v_X4_cell m a1 (nI j1))) ≤ 0 then s1 else (s1 + (1 : Int32)))), some (vI (nI (j1 + 1)))]) (by simp only [nI_1]) ?_
    exact K1
  · show An MX2_locksOf 4 [some (vR 0 0 g), some (vI a1), some (vI s1), some (vI (nI 12))] [] m v9 m9
    refine an_b 3 (pc2 := if (12 : Int32) ≤ (nI 12) then 34 else 10) (L2 := [some (vR 0 0 g), some (vI a1), some (vI s1), some (vI (nI 12))]) (st2 := []) (m1 := m) rfl ?_
    refine an_t (nI_le (a := 12) (b := 12) (by omega) (by omega)) ?_
    refine an_weak (L := [some (vR 0 0 g), some (vI a1), some (vI s1), none]) (⟨rfl, rfl, rfl, trivial⟩) ?_
    exact K1
  show An MX2_locksOf 34 [some (vR 0 0 g), some (vI a1), some (vI (lp (b_X2_locksOf_1 m g a1) 12 0 (0 : Int32))), none] [] m _ _
  refine an_b 1 (pc2 := 35) (L2 := [some (vR 0 0 g), some (vI a1), some (vI (lp (b_X2_locksOf_1 m g a1) 12 0 (0 : Int32))), none]) (st2 := [vI (lp (b_X2_locksOf_1 m g a1) 12 0 (0 : Int32))]) (m1 := m) rfl ?_
  exact an_ret rfl rfl rfl rfl rfl
def b_X2_lockCount_1 (m : PM) (g : Nat)  (j1 : Nat) (s1 : Int32) : Int32 := (s1 + (v_X2_locksOf m g (nI j1)))
def v_X2_lockCount (m : PM) (g : Nat) : Int32 := (lp (b_X2_lockCount_1 m g) 8 0 (0 : Int32))
set_option maxRecDepth 100000 in
theorem r_X2_lockCount (m : PM) (g : Nat) : Rn MX2_lockCount [vR 0 0 g] m (some (vI (v_X2_lockCount m g))) m := by
  refine rn_of [some (vR 0 0 g), none, none] rfl ?_
  unfold v_X2_lockCount
  refine an_b 4 (pc2 := 4) (L2 := [some (vR 0 0 g), some (vI (0 : Int32)), some (vI (0 : Int32))]) (st2 := []) (m1 := m) rfl ?_
  refine re_lp (σ := Int32) (b_X2_lockCount_1 m g) (fun j1 s1 => (4, [some (vR 0 0 g), some (vI s1), some (vI (nI j1))], [], m)) 8 (fun s1 => (24, [some (vR 0 0 g), some (vI s1), none], [], m)) (fun j1 s1 hj1 v9 m9 K1 => ?_) (fun s1 v9 m9 K1 => ?_) 8 0 (0 : Int32) (Nat.add_zero _) _ _ ?_
  · show An MX2_lockCount 4 [some (vR 0 0 g), some (vI s1), some (vI (nI j1))] [] m v9 m9
    refine an_b 3 (pc2 := if (8 : Int32) ≤ (nI j1) then 24 else 10) (L2 := [some (vR 0 0 g), some (vI s1), some (vI (nI j1))]) (st2 := []) (m1 := m) rfl ?_
    refine an_f (nI_ge (a := j1) (b := 8) (by omega) (by omega)) ?_
    refine an_b 3 (pc2 := 13) (L2 := [some (vR 0 0 g), some (vI s1), some (vI (nI j1))]) (st2 := [vI (nI j1), vR 0 0 g, vI s1]) (m1 := m) rfl ?_
    refine an_call (r_X2_locksOf m g (nI j1)) rfl rfl rfl rfl ?_
    refine an_b 4 (pc2 := 4) (L2 := [some (vR 0 0 g), some (vI (s1 + (v_X2_locksOf m g (nI j1)))), some (vI ((nI j1) + (1 : Int32)))]) (st2 := []) (m1 := m) rfl ?_
    refine an_cL (K := [some (vR 0 0 g), some (vI (s1 + (v_X2_locksOf m g (nI j1)))), some (vI (nI (j1 + 1)))]) (by simp only [nI_1]) ?_
    exact K1
  · show An MX2_lockCount 4 [some (vR 0 0 g), some (vI s1), some (vI (nI 8))] [] m v9 m9
    refine an_b 3 (pc2 := if (8 : Int32) ≤ (nI 8) then 24 else 10) (L2 := [some (vR 0 0 g), some (vI s1), some (vI (nI 8))]) (st2 := []) (m1 := m) rfl ?_
    refine an_t (nI_le (a := 8) (b := 8) (by omega) (by omega)) ?_
    refine an_weak (L := [some (vR 0 0 g), some (vI s1), none]) (⟨rfl, rfl, trivial⟩) ?_
    exact K1
  show An MX2_lockCount 24 [some (vR 0 0 g), some (vI (lp (b_X2_lockCount_1 m g) 8 0 (0 : Int32))), none] [] m _ _
  refine an_b 1 (pc2 := 25) (L2 := [some (vR 0 0 g), some (vI (lp (b_X2_lockCount_1 m g) 8 0 (0 : Int32))), none]) (st2 := [vI (lp (b_X2_lockCount_1 m g) 8 0 (0 : Int32))]) (m1 := m) rfl ?_
  exact an_ret rfl rfl rfl rfl rfl
def b_X2_waitingCount_1 (m : PM) (g : Nat)  (j1 : Nat) (s1 : Int32) : Int32 := (if (v_X2_isWaiting m g (nI j1)) = 0 then s1 else (s1 + (1 : Int32)))
def v_X2_waitingCount (m : PM) (g : Nat) : Int32 := (lp (b_X2_waitingCount_1 m g) 8 0 (0 : Int32))
set_option maxRecDepth 100000 in
theorem r_X2_waitingCount (m : PM) (g : Nat) : Rn MX2_waitingCount [vR 0 0 g] m (some (vI (v_X2_waitingCount m g))) m := by
  refine rn_of [some (vR 0 0 g), none, none] rfl ?_
  unfold v_X2_waitingCount
  refine an_b 4 (pc2 := 4) (L2 := [some (vR 0 0 g), some (vI (0 : Int32)), some (vI (0 : Int32))]) (st2 := []) (m1 := m) rfl ?_
  refine re_lp (σ := Int32) (b_X2_waitingCount_1 m g) (fun j1 s1 => (4, [some (vR 0 0 g), some (vI s1), some (vI (nI j1))], [], m)) 8 (fun s1 => (27, [some (vR 0 0 g), some (vI s1), none], [], m)) (fun j1 s1 hj1 v9 m9 K1 => ?_) (fun s1 v9 m9 K1 => ?_) 8 0 (0 : Int32) (Nat.add_zero _) _ _ ?_
  · show An MX2_waitingCount 4 [some (vR 0 0 g), some (vI s1), some (vI (nI j1))] [] m v9 m9
    refine an_b 3 (pc2 := if (8 : Int32) ≤ (nI j1) then 27 else 10) (L2 := [some (vR 0 0 g), some (vI s1), some (vI (nI j1))]) (st2 := []) (m1 := m) rfl ?_
    refine an_f (nI_ge (a := j1) (b := 8) (by omega) (by omega)) ?_
    refine an_b 2 (pc2 := 12) (L2 := [some (vR 0 0 g), some (vI s1), some (vI (nI j1))]) (st2 := [vI (nI j1), vR 0 0 g]) (m1 := m) rfl ?_
    refine an_call (r_X2_isWaiting m g (nI j1)) rfl rfl rfl rfl ?_
    refine an_b 1 (pc2 := if (v_X2_isWaiting m g (nI j1)) = 0 then 21 else 18) (L2 := [some (vR 0 0 g), some (vI s1), some (vI (nI j1))]) (st2 := []) (m1 := m) rfl ?_
    refine re_if1 (c := (v_X2_isWaiting m g (nI j1)) = 0) (a := s1) (b := s1 + (1 : Int32)) (fun x => (21, [some (vR 0 0 g), some (vI x), some (vI (nI j1))], [], m)) (fun h1 v9 m9 K2 => ?_) (fun h1 v9 m9 K2 => ?_) _ _ ?_
    · exact K2
    · refine an_b 1 (pc2 := 21) (L2 := [some (vR 0 0 g), some (vI (s1 + (1 : Int32))), some (vI (nI j1))]) (st2 := []) (m1 := m) rfl ?_
      exact K2
    refine an_b 2 (pc2 := 4) (L2 := [some (vR 0 0 g), some (vI (if (v_X2_isWaiting m g (nI j1)) = 0 then s1 else (s1 + (1 : Int32)))), some (vI ((nI j1) + (1 : Int32)))]) (st2 := []) (m1 := m) rfl ?_
    refine an_cL (K := [some (vR 0 0 g), some (vI (if (v_X2_isWaiting m g (nI j1)) = 0 then s1 else (s1 + (1 : Int32)))), some (vI (nI (j1 + 1)))]) (by simp only [nI_1]) ?_
    exact K1
  · show An MX2_waitingCount 4 [some (vR 0 0 g), some (vI s1), some (vI (nI 8))] [] m v9 m9
    refine an_b 3 (pc2 := if (8 : Int32) ≤ (nI 8) then 27 else 10) (L2 := [some (vR 0 0 g), some (vI s1), some (vI (nI 8))]) (st2 := []) (m1 := m) rfl ?_
    refine an_t (nI_le (a := 8) (b := 8) (by omega) (by omega)) ?_
    refine an_weak (L := [some (vR 0 0 g), some (vI s1), none]) (⟨rfl, rfl, trivial⟩) ?_
    exact K1
  show An MX2_waitingCount 27 [some (vR 0 0 g), some (vI (lp (b_X2_waitingCount_1 m g) 8 0 (0 : Int32))), none] [] m _ _
  refine an_b 1 (pc2 := 28) (L2 := [some (vR 0 0 g), some (vI (lp (b_X2_waitingCount_1 m g) 8 0 (0 : Int32))), none]) (st2 := [vI (lp (b_X2_waitingCount_1 m g) 8 0 (0 : Int32))]) (m1 := m) rfl ?_
  exact an_ret rfl rfl rfl rfl rfl
def b_X2_heldRows_1 (m : PM) (g : Nat)  (j1 : Nat) (s1 : Int32) : Int32 := (if (v_X2_holders m g (nI j1)) = 0 then s1 else (s1 + (1 : Int32)))
def v_X2_heldRows (m : PM) (g : Nat) : Int32 := (lp (b_X2_heldRows_1 m g) 12 0 (0 : Int32))
set_option maxRecDepth 100000 in
theorem r_X2_heldRows (m : PM) (g : Nat) : Rn MX2_heldRows [vR 0 0 g] m (some (vI (v_X2_heldRows m g))) m := by
  refine rn_of [some (vR 0 0 g), none, none] rfl ?_
  unfold v_X2_heldRows
  refine an_b 4 (pc2 := 4) (L2 := [some (vR 0 0 g), some (vI (0 : Int32)), some (vI (0 : Int32))]) (st2 := []) (m1 := m) rfl ?_
  refine re_lp (σ := Int32) (b_X2_heldRows_1 m g) (fun j1 s1 => (4, [some (vR 0 0 g), some (vI s1), some (vI (nI j1))], [], m)) 12 (fun s1 => (27, [some (vR 0 0 g), some (vI s1), none], [], m)) (fun j1 s1 hj1 v9 m9 K1 => ?_) (fun s1 v9 m9 K1 => ?_) 12 0 (0 : Int32) (Nat.add_zero _) _ _ ?_
  · show An MX2_heldRows 4 [some (vR 0 0 g), some (vI s1), some (vI (nI j1))] [] m v9 m9
    refine an_b 3 (pc2 := if (12 : Int32) ≤ (nI j1) then 27 else 10) (L2 := [some (vR 0 0 g), some (vI s1), some (vI (nI j1))]) (st2 := []) (m1 := m) rfl ?_
    refine an_f (nI_ge (a := j1) (b := 12) (by omega) (by omega)) ?_
    refine an_b 2 (pc2 := 12) (L2 := [some (vR 0 0 g), some (vI s1), some (vI (nI j1))]) (st2 := [vI (nI j1), vR 0 0 g]) (m1 := m) rfl ?_
    refine an_call (r_X2_holders m g (nI j1)) rfl rfl rfl rfl ?_
    refine an_b 1 (pc2 := if (v_X2_holders m g (nI j1)) = 0 then 21 else 18) (L2 := [some (vR 0 0 g), some (vI s1), some (vI (nI j1))]) (st2 := []) (m1 := m) rfl ?_
    refine re_if1 (c := (v_X2_holders m g (nI j1)) = 0) (a := s1) (b := s1 + (1 : Int32)) (fun x => (21, [some (vR 0 0 g), some (vI x), some (vI (nI j1))], [], m)) (fun h1 v9 m9 K2 => ?_) (fun h1 v9 m9 K2 => ?_) _ _ ?_
    · exact K2
    · refine an_b 1 (pc2 := 21) (L2 := [some (vR 0 0 g), some (vI (s1 + (1 : Int32))), some (vI (nI j1))]) (st2 := []) (m1 := m) rfl ?_
      exact K2
    refine an_b 2 (pc2 := 4) (L2 := [some (vR 0 0 g), some (vI (if (v_X2_holders m g (nI j1)) = 0 then s1 else (s1 + (1 : Int32)))), some (vI ((nI j1) + (1 : Int32)))]) (st2 := []) (m1 := m) rfl ?_
    refine an_cL (K := [some (vR 0 0 g), some (vI (if (v_X2_holders m g (nI j1)) = 0 then s1 else (s1 + (1 : Int32)))), some (vI (nI (j1 + 1)))]) (by simp only [nI_1]) ?_
    exact K1
  · show An MX2_heldRows 4 [some (vR 0 0 g), some (vI s1), some (vI (nI 12))] [] m v9 m9
    refine an_b 3 (pc2 := if (12 : Int32) ≤ (nI 12) then 27 else 10) (L2 := [some (vR 0 0 g), some (vI s1), some (vI (nI 12))]) (st2 := []) (m1 := m) rfl ?_
    refine an_t (nI_le (a := 12) (b := 12) (by omega) (by omega)) ?_
    refine an_weak (L := [some (vR 0 0 g), some (vI s1), none]) (⟨rfl, rfl, trivial⟩) ?_
    exact K1
  show An MX2_heldRows 27 [some (vR 0 0 g), some (vI (lp (b_X2_heldRows_1 m g) 12 0 (0 : Int32))), none] [] m _ _
  refine an_b 1 (pc2 := 28) (L2 := [some (vR 0 0 g), some (vI (lp (b_X2_heldRows_1 m g) 12 0 (0 : Int32))), none]) (st2 := [vI (lp (b_X2_heldRows_1 m g) 12 0 (0 : Int32))]) (m1 := m) rfl ?_
  exact an_ret rfl rfl rfl rfl rfl
def v_X2_handPart (m : PM) (g : Nat) (a1 : Int32) (a2 : Int32) : Int32 := (if a2 = nI 0 then (v_X2_locksOf m g a1) else (if a2 = nI 1 then (v_X2_work m g a1) else (if a2 = nI 2 then (v_X1_at m 1 g a1) else (if a2 = nI 3 then (v_X1_at m 2 g a1) else (if a2 = nI 4 then (v_X2_direct m g a1) else (if a2 = nI 5 then (v_X1_at m 6 g a1) else (if a2 = nI 6 then (v_X1_at m 7 g a1) else (if a2 = nI 7 then (v_X1_at m 8 g a1) else (v_X1_at m 9 g a1)))))))))
set_option maxRecDepth 100000 in
theorem r_X2_handPart (m : PM) (g : Nat) (a1 : Int32) (a2 : Int32) : Rn MX2_handPart [vR 0 0 g, vI a1, vI a2] m (some (vI (v_X2_handPart m g a1 a2))) m := by
  refine rn_of [some (vR 0 0 g), some (vI a1), some (vI a2)] rfl ?_
  unfold v_X2_handPart
  refine an_b 1 (pc2 := 1) (L2 := [some (vR 0 0 g), some (vI a1), some (vI a2)]) (st2 := [vI a2]) (m1 := m) rfl ?_
  refine an_tsw [48, 54, 60, 69, 78, 84, 93, 102] 111 rfl rfl rfl (by decide) ?_
  refine an_ifi (c := a2 = nI 0) (fun h1 => ?_) (fun h1 => ?_)
  · refine an_b 2 (pc2 := 50) (L2 := [some (vR 0 0 g), some (vI a1), some (vI a2)]) (st2 := [vI a1, vR 0 0 g]) (m1 := m) rfl ?_
    refine an_call (r_X2_locksOf m g a1) rfl rfl rfl rfl ?_
    exact an_ret rfl rfl rfl rfl rfl
  · refine an_ifi (c := a2 = nI 1) (fun h2 => ?_) (fun h2 => ?_)
    · refine an_b 2 (pc2 := 56) (L2 := [some (vR 0 0 g), some (vI a1), some (vI a2)]) (st2 := [vI a1, vR 0 0 g]) (m1 := m) rfl ?_
      refine an_call (r_X2_work m g a1) rfl rfl rfl rfl ?_
      exact an_ret rfl rfl rfl rfl rfl
    · refine an_ifi (c := a2 = nI 2) (fun h3 => ?_) (fun h3 => ?_)
      · refine an_b 3 (pc2 := 65) (L2 := [some (vR 0 0 g), some (vI a1), some (vI a2)]) (st2 := [vI a1, vR 1 1 g]) (m1 := m) rfl ?_
        refine an_call (r_X1_at m 1 g a1) rfl rfl rfl rfl ?_
        exact an_ret rfl rfl rfl rfl rfl
      · refine an_ifi (c := a2 = nI 3) (fun h4 => ?_) (fun h4 => ?_)
        · refine an_b 3 (pc2 := 74) (L2 := [some (vR 0 0 g), some (vI a1), some (vI a2)]) (st2 := [vI a1, vR 1 2 g]) (m1 := m) rfl ?_
          refine an_call (r_X1_at m 2 g a1) rfl rfl rfl rfl ?_
          exact an_ret rfl rfl rfl rfl rfl
        · refine an_ifi (c := a2 = nI 4) (fun h5 => ?_) (fun h5 => ?_)
          · refine an_b 2 (pc2 := 80) (L2 := [some (vR 0 0 g), some (vI a1), some (vI a2)]) (st2 := [vI a1, vR 0 0 g]) (m1 := m) rfl ?_
            refine an_call (r_X2_direct m g a1) rfl rfl rfl rfl ?_
            exact an_ret rfl rfl rfl rfl rfl
          · refine an_ifi (c := a2 = nI 5) (fun h6 => ?_) (fun h6 => ?_)
            · refine an_b 3 (pc2 := 89) (L2 := [some (vR 0 0 g), some (vI a1), some (vI a2)]) (st2 := [vI a1, vR 1 6 g]) (m1 := m) rfl ?_
              refine an_call (r_X1_at m 6 g a1) rfl rfl rfl rfl ?_
              exact an_ret rfl rfl rfl rfl rfl
            · refine an_ifi (c := a2 = nI 6) (fun h7 => ?_) (fun h7 => ?_)
              · refine an_b 3 (pc2 := 98) (L2 := [some (vR 0 0 g), some (vI a1), some (vI a2)]) (st2 := [vI a1, vR 1 7 g]) (m1 := m) rfl ?_
                refine an_call (r_X1_at m 7 g a1) rfl rfl rfl rfl ?_
                exact an_ret rfl rfl rfl rfl rfl
              · refine an_ifi (c := a2 = nI 7) (fun h8 => ?_) (fun h8 => ?_)
                · refine an_b 3 (pc2 := 107) (L2 := [some (vR 0 0 g), some (vI a1), some (vI a2)]) (st2 := [vI a1, vR 1 8 g]) (m1 := m) rfl ?_
                  refine an_call (r_X1_at m 8 g a1) rfl rfl rfl rfl ?_
                  exact an_ret rfl rfl rfl rfl rfl
                · refine an_b 3 (pc2 := 116) (L2 := [some (vR 0 0 g), some (vI a1), some (vI a2)]) (st2 := [vI a1, vR 1 9 g]) (m1 := m) rfl ?_
                  refine an_call (r_X1_at m 9 g a1) rfl rfl rfl rfl ?_
                  exact an_ret rfl rfl rfl rfl rfl
def v_X2_rowPart (m : PM) (g : Nat) (a1 : Int32) (a2 : Int32) : Int32 := (if a2 = nI 0 then (v_X1_at m 4 g a1) else (if a2 = nI 1 then (v_X2_greatestMode m g a1) else (if a2 = nI 2 then (v_X2_holders m g a1) else (if a2 = nI 3 then (v_X2_queueLength m g a1) else (if a2 = nI 4 then (v_X1_at m 5 g a1) else (v_X2_handAt m g a1 (0 : Int32)))))))
set_option maxRecDepth 100000 in
theorem r_X2_rowPart (m : PM) (g : Nat) (a1 : Int32) (a2 : Int32) : Rn MX2_rowPart [vR 0 0 g, vI a1, vI a2] m (some (vI (v_X2_rowPart m g a1 a2))) m := by
  refine rn_of [some (vR 0 0 g), some (vI a1), some (vI a2)] rfl ?_
  unfold v_X2_rowPart
  refine an_b 1 (pc2 := 1) (L2 := [some (vR 0 0 g), some (vI a1), some (vI a2)]) (st2 := [vI a2]) (m1 := m) rfl ?_
  refine an_tsw [36, 45, 51, 57, 63] 72 rfl rfl rfl (by decide) ?_
  refine an_ifi (c := a2 = nI 0) (fun h1 => ?_) (fun h1 => ?_)
  · refine an_b 3 (pc2 := 41) (L2 := [some (vR 0 0 g), some (vI a1), some (vI a2)]) (st2 := [vI a1, vR 1 4 g]) (m1 := m) rfl ?_
    refine an_call (r_X1_at m 4 g a1) rfl rfl rfl rfl ?_
    exact an_ret rfl rfl rfl rfl rfl
  · refine an_ifi (c := a2 = nI 1) (fun h2 => ?_) (fun h2 => ?_)
    · refine an_b 2 (pc2 := 47) (L2 := [some (vR 0 0 g), some (vI a1), some (vI a2)]) (st2 := [vI a1, vR 0 0 g]) (m1 := m) rfl ?_
      refine an_call (r_X2_greatestMode m g a1) rfl rfl rfl rfl ?_
      exact an_ret rfl rfl rfl rfl rfl
    · refine an_ifi (c := a2 = nI 2) (fun h3 => ?_) (fun h3 => ?_)
      · refine an_b 2 (pc2 := 53) (L2 := [some (vR 0 0 g), some (vI a1), some (vI a2)]) (st2 := [vI a1, vR 0 0 g]) (m1 := m) rfl ?_
        refine an_call (r_X2_holders m g a1) rfl rfl rfl rfl ?_
        exact an_ret rfl rfl rfl rfl rfl
      · refine an_ifi (c := a2 = nI 3) (fun h4 => ?_) (fun h4 => ?_)
        · refine an_b 2 (pc2 := 59) (L2 := [some (vR 0 0 g), some (vI a1), some (vI a2)]) (st2 := [vI a1, vR 0 0 g]) (m1 := m) rfl ?_
          refine an_call (r_X2_queueLength m g a1) rfl rfl rfl rfl ?_
          exact an_ret rfl rfl rfl rfl rfl
        · refine an_ifi (c := a2 = nI 4) (fun h5 => ?_) (fun h5 => ?_)
          · refine an_b 3 (pc2 := 68) (L2 := [some (vR 0 0 g), some (vI a1), some (vI a2)]) (st2 := [vI a1, vR 1 5 g]) (m1 := m) rfl ?_
            refine an_call (r_X1_at m 5 g a1) rfl rfl rfl rfl ?_
            exact an_ret rfl rfl rfl rfl rfl
          · refine an_b 3 (pc2 := 75) (L2 := [some (vR 0 0 g), some (vI a1), some (vI a2)]) (st2 := [vI (0 : Int32), vI a1, vR 0 0 g]) (m1 := m) rfl ?_
            refine an_call (r_X2_handAt m g a1 (0 : Int32)) rfl rfl rfl rfl ?_
            exact an_ret rfl rfl rfl rfl rfl
def v_X2_requestPart (m : PM) (g : Nat) (a1 : Int32) (a2 : Int32) (a3 : Int32) : Int32 := (if (v_X2_handAt m g a1 a2) = (-1 : Int32) then (v_X2_handAt m g a1 a2) else (if ¬ a3 = 0 then (v_X1_at m 2 g (v_X2_handAt m g a1 a2)) else (v_X2_handAt m g a1 a2)))
set_option maxRecDepth 100000 in
theorem r_X2_requestPart (m : PM) (g : Nat) (a1 : Int32) (a2 : Int32) (a3 : Int32) : Rn MX2_requestPart [vR 0 0 g, vI a1, vI a2, vI a3] m (some (vI (v_X2_requestPart m g a1 a2 a3))) m := by
  refine rn_of [some (vR 0 0 g), some (vI a1), some (vI a2), some (vI a3), none] rfl ?_
  unfold v_X2_requestPart
  refine an_b 3 (pc2 := 3) (L2 := [some (vR 0 0 g), some (vI a1), some (vI a2), some (vI a3), none]) (st2 := [vI a2, vI a1, vR 0 0 g]) (m1 := m) rfl ?_
  refine an_call (r_X2_handAt m g a1 a2) rfl rfl rfl rfl ?_
  refine an_b 4 (pc2 := if (v_X2_handAt m g a1 a2) = (-1 : Int32) then 18 else 14) (L2 := [some (vR 0 0 g), some (vI a1), some (vI a2), some (vI a3), some (vI (v_X2_handAt m g a1 a2))]) (st2 := []) (m1 := m) rfl ?_
  refine an_ifi (c := (v_X2_handAt m g a1 a2) = (-1 : Int32)) (fun h1 => ?_) (fun h1 => ?_)
  · refine an_b 2 (pc2 := 32) (L2 := [some (vR 0 0 g), some (vI a1), some (vI a2), some (vI a3), some (vI (v_X2_handAt m g a1 a2))]) (st2 := [vI (v_X2_handAt m g a1 a2)]) (m1 := m) rfl ?_
    exact an_ret rfl rfl rfl rfl rfl
  · refine an_b 2 (pc2 := if ¬ a3 = 0 then 23 else 18) (L2 := [some (vR 0 0 g), some (vI a1), some (vI a2), some (vI a3), some (vI (v_X2_handAt m g a1 a2))]) (st2 := []) (m1 := m) rfl ?_
    refine an_ifi (c := ¬ a3 = 0) (fun h2 => ?_) (fun h2 => ?_)
    · refine an_b 3 (pc2 := 29) (L2 := [some (vR 0 0 g), some (vI a1), some (vI a2), some (vI a3), some (vI (v_X2_handAt m g a1 a2))]) (st2 := [vI (v_X2_handAt m g a1 a2), vR 1 2 g]) (m1 := m) rfl ?_
      refine an_call (r_X1_at m 2 g (v_X2_handAt m g a1 a2)) rfl rfl rfl rfl ?_
      exact an_ret rfl rfl rfl rfl rfl
    · refine an_b 2 (pc2 := 32) (L2 := [some (vR 0 0 g), some (vI a1), some (vI a2), some (vI a3), some (vI (v_X2_handAt m g a1 a2))]) (st2 := [vI (v_X2_handAt m g a1 a2)]) (m1 := m) rfl ?_
      exact an_ret rfl rfl rfl rfl rfl
def v_X2_total (m : PM) (g : Nat) (a1 : Int32) : Int32 := (if a1 = nI 0 then (v_X2_lockCount m g) else (if a1 = nI 1 then (v_X2_waitingCount m g) else (if a1 = nI 2 then (m.1 0 0 g 11) else (if a1 = nI 3 then (v_X1_sum m 6 g) else (if a1 = nI 4 then (v_X1_sum m 7 g) else (if a1 = nI 5 then (v_X1_sum m 5 g) else (if a1 = nI 6 then (v_X1_sum m 8 g) else (if a1 = nI 7 then (v_X1_sum m 9 g) else (v_X2_heldRows m g)))))))))
set_option maxRecDepth 100000 in
theorem r_X2_total (m : PM) (g : Nat) (a1 : Int32) : Rn MX2_total [vR 0 0 g, vI a1] m (some (vI (v_X2_total m g a1))) m := by
  refine rn_of [some (vR 0 0 g), some (vI a1)] rfl ?_
  unfold v_X2_total
  refine an_b 1 (pc2 := 1) (L2 := [some (vR 0 0 g), some (vI a1)]) (st2 := [vI a1]) (m1 := m) rfl ?_
  refine an_tsw [48, 53, 58, 63, 71, 79, 87, 95] 103 rfl rfl rfl (by decide) ?_
  refine an_ifi (c := a1 = nI 0) (fun h1 => ?_) (fun h1 => ?_)
  · refine an_b 1 (pc2 := 49) (L2 := [some (vR 0 0 g), some (vI a1)]) (st2 := [vR 0 0 g]) (m1 := m) rfl ?_
    refine an_call (r_X2_lockCount m g) rfl rfl rfl rfl ?_
    exact an_ret rfl rfl rfl rfl rfl
  · refine an_ifi (c := a1 = nI 1) (fun h2 => ?_) (fun h2 => ?_)
    · refine an_b 1 (pc2 := 54) (L2 := [some (vR 0 0 g), some (vI a1)]) (st2 := [vR 0 0 g]) (m1 := m) rfl ?_
      refine an_call (r_X2_waitingCount m g) rfl rfl rfl rfl ?_
      exact an_ret rfl rfl rfl rfl rfl
    · refine an_ifi (c := a1 = nI 2) (fun h3 => ?_) (fun h3 => ?_)
      · refine an_b 2 (pc2 := 62) (L2 := [some (vR 0 0 g), some (vI a1)]) (st2 := [vI (m.1 0 0 g 11)]) (m1 := m) rfl ?_
        exact an_ret rfl rfl rfl rfl rfl
      · refine an_ifi (c := a1 = nI 3) (fun h4 => ?_) (fun h4 => ?_)
        · refine an_b 2 (pc2 := 67) (L2 := [some (vR 0 0 g), some (vI a1)]) (st2 := [vR 1 6 g]) (m1 := m) rfl ?_
          refine an_call (r_X1_sum m 6 g) rfl rfl rfl rfl ?_
          exact an_ret rfl rfl rfl rfl rfl
        · refine an_ifi (c := a1 = nI 4) (fun h5 => ?_) (fun h5 => ?_)
          · refine an_b 2 (pc2 := 75) (L2 := [some (vR 0 0 g), some (vI a1)]) (st2 := [vR 1 7 g]) (m1 := m) rfl ?_
            refine an_call (r_X1_sum m 7 g) rfl rfl rfl rfl ?_
            exact an_ret rfl rfl rfl rfl rfl
          · refine an_ifi (c := a1 = nI 5) (fun h6 => ?_) (fun h6 => ?_)
            · refine an_b 2 (pc2 := 83) (L2 := [some (vR 0 0 g), some (vI a1)]) (st2 := [vR 1 5 g]) (m1 := m) rfl ?_
              refine an_call (r_X1_sum m 5 g) rfl rfl rfl rfl ?_
              exact an_ret rfl rfl rfl rfl rfl
            · refine an_ifi (c := a1 = nI 6) (fun h7 => ?_) (fun h7 => ?_)
              · refine an_b 2 (pc2 := 91) (L2 := [some (vR 0 0 g), some (vI a1)]) (st2 := [vR 1 8 g]) (m1 := m) rfl ?_
                refine an_call (r_X1_sum m 8 g) rfl rfl rfl rfl ?_
                exact an_ret rfl rfl rfl rfl rfl
              · refine an_ifi (c := a1 = nI 7) (fun h8 => ?_) (fun h8 => ?_)
                · refine an_b 2 (pc2 := 99) (L2 := [some (vR 0 0 g), some (vI a1)]) (st2 := [vR 1 9 g]) (m1 := m) rfl ?_
                  refine an_call (r_X1_sum m 9 g) rfl rfl rfl rfl ?_
                  exact an_ret rfl rfl rfl rfl rfl
                · refine an_b 1 (pc2 := 104) (L2 := [some (vR 0 0 g), some (vI a1)]) (st2 := [vR 0 0 g]) (m1 := m) rfl ?_
                  refine an_call (r_X2_heldRows m g) rfl rfl rfl rfl ?_
                  exact an_ret rfl rfl rfl rfl rfl
def b_X2_waitersFor_1 (m : PM) (g : Nat) (a1 : Int32)  (j1 : Nat) (s1 : Int32) : Int32 := (if (v_X4_has m (v_X2_reach m g (nI j1)) a1) = 0 then s1 else (s1 + (1 : Int32)))
def v_X2_waitersFor (m : PM) (g : Nat) (a1 : Int32) : Int32 := (lp (b_X2_waitersFor_1 m g a1) 8 0 (0 : Int32))
set_option maxRecDepth 100000 in
theorem r_X2_waitersFor (m : PM) (g : Nat) (a1 : Int32) : Rn MX2_waitersFor [vR 0 0 g, vI a1] m (some (vI (v_X2_waitersFor m g a1))) m := by
  refine rn_of [some (vR 0 0 g), some (vI a1), none, none] rfl ?_
  unfold v_X2_waitersFor
  refine an_b 4 (pc2 := 4) (L2 := [some (vR 0 0 g), some (vI a1), some (vI (0 : Int32)), some (vI (0 : Int32))]) (st2 := []) (m1 := m) rfl ?_
  refine re_lp (σ := Int32) (b_X2_waitersFor_1 m g a1) (fun j1 s1 => (4, [some (vR 0 0 g), some (vI a1), some (vI s1), some (vI (nI j1))], [], m)) 8 (fun s1 => (31, [some (vR 0 0 g), some (vI a1), some (vI s1), none], [], m)) (fun j1 s1 hj1 v9 m9 K1 => ?_) (fun s1 v9 m9 K1 => ?_) 8 0 (0 : Int32) (Nat.add_zero _) _ _ ?_
  · show An MX2_waitersFor 4 [some (vR 0 0 g), some (vI a1), some (vI s1), some (vI (nI j1))] [] m v9 m9
    refine an_b 3 (pc2 := if (8 : Int32) ≤ (nI j1) then 31 else 10) (L2 := [some (vR 0 0 g), some (vI a1), some (vI s1), some (vI (nI j1))]) (st2 := []) (m1 := m) rfl ?_
    refine an_f (nI_ge (a := j1) (b := 8) (by omega) (by omega)) ?_
    refine an_b 2 (pc2 := 12) (L2 := [some (vR 0 0 g), some (vI a1), some (vI s1), some (vI (nI j1))]) (st2 := [vI (nI j1), vR 0 0 g]) (m1 := m) rfl ?_
    refine an_call (r_X2_reach m g (nI j1)) rfl rfl rfl rfl ?_
    refine an_b 1 (pc2 := 16) (L2 := [some (vR 0 0 g), some (vI a1), some (vI s1), some (vI (nI j1))]) (st2 := [vI a1, vI (v_X2_reach m g (nI j1))]) (m1 := m) rfl ?_
    refine an_call (r_X4_has m (v_X2_reach m g (nI j1)) a1) rfl rfl rfl rfl ?_
    refine an_b 1 (pc2 := if (v_X4_has m (v_X2_reach m g (nI j1)) a1) = 0 then 25 else 22) (L2 := [some (vR 0 0 g), some (vI a1), some (vI s1), some (vI (nI j1))]) (st2 := []) (m1 := m) rfl ?_
    refine re_if1 (c := (v_X4_has m (v_X2_reach m g (nI j1)) a1) = 0) (a := s1) (b := s1 + (1 : Int32)) (fun x => (25, [some (vR 0 0 g), some (vI a1), some (vI x), some (vI (nI j1))], [], m)) (fun h1 v9 m9 K2 => ?_) (fun h1 v9 m9 K2 => ?_) _ _ ?_
    · exact K2
    · refine an_b 1 (pc2 := 25) (L2 := [some (vR 0 0 g), some (vI a1), some (vI (s1 + (1 : Int32))), some (vI (nI j1))]) (st2 := []) (m1 := m) rfl ?_
      exact K2
    refine an_b 2 (pc2 := 4) (L2 := [some (vR 0 0 g), some (vI a1), some (vI (if (v_X4_has m (v_X2_reach m g (nI j1)) a1) = 0 then s1 else (s1 + (1 : Int32)))), some (vI ((nI j1) + (1 : Int32)))]) (st2 := []) (m1 := m) rfl ?_
    refine an_cL (K := [some (vR 0 0 g), some (vI a1), some (vI (if (v_X4_has m (v_X2_reach m g (nI j1)) a1) = 0 then s1 else (s1 + (1 : Int32)))), some (vI (nI (j1 + 1)))]) (by simp only [nI_1]) ?_
    exact K1
  · show An MX2_waitersFor 4 [some (vR 0 0 g), some (vI a1), some (vI s1), some (vI (nI 8))] [] m v9 m9
    refine an_b 3 (pc2 := if (8 : Int32) ≤ (nI 8) then 31 else 10) (L2 := [some (vR 0 0 g), some (vI a1), some (vI s1), some (vI (nI 8))]) (st2 := []) (m1 := m) rfl ?_
    refine an_t (nI_le (a := 8) (b := 8) (by omega) (by omega)) ?_
    refine an_weak (L := [some (vR 0 0 g), some (vI a1), some (vI s1), none]) (⟨rfl, rfl, rfl, trivial⟩) ?_
    exact K1
  show An MX2_waitersFor 31 [some (vR 0 0 g), some (vI a1), some (vI (lp (b_X2_waitersFor_1 m g a1) 8 0 (0 : Int32))), none] [] m _ _
  refine an_b 1 (pc2 := 32) (L2 := [some (vR 0 0 g), some (vI a1), some (vI (lp (b_X2_waitersFor_1 m g a1) 8 0 (0 : Int32))), none]) (st2 := [vI (lp (b_X2_waitersFor_1 m g a1) 8 0 (0 : Int32))]) (m1 := m) rfl ?_
  exact an_ret rfl rfl rfl rfl rfl
def b_X2_mostWaitedFor_1 (m : PM) (g : Nat)  (j1 : Nat) (s1 : Int32 × Int32) : Int32 × Int32 := ((if (if (v_X2_isWaiting m g (nI j1)) = 0 then (v_X2_waitersFor m g (nI j1)) else (0 : Int32)) ≤ s1.2 then s1.1 else (nI j1)), (if (if (v_X2_isWaiting m g (nI j1)) = 0 then (v_X2_waitersFor m g (nI j1)) else (0 : Int32)) ≤ s1.2 then s1.2 else (if (v_X2_isWaiting m g (nI j1)) = 0 then (v_X2_waitersFor m g (nI j1)) else (0 : Int32))))
def v_X2_mostWaitedFor (m : PM) (g : Nat) : Int32 := (if ¬ (v_X2_waitingCount m g) = 0 then ((lp (b_X2_mostWaitedFor_1 m g) 8 0 ((-1 : Int32), (0 : Int32))).1) else (-1 : Int32))
set_option maxRecDepth 100000 in
theorem r_X2_mostWaitedFor (m : PM) (g : Nat) : Rn MX2_mostWaitedFor [vR 0 0 g] m (some (vI (v_X2_mostWaitedFor m g))) m := by
  refine rn_of [some (vR 0 0 g), none, none, none, none] rfl ?_
  unfold v_X2_mostWaitedFor
  refine an_b 1 (pc2 := 1) (L2 := [some (vR 0 0 g), none, none, none, none]) (st2 := [vR 0 0 g]) (m1 := m) rfl ?_
  refine an_call (r_X2_waitingCount m g) rfl rfl rfl rfl ?_
  refine an_b 1 (pc2 := if ¬ (v_X2_waitingCount m g) = 0 then 9 else 7) (L2 := [some (vR 0 0 g), none, none, none, none]) (st2 := []) (m1 := m) rfl ?_
  refine an_ifi (c := ¬ (v_X2_waitingCount m g) = 0) (fun h1 => ?_) (fun h1 => ?_)
  · refine an_b 6 (pc2 := 15) (L2 := [some (vR 0 0 g), some (vI (-1 : Int32)), some (vI (0 : Int32)), some (vI (0 : Int32)), none]) (st2 := []) (m1 := m) rfl ?_
    refine re_lp (σ := Int32 × Int32) (b_X2_mostWaitedFor_1 m g) (fun j1 s1 => (15, [some (vR 0 0 g), some (vI s1.1), some (vI s1.2), some (vI (nI j1)), none], [], m)) 8 (fun s1 => (57, [some (vR 0 0 g), some (vI s1.1), none, none, none], [], m)) (fun j1 s1 hj1 v9 m9 K1 => ?_) (fun s1 v9 m9 K1 => ?_) 8 0 ((-1 : Int32), (0 : Int32)) (Nat.add_zero _) _ _ ?_
    · show An MX2_mostWaitedFor 15 [some (vR 0 0 g), some (vI s1.1), some (vI s1.2), some (vI (nI j1)), none] [] m v9 m9
      refine an_b 3 (pc2 := if (8 : Int32) ≤ (nI j1) then 57 else 21) (L2 := [some (vR 0 0 g), some (vI s1.1), some (vI s1.2), some (vI (nI j1)), none]) (st2 := []) (m1 := m) rfl ?_
      refine an_f (nI_ge (a := j1) (b := 8) (by omega) (by omega)) ?_
      refine an_b 2 (pc2 := 23) (L2 := [some (vR 0 0 g), some (vI s1.1), some (vI s1.2), some (vI (nI j1)), none]) (st2 := [vI (nI j1), vR 0 0 g]) (m1 := m) rfl ?_
      refine an_call (r_X2_isWaiting m g (nI j1)) rfl rfl rfl rfl ?_
      refine an_b 1 (pc2 := if (v_X2_isWaiting m g (nI j1)) = 0 then 33 else 29) (L2 := [some (vR 0 0 g), some (vI s1.1), some (vI s1.2), some (vI (nI j1)), none]) (st2 := []) (m1 := m) rfl ?_
      refine re_if1 (c := (v_X2_isWaiting m g (nI j1)) = 0) (a := (v_X2_waitersFor m g (nI j1))) (b := (0 : Int32)) (fun x => (38, [some (vR 0 0 g), some (vI s1.1), some (vI s1.2), some (vI (nI j1)), none], [vI x], m)) (fun h2 v9 m9 K3 => ?_) (fun h2 v9 m9 K3 => ?_) _ _ ?_
      · refine an_b 2 (pc2 := 35) (L2 := [some (vR 0 0 g), some (vI s1.1), some (vI s1.2), some (vI (nI j1)), none]) (st2 := [vI (nI j1), vR 0 0 g]) (m1 := m) rfl ?_
        refine an_call (r_X2_waitersFor m g (nI j1)) rfl rfl rfl rfl ?_
        exact K3
      · refine an_b 2 (pc2 := 38) (L2 := [some (vR 0 0 g), some (vI s1.1), some (vI s1.2), some (vI (nI j1)), none]) (st2 := [vI (0 : Int32)]) (m1 := m) rfl ?_
        exact K3
      refine an_b 4 (pc2 := if (if (v_X2_isWaiting m g (nI j1)) = 0 then (v_X2_waitersFor m g (nI j1)) else (0 : Int32)) ≤ s1.2 then 51 else 46) (L2 := [some (vR 0 0 g), some (vI s1.1), some (vI s1.2), some (vI (nI j1)), some (vI (if (v_X2_isWaiting m g (nI j1)) = 0 then (v_X2_waitersFor m g (nI j1)) else (0 : Int32)))]) (st2 := []) (m1 := m) rfl ?_
      refine re_if2 (c := (if (v_X2_isWaiting m g (nI j1)) = 0 then (v_X2_waitersFor m g (nI j1)) else (0 : Int32)) ≤ s1.2) (a := s1.1) (b := (nI j1)) (x := s1.2) (y := (if (v_X2_isWaiting m g (nI j1)) = 0 then (v_X2_waitersFor m g (nI j1)) else (0 : Int32))) (fun x y => (51, [some (vR 0 0 g), some (vI x), some (vI y), some (vI (nI j1)), some (vI (if (v_X2_isWaiting m g (nI j1)) = 0 then (v_X2_waitersFor m g (nI j1)) else (0 : Int32)))], [], m)) (fun h4 v9 m9 K5 => ?_) (fun h4 v9 m9 K5 => ?_) _ _ ?_
      · exact K5
      · refine an_b 4 (pc2 := 51) (L2 := [some (vR 0 0 g), some (vI (nI j1)), some (vI (if (v_X2_isWaiting m g (nI j1)) = 0 then (v_X2_waitersFor m g (nI j1)) else (0 : Int32))), some (vI (nI j1)), some (vI (if (v_X2_isWaiting m g (nI j1)) = 0 then (v_X2_waitersFor m g (nI j1)) else (0 : Int32)))]) (st2 := []) (m1 := m) rfl ?_
        exact K5
      refine an_b 2 (pc2 := 15) (L2 := [some (vR 0 0 g), some (vI (if (if (v_X2_isWaiting m g (nI j1)) = 0 then (v_X2_waitersFor m g (nI j1)) else (0 : Int32)) ≤ s1.2 then s1.1 else (nI j1))), some (vI (if (if (v_X2_isWaiting m g (nI j1)) = 0 then (v_X2_waitersFor m g (nI j1)) else (0 : Int32)) ≤ s1.2 then s1.2 else (if (v_X2_isWaiting m g (nI j1)) = 0 then (v_X2_waitersFor m g (nI j1)) else (0 : Int32)))), some (vI ((nI j1) + (1 : Int32))), some (vI (if (v_X2_isWaiting m g (nI j1)) = 0 then (v_X2_waitersFor m g (nI j1)) else (0 : Int32)))]) (st2 := []) (m1 := m) rfl ?_
      refine an_weak (L := [some (vR 0 0 g), some (vI (if (if (v_X2_isWaiting m g (nI j1)) = 0 then (v_X2_waitersFor m g (nI j1)) else (0 : Int32)) ≤ s1.2 then s1.1 else (nI j1))), some (vI (if (if (v_X2_isWaiting m g (nI j1)) = 0 then (v_X2_waitersFor m g (nI j1)) else (0 : Int32)) ≤ s1.2 then s1.2 else (if (v_X2_isWaiting m g (nI j1)) = 0 then (v_X2_waitersFor m g (nI j1)) else (0 : Int32)))), some (vI ((nI j1) + (1 : Int32))), none]) (⟨rfl, rfl, rfl, rfl, trivial⟩) ?_
      refine an_cL (K := [some (vR 0 0 g), some (vI (if (if (v_X2_isWaiting m g (nI j1)) = 0 then (v_X2_waitersFor m g (nI j1)) else (0 : Int32)) ≤ s1.2 then s1.1 else (nI j1))), some (vI (if (if (v_X2_isWaiting m g (nI j1)) = 0 then (v_X2_waitersFor m g (nI j1)) else (0 : Int32)) ≤ s1.2 then s1.2 else (if (v_X2_isWaiting m g (nI j1)) = 0 then (v_X2_waitersFor m g (nI j1)) else (0 : Int32)))), some (vI (nI (j1 + 1))), none]) (by simp only [nI_1]) ?_
      exact K1
    · show An MX2_mostWaitedFor 15 [some (vR 0 0 g), some (vI s1.1), some (vI s1.2), some (vI (nI 8)), none] [] m v9 m9
      refine an_b 3 (pc2 := if (8 : Int32) ≤ (nI 8) then 57 else 21) (L2 := [some (vR 0 0 g), some (vI s1.1), some (vI s1.2), some (vI (nI 8)), none]) (st2 := []) (m1 := m) rfl ?_
      refine an_t (nI_le (a := 8) (b := 8) (by omega) (by omega)) ?_
      refine an_weak (L := [some (vR 0 0 g), some (vI s1.1), none, none, none]) (⟨rfl, rfl, trivial⟩) ?_
      exact K1
    show An MX2_mostWaitedFor 57 [some (vR 0 0 g), some (vI ((lp (b_X2_mostWaitedFor_1 m g) 8 0 ((-1 : Int32), (0 : Int32))).1)), none, none, none] [] m _ _
    refine an_b 1 (pc2 := 58) (L2 := [some (vR 0 0 g), some (vI ((lp (b_X2_mostWaitedFor_1 m g) 8 0 ((-1 : Int32), (0 : Int32))).1)), none, none, none]) (st2 := [vI ((lp (b_X2_mostWaitedFor_1 m g) 8 0 ((-1 : Int32), (0 : Int32))).1)]) (m1 := m) rfl ?_
    exact an_ret rfl rfl rfl rfl rfl
  · refine an_b 1 (pc2 := 8) (L2 := [some (vR 0 0 g), none, none, none, none]) (st2 := [vI (-1 : Int32)]) (m1 := m) rfl ?_
    exact an_ret rfl rfl rfl rfl rfl
def v_X3_add (m : PM) (a1 : Int32) : Int32 := ((wI (w_X1_put m 11 0 (m.1 6 0 0 1) a1) 6 0 0 1 (((w_X1_put m 11 0 (m.1 6 0 0 1) a1).1 6 0 0 1) + (1 : Int32))).1 6 0 0 1)
def w_X3_add (m : PM) (a1 : Int32) : PM := (wI (w_X1_put m 11 0 (m.1 6 0 0 1) a1) 6 0 0 1 (((w_X1_put m 11 0 (m.1 6 0 0 1) a1).1 6 0 0 1) + (1 : Int32)))
set_option maxRecDepth 100000 in
theorem r_X3_add (m : PM) (a1 : Int32) : Rn MX3_add [vR 6 0 0, vI a1] m (some (vI (v_X3_add m a1))) (w_X3_add m a1) := by
  refine rn_of [some (vR 6 0 0), some (vI a1)] rfl ?_
  unfold v_X3_add w_X3_add
  refine an_b 5 (pc2 := 9) (L2 := [some (vR 6 0 0), some (vI a1)]) (st2 := [vI a1, vI (m.1 6 0 0 1), vR 1 11 0]) (m1 := m) rfl ?_
  refine an_call (r_X1_put m 11 0 (m.1 6 0 0 1) a1) rfl rfl rfl rfl ?_
  refine an_b 8 (pc2 := 26) (L2 := [some (vR 6 0 0), some (vI a1)]) (st2 := [vI ((wI (w_X1_put m 11 0 (m.1 6 0 0 1) a1) 6 0 0 1 (((w_X1_put m 11 0 (m.1 6 0 0 1) a1).1 6 0 0 1) + (1 : Int32))).1 6 0 0 1)]) (m1 := (wI (w_X1_put m 11 0 (m.1 6 0 0 1) a1) 6 0 0 1 (((w_X1_put m 11 0 (m.1 6 0 0 1) a1).1 6 0 0 1) + (1 : Int32)))) rfl ?_
  exact an_ret rfl rfl rfl rfl rfl
def v_X3_empty (m : PM)  : Int32 := (m.1 6 0 0 1)
def w_X3_empty (m : PM)  : PM := (wI m 6 0 0 1 (0 : Int32))
set_option maxRecDepth 100000 in
theorem r_X3_empty (m : PM)  : Rn MX3_empty [vR 6 0 0] m (some (vI (v_X3_empty m))) (w_X3_empty m) := by
  refine rn_of [some (vR 6 0 0), none] rfl ?_
  unfold v_X3_empty w_X3_empty
  refine an_b 7 (pc2 := 11) (L2 := [some (vR 6 0 0), some (vI (m.1 6 0 0 1))]) (st2 := [vI (m.1 6 0 0 1)]) (m1 := (wI m 6 0 0 1 (0 : Int32))) rfl ?_
  exact an_ret rfl rfl rfl rfl rfl
def v_X3_isDigit (m : PM) (a1 : Int32) : Int32 := (if a1 < (48 : Int32) then (0 : Int32) else (if (57 : Int32) < a1 then (0 : Int32) else (1 : Int32)))
set_option maxRecDepth 100000 in
theorem r_X3_isDigit (m : PM) (a1 : Int32) : Rn MX3_isDigit [vI a1] m (some (vI (v_X3_isDigit m a1))) m := by
  refine rn_of [some (vI a1)] rfl ?_
  unfold v_X3_isDigit
  refine an_b 3 (pc2 := if a1 < (48 : Int32) then 16 else 6) (L2 := [some (vI a1)]) (st2 := []) (m1 := m) rfl ?_
  refine an_ifi (c := a1 < (48 : Int32)) (fun h1 => ?_) (fun h1 => ?_)
  · refine an_b 1 (pc2 := 17) (L2 := [some (vI a1)]) (st2 := [vI (0 : Int32)]) (m1 := m) rfl ?_
    exact an_ret rfl rfl rfl rfl rfl
  · refine an_b 3 (pc2 := if (57 : Int32) < a1 then 16 else 12) (L2 := [some (vI a1)]) (st2 := []) (m1 := m) rfl ?_
    refine an_ifi (c := (57 : Int32) < a1) (fun h2 => ?_) (fun h2 => ?_)
    · refine an_b 1 (pc2 := 17) (L2 := [some (vI a1)]) (st2 := [vI (0 : Int32)]) (m1 := m) rfl ?_
      exact an_ret rfl rfl rfl rfl rfl
    · refine an_b 2 (pc2 := 17) (L2 := [some (vI a1)]) (st2 := [vI (1 : Int32)]) (m1 := m) rfl ?_
      exact an_ret rfl rfl rfl rfl rfl
def v_X3_isDeed (m : PM) (a1 : Int32) : Int32 := (if a1 = (112 : Int32) then (1 : Int32) else (if a1 = (115 : Int32) then (1 : Int32) else (if a1 = (104 : Int32) then (1 : Int32) else (if ¬ a1 = (45 : Int32) then (0 : Int32) else (1 : Int32)))))
set_option maxRecDepth 100000 in
theorem r_X3_isDeed (m : PM) (a1 : Int32) : Rn MX3_isDeed [vI a1] m (some (vI (v_X3_isDeed m a1))) m := by
  refine rn_of [some (vI a1)] rfl ?_
  unfold v_X3_isDeed
  refine an_b 3 (pc2 := if a1 = (112 : Int32) then 24 else 6) (L2 := [some (vI a1)]) (st2 := []) (m1 := m) rfl ?_
  refine an_ifi (c := a1 = (112 : Int32)) (fun h1 => ?_) (fun h1 => ?_)
  · refine an_b 2 (pc2 := 29) (L2 := [some (vI a1)]) (st2 := [vI (1 : Int32)]) (m1 := m) rfl ?_
    exact an_ret rfl rfl rfl rfl rfl
  · refine an_b 3 (pc2 := if a1 = (115 : Int32) then 24 else 12) (L2 := [some (vI a1)]) (st2 := []) (m1 := m) rfl ?_
    refine an_ifi (c := a1 = (115 : Int32)) (fun h2 => ?_) (fun h2 => ?_)
    · refine an_b 2 (pc2 := 29) (L2 := [some (vI a1)]) (st2 := [vI (1 : Int32)]) (m1 := m) rfl ?_
      exact an_ret rfl rfl rfl rfl rfl
    · refine an_b 3 (pc2 := if a1 = (104 : Int32) then 24 else 18) (L2 := [some (vI a1)]) (st2 := []) (m1 := m) rfl ?_
      refine an_ifi (c := a1 = (104 : Int32)) (fun h3 => ?_) (fun h3 => ?_)
      · refine an_b 2 (pc2 := 29) (L2 := [some (vI a1)]) (st2 := [vI (1 : Int32)]) (m1 := m) rfl ?_
        exact an_ret rfl rfl rfl rfl rfl
      · refine an_b 3 (pc2 := if ¬ a1 = (45 : Int32) then 28 else 24) (L2 := [some (vI a1)]) (st2 := []) (m1 := m) rfl ?_
        refine an_ifi (c := ¬ a1 = (45 : Int32)) (fun h4 => ?_) (fun h4 => ?_)
        · refine an_b 1 (pc2 := 29) (L2 := [some (vI a1)]) (st2 := [vI (0 : Int32)]) (m1 := m) rfl ?_
          exact an_ret rfl rfl rfl rfl rfl
        · refine an_b 2 (pc2 := 29) (L2 := [some (vI a1)]) (st2 := [vI (1 : Int32)]) (m1 := m) rfl ?_
          exact an_ret rfl rfl rfl rfl rfl
def v_X3_dueAfter (m : PM) (a1 : Int32) (a2 : Int32) : Int32 := (if a1 = nI 0 then (if a2 < (97 : Int32) then (5 : Int32) else (if (104 : Int32) < a2 then (5 : Int32) else (1 : Int32))) else (if a1 = nI 1 then (if ¬ a2 = (49 : Int32) then (if (v_X3_isDigit m a2) = 0 then (5 : Int32) else (3 : Int32)) else (2 : Int32)) else (if a1 = nI 2 then (if a2 = (48 : Int32) then (3 : Int32) else (if ¬ a2 = (49 : Int32) then (if (v_X3_isDeed m a2) = 0 then (5 : Int32) else (4 : Int32)) else (3 : Int32))) else (if a1 = nI 3 then (if (v_X3_isDeed m a2) = 0 then (5 : Int32) else (4 : Int32)) else (if a1 = nI 4 then (if ¬ a2 = (44 : Int32) then (5 : Int32) else (0 : Int32)) else (5 : Int32))))))
set_option maxRecDepth 100000 in
theorem r_X3_dueAfter (m : PM) (a1 : Int32) (a2 : Int32) : Rn MX3_dueAfter [vI a1, vI a2] m (some (vI (v_X3_dueAfter m a1 a2))) m := by
  refine rn_of [some (vI a1), some (vI a2)] rfl ?_
  unfold v_X3_dueAfter
  refine an_b 1 (pc2 := 1) (L2 := [some (vI a1), some (vI a2)]) (st2 := [vI a1]) (m1 := m) rfl ?_
  refine an_tsw [36, 54, 75, 102, 115] 127 rfl rfl rfl (by decide) ?_
  refine an_ifi (c := a1 = nI 0) (fun h1 => ?_) (fun h1 => ?_)
  · refine an_b 3 (pc2 := if a2 < (97 : Int32) then 52 else 42) (L2 := [some (vI a1), some (vI a2)]) (st2 := []) (m1 := m) rfl ?_
    refine an_ifi (c := a2 < (97 : Int32)) (fun h2 => ?_) (fun h2 => ?_)
    · refine an_b 1 (pc2 := 53) (L2 := [some (vI a1), some (vI a2)]) (st2 := [vI (5 : Int32)]) (m1 := m) rfl ?_
      exact an_ret rfl rfl rfl rfl rfl
    · refine an_b 3 (pc2 := if (104 : Int32) < a2 then 52 else 48) (L2 := [some (vI a1), some (vI a2)]) (st2 := []) (m1 := m) rfl ?_
      refine an_ifi (c := (104 : Int32) < a2) (fun h3 => ?_) (fun h3 => ?_)
      · refine an_b 1 (pc2 := 53) (L2 := [some (vI a1), some (vI a2)]) (st2 := [vI (5 : Int32)]) (m1 := m) rfl ?_
        exact an_ret rfl rfl rfl rfl rfl
      · refine an_b 2 (pc2 := 53) (L2 := [some (vI a1), some (vI a2)]) (st2 := [vI (1 : Int32)]) (m1 := m) rfl ?_
        exact an_ret rfl rfl rfl rfl rfl
  · refine an_ifi (c := a1 = nI 1) (fun h4 => ?_) (fun h4 => ?_)
    · refine an_b 3 (pc2 := if ¬ a2 = (49 : Int32) then 62 else 60) (L2 := [some (vI a1), some (vI a2)]) (st2 := []) (m1 := m) rfl ?_
      refine an_ifi (c := ¬ a2 = (49 : Int32)) (fun h5 => ?_) (fun h5 => ?_)
      · refine an_b 1 (pc2 := 63) (L2 := [some (vI a1), some (vI a2)]) (st2 := [vI a2]) (m1 := m) rfl ?_
        refine an_call (r_X3_isDigit m a2) rfl rfl rfl rfl ?_
        refine an_b 1 (pc2 := if (v_X3_isDigit m a2) = 0 then 73 else 69) (L2 := [some (vI a1), some (vI a2)]) (st2 := []) (m1 := m) rfl ?_
        refine an_ifi (c := (v_X3_isDigit m a2) = 0) (fun h6 => ?_) (fun h6 => ?_)
        · refine an_b 1 (pc2 := 74) (L2 := [some (vI a1), some (vI a2)]) (st2 := [vI (5 : Int32)]) (m1 := m) rfl ?_
          exact an_ret rfl rfl rfl rfl rfl
        · refine an_b 2 (pc2 := 74) (L2 := [some (vI a1), some (vI a2)]) (st2 := [vI (3 : Int32)]) (m1 := m) rfl ?_
          exact an_ret rfl rfl rfl rfl rfl
      · refine an_b 1 (pc2 := 61) (L2 := [some (vI a1), some (vI a2)]) (st2 := [vI (2 : Int32)]) (m1 := m) rfl ?_
        exact an_ret rfl rfl rfl rfl rfl
    · refine an_ifi (c := a1 = nI 2) (fun h7 => ?_) (fun h7 => ?_)
      · refine an_b 3 (pc2 := if a2 = (48 : Int32) then 87 else 81) (L2 := [some (vI a1), some (vI a2)]) (st2 := []) (m1 := m) rfl ?_
        refine an_ifi (c := a2 = (48 : Int32)) (fun h8 => ?_) (fun h8 => ?_)
        · refine an_b 1 (pc2 := 88) (L2 := [some (vI a1), some (vI a2)]) (st2 := [vI (3 : Int32)]) (m1 := m) rfl ?_
          exact an_ret rfl rfl rfl rfl rfl
        · refine an_b 3 (pc2 := if ¬ a2 = (49 : Int32) then 89 else 87) (L2 := [some (vI a1), some (vI a2)]) (st2 := []) (m1 := m) rfl ?_
          refine an_ifi (c := ¬ a2 = (49 : Int32)) (fun h9 => ?_) (fun h9 => ?_)
          · refine an_b 1 (pc2 := 90) (L2 := [some (vI a1), some (vI a2)]) (st2 := [vI a2]) (m1 := m) rfl ?_
            refine an_call (r_X3_isDeed m a2) rfl rfl rfl rfl ?_
            refine an_b 1 (pc2 := if (v_X3_isDeed m a2) = 0 then 100 else 96) (L2 := [some (vI a1), some (vI a2)]) (st2 := []) (m1 := m) rfl ?_
            refine an_ifi (c := (v_X3_isDeed m a2) = 0) (fun h10 => ?_) (fun h10 => ?_)
            · refine an_b 1 (pc2 := 101) (L2 := [some (vI a1), some (vI a2)]) (st2 := [vI (5 : Int32)]) (m1 := m) rfl ?_
              exact an_ret rfl rfl rfl rfl rfl
            · refine an_b 2 (pc2 := 101) (L2 := [some (vI a1), some (vI a2)]) (st2 := [vI (4 : Int32)]) (m1 := m) rfl ?_
              exact an_ret rfl rfl rfl rfl rfl
          · refine an_b 1 (pc2 := 88) (L2 := [some (vI a1), some (vI a2)]) (st2 := [vI (3 : Int32)]) (m1 := m) rfl ?_
            exact an_ret rfl rfl rfl rfl rfl
      · refine an_ifi (c := a1 = nI 3) (fun h11 => ?_) (fun h11 => ?_)
        · refine an_b 1 (pc2 := 103) (L2 := [some (vI a1), some (vI a2)]) (st2 := [vI a2]) (m1 := m) rfl ?_
          refine an_call (r_X3_isDeed m a2) rfl rfl rfl rfl ?_
          refine an_b 1 (pc2 := if (v_X3_isDeed m a2) = 0 then 113 else 109) (L2 := [some (vI a1), some (vI a2)]) (st2 := []) (m1 := m) rfl ?_
          refine an_ifi (c := (v_X3_isDeed m a2) = 0) (fun h12 => ?_) (fun h12 => ?_)
          · refine an_b 1 (pc2 := 114) (L2 := [some (vI a1), some (vI a2)]) (st2 := [vI (5 : Int32)]) (m1 := m) rfl ?_
            exact an_ret rfl rfl rfl rfl rfl
          · refine an_b 2 (pc2 := 114) (L2 := [some (vI a1), some (vI a2)]) (st2 := [vI (4 : Int32)]) (m1 := m) rfl ?_
            exact an_ret rfl rfl rfl rfl rfl
        · refine an_ifi (c := a1 = nI 4) (fun h13 => ?_) (fun h13 => ?_)
          · refine an_b 3 (pc2 := if ¬ a2 = (44 : Int32) then 125 else 121) (L2 := [some (vI a1), some (vI a2)]) (st2 := []) (m1 := m) rfl ?_
            refine an_ifi (c := ¬ a2 = (44 : Int32)) (fun h14 => ?_) (fun h14 => ?_)
            · refine an_b 1 (pc2 := 126) (L2 := [some (vI a1), some (vI a2)]) (st2 := [vI (5 : Int32)]) (m1 := m) rfl ?_
              exact an_ret rfl rfl rfl rfl rfl
            · refine an_b 2 (pc2 := 126) (L2 := [some (vI a1), some (vI a2)]) (st2 := [vI (0 : Int32)]) (m1 := m) rfl ?_
              exact an_ret rfl rfl rfl rfl rfl
          · refine an_b 1 (pc2 := 128) (L2 := [some (vI a1), some (vI a2)]) (st2 := [vI (5 : Int32)]) (m1 := m) rfl ?_
            exact an_ret rfl rfl rfl rfl rfl
def b_X3_firstFault_1 (m : PM)   (j1 : Nat) (s1 : Int32) : (Int32) ⊕ (Int32) := if ¬ (v_X3_dueAfter m s1 (v_X1_at m 11 0 (nI j1))) = (5 : Int32) then .inl (v_X3_dueAfter m s1 (v_X1_at m 11 0 (nI j1))) else .inr (nI j1)
def v_X3_firstFault (m : PM)  : Int32 := (lqr (fun s1 : Int32 => (m.1 6 0 0 1)) (lq (b_X3_firstFault_1 m) ((m.1 6 0 0 1)).toNatClampNeg 0 (0 : Int32)))
set_option maxRecDepth 100000 in
theorem r_X3_firstFault (m : PM)  : Rn MX3_firstFault [vR 6 0 0] m (some (vI (v_X3_firstFault m))) m := by
  refine rn_of [some (vR 6 0 0), none, none] rfl ?_
  unfold v_X3_firstFault
  refine an_b 4 (pc2 := 4) (L2 := [some (vR 6 0 0), some (vI (0 : Int32)), some (vI (0 : Int32))]) (st2 := []) (m1 := m) rfl ?_
  refine an_lq (σ := Int32) (ρ := Int32) (b_X3_firstFault_1 m) (fun j1 s1 => (4, [some (vR 6 0 0), some (vI s1), some (vI (nI j1))], [], m)) ((m.1 6 0 0 1)).toNatClampNeg (fun x9 => .inl (some (vI (lqr (fun s1 => (m.1 6 0 0 1)) x9)))) (fun _ => m) (fun j1 s1 hj1 v9 m9 hc1 hr1 => ?_) (fun s1 => ?_) ((m.1 6 0 0 1)).toNatClampNeg 0 (0 : Int32) (Nat.add_zero _)
  · show An MX3_firstFault 4 [some (vR 6 0 0), some (vI s1), some (vI (nI j1))] [] m v9 m9
    refine an_b 4 (pc2 := if (m.1 6 0 0 1) ≤ (nI j1) then 38 else 12) (L2 := [some (vR 6 0 0), some (vI s1), some (vI (nI j1))]) (st2 := []) (m1 := m) rfl ?_
    refine an_f (bnd_lt hj1) ?_
    refine an_b 4 (pc2 := 18) (L2 := [some (vR 6 0 0), some (vI s1), some (vI (nI j1))]) (st2 := [vI (nI j1), vR 1 11 0, vI s1]) (m1 := m) rfl ?_
    refine an_call (r_X1_at m 11 0 (nI j1)) rfl rfl rfl rfl ?_
    refine an_call (r_X3_dueAfter m s1 (v_X1_at m 11 0 (nI j1))) rfl rfl rfl rfl ?_
    refine an_b 4 (pc2 := if ¬ (v_X3_dueAfter m s1 (v_X1_at m 11 0 (nI j1))) = (5 : Int32) then 32 else 30) (L2 := [some (vR 6 0 0), some (vI (v_X3_dueAfter m s1 (v_X1_at m 11 0 (nI j1)))), some (vI (nI j1))]) (st2 := []) (m1 := m) rfl ?_
    refine an_if (c := ¬ (v_X3_dueAfter m s1 (v_X1_at m 11 0 (nI j1))) = (5 : Int32)) (fun h1 => ?_) (fun h1 => ?_)
    · refine an_b 2 (pc2 := 4) (L2 := [some (vR 6 0 0), some (vI (v_X3_dueAfter m s1 (v_X1_at m 11 0 (nI j1)))), some (vI ((nI j1) + (1 : Int32)))]) (st2 := []) (m1 := m) rfl ?_
      refine an_cL (K := [some (vR 6 0 0), some (vI (v_X3_dueAfter m s1 (v_X1_at m 11 0 (nI j1)))), some (vI (nI (j1 + 1)))]) (by simp only [nI_1]) ?_
      exact hc1 _ (by unfold b_X3_firstFault_1; rw [if_pos h1])
    · refine an_b 1 (pc2 := 31) (L2 := [some (vR 6 0 0), some (vI (v_X3_dueAfter m s1 (v_X1_at m 11 0 (nI j1)))), some (vI (nI j1))]) (st2 := [vI (nI j1)]) (m1 := m) rfl ?_
      obtain ⟨rfl, rfl⟩ := hr1 _ (by unfold b_X3_firstFault_1; rw [if_neg h1])
      exact an_ret rfl rfl rfl rfl rfl
  · show An MX3_firstFault 4 [some (vR 6 0 0), some (vI s1), some (vI (nI (((m.1 6 0 0 1)).toNatClampNeg)))] [] m _ _
    refine an_b 4 (pc2 := if (m.1 6 0 0 1) ≤ (nI (((m.1 6 0 0 1)).toNatClampNeg)) then 38 else 12) (L2 := [some (vR 6 0 0), some (vI s1), some (vI (nI (((m.1 6 0 0 1)).toNatClampNeg)))]) (st2 := []) (m1 := m) rfl ?_
    refine an_t (bnd_ge rfl) ?_
    refine an_b 2 (pc2 := 42) (L2 := [some (vR 6 0 0), some (vI s1), some (vI (nI (((m.1 6 0 0 1)).toNatClampNeg)))]) (st2 := [vI (m.1 6 0 0 1)]) (m1 := m) rfl ?_
    exact an_ret rfl rfl rfl rfl rfl
def b_X3_isComplete_1 (m : PM)   (j1 : Nat) (s1 : Int32) : Int32 := (v_X3_dueAfter m s1 (v_X1_at m 11 0 (nI j1)))
def v_X3_isComplete (m : PM)  : Int32 := (if ¬ (lp (b_X3_isComplete_1 m) ((m.1 6 0 0 1)).toNatClampNeg 0 (0 : Int32)) = (4 : Int32) then (0 : Int32) else (1 : Int32))
set_option maxRecDepth 100000 in
theorem r_X3_isComplete (m : PM)  : Rn MX3_isComplete [vR 6 0 0] m (some (vI (v_X3_isComplete m))) m := by
  refine rn_of [some (vR 6 0 0), none, none] rfl ?_
  unfold v_X3_isComplete
  refine an_b 4 (pc2 := 4) (L2 := [some (vR 6 0 0), some (vI (0 : Int32)), some (vI (0 : Int32))]) (st2 := []) (m1 := m) rfl ?_
  refine re_lp (σ := Int32) (b_X3_isComplete_1 m) (fun j1 s1 => (4, [some (vR 6 0 0), some (vI s1), some (vI (nI j1))], [], m)) ((m.1 6 0 0 1)).toNatClampNeg (fun s1 => (31, [some (vR 6 0 0), some (vI s1), none], [], m)) (fun j1 s1 hj1 v9 m9 K1 => ?_) (fun s1 v9 m9 K1 => ?_) ((m.1 6 0 0 1)).toNatClampNeg 0 (0 : Int32) (Nat.add_zero _) _ _ ?_
  · show An MX3_isComplete 4 [some (vR 6 0 0), some (vI s1), some (vI (nI j1))] [] m v9 m9
    refine an_b 4 (pc2 := if (m.1 6 0 0 1) ≤ (nI j1) then 31 else 12) (L2 := [some (vR 6 0 0), some (vI s1), some (vI (nI j1))]) (st2 := []) (m1 := m) rfl ?_
    refine an_f (bnd_lt hj1) ?_
    refine an_b 4 (pc2 := 18) (L2 := [some (vR 6 0 0), some (vI s1), some (vI (nI j1))]) (st2 := [vI (nI j1), vR 1 11 0, vI s1]) (m1 := m) rfl ?_
    refine an_call (r_X1_at m 11 0 (nI j1)) rfl rfl rfl rfl ?_
    refine an_call (r_X3_dueAfter m s1 (v_X1_at m 11 0 (nI j1))) rfl rfl rfl rfl ?_
    refine an_b 3 (pc2 := 4) (L2 := [some (vR 6 0 0), some (vI (v_X3_dueAfter m s1 (v_X1_at m 11 0 (nI j1)))), some (vI ((nI j1) + (1 : Int32)))]) (st2 := []) (m1 := m) rfl ?_
    refine an_cL (K := [some (vR 6 0 0), some (vI (v_X3_dueAfter m s1 (v_X1_at m 11 0 (nI j1)))), some (vI (nI (j1 + 1)))]) (by simp only [nI_1]) ?_
    exact K1
  · show An MX3_isComplete 4 [some (vR 6 0 0), some (vI s1), some (vI (nI (((m.1 6 0 0 1)).toNatClampNeg)))] [] m v9 m9
    refine an_b 4 (pc2 := if (m.1 6 0 0 1) ≤ (nI (((m.1 6 0 0 1)).toNatClampNeg)) then 31 else 12) (L2 := [some (vR 6 0 0), some (vI s1), some (vI (nI (((m.1 6 0 0 1)).toNatClampNeg)))]) (st2 := []) (m1 := m) rfl ?_
    refine an_t (bnd_ge rfl) ?_
    refine an_weak (L := [some (vR 6 0 0), some (vI s1), none]) (⟨rfl, rfl, trivial⟩) ?_
    exact K1
  show An MX3_isComplete 31 [some (vR 6 0 0), some (vI (lp (b_X3_isComplete_1 m) ((m.1 6 0 0 1)).toNatClampNeg 0 (0 : Int32))), none] [] m _ _
  refine an_b 3 (pc2 := if ¬ (lp (b_X3_isComplete_1 m) ((m.1 6 0 0 1)).toNatClampNeg 0 (0 : Int32)) = (4 : Int32) then 40 else 36) (L2 := [some (vR 6 0 0), some (vI (lp (b_X3_isComplete_1 m) ((m.1 6 0 0 1)).toNatClampNeg 0 (0 : Int32))), none]) (st2 := []) (m1 := m) rfl ?_
  refine an_ifi (c := ¬ (lp (b_X3_isComplete_1 m) ((m.1 6 0 0 1)).toNatClampNeg 0 (0 : Int32)) = (4 : Int32)) (fun h1 => ?_) (fun h1 => ?_)
  · refine an_b 1 (pc2 := 41) (L2 := [some (vR 6 0 0), some (vI (lp (b_X3_isComplete_1 m) ((m.1 6 0 0 1)).toNatClampNeg 0 (0 : Int32))), none]) (st2 := [vI (0 : Int32)]) (m1 := m) rfl ?_
    exact an_ret rfl rfl rfl rfl rfl
  · refine an_b 2 (pc2 := 41) (L2 := [some (vR 6 0 0), some (vI (lp (b_X3_isComplete_1 m) ((m.1 6 0 0 1)).toNatClampNeg 0 (0 : Int32))), none]) (st2 := [vI (1 : Int32)]) (m1 := m) rfl ?_
    exact an_ret rfl rfl rfl rfl rfl
def v_X4_isHand (m : PM) (a1 : Int32) : Int32 := (if a1 < 0 then (0 : Int32) else (if (8 : Int32) ≤ a1 then (0 : Int32) else (1 : Int32)))
set_option maxRecDepth 100000 in
theorem r_X4_isHand (m : PM) (a1 : Int32) : Rn MX4_isHand [vI a1] m (some (vI (v_X4_isHand m a1))) m := by
  refine rn_of [some (vI a1)] rfl ?_
  unfold v_X4_isHand
  refine an_b 2 (pc2 := if a1 < 0 then 14 else 4) (L2 := [some (vI a1)]) (st2 := []) (m1 := m) rfl ?_
  refine an_ifi (c := a1 < 0) (fun h1 => ?_) (fun h1 => ?_)
  · refine an_b 1 (pc2 := 15) (L2 := [some (vI a1)]) (st2 := [vI (0 : Int32)]) (m1 := m) rfl ?_
    exact an_ret rfl rfl rfl rfl rfl
  · refine an_b 3 (pc2 := if (8 : Int32) ≤ a1 then 14 else 10) (L2 := [some (vI a1)]) (st2 := []) (m1 := m) rfl ?_
    refine an_ifi (c := (8 : Int32) ≤ a1) (fun h2 => ?_) (fun h2 => ?_)
    · refine an_b 1 (pc2 := 15) (L2 := [some (vI a1)]) (st2 := [vI (0 : Int32)]) (m1 := m) rfl ?_
      exact an_ret rfl rfl rfl rfl rfl
    · refine an_b 2 (pc2 := 15) (L2 := [some (vI a1)]) (st2 := [vI (1 : Int32)]) (m1 := m) rfl ?_
      exact an_ret rfl rfl rfl rfl rfl
def v_X4_isRow (m : PM) (a1 : Int32) : Int32 := (if a1 < 0 then (0 : Int32) else (if (12 : Int32) ≤ a1 then (0 : Int32) else (1 : Int32)))
set_option maxRecDepth 100000 in
theorem r_X4_isRow (m : PM) (a1 : Int32) : Rn MX4_isRow [vI a1] m (some (vI (v_X4_isRow m a1))) m := by
  refine rn_of [some (vI a1)] rfl ?_
  unfold v_X4_isRow
  refine an_b 2 (pc2 := if a1 < 0 then 14 else 4) (L2 := [some (vI a1)]) (st2 := []) (m1 := m) rfl ?_
  refine an_ifi (c := a1 < 0) (fun h1 => ?_) (fun h1 => ?_)
  · refine an_b 1 (pc2 := 15) (L2 := [some (vI a1)]) (st2 := [vI (0 : Int32)]) (m1 := m) rfl ?_
    exact an_ret rfl rfl rfl rfl rfl
  · refine an_b 3 (pc2 := if (12 : Int32) ≤ a1 then 14 else 10) (L2 := [some (vI a1)]) (st2 := []) (m1 := m) rfl ?_
    refine an_ifi (c := (12 : Int32) ≤ a1) (fun h2 => ?_) (fun h2 => ?_)
    · refine an_b 1 (pc2 := 15) (L2 := [some (vI a1)]) (st2 := [vI (0 : Int32)]) (m1 := m) rfl ?_
      exact an_ret rfl rfl rfl rfl rfl
    · refine an_b 2 (pc2 := 15) (L2 := [some (vI a1)]) (st2 := [vI (1 : Int32)]) (m1 := m) rfl ?_
      exact an_ret rfl rfl rfl rfl rfl
def v_X4_isMode (m : PM) (a1 : Int32) : Int32 := (if a1 < (1 : Int32) then (0 : Int32) else (if (3 : Int32) < a1 then (0 : Int32) else (1 : Int32)))
set_option maxRecDepth 100000 in
theorem r_X4_isMode (m : PM) (a1 : Int32) : Rn MX4_isMode [vI a1] m (some (vI (v_X4_isMode m a1))) m := by
  refine rn_of [some (vI a1)] rfl ?_
  unfold v_X4_isMode
  refine an_b 3 (pc2 := if a1 < (1 : Int32) then 14 else 5) (L2 := [some (vI a1)]) (st2 := []) (m1 := m) rfl ?_
  refine an_ifi (c := a1 < (1 : Int32)) (fun h1 => ?_) (fun h1 => ?_)
  · refine an_b 1 (pc2 := 15) (L2 := [some (vI a1)]) (st2 := [vI (0 : Int32)]) (m1 := m) rfl ?_
    exact an_ret rfl rfl rfl rfl rfl
  · refine an_b 3 (pc2 := if (3 : Int32) < a1 then 14 else 10) (L2 := [some (vI a1)]) (st2 := []) (m1 := m) rfl ?_
    refine an_ifi (c := (3 : Int32) < a1) (fun h2 => ?_) (fun h2 => ?_)
    · refine an_b 1 (pc2 := 15) (L2 := [some (vI a1)]) (st2 := [vI (0 : Int32)]) (m1 := m) rfl ?_
      exact an_ret rfl rfl rfl rfl rfl
    · refine an_b 2 (pc2 := 15) (L2 := [some (vI a1)]) (st2 := [vI (1 : Int32)]) (m1 := m) rfl ?_
      exact an_ret rfl rfl rfl rfl rfl
def v_X4_isSetting (m : PM) (a1 : Int32) : Int32 := (if a1 < 0 then (0 : Int32) else (if (3 : Int32) ≤ a1 then (0 : Int32) else (1 : Int32)))
set_option maxRecDepth 100000 in
theorem r_X4_isSetting (m : PM) (a1 : Int32) : Rn MX4_isSetting [vI a1] m (some (vI (v_X4_isSetting m a1))) m := by
  refine rn_of [some (vI a1)] rfl ?_
  unfold v_X4_isSetting
  refine an_b 2 (pc2 := if a1 < 0 then 13 else 4) (L2 := [some (vI a1)]) (st2 := []) (m1 := m) rfl ?_
  refine an_ifi (c := a1 < 0) (fun h1 => ?_) (fun h1 => ?_)
  · refine an_b 1 (pc2 := 14) (L2 := [some (vI a1)]) (st2 := [vI (0 : Int32)]) (m1 := m) rfl ?_
    exact an_ret rfl rfl rfl rfl rfl
  · refine an_b 3 (pc2 := if (3 : Int32) ≤ a1 then 13 else 9) (L2 := [some (vI a1)]) (st2 := []) (m1 := m) rfl ?_
    refine an_ifi (c := (3 : Int32) ≤ a1) (fun h2 => ?_) (fun h2 => ?_)
    · refine an_b 1 (pc2 := 14) (L2 := [some (vI a1)]) (st2 := [vI (0 : Int32)]) (m1 := m) rfl ?_
      exact an_ret rfl rfl rfl rfl rfl
    · refine an_b 2 (pc2 := 14) (L2 := [some (vI a1)]) (st2 := [vI (1 : Int32)]) (m1 := m) rfl ?_
      exact an_ret rfl rfl rfl rfl rfl
def v_X4_leastValue (m : PM) (a1 : Int32) : Int32 := (if ¬ a1 = 0 then (0 : Int32) else (10 : Int32))
set_option maxRecDepth 100000 in
theorem r_X4_leastValue (m : PM) (a1 : Int32) : Rn MX4_leastValue [vI a1] m (some (vI (v_X4_leastValue m a1))) m := by
  refine rn_of [some (vI a1)] rfl ?_
  unfold v_X4_leastValue
  refine an_b 2 (pc2 := if ¬ a1 = 0 then 9 else 4) (L2 := [some (vI a1)]) (st2 := []) (m1 := m) rfl ?_
  refine an_ifi (c := ¬ a1 = 0) (fun h1 => ?_) (fun h1 => ?_)
  · refine an_b 1 (pc2 := 10) (L2 := [some (vI a1)]) (st2 := [vI (0 : Int32)]) (m1 := m) rfl ?_
    exact an_ret rfl rfl rfl rfl rfl
  · refine an_b 2 (pc2 := 10) (L2 := [some (vI a1)]) (st2 := [vI (10 : Int32)]) (m1 := m) rfl ?_
    exact an_ret rfl rfl rfl rfl rfl
def v_X4_greatestValue (m : PM) (a1 : Int32) : Int32 := (if ¬ a1 = 0 then (if ¬ a1 = (1 : Int32) then (50 : Int32) else (20 : Int32)) else (900 : Int32))
set_option maxRecDepth 100000 in
theorem r_X4_greatestValue (m : PM) (a1 : Int32) : Rn MX4_greatestValue [vI a1] m (some (vI (v_X4_greatestValue m a1))) m := by
  refine rn_of [some (vI a1)] rfl ?_
  unfold v_X4_greatestValue
  refine an_b 2 (pc2 := if ¬ a1 = 0 then 8 else 4) (L2 := [some (vI a1)]) (st2 := []) (m1 := m) rfl ?_
  refine an_ifi (c := ¬ a1 = 0) (fun h1 => ?_) (fun h1 => ?_)
  · refine an_b 3 (pc2 := if ¬ a1 = (1 : Int32) then 18 else 13) (L2 := [some (vI a1)]) (st2 := []) (m1 := m) rfl ?_
    refine an_ifi (c := ¬ a1 = (1 : Int32)) (fun h2 => ?_) (fun h2 => ?_)
    · refine an_b 1 (pc2 := 20) (L2 := [some (vI a1)]) (st2 := [vI (50 : Int32)]) (m1 := m) rfl ?_
      exact an_ret rfl rfl rfl rfl rfl
    · refine an_b 2 (pc2 := 20) (L2 := [some (vI a1)]) (st2 := [vI (20 : Int32)]) (m1 := m) rfl ?_
      exact an_ret rfl rfl rfl rfl rfl
  · refine an_b 1 (pc2 := 7) (L2 := [some (vI a1)]) (st2 := [vI (900 : Int32)]) (m1 := m) rfl ?_
    exact an_ret rfl rfl rfl rfl rfl
def v_X4_clearBuffer (m : PM)  : Int32 := (v_X3_empty m)
def w_X4_clearBuffer (m : PM)  : PM := (w_X3_empty m)
set_option maxRecDepth 100000 in
theorem r_X4_clearBuffer (m : PM)  : Rn MX4_clearBuffer [vR 3 0 0] m (some (vI (v_X4_clearBuffer m))) (w_X4_clearBuffer m) := by
  refine rn_of [some (vR 3 0 0)] rfl ?_
  unfold v_X4_clearBuffer w_X4_clearBuffer
  refine an_b 2 (pc2 := 4) (L2 := [some (vR 3 0 0)]) (st2 := [vR 6 0 0]) (m1 := m) rfl ?_
  refine an_call (r_X3_empty m) rfl rfl rfl rfl ?_
  exact an_ret rfl rfl rfl rfl rfl
def v_X4_firstError (m : PM)  : Int32 := (v_X3_firstFault m)
set_option maxRecDepth 100000 in
theorem r_X4_firstError (m : PM)  : Rn MX4_firstError [vR 3 0 0] m (some (vI (v_X4_firstError m))) m := by
  refine rn_of [some (vR 3 0 0)] rfl ?_
  unfold v_X4_firstError
  refine an_b 2 (pc2 := 4) (L2 := [some (vR 3 0 0)]) (st2 := [vR 6 0 0]) (m1 := m) rfl ?_
  refine an_call (r_X3_firstFault m) rfl rfl rfl rfl ?_
  exact an_ret rfl rfl rfl rfl rfl
def v_X4_numberOf (m : PM) (a1 : Int32) : Int32 := (if ¬ a1 = (9 : Int32) then (v_X2_total m 0 a1) else (m.1 4 0 0 2))
set_option maxRecDepth 100000 in
theorem r_X4_numberOf (m : PM) (a1 : Int32) : Rn MX4_numberOf [vR 3 0 0, vI a1] m (some (vI (v_X4_numberOf m a1))) m := by
  refine rn_of [some (vR 3 0 0), some (vI a1)] rfl ?_
  unfold v_X4_numberOf
  refine an_b 3 (pc2 := if ¬ a1 = (9 : Int32) then 16 else 6) (L2 := [some (vR 3 0 0), some (vI a1)]) (st2 := []) (m1 := m) rfl ?_
  refine an_ifi (c := ¬ a1 = (9 : Int32)) (fun h1 => ?_) (fun h1 => ?_)
  · refine an_b 3 (pc2 := 21) (L2 := [some (vR 3 0 0), some (vI a1)]) (st2 := [vI a1, vR 0 0 0]) (m1 := m) rfl ?_
    refine an_call (r_X2_total m 0 a1) rfl rfl rfl rfl ?_
    exact an_ret rfl rfl rfl rfl rfl
  · refine an_b 4 (pc2 := 24) (L2 := [some (vR 3 0 0), some (vI a1)]) (st2 := [vI (m.1 4 0 0 2)]) (m1 := m) rfl ?_
    exact an_ret rfl rfl rfl rfl rfl
def v_X4_tryAsking (m : PM) (a1 : Int32) (a2 : Int32) (a3 : Int32) : Int32 := (if (v_X2_isWaiting m 0 a1) = 0 then (v_X2_takeAsking (w_X2_copyFrom m 1 0) 1 a1 a2 a3) else (-1 : Int32))
def w_X4_tryAsking (m : PM) (a1 : Int32) (a2 : Int32) (a3 : Int32) : PM := (if (v_X2_isWaiting m 0 a1) = 0 then (w_X2_takeAsking (w_X2_copyFrom m 1 0) 1 a1 a2 a3) else m)
set_option maxRecDepth 100000 in
theorem r_X4_tryAsking (m : PM) (a1 : Int32) (a2 : Int32) (a3 : Int32) : Rn MX4_tryAsking [vR 3 0 0, vI a1, vI a2, vI a3] m (some (vI (v_X4_tryAsking m a1 a2 a3))) (w_X4_tryAsking m a1 a2 a3) := by
  refine rn_of [some (vR 3 0 0), some (vI a1), some (vI a2), some (vI a3)] rfl ?_
  unfold v_X4_tryAsking w_X4_tryAsking
  refine an_b 3 (pc2 := 5) (L2 := [some (vR 3 0 0), some (vI a1), some (vI a2), some (vI a3)]) (st2 := [vI a1, vR 0 0 0]) (m1 := m) rfl ?_
  refine an_call (r_X2_isWaiting m 0 a1) rfl rfl rfl rfl ?_
  refine an_b 1 (pc2 := if (v_X2_isWaiting m 0 a1) = 0 then 13 else 11) (L2 := [some (vR 3 0 0), some (vI a1), some (vI a2), some (vI a3)]) (st2 := []) (m1 := m) rfl ?_
  refine an_ifim (c := (v_X2_isWaiting m 0 a1) = 0) (fun h1 => ?_) (fun h1 => ?_)
  · refine an_b 4 (pc2 := 21) (L2 := [some (vR 3 0 0), some (vI a1), some (vI a2), some (vI a3)]) (st2 := [vR 0 0 0, vR 0 0 1]) (m1 := m) rfl ?_
    refine an_call (r_X2_copyFrom m 1 0) rfl rfl rfl rfl ?_
    refine an_b 5 (pc2 := 31) (L2 := [some (vR 3 0 0), some (vI a1), some (vI a2), some (vI a3)]) (st2 := [vI a3, vI a2, vI a1, vR 0 0 1]) (m1 := (w_X2_copyFrom m 1 0)) rfl ?_
    refine an_call (r_X2_takeAsking (w_X2_copyFrom m 1 0) 1 a1 a2 a3) rfl rfl rfl rfl ?_
    exact an_ret rfl rfl rfl rfl rfl
  · refine an_b 1 (pc2 := 12) (L2 := [some (vR 3 0 0), some (vI a1), some (vI a2), some (vI a3)]) (st2 := [vI (-1 : Int32)]) (m1 := m) rfl ?_
    exact an_ret rfl rfl rfl rfl rfl
def v_X4_trialPart (m : PM) (a1 : Int32) (a2 : Int32) : Int32 := (if a1 = (-1 : Int32) then a1 else (if ¬ a2 = 0 then (if ¬ a2 = (1 : Int32) then (v_X2_lockCount m 1) else ((v_X1_sum m 7 1) - (v_X1_sum m 7 0))) else a1))
set_option maxRecDepth 100000 in
theorem r_X4_trialPart (m : PM) (a1 : Int32) (a2 : Int32) : Rn MX4_trialPart [vR 3 0 0, vI a1, vI a2] m (some (vI (v_X4_trialPart m a1 a2))) m := by
  refine rn_of [some (vR 3 0 0), some (vI a1), some (vI a2)] rfl ?_
  unfold v_X4_trialPart
  refine an_b 3 (pc2 := if a1 = (-1 : Int32) then 9 else 5) (L2 := [some (vR 3 0 0), some (vI a1), some (vI a2)]) (st2 := []) (m1 := m) rfl ?_
  refine an_ifi (c := a1 = (-1 : Int32)) (fun h1 => ?_) (fun h1 => ?_)
  · refine an_b 1 (pc2 := 10) (L2 := [some (vR 3 0 0), some (vI a1), some (vI a2)]) (st2 := [vI a1]) (m1 := m) rfl ?_
    exact an_ret rfl rfl rfl rfl rfl
  · refine an_b 2 (pc2 := if ¬ a2 = 0 then 11 else 9) (L2 := [some (vR 3 0 0), some (vI a1), some (vI a2)]) (st2 := []) (m1 := m) rfl ?_
    refine an_ifi (c := ¬ a2 = 0) (fun h2 => ?_) (fun h2 => ?_)
    · refine an_b 3 (pc2 := if ¬ a2 = (1 : Int32) then 40 else 16) (L2 := [some (vR 3 0 0), some (vI a1), some (vI a2)]) (st2 := []) (m1 := m) rfl ?_
      refine an_ifi (c := ¬ a2 = (1 : Int32)) (fun h3 => ?_) (fun h3 => ?_)
      · refine an_b 2 (pc2 := 44) (L2 := [some (vR 3 0 0), some (vI a1), some (vI a2)]) (st2 := [vR 0 0 1]) (m1 := m) rfl ?_
        refine an_call (r_X2_lockCount m 1) rfl rfl rfl rfl ?_
        exact an_ret rfl rfl rfl rfl rfl
      · refine an_b 3 (pc2 := 23) (L2 := [some (vR 3 0 0), some (vI a1), some (vI a2)]) (st2 := [vR 1 7 1]) (m1 := m) rfl ?_
        refine an_call (r_X1_sum m 7 1) rfl rfl rfl rfl ?_
        refine an_b 3 (pc2 := 33) (L2 := [some (vR 3 0 0), some (vI a1), some (vI a2)]) (st2 := [vR 1 7 0, vI (v_X1_sum m 7 1)]) (m1 := m) rfl ?_
        refine an_call (r_X1_sum m 7 0) rfl rfl rfl rfl ?_
        refine an_b 2 (pc2 := 47) (L2 := [some (vR 3 0 0), some (vI a1), some (vI a2)]) (st2 := [vI ((v_X1_sum m 7 1) - (v_X1_sum m 7 0))]) (m1 := m) rfl ?_
        exact an_ret rfl rfl rfl rfl rfl
    · refine an_b 1 (pc2 := 10) (L2 := [some (vR 3 0 0), some (vI a1), some (vI a2)]) (st2 := [vI a1]) (m1 := m) rfl ?_
      exact an_ret rfl rfl rfl rfl rfl
def v_X4_busiest (m : PM)  : Int32 := (v_X2_mostWaitedFor m 0)
set_option maxRecDepth 100000 in
theorem r_X4_busiest (m : PM)  : Rn MX4_busiest [vR 3 0 0] m (some (vI (v_X4_busiest m))) m := by
  refine rn_of [some (vR 3 0 0)] rfl ?_
  unfold v_X4_busiest
  refine an_b 2 (pc2 := 4) (L2 := [some (vR 3 0 0)]) (st2 := [vR 0 0 0]) (m1 := m) rfl ?_
  refine an_call (r_X2_mostWaitedFor m 0) rfl rfl rfl rfl ?_
  exact an_ret rfl rfl rfl rfl rfl
def v_X4_mix (m : PM) (a1 : Int64) (a2 : Int64) : Int64 := (((31 : Int64) * a1) + a2)
set_option maxRecDepth 100000 in
theorem r_X4_mix (m : PM) (a1 : Int64) (a2 : Int64) : Rn MX4_mix [vL a1, vL a2] m (some (vL (v_X4_mix m a1 a2))) m := by
  refine rn_of [some (vL a1), none, some (vL a2), none] rfl ?_
  unfold v_X4_mix
  refine an_b 5 (pc2 := 7) (L2 := [some (vL a1), none, some (vL a2), none]) (st2 := [vL (((31 : Int64) * a1) + a2)]) (m1 := m) rfl ?_
  exact an_ret rfl rfl rfl rfl rfl
def b_X4_mixHand_1 (m : PM) (a1 : Int64) (a2 : Int32)  (j1 : Nat) (s1 : Int64) : Int64 := (v_X4_mix m s1 (((v_X2_handPart m 0 a2 (nI j1))).toInt64))
def b_X4_mixHand_2 (m : PM) (a1 : Int64) (a2 : Int32)  (j2 : Nat) (s2 : Int64) : Int64 := (v_X4_mix m s2 (((v_X1_at m 0 0 (v_X4_cell m a2 (nI j2)))).toInt64))
def v_X4_mixHand (m : PM) (a1 : Int64) (a2 : Int32) : Int64 := (v_X4_mix m (lp (b_X4_mixHand_2 m a1 a2) 12 0 (lp (b_X4_mixHand_1 m a1 a2) 9 0 a1)) (((v_X2_reach m 0 a2)).toInt64))
set_option maxRecDepth 100000 in
theorem r_X4_mixHand (m : PM) (a1 : Int64) (a2 : Int32) : Rn MX4_mixHand [vR 3 0 0, vL a1, vI a2] m (some (vL (v_X4_mixHand m a1 a2))) m := by
  refine rn_of [some (vR 3 0 0), some (vL a1), none, some (vI a2), none, none, none] rfl ?_
  unfold v_X4_mixHand
  refine an_b 4 (pc2 := 6) (L2 := [some (vR 3 0 0), some (vL a1), none, some (vI a2), some (vL a1), none, some (vI (0 : Int32))]) (st2 := []) (m1 := m) rfl ?_
  refine re_lp (σ := Int64) (b_X4_mixHand_1 m a1 a2) (fun j1 s1 => (6, [some (vR 3 0 0), some (vL a1), none, some (vI a2), some (vL s1), none, some (vI (nI j1))], [], m)) 9 (fun s1 => (37, [some (vR 3 0 0), some (vL a1), none, some (vI a2), some (vL s1), none, none], [], m)) (fun j1 s1 hj1 v9 m9 K1 => ?_) (fun s1 v9 m9 K1 => ?_) 9 0 a1 (Nat.add_zero _) _ _ ?_
  · show An MX4_mixHand 6 [some (vR 3 0 0), some (vL a1), none, some (vI a2), some (vL s1), none, some (vI (nI j1))] [] m v9 m9
    refine an_b 3 (pc2 := if (9 : Int32) ≤ (nI j1) then 37 else 13) (L2 := [some (vR 3 0 0), some (vL a1), none, some (vI a2), some (vL s1), none, some (vI (nI j1))]) (st2 := []) (m1 := m) rfl ?_
    refine an_f (nI_ge (a := j1) (b := 9) (by omega) (by omega)) ?_
    refine an_b 5 (pc2 := 22) (L2 := [some (vR 3 0 0), some (vL a1), none, some (vI a2), some (vL s1), none, some (vI (nI j1))]) (st2 := [vI (nI j1), vI a2, vR 0 0 0, vL s1]) (m1 := m) rfl ?_
    refine an_call (r_X2_handPart m 0 a2 (nI j1)) rfl rfl rfl rfl ?_
    refine an_b 1 (pc2 := 26) (L2 := [some (vR 3 0 0), some (vL a1), none, some (vI a2), some (vL s1), none, some (vI (nI j1))]) (st2 := [vL (((v_X2_handPart m 0 a2 (nI j1))).toInt64), vL s1]) (m1 := m) rfl ?_
    refine an_call (r_X4_mix m s1 (((v_X2_handPart m 0 a2 (nI j1))).toInt64)) rfl rfl rfl rfl ?_
    refine an_b 3 (pc2 := 6) (L2 := [some (vR 3 0 0), some (vL a1), none, some (vI a2), some (vL (v_X4_mix m s1 (((v_X2_handPart m 0 a2 (nI j1))).toInt64))), none, some (vI ((nI j1) + (1 : Int32)))]) (st2 := []) (m1 := m) rfl ?_
    refine an_cL (K := [some (vR 3 0 0), some (vL a1), none, some (vI a2), some (vL (v_X4_mix m s1 (((v_X2_handPart m 0 a2 (nI j1))).toInt64))), none, some (vI (nI (j1 + 1)))]) (by simp only [nI_1]) ?_
    exact K1
  · show An MX4_mixHand 6 [some (vR 3 0 0), some (vL a1), none, some (vI a2), some (vL s1), none, some (vI (nI 9))] [] m v9 m9
    refine an_b 3 (pc2 := if (9 : Int32) ≤ (nI 9) then 37 else 13) (L2 := [some (vR 3 0 0), some (vL a1), none, some (vI a2), some (vL s1), none, some (vI (nI 9))]) (st2 := []) (m1 := m) rfl ?_
    refine an_t (nI_le (a := 9) (b := 9) (by omega) (by omega)) ?_
    refine an_weak (L := [some (vR 3 0 0), some (vL a1), none, some (vI a2), some (vL s1), none, none]) (⟨rfl, rfl, rfl, rfl, trivial⟩) ?_
    exact K1
  show An MX4_mixHand 37 [some (vR 3 0 0), some (vL a1), none, some (vI a2), some (vL (lp (b_X4_mixHand_1 m a1 a2) 9 0 a1)), none, none] [] m _ _
  refine an_b 2 (pc2 := 40) (L2 := [some (vR 3 0 0), some (vL a1), none, some (vI a2), some (vL (lp (b_X4_mixHand_1 m a1 a2) 9 0 a1)), none, some (vI (0 : Int32))]) (st2 := []) (m1 := m) rfl ?_
  refine re_lp (σ := Int64) (b_X4_mixHand_2 m a1 a2) (fun j2 s2 => (40, [some (vR 3 0 0), some (vL a1), none, some (vI a2), some (vL s2), none, some (vI (nI j2))], [], m)) 12 (fun s2 => (77, [some (vR 3 0 0), some (vL a1), none, some (vI a2), some (vL s2), none, none], [], m)) (fun j2 s2 hj2 v9 m9 K2 => ?_) (fun s2 v9 m9 K2 => ?_) 12 0 (lp (b_X4_mixHand_1 m a1 a2) 9 0 a1) (Nat.add_zero _) _ _ ?_
  · show An MX4_mixHand 40 [some (vR 3 0 0), some (vL a1), none, some (vI a2), some (vL s2), none, some (vI (nI j2))] [] m v9 m9
    refine an_b 3 (pc2 := if (12 : Int32) ≤ (nI j2) then 77 else 47) (L2 := [some (vR 3 0 0), some (vL a1), none, some (vI a2), some (vL s2), none, some (vI (nI j2))]) (st2 := []) (m1 := m) rfl ?_
    refine an_f (nI_ge (a := j2) (b := 12) (by omega) (by omega)) ?_
    refine an_b 6 (pc2 := 59) (L2 := [some (vR 3 0 0), some (vL a1), none, some (vI a2), some (vL s2), none, some (vI (nI j2))]) (st2 := [vI (nI j2), vI a2, vR 1 0 0, vL s2]) (m1 := m) rfl ?_
    refine an_call (r_X4_cell m a2 (nI j2)) rfl rfl rfl rfl ?_
    refine an_call (r_X1_at m 0 0 (v_X4_cell m a2 (nI j2))) rfl rfl rfl rfl ?_
    refine an_b 1 (pc2 := 66) (L2 := [some (vR 3 0 0), some (vL a1), none, some (vI a2), some (vL s2), none, some (vI (nI j2))]) (st2 := [vL (((v_X1_at m 0 0 (v_X4_cell m a2 (nI j2)))).toInt64), vL s2]) (m1 := m) rfl ?_
    refine an_call (r_X4_mix m s2 (((v_X1_at m 0 0 (v_X4_cell m a2 (nI j2)))).toInt64)) rfl rfl rfl rfl ?_
    refine an_b 3 (pc2 := 40) (L2 := [some (vR 3 0 0), some (vL a1), none, some (vI a2), some (vL (v_X4_mix m s2 (((v_X1_at m 0 0 (v_X4_cell m a2 (nI j2)))).toInt64))), none, some (vI ((nI j2) + (1 : Int32)))]) (st2 := []) (m1 := m) rfl ?_
    refine an_cL (K := [some (vR 3 0 0), some (vL a1), none, some (vI a2), some (vL (v_X4_mix m s2 (((v_X1_at m 0 0 (v_X4_cell m a2 (nI j2)))).toInt64))), none, some (vI (nI (j2 + 1)))]) (by simp only [nI_1]) ?_
    exact K2
  · show An MX4_mixHand 40 [some (vR 3 0 0), some (vL a1), none, some (vI a2), some (vL s2), none, some (vI (nI 12))] [] m v9 m9
    refine an_b 3 (pc2 := if (12 : Int32) ≤ (nI 12) then 77 else 47) (L2 := [some (vR 3 0 0), some (vL a1), none, some (vI a2), some (vL s2), none, some (vI (nI 12))]) (st2 := []) (m1 := m) rfl ?_
    refine an_t (nI_le (a := 12) (b := 12) (by omega) (by omega)) ?_
    refine an_weak (L := [some (vR 3 0 0), some (vL a1), none, some (vI a2), some (vL s2), none, none]) (⟨rfl, rfl, rfl, rfl, trivial⟩) ?_
    exact K2
  show An MX4_mixHand 77 [some (vR 3 0 0), some (vL a1), none, some (vI a2), some (vL (lp (b_X4_mixHand_2 m a1 a2) 12 0 (lp (b_X4_mixHand_1 m a1 a2) 9 0 a1))), none, none] [] m _ _
  refine an_b 4 (pc2 := 84) (L2 := [some (vR 3 0 0), some (vL a1), none, some (vI a2), some (vL (lp (b_X4_mixHand_2 m a1 a2) 12 0 (lp (b_X4_mixHand_1 m a1 a2) 9 0 a1))), none, none]) (st2 := [vI a2, vR 0 0 0, vL (lp (b_X4_mixHand_2 m a1 a2) 12 0 (lp (b_X4_mixHand_1 m a1 a2) 9 0 a1))]) (m1 := m) rfl ?_
  refine an_call (r_X2_reach m 0 a2) rfl rfl rfl rfl ?_
  refine an_b 1 (pc2 := 88) (L2 := [some (vR 3 0 0), some (vL a1), none, some (vI a2), some (vL (lp (b_X4_mixHand_2 m a1 a2) 12 0 (lp (b_X4_mixHand_1 m a1 a2) 9 0 a1))), none, none]) (st2 := [vL (((v_X2_reach m 0 a2)).toInt64), vL (lp (b_X4_mixHand_2 m a1 a2) 12 0 (lp (b_X4_mixHand_1 m a1 a2) 9 0 a1))]) (m1 := m) rfl ?_
  refine an_call (r_X4_mix m (lp (b_X4_mixHand_2 m a1 a2) 12 0 (lp (b_X4_mixHand_1 m a1 a2) 9 0 a1)) (((v_X2_reach m 0 a2)).toInt64)) rfl rfl rfl rfl ?_
  exact an_ret rfl rfl rfl rfl rfl
def b_X4_mixRow_1 (m : PM) (a1 : Int64) (a2 : Int32) (a3 : Int32)  (j1 : Nat) (s1 : Int64) : Int64 := (v_X4_mix m s1 (((v_X2_rowPart m 0 a2 (nI j1))).toInt64))
def b_X4_mixRow_2 (m : PM) (a1 : Int64) (a2 : Int32) (a3 : Int32)  (j2 : Nat) (s2 : Int64) : Int64 := (v_X4_mix m (v_X4_mix m s2 (((v_X2_requestPart m 0 a2 (nI j2) (0 : Int32))).toInt64)) (((v_X2_requestPart m 0 a2 (nI j2) (1 : Int32))).toInt64))
def b_X4_mixRow_3 (m : PM) (a1 : Int64) (a2 : Int32) (a3 : Int32)  (j3 : Nat) (s3 : Int64) : Int64 := (v_X4_mix m s3 (((v_X4_trialPart m a3 (nI j3))).toInt64))
def v_X4_mixRow (m : PM) (a1 : Int64) (a2 : Int32) (a3 : Int32) : Int64 := (v_X4_mix m (lp (b_X4_mixRow_3 m a1 a2 a3) 3 0 (v_X4_mix m (lp (b_X4_mixRow_2 m a1 a2 a3) ((v_X2_queueLength m 0 a2)).toNatClampNeg 0 (lp (b_X4_mixRow_1 m a1 a2 a3) 6 0 a1)) (((v_X2_ticksToBurn m 0 a2)).toInt64))) (((v_X2_takersOf m 0 (0 : Int32) a2)).toInt64))
set_option maxRecDepth 100000 in
theorem r_X4_mixRow (m : PM) (a1 : Int64) (a2 : Int32) (a3 : Int32) : Rn MX4_mixRow [vR 3 0 0, vL a1, vI a2, vI a3] m (some (vL (v_X4_mixRow m a1 a2 a3))) m := by
  refine rn_of [some (vR 3 0 0), some (vL a1), none, some (vI a2), some (vI a3), none, none, none, none] rfl ?_
  unfold v_X4_mixRow
  refine an_b 4 (pc2 := 6) (L2 := [some (vR 3 0 0), some (vL a1), none, some (vI a2), some (vI a3), some (vL a1), none, some (vI (0 : Int32)), none]) (st2 := []) (m1 := m) rfl ?_
  refine re_lp (σ := Int64) (b_X4_mixRow_1 m a1 a2 a3) (fun j1 s1 => (6, [some (vR 3 0 0), some (vL a1), none, some (vI a2), some (vI a3), some (vL s1), none, some (vI (nI j1)), none], [], m)) 6 (fun s1 => (37, [some (vR 3 0 0), some (vL a1), none, some (vI a2), some (vI a3), some (vL s1), none, none, none], [], m)) (fun j1 s1 hj1 v9 m9 K1 => ?_) (fun s1 v9 m9 K1 => ?_) 6 0 a1 (Nat.add_zero _) _ _ ?_
  · show An MX4_mixRow 6 [some (vR 3 0 0), some (vL a1), none, some (vI a2), some (vI a3), some (vL s1), none, some (vI (nI j1)), none] [] m v9 m9
    refine an_b 3 (pc2 := if (6 : Int32) ≤ (nI j1) then 37 else 13) (L2 := [some (vR 3 0 0), some (vL a1), none, some (vI a2), some (vI a3), some (vL s1), none, some (vI (nI j1)), none]) (st2 := []) (m1 := m) rfl ?_
    refine an_f (nI_ge (a := j1) (b := 6) (by omega) (by omega)) ?_
    refine an_b 5 (pc2 := 22) (L2 := [some (vR 3 0 0), some (vL a1), none, some (vI a2), some (vI a3), some (vL s1), none, some (vI (nI j1)), none]) (st2 := [vI (nI j1), vI a2, vR 0 0 0, vL s1]) (m1 := m) rfl ?_
    refine an_call (r_X2_rowPart m 0 a2 (nI j1)) rfl rfl rfl rfl ?_
    refine an_b 1 (pc2 := 26) (L2 := [some (vR 3 0 0), some (vL a1), none, some (vI a2), some (vI a3), some (vL s1), none, some (vI (nI j1)), none]) (st2 := [vL (((v_X2_rowPart m 0 a2 (nI j1))).toInt64), vL s1]) (m1 := m) rfl ?_
    refine an_call (r_X4_mix m s1 (((v_X2_rowPart m 0 a2 (nI j1))).toInt64)) rfl rfl rfl rfl ?_
    refine an_b 3 (pc2 := 6) (L2 := [some (vR 3 0 0), some (vL a1), none, some (vI a2), some (vI a3), some (vL (v_X4_mix m s1 (((v_X2_rowPart m 0 a2 (nI j1))).toInt64))), none, some (vI ((nI j1) + (1 : Int32))), none]) (st2 := []) (m1 := m) rfl ?_
    refine an_cL (K := [some (vR 3 0 0), some (vL a1), none, some (vI a2), some (vI a3), some (vL (v_X4_mix m s1 (((v_X2_rowPart m 0 a2 (nI j1))).toInt64))), none, some (vI (nI (j1 + 1))), none]) (by simp only [nI_1]) ?_
    exact K1
  · show An MX4_mixRow 6 [some (vR 3 0 0), some (vL a1), none, some (vI a2), some (vI a3), some (vL s1), none, some (vI (nI 6)), none] [] m v9 m9
    refine an_b 3 (pc2 := if (6 : Int32) ≤ (nI 6) then 37 else 13) (L2 := [some (vR 3 0 0), some (vL a1), none, some (vI a2), some (vI a3), some (vL s1), none, some (vI (nI 6)), none]) (st2 := []) (m1 := m) rfl ?_
    refine an_t (nI_le (a := 6) (b := 6) (by omega) (by omega)) ?_
    refine an_weak (L := [some (vR 3 0 0), some (vL a1), none, some (vI a2), some (vI a3), some (vL s1), none, none, none]) (⟨rfl, rfl, rfl, rfl, rfl, trivial⟩) ?_
    exact K1
  show An MX4_mixRow 37 [some (vR 3 0 0), some (vL a1), none, some (vI a2), some (vI a3), some (vL (lp (b_X4_mixRow_1 m a1 a2 a3) 6 0 a1)), none, none, none] [] m _ _
  refine an_b 3 (pc2 := 42) (L2 := [some (vR 3 0 0), some (vL a1), none, some (vI a2), some (vI a3), some (vL (lp (b_X4_mixRow_1 m a1 a2 a3) 6 0 a1)), none, none, none]) (st2 := [vI a2, vR 0 0 0]) (m1 := m) rfl ?_
  refine an_call (r_X2_queueLength m 0 a2) rfl rfl rfl rfl ?_
  refine an_b 3 (pc2 := 50) (L2 := [some (vR 3 0 0), some (vL a1), none, some (vI a2), some (vI a3), some (vL (lp (b_X4_mixRow_1 m a1 a2 a3) 6 0 a1)), none, some (vI (v_X2_queueLength m 0 a2)), some (vI (0 : Int32))]) (st2 := []) (m1 := m) rfl ?_
  refine re_lp (σ := Int64) (b_X4_mixRow_2 m a1 a2 a3) (fun j2 s2 => (50, [some (vR 3 0 0), some (vL a1), none, some (vI a2), some (vI a3), some (vL s2), none, some (vI (v_X2_queueLength m 0 a2)), some (vI (nI j2))], [], m)) ((v_X2_queueLength m 0 a2)).toNatClampNeg (fun s2 => (101, [some (vR 3 0 0), some (vL a1), none, some (vI a2), some (vI a3), some (vL s2), none, some (vI (v_X2_queueLength m 0 a2)), none], [], m)) (fun j2 s2 hj2 v9 m9 K2 => ?_) (fun s2 v9 m9 K2 => ?_) ((v_X2_queueLength m 0 a2)).toNatClampNeg 0 (lp (b_X4_mixRow_1 m a1 a2 a3) 6 0 a1) (Nat.add_zero _) _ _ ?_
  · show An MX4_mixRow 50 [some (vR 3 0 0), some (vL a1), none, some (vI a2), some (vI a3), some (vL s2), none, some (vI (v_X2_queueLength m 0 a2)), some (vI (nI j2))] [] m v9 m9
    refine an_b 3 (pc2 := if (v_X2_queueLength m 0 a2) ≤ (nI j2) then 101 else 57) (L2 := [some (vR 3 0 0), some (vL a1), none, some (vI a2), some (vI a3), some (vL s2), none, some (vI (v_X2_queueLength m 0 a2)), some (vI (nI j2))]) (st2 := []) (m1 := m) rfl ?_
    refine an_f (bnd_lt hj2) ?_
    refine an_b 6 (pc2 := 67) (L2 := [some (vR 3 0 0), some (vL a1), none, some (vI a2), some (vI a3), some (vL s2), none, some (vI (v_X2_queueLength m 0 a2)), some (vI (nI j2))]) (st2 := [vI (0 : Int32), vI (nI j2), vI a2, vR 0 0 0, vL s2]) (m1 := m) rfl ?_
    refine an_call (r_X2_requestPart m 0 a2 (nI j2) (0 : Int32)) rfl rfl rfl rfl ?_
    refine an_b 1 (pc2 := 71) (L2 := [some (vR 3 0 0), some (vL a1), none, some (vI a2), some (vI a3), some (vL s2), none, some (vI (v_X2_queueLength m 0 a2)), some (vI (nI j2))]) (st2 := [vL (((v_X2_requestPart m 0 a2 (nI j2) (0 : Int32))).toInt64), vL s2]) (m1 := m) rfl ?_
    refine an_call (r_X4_mix m s2 (((v_X2_requestPart m 0 a2 (nI j2) (0 : Int32))).toInt64)) rfl rfl rfl rfl ?_
    refine an_b 7 (pc2 := 86) (L2 := [some (vR 3 0 0), some (vL a1), none, some (vI a2), some (vI a3), some (vL (v_X4_mix m s2 (((v_X2_requestPart m 0 a2 (nI j2) (0 : Int32))).toInt64))), none, some (vI (v_X2_queueLength m 0 a2)), some (vI (nI j2))]) (st2 := [vI (1 : Int32), vI (nI j2), vI a2, vR 0 0 0, vL (v_X4_mix m s2 (((v_X2_requestPart m 0 a2 (nI j2) (0 : Int32))).toInt64))]) (m1 := m) rfl ?_
    refine an_call (r_X2_requestPart m 0 a2 (nI j2) (1 : Int32)) rfl rfl rfl rfl ?_
    refine an_b 1 (pc2 := 90) (L2 := [some (vR 3 0 0), some (vL a1), none, some (vI a2), some (vI a3), some (vL (v_X4_mix m s2 (((v_X2_requestPart m 0 a2 (nI j2) (0 : Int32))).toInt64))), none, some (vI (v_X2_queueLength m 0 a2)), some (vI (nI j2))]) (st2 := [vL (((v_X2_requestPart m 0 a2 (nI j2) (1 : Int32))).toInt64), vL (v_X4_mix m s2 (((v_X2_requestPart m 0 a2 (nI j2) (0 : Int32))).toInt64))]) (m1 := m) rfl ?_
    refine an_call (r_X4_mix m (v_X4_mix m s2 (((v_X2_requestPart m 0 a2 (nI j2) (0 : Int32))).toInt64)) (((v_X2_requestPart m 0 a2 (nI j2) (1 : Int32))).toInt64)) rfl rfl rfl rfl ?_
    refine an_b 3 (pc2 := 50) (L2 := [some (vR 3 0 0), some (vL a1), none, some (vI a2), some (vI a3), some (vL (v_X4_mix m (v_X4_mix m s2 (((v_X2_requestPart m 0 a2 (nI j2) (0 : Int32))).toInt64)) (((v_X2_requestPart m 0 a2 (nI j2) (1 : Int32))).toInt64))), none, some (vI (v_X2_queueLength m 0 a2)), some (vI ((nI j2) + (1 : Int32)))]) (st2 := []) (m1 := m) rfl ?_
    refine an_cL (K := [some (vR 3 0 0), some (vL a1), none, some (vI a2), some (vI a3), some (vL (v_X4_mix m (v_X4_mix m s2 (((v_X2_requestPart m 0 a2 (nI j2) (0 : Int32))).toInt64)) (((v_X2_requestPart m 0 a2 (nI j2) (1 : Int32))).toInt64))), none, some (vI (v_X2_queueLength m 0 a2)), some (vI (nI (j2 + 1)))]) (by simp only [nI_1]) ?_
    exact K2
  · show An MX4_mixRow 50 [some (vR 3 0 0), some (vL a1), none, some (vI a2), some (vI a3), some (vL s2), none, some (vI (v_X2_queueLength m 0 a2)), some (vI (nI (((v_X2_queueLength m 0 a2)).toNatClampNeg)))] [] m v9 m9
    refine an_b 3 (pc2 := if (v_X2_queueLength m 0 a2) ≤ (nI (((v_X2_queueLength m 0 a2)).toNatClampNeg)) then 101 else 57) (L2 := [some (vR 3 0 0), some (vL a1), none, some (vI a2), some (vI a3), some (vL s2), none, some (vI (v_X2_queueLength m 0 a2)), some (vI (nI (((v_X2_queueLength m 0 a2)).toNatClampNeg)))]) (st2 := []) (m1 := m) rfl ?_
    refine an_t (bnd_ge rfl) ?_
    refine an_weak (L := [some (vR 3 0 0), some (vL a1), none, some (vI a2), some (vI a3), some (vL s2), none, some (vI (v_X2_queueLength m 0 a2)), none]) (⟨rfl, rfl, rfl, rfl, rfl, rfl, trivial⟩) ?_
    exact K2
  show An MX4_mixRow 101 [some (vR 3 0 0), some (vL a1), none, some (vI a2), some (vI a3), some (vL (lp (b_X4_mixRow_2 m a1 a2 a3) ((v_X2_queueLength m 0 a2)).toNatClampNeg 0 (lp (b_X4_mixRow_1 m a1 a2 a3) 6 0 a1))), none, some (vI (v_X2_queueLength m 0 a2)), none] [] m _ _
  refine an_b 4 (pc2 := 108) (L2 := [some (vR 3 0 0), some (vL a1), none, some (vI a2), some (vI a3), some (vL (lp (b_X4_mixRow_2 m a1 a2 a3) ((v_X2_queueLength m 0 a2)).toNatClampNeg 0 (lp (b_X4_mixRow_1 m a1 a2 a3) 6 0 a1))), none, some (vI (v_X2_queueLength m 0 a2)), none]) (st2 := [vI a2, vR 0 0 0, vL (lp (b_X4_mixRow_2 m a1 a2 a3) ((v_X2_queueLength m 0 a2)).toNatClampNeg 0 (lp (b_X4_mixRow_1 m a1 a2 a3) 6 0 a1))]) (m1 := m) rfl ?_
  refine an_call (r_X2_ticksToBurn m 0 a2) rfl rfl rfl rfl ?_
  refine an_b 1 (pc2 := 112) (L2 := [some (vR 3 0 0), some (vL a1), none, some (vI a2), some (vI a3), some (vL (lp (b_X4_mixRow_2 m a1 a2 a3) ((v_X2_queueLength m 0 a2)).toNatClampNeg 0 (lp (b_X4_mixRow_1 m a1 a2 a3) 6 0 a1))), none, some (vI (v_X2_queueLength m 0 a2)), none]) (st2 := [vL (((v_X2_ticksToBurn m 0 a2)).toInt64), vL (lp (b_X4_mixRow_2 m a1 a2 a3) ((v_X2_queueLength m 0 a2)).toNatClampNeg 0 (lp (b_X4_mixRow_1 m a1 a2 a3) 6 0 a1))]) (m1 := m) rfl ?_
  refine an_call (r_X4_mix m (lp (b_X4_mixRow_2 m a1 a2 a3) ((v_X2_queueLength m 0 a2)).toNatClampNeg 0 (lp (b_X4_mixRow_1 m a1 a2 a3) 6 0 a1)) (((v_X2_ticksToBurn m 0 a2)).toInt64)) rfl rfl rfl rfl ?_
  refine an_b 3 (pc2 := 120) (L2 := [some (vR 3 0 0), some (vL a1), none, some (vI a2), some (vI a3), some (vL (v_X4_mix m (lp (b_X4_mixRow_2 m a1 a2 a3) ((v_X2_queueLength m 0 a2)).toNatClampNeg 0 (lp (b_X4_mixRow_1 m a1 a2 a3) 6 0 a1)) (((v_X2_ticksToBurn m 0 a2)).toInt64))), none, some (vI (v_X2_queueLength m 0 a2)), some (vI (0 : Int32))]) (st2 := []) (m1 := m) rfl ?_
  refine re_lp (σ := Int64) (b_X4_mixRow_3 m a1 a2 a3) (fun j3 s3 => (120, [some (vR 3 0 0), some (vL a1), none, some (vI a2), some (vI a3), some (vL s3), none, some (vI (v_X2_queueLength m 0 a2)), some (vI (nI j3))], [], m)) 3 (fun s3 => (148, [some (vR 3 0 0), some (vL a1), none, some (vI a2), some (vI a3), some (vL s3), none, some (vI (v_X2_queueLength m 0 a2)), none], [], m)) (fun j3 s3 hj3 v9 m9 K3 => ?_) (fun s3 v9 m9 K3 => ?_) 3 0 (v_X4_mix m (lp (b_X4_mixRow_2 m a1 a2 a3) ((v_X2_queueLength m 0 a2)).toNatClampNeg 0 (lp (b_X4_mixRow_1 m a1 a2 a3) 6 0 a1)) (((v_X2_ticksToBurn m 0 a2)).toInt64)) (Nat.add_zero _) _ _ ?_
  · show An MX4_mixRow 120 [some (vR 3 0 0), some (vL a1), none, some (vI a2), some (vI a3), some (vL s3), none, some (vI (v_X2_queueLength m 0 a2)), some (vI (nI j3))] [] m v9 m9
    refine an_b 3 (pc2 := if (3 : Int32) ≤ (nI j3) then 148 else 126) (L2 := [some (vR 3 0 0), some (vL a1), none, some (vI a2), some (vI a3), some (vL s3), none, some (vI (v_X2_queueLength m 0 a2)), some (vI (nI j3))]) (st2 := []) (m1 := m) rfl ?_
    refine an_f (nI_ge (a := j3) (b := 3) (by omega) (by omega)) ?_
    refine an_b 4 (pc2 := 133) (L2 := [some (vR 3 0 0), some (vL a1), none, some (vI a2), some (vI a3), some (vL s3), none, some (vI (v_X2_queueLength m 0 a2)), some (vI (nI j3))]) (st2 := [vI (nI j3), vI a3, vR 3 0 0, vL s3]) (m1 := m) rfl ?_
    refine an_call (r_X4_trialPart m a3 (nI j3)) rfl rfl rfl rfl ?_
    refine an_b 1 (pc2 := 137) (L2 := [some (vR 3 0 0), some (vL a1), none, some (vI a2), some (vI a3), some (vL s3), none, some (vI (v_X2_queueLength m 0 a2)), some (vI (nI j3))]) (st2 := [vL (((v_X4_trialPart m a3 (nI j3))).toInt64), vL s3]) (m1 := m) rfl ?_
    refine an_call (r_X4_mix m s3 (((v_X4_trialPart m a3 (nI j3))).toInt64)) rfl rfl rfl rfl ?_
    refine an_b 3 (pc2 := 120) (L2 := [some (vR 3 0 0), some (vL a1), none, some (vI a2), some (vI a3), some (vL (v_X4_mix m s3 (((v_X4_trialPart m a3 (nI j3))).toInt64))), none, some (vI (v_X2_queueLength m 0 a2)), some (vI ((nI j3) + (1 : Int32)))]) (st2 := []) (m1 := m) rfl ?_
    refine an_cL (K := [some (vR 3 0 0), some (vL a1), none, some (vI a2), some (vI a3), some (vL (v_X4_mix m s3 (((v_X4_trialPart m a3 (nI j3))).toInt64))), none, some (vI (v_X2_queueLength m 0 a2)), some (vI (nI (j3 + 1)))]) (by simp only [nI_1]) ?_
    exact K3
  · show An MX4_mixRow 120 [some (vR 3 0 0), some (vL a1), none, some (vI a2), some (vI a3), some (vL s3), none, some (vI (v_X2_queueLength m 0 a2)), some (vI (nI 3))] [] m v9 m9
    refine an_b 3 (pc2 := if (3 : Int32) ≤ (nI 3) then 148 else 126) (L2 := [some (vR 3 0 0), some (vL a1), none, some (vI a2), some (vI a3), some (vL s3), none, some (vI (v_X2_queueLength m 0 a2)), some (vI (nI 3))]) (st2 := []) (m1 := m) rfl ?_
    refine an_t (nI_le (a := 3) (b := 3) (by omega) (by omega)) ?_
    refine an_weak (L := [some (vR 3 0 0), some (vL a1), none, some (vI a2), some (vI a3), some (vL s3), none, some (vI (v_X2_queueLength m 0 a2)), none]) (⟨rfl, rfl, rfl, rfl, rfl, rfl, trivial⟩) ?_
    exact K3
  show An MX4_mixRow 148 [some (vR 3 0 0), some (vL a1), none, some (vI a2), some (vI a3), some (vL (lp (b_X4_mixRow_3 m a1 a2 a3) 3 0 (v_X4_mix m (lp (b_X4_mixRow_2 m a1 a2 a3) ((v_X2_queueLength m 0 a2)).toNatClampNeg 0 (lp (b_X4_mixRow_1 m a1 a2 a3) 6 0 a1)) (((v_X2_ticksToBurn m 0 a2)).toInt64)))), none, some (vI (v_X2_queueLength m 0 a2)), none] [] m _ _
  refine an_b 5 (pc2 := 156) (L2 := [some (vR 3 0 0), some (vL a1), none, some (vI a2), some (vI a3), some (vL (lp (b_X4_mixRow_3 m a1 a2 a3) 3 0 (v_X4_mix m (lp (b_X4_mixRow_2 m a1 a2 a3) ((v_X2_queueLength m 0 a2)).toNatClampNeg 0 (lp (b_X4_mixRow_1 m a1 a2 a3) 6 0 a1)) (((v_X2_ticksToBurn m 0 a2)).toInt64)))), none, some (vI (v_X2_queueLength m 0 a2)), none]) (st2 := [vI a2, vI (0 : Int32), vR 0 0 0, vL (lp (b_X4_mixRow_3 m a1 a2 a3) 3 0 (v_X4_mix m (lp (b_X4_mixRow_2 m a1 a2 a3) ((v_X2_queueLength m 0 a2)).toNatClampNeg 0 (lp (b_X4_mixRow_1 m a1 a2 a3) 6 0 a1)) (((v_X2_ticksToBurn m 0 a2)).toInt64)))]) (m1 := m) rfl ?_
  refine an_call (r_X2_takersOf m 0 (0 : Int32) a2) rfl rfl rfl rfl ?_
  refine an_b 1 (pc2 := 160) (L2 := [some (vR 3 0 0), some (vL a1), none, some (vI a2), some (vI a3), some (vL (lp (b_X4_mixRow_3 m a1 a2 a3) 3 0 (v_X4_mix m (lp (b_X4_mixRow_2 m a1 a2 a3) ((v_X2_queueLength m 0 a2)).toNatClampNeg 0 (lp (b_X4_mixRow_1 m a1 a2 a3) 6 0 a1)) (((v_X2_ticksToBurn m 0 a2)).toInt64)))), none, some (vI (v_X2_queueLength m 0 a2)), none]) (st2 := [vL (((v_X2_takersOf m 0 (0 : Int32) a2)).toInt64), vL (lp (b_X4_mixRow_3 m a1 a2 a3) 3 0 (v_X4_mix m (lp (b_X4_mixRow_2 m a1 a2 a3) ((v_X2_queueLength m 0 a2)).toNatClampNeg 0 (lp (b_X4_mixRow_1 m a1 a2 a3) 6 0 a1)) (((v_X2_ticksToBurn m 0 a2)).toInt64)))]) (m1 := m) rfl ?_
  refine an_call (r_X4_mix m (lp (b_X4_mixRow_3 m a1 a2 a3) 3 0 (v_X4_mix m (lp (b_X4_mixRow_2 m a1 a2 a3) ((v_X2_queueLength m 0 a2)).toNatClampNeg 0 (lp (b_X4_mixRow_1 m a1 a2 a3) 6 0 a1)) (((v_X2_ticksToBurn m 0 a2)).toInt64))) (((v_X2_takersOf m 0 (0 : Int32) a2)).toInt64)) rfl rfl rfl rfl ?_
  exact an_ret rfl rfl rfl rfl rfl
end
section
/-! History: which slot; to save; to restore -/
theorem one_aald {M : MI} {pc : Nat} {L : List (Option PV)} {r : List PV} {m m2 : PM} {j : Int32} {v : OC} (h : asc (mT M) pc = some (.aaload, 1)) (hj : ¬ (j < 0 ∨ 6 ≤ j.toNatClampNeg)) (kk : An M (pc + 1) L (vR 0 0 (2 + j.toNatClampNeg) :: r) m v m2) : An M pc L (vI j :: vR 5 0 0 :: r) m v m2 := by
  refine an_b 1 (pc2 := pc + 1) (L2 := L) (st2 := vR 0 0 (2 + j.toNatClampNeg) :: r) (m1 := m) ?_ kk
  have e : sm_one M pc L (vI j :: vR 5 0 0 :: r) m = some (pc + 1, L, vR 0 0 (2 + j.toNatClampNeg) :: r, m) := by
    unfold sm_one
    rw [h]
    have e2 : sm_e (mO M) .aaload 1 pc L (vI j :: vR 5 0 0 :: r) m = some (pc + 1, L, vR 0 0 (2 + j.toNatClampNeg) :: r, m) := by
      unfold sm_e
      simp only [if_neg hj]
    exact e2
  show (match sm_one M pc L (vI j :: vR 5 0 0 :: r) m with | some s2 => sm_many 0 M s2 | none => none) = _
  rw [e]
  rfl
theorem in_of6 {i : Int32} (h1 : ¬ i < 0) (h2 : ¬ 6 ≤ i) : ¬ (i < 0 ∨ 6 ≤ i.toNatClampNeg) := by
  rintro (q | q)
  · exact h1 q
  · apply h2
    obtain ⟨j, hj, rfl⟩ := nI_of h1
    rw [nI_clamp hj] at q
    exact nI_le q hj
theorem r_slot_out (m : PM) (i : Int32) (h : i < 0 ∨ 6 ≤ i) : Rn MX0_slotAt [vR 4 0 0, vI i] m (some vN) m := by
  refine rn_of [some (vR 4 0 0), some (vI i)] rfl ?_
  refine an_b 2 (pc2 := if i < 0 then 22 else 4) (L2 := [some (vR 4 0 0), some (vI i)]) (st2 := []) (m1 := m) rfl ?_
  have last : An MX0_slotAt 22 [some (vR 4 0 0), some (vI i)] [] m (.inl (some vN)) m := by
    refine an_b 1 (pc2 := 23) (L2 := [some (vR 4 0 0), some (vI i)]) (st2 := [vN]) (m1 := m) rfl ?_
    exact an_ret rfl rfl rfl rfl rfl
  refine an_if (fun h1 => last) (fun h1 => ?_)
  refine an_b 5 (pc2 := if (6 : Int32) ≤ i then 22 else 13) (L2 := [some (vR 4 0 0), some (vI i)]) (st2 := []) (m1 := m) rfl ?_
  exact an_t (h.resolve_left h1) last
theorem r_slot_in (m : PM) (i : Int32) (h1 : ¬ i < 0) (h2 : ¬ 6 ≤ i) : Rn MX0_slotAt [vR 4 0 0, vI i] m (some (vR 0 0 (2 + i.toNatClampNeg))) m := by
  refine rn_of [some (vR 4 0 0), some (vI i)] rfl ?_
  refine an_b 2 (pc2 := if i < 0 then 22 else 4) (L2 := [some (vR 4 0 0), some (vI i)]) (st2 := []) (m1 := m) rfl ?_
  refine an_f h1 ?_
  refine an_b 5 (pc2 := if (6 : Int32) ≤ i then 22 else 13) (L2 := [some (vR 4 0 0), some (vI i)]) (st2 := []) (m1 := m) rfl ?_
  refine an_f h2 ?_
  refine an_b 3 (pc2 := 18) (L2 := [some (vR 4 0 0), some (vI i)]) (st2 := [vI i, vR 5 0 0]) (m1 := m) rfl ?_
  refine one_aald rfl (in_of6 h1 h2) ?_
  refine an_b 1 (pc2 := 23) (L2 := [some (vR 4 0 0), some (vI i)]) (st2 := [vR 0 0 (2 + i.toNatClampNeg)]) (m1 := m) rfl ?_
  exact an_ret rfl rfl rfl rfl rfl
def sv_1 (m : PM) (g : Nat) : PM := w_X2_copyFrom m (2 + (m.1 4 0 0 1).toNatClampNeg) g
def sv_2 (m : PM) : PM := wI m 4 0 0 1 (if 6 ≤ m.1 4 0 0 1 + 1 then 0 else m.1 4 0 0 1 + 1)
def sv_3 (m : PM) : PM := wI m 4 0 0 2 (if m.1 4 0 0 2 + 1 < 6 then m.1 4 0 0 2 + 1 else 6)
def w_X0_save (m : PM) (g : Nat) : PM := if m.1 4 0 0 1 < 0 then m else if 6 ≤ m.1 4 0 0 1 then m else sv_3 (sv_2 (sv_1 m g))
theorem r_X0_save (m : PM) (g : Nat) : Rn MX0_save [vR 4 0 0, vR 0 0 g] m none (w_X0_save m g) := by
  refine rn_of [some (vR 4 0 0), some (vR 0 0 g), none] rfl ?_
  refine an_b 3 (pc2 := 5) (L2 := [some (vR 4 0 0), some (vR 0 0 g), none]) (st2 := [vI (m.1 4 0 0 1), vR 4 0 0]) (m1 := m) rfl ?_
  have out : (m.1 4 0 0 1 < 0 ∨ 6 ≤ m.1 4 0 0 1) → An MX0_save 5 [some (vR 4 0 0), some (vR 0 0 g), none] [vI (m.1 4 0 0 1), vR 4 0 0] m (.inl none) m := by
    intro h
    refine an_call (r_slot_out m _ h) rfl rfl rfl rfl ?_
    refine an_b 3 (pc2 := 13) (L2 := [some (vR 4 0 0), some (vR 0 0 g), some vN]) (st2 := []) (m1 := m) rfl ?_
    exact an_ret rfl rfl rfl rfl rfl
  unfold w_X0_save
  by_cases h1 : m.1 4 0 0 1 < 0
  · rw [if_pos h1]; exact out (Or.inl h1)
  rw [if_neg h1]
  by_cases h2 : 6 ≤ m.1 4 0 0 1
  · rw [if_pos h2]; exact out (Or.inr h2)
  rw [if_neg h2]
  refine an_call (r_slot_in m _ h1 h2) rfl rfl rfl rfl ?_
  refine an_b 5 (pc2 := 16) (L2 := [some (vR 4 0 0), some (vR 0 0 g), some (vR 0 0 (2 + (m.1 4 0 0 1).toNatClampNeg))]) (st2 := [vR 0 0 g, vR 0 0 (2 + (m.1 4 0 0 1).toNatClampNeg)]) (m1 := m) rfl ?_
  refine an_call (r_X2_copyFrom m _ _) rfl rfl rfl rfl ?_
  show An MX0_save 19 [some (vR 4 0 0), some (vR 0 0 g), some (vR 0 0 (2 + (m.1 4 0 0 1).toNatClampNeg))] [] (sv_1 m g) _ _
  refine an_b 7 (pc2 := if 6 ≤ (sv_1 m g).1 4 0 0 1 + 1 then 40 else 31) (L2 := [some (vR 4 0 0), some (vR 0 0 g), some (vR 0 0 (2 + (m.1 4 0 0 1).toNatClampNeg))]) (st2 := [vR 4 0 0]) (m1 := sv_1 m g) rfl ?_
  refine re_if1 (c := 6 ≤ (sv_1 m g).1 4 0 0 1 + 1) (a := (0 : Int32)) (b := (sv_1 m g).1 4 0 0 1 + 1) (fun x => (41, [some (vR 4 0 0), some (vR 0 0 g), some (vR 0 0 (2 + (m.1 4 0 0 1).toNatClampNeg))], [vI x, vR 4 0 0], sv_1 m g)) (fun h v9 m9 K => ?_) (fun h v9 m9 K => ?_) _ _ ?_
  · refine an_b 1 (pc2 := 41) (L2 := [some (vR 4 0 0), some (vR 0 0 g), some (vR 0 0 (2 + (m.1 4 0 0 1).toNatClampNeg))]) (st2 := [vI 0, vR 4 0 0]) (m1 := sv_1 m g) rfl ?_
    exact K
  · refine an_b 5 (pc2 := 41) (L2 := [some (vR 4 0 0), some (vR 0 0 g), some (vR 0 0 (2 + (m.1 4 0 0 1).toNatClampNeg))]) (st2 := [vI ((sv_1 m g).1 4 0 0 1 + 1), vR 4 0 0]) (m1 := sv_1 m g) rfl ?_
    exact K
  refine an_b 1 (pc2 := 44) (L2 := [some (vR 4 0 0), some (vR 0 0 g), some (vR 0 0 (2 + (m.1 4 0 0 1).toNatClampNeg))]) (st2 := []) (m1 := sv_2 (sv_1 m g)) rfl ?_
  refine an_b 8 (pc2 := 59) (L2 := [some (vR 4 0 0), some (vR 0 0 g), some (vR 0 0 (2 + (m.1 4 0 0 1).toNatClampNeg))]) (st2 := []) (m1 := sv_3 (sv_2 (sv_1 m g))) rfl ?_
  exact an_ret rfl rfl rfl rfl rfl
/-- which slot is the latest -/
def rs_l (m : PM) : Int32 := if m.1 4 0 0 1 ≤ 0 then 5 else m.1 4 0 0 1 - 1
def rs_1 (m : PM) (g : Nat) : PM := wI (w_X2_copyFrom m g (2 + (rs_l m).toNatClampNeg)) 4 0 0 1 (rs_l m)
def rs_2 (m : PM) : PM := wI m 4 0 0 2 (m.1 4 0 0 2 - 1)
def w_X0_restore (m : PM) (g : Nat) : PM := if rs_l m < 0 then m else if 6 ≤ rs_l m then m else if m.1 4 0 0 2 ≤ 0 then m else rs_2 (rs_1 m g)
def v_X0_restore (m : PM) (g : Nat) : Int32 := (w_X0_restore m g).1 4 0 0 2
theorem r_X0_restore (m : PM) (g : Nat) : Rn MX0_restore [vR 4 0 0, vR 0 0 g] m (some (vI (v_X0_restore m g))) (w_X0_restore m g) := by
  refine rn_of [some (vR 4 0 0), some (vR 0 0 g), none, none] rfl ?_
  unfold v_X0_restore
  have last : ∀ (X : List (Option PV)) (q : PM) (x y : PV), An MX0_restore 59 [some (vR 4 0 0), some (vR 0 0 g), some x, some y] [] q (.inl (some (vI (q.1 4 0 0 2)))) q := by
    intro X q x y
    refine an_b 2 (pc2 := 63) (L2 := [some (vR 4 0 0), some (vR 0 0 g), some x, some y]) (st2 := [vI (q.1 4 0 0 2)]) (m1 := q) rfl ?_
    exact an_ret rfl rfl rfl rfl rfl
  refine an_b 3 (pc2 := if m.1 4 0 0 1 ≤ 0 then 16 else 7) (L2 := [some (vR 4 0 0), some (vR 0 0 g), none, none]) (st2 := []) (m1 := m) rfl ?_
  refine re_if1 (c := m.1 4 0 0 1 ≤ 0) (a := (5 : Int32)) (b := m.1 4 0 0 1 - 1) (fun x => (17, [some (vR 4 0 0), some (vR 0 0 g), none, none], [vI x], m)) (fun h v9 m9 K => ?_) (fun h v9 m9 K => ?_) _ _ ?_
  · refine an_b 1 (pc2 := 17) (L2 := [some (vR 4 0 0), some (vR 0 0 g), none, none]) (st2 := [vI 5]) (m1 := m) rfl ?_
    exact K
  · refine an_b 5 (pc2 := 17) (L2 := [some (vR 4 0 0), some (vR 0 0 g), none, none]) (st2 := [vI (m.1 4 0 0 1 - 1)]) (m1 := m) rfl ?_
    exact K
  show An MX0_restore 17 [some (vR 4 0 0), some (vR 0 0 g), none, none] [vI (rs_l m)] m _ _
  refine an_b 3 (pc2 := 20) (L2 := [some (vR 4 0 0), some (vR 0 0 g), some (vI (rs_l m)), none]) (st2 := [vI (rs_l m), vR 4 0 0]) (m1 := m) rfl ?_
  have out : (rs_l m < 0 ∨ 6 ≤ rs_l m) → An MX0_restore 20 [some (vR 4 0 0), some (vR 0 0 g), some (vI (rs_l m)), none] [vI (rs_l m), vR 4 0 0] m (.inl (some (vI (m.1 4 0 0 2)))) m := by
    intro h
    refine an_call (r_slot_out m _ h) rfl rfl rfl rfl ?_
    refine an_b 3 (pc2 := 59) (L2 := [some (vR 4 0 0), some (vR 0 0 g), some (vI (rs_l m)), some vN]) (st2 := []) (m1 := m) rfl ?_
    exact last [] m _ _
  unfold w_X0_restore
  by_cases h1 : rs_l m < 0
  · rw [if_pos h1]; exact out (Or.inl h1)
  rw [if_neg h1]
  by_cases h2 : 6 ≤ rs_l m
  · rw [if_pos h2]; exact out (Or.inr h2)
  rw [if_neg h2]
  refine an_call (r_slot_in m _ h1 h2) rfl rfl rfl rfl ?_
  refine an_b 8 (pc2 := if m.1 4 0 0 2 ≤ 0 then 59 else 39) (L2 := [some (vR 4 0 0), some (vR 0 0 g), some (vI (rs_l m)), some (vR 0 0 (2 + (rs_l m).toNatClampNeg))]) (st2 := []) (m1 := m) rfl ?_
  by_cases h3 : m.1 4 0 0 2 ≤ 0
  · rw [if_pos h3, if_pos h3]; exact last [] m _ _
  rw [if_neg h3, if_neg h3]
  refine an_b 2 (pc2 := 41) (L2 := [some (vR 4 0 0), some (vR 0 0 g), some (vI (rs_l m)), some (vR 0 0 (2 + (rs_l m).toNatClampNeg))]) (st2 := [vR 0 0 (2 + (rs_l m).toNatClampNeg), vR 0 0 g]) (m1 := m) rfl ?_
  refine an_call (r_X2_copyFrom m _ _) rfl rfl rfl rfl ?_
  refine an_b 3 (pc2 := 49) (L2 := [some (vR 4 0 0), some (vR 0 0 g), some (vI (rs_l m)), some (vR 0 0 (2 + (rs_l m).toNatClampNeg))]) (st2 := []) (m1 := rs_1 m g) rfl ?_
  refine an_b 6 (pc2 := 59) (L2 := [some (vR 4 0 0), some (vR 0 0 g), some (vI (rs_l m)), some (vR 0 0 (2 + (rs_l m).toNatClampNeg))]) (st2 := []) (m1 := rs_2 (rs_1 m g)) rfl ?_
  exact last [] _ _ _
/-- the letter's mode -/
def v_X4_modeOf (m : PM) (a1 : Int32) : Int32 := if a1 = 104 then 3 else if a1 = 112 then 1 else if a1 = 115 then 2 else 0
theorem r_X4_modeOf (m : PM) (a1 : Int32) : Rn MX4_modeOf [vI a1] m (some (vI (v_X4_modeOf m a1))) m := by
  refine rn_of [some (vI a1)] rfl ?_
  unfold v_X4_modeOf
  refine an_b 1 (pc2 := 1) (L2 := [some (vI a1)]) (st2 := [vI a1]) (m1 := m) rfl ?_
  by_cases h1 : a1 = 104
  · subst h1
    refine an_b 2 (pc2 := 41) (L2 := [some (vI 104)]) (st2 := [vI 3]) (m1 := m) rfl ?_
    exact an_ret rfl rfl rfl rfl rfl
  rw [if_neg h1]
  by_cases h2 : a1 = 112
  · subst h2
    refine an_b 2 (pc2 := 37) (L2 := [some (vI 112)]) (st2 := [vI 1]) (m1 := m) rfl ?_
    exact an_ret rfl rfl rfl rfl rfl
  rw [if_neg h2]
  by_cases h3 : a1 = 115
  · subst h3
    refine an_b 2 (pc2 := 39) (L2 := [some (vI 115)]) (st2 := [vI 2]) (m1 := m) rfl ?_
    exact an_ret rfl rfl rfl rfl rfl
  rw [if_neg h3]
  have g1 : ¬ a1.toInt = 104 := fun q => h1 (Int32.toInt_inj.mp q)
  have g2 : ¬ a1.toInt = 112 := fun q => h2 (Int32.toInt_inj.mp q)
  have g3 : ¬ a1.toInt = 115 := fun q => h3 (Int32.toInt_inj.mp q)
  refine an_b 1 (pc2 := 42) (L2 := [some (vI a1)]) (st2 := []) (m1 := m) ?_ ?_
  · have e : sm_one MX4_modeOf 1 [some (vI a1)] [vI a1] m = some (42, [some (vI a1)], [], m) := by
      have e2 : sm_d (.lookupswitch 41 #[(104, 39), (112, 35), (115, 37)]) 35 1 [some (vI a1)] [vI a1] m = some (42, [some (vI a1)], [], m) := by
        unfold sm_d
        dsimp only
        have eo : Op.lookupswitch.offset #[((104 : Int), (39 : Int)), (112, 35), (115, 37)].toList 41 a1.toInt = 41 := by
          simp [Op.lookupswitch.offset, g1, g2, g3, Ne.symm g1, Ne.symm g2, Ne.symm g3]
        rw [if_pos (by decide), eo]
        rfl
      have e3 : sm_ins 4 (.lookupswitch 41 #[(104, 39), (112, 35), (115, 37)]) 35 1 [some (vI a1)] [vI a1] m = some (42, [some (vI a1)], [], m) := by
        unfold sm_ins
        rw [show sm_a (.lookupswitch 41 #[(104, 39), (112, 35), (115, 37)]) 35 1 [some (vI a1)] [vI a1] m = none from rfl, show sm_b (.lookupswitch 41 #[(104, 39), (112, 35), (115, 37)]) 35 1 [some (vI a1)] [vI a1] m = none from rfl, show sm_c (.lookupswitch 41 #[(104, 39), (112, 35), (115, 37)]) 35 1 [some (vI a1)] [vI a1] m = none from rfl, e2]
      exact e3
    show (match sm_one MX4_modeOf 1 [some (vI a1)] [vI a1] m with | some s2 => sm_many 0 MX4_modeOf s2 | none => none) = _
    rw [e]
    rfl
  · refine an_b 1 (pc2 := 43) (L2 := [some (vI a1)]) (st2 := [vI 0]) (m1 := m) rfl ?_
    exact an_ret rfl rfl rfl rfl rfl
/-- how far it is from i to B -/
def bdist (B i : Int32) : Nat := (B.toInt - i.toInt).toNat
theorem bd_add {B i : Int32} {j : Nat} (h : j ≤ bdist B i) : (i + nI j).toInt = i.toInt + j ∨ (j = 0 ∧ (i + nI j).toInt = i.toInt) := by
  unfold bdist at h
  have h1 : B.toInt < 2 ^ 31 := Int32.toInt_lt B
  have h2 : -2 ^ 31 ≤ i.toInt := Int32.le_toInt i
  have h3 : i.toInt < 2 ^ 31 := Int32.toInt_lt i
  by_cases hj : j = 0
  · subst hj
    right
    exact ⟨rfl, by rw [nI_0, Int32.add_zero]⟩
  · left
    have hn : (nI j).toInt = ((j : Int)).bmod (2 ^ 32) := by
      unfold nI
      rw [Int32.toInt_ofNat']
    rw [Int32.toInt_add, hn, Int.add_bmod_bmod]
    rw [Int.bmod_eq_of_le]
    · omega
    · omega
theorem bd_lt {B i : Int32} {j : Nat} (h : j < bdist B i) : ¬ B ≤ i + nI j := by
  rw [Int32.le_iff_toInt_le]
  have h2 := bd_add (Nat.le_of_lt h)
  unfold bdist at h
  omega
theorem bd_ge {B i : Int32} {j : Nat} (h : j = bdist B i) : B ≤ i + nI j := by
  rw [Int32.le_iff_toInt_le]
  have h2 := bd_add (Nat.le_of_eq h)
  unfold bdist at h
  omega
end
section
/-! doubles: what is wanted of them -/
theorem fp_div_ok (x y : Int32) (hy : ¬ y = 0) : FP.ddiv (FP.i2d x) (FP.i2d y) &&& 0x7fffffffffffffff ≤ 0x7ff0000000000000 := by
  sorry
theorem one_ddiv {M : MI} {pc : Nat} {L : List (Option PV)} {r : List PV} {m m2 : PM} {x y : UInt64} {v : OC} (h : asc (mT M) pc = some (.ddiv, 1)) (hn : FP.ddiv x y &&& 0x7fffffffffffffff ≤ 0x7ff0000000000000) (kk : An M (pc + 1) L (vD (FP.ddiv x y) :: r) m v m2) : An M pc L (vD y :: vD x :: r) m v m2 := by
  refine an_b 1 (pc2 := pc + 1) (L2 := L) (st2 := vD (FP.ddiv x y) :: r) (m1 := m) ?_ kk
  have e : sm_one M pc L (vD y :: vD x :: r) m = some (pc + 1, L, vD (FP.ddiv x y) :: r, m) := by
    unfold sm_one
    rw [h]
    have e2 : sm_c .ddiv 1 pc L (vD y :: vD x :: r) m = some (pc + 1, L, vD (FP.ddiv x y) :: r, m) := by
      unfold sm_c
      simp only [if_pos hn]
    show sm_ins _ _ _ _ _ _ _ = _
    unfold sm_ins
    rw [show sm_a .ddiv 1 pc L (vD y :: vD x :: r) m = none from rfl, show sm_b .ddiv 1 pc L (vD y :: vD x :: r) m = none from rfl, e2]
  show (match sm_one M pc L (vD y :: vD x :: r) m with | some s2 => sm_many 0 M s2 | none => none) = _
  rw [e]
  rfl
def v_X2_shareGranted (m : PM) (g : Nat) : UInt64 := if ¬ (v_X1_sum m 9 g) = 0 then FP.ddiv (FP.i2d (v_X1_sum m 8 g)) (FP.i2d (v_X1_sum m 9 g)) else FP.dconst1
theorem r_X2_shareGranted (m : PM) (g : Nat) : Rn MX2_shareGranted [vR 0 0 g] m (some (vD (v_X2_shareGranted m g))) m := by
  refine rn_of [some (vR 0 0 g), none] rfl ?_
  unfold v_X2_shareGranted
  refine an_b 2 (pc2 := 4) (L2 := [some (vR 0 0 g), none]) (st2 := [vR 1 9 g]) (m1 := m) rfl ?_
  refine an_call (r_X1_sum m 9 g) rfl rfl rfl rfl ?_
  refine an_b 3 (pc2 := if ¬ (v_X1_sum m 9 g) = 0 then 16 else 12) (L2 := [some (vR 0 0 g), some (vI (v_X1_sum m 9 g))]) (st2 := []) (m1 := m) rfl ?_
  refine an_ifd (fun h => ?_) (fun h => ?_)
  · refine an_b 2 (pc2 := 20) (L2 := [some (vR 0 0 g), some (vI (v_X1_sum m 9 g))]) (st2 := [vR 1 8 g]) (m1 := m) rfl ?_
    refine an_call (r_X1_sum m 8 g) rfl rfl rfl rfl ?_
    refine an_b 3 (pc2 := 26) (L2 := [some (vR 0 0 g), some (vI (v_X1_sum m 9 g))]) (st2 := [vD (FP.i2d (v_X1_sum m 9 g)), vD (FP.i2d (v_X1_sum m 8 g))]) (m1 := m) rfl ?_
    refine one_ddiv rfl (fp_div_ok _ _ h) ?_
    exact an_ret rfl rfl rfl rfl rfl
  · refine an_b 2 (pc2 := 27) (L2 := [some (vR 0 0 g), some (vI (v_X1_sum m 9 g))]) (st2 := [vD FP.dconst1]) (m1 := m) rfl ?_
    exact an_ret rfl rfl rfl rfl rfl
/-- how many digits stand from i on, of n characters -/
def dgc (m : PM) : Nat → Int32 → Nat
  | 0, _ => 0
  | n + 1, i => if v_X3_isDigit m (v_X1_at m 11 0 i) = 0 then 0 else dgc m n (i + 1) + 1
def v_X3_deedFrom (m : PM) (a1 : Int32) : Int32 := a1 + 1 + nI (dgc m (bdist (m.1 6 0 0 1) (a1 + 1)) (a1 + 1))
theorem bd_next {B i : Int32} {n : Nat} (h : bdist B i = n + 1) : bdist B (i + 1) = n := by
  have h2 := bd_add (B := B) (i := i) (j := 1) (by omega)
  unfold bdist at h ⊢
  have e : i + 1 = i + nI 1 := rfl
  rw [e]
  omega
theorem r_X3_deedFrom (m : PM) (a1 : Int32) : Rn MX3_deedFrom [vR 6 0 0, vI a1] m (some (vI (v_X3_deedFrom m a1))) m := by
  refine rn_of [some (vR 6 0 0), some (vI a1), none] rfl ?_
  unfold v_X3_deedFrom
  refine an_b 4 (pc2 := 4) (L2 := [some (vR 6 0 0), some (vI a1), some (vI (a1 + 1))]) (st2 := []) (m1 := m) rfl ?_
  suffices K : ∀ (n : Nat) (i : Int32), bdist (m.1 6 0 0 1) i = n → An MX3_deedFrom 4 [some (vR 6 0 0), some (vI a1), some (vI i)] [] m (.inl (some (vI (i + nI (dgc m n i))))) m from K _ _ rfl
  have last : ∀ i : Int32, An MX3_deedFrom 32 [some (vR 6 0 0), some (vI a1), some (vI i)] [] m (.inl (some (vI (i + nI 0)))) m := by
    intro i
    rw [nI_0, Int32.add_zero]
    refine an_b 1 (pc2 := 33) (L2 := [some (vR 6 0 0), some (vI a1), some (vI i)]) (st2 := [vI i]) (m1 := m) rfl ?_
    exact an_ret rfl rfl rfl rfl rfl
  intro n
  induction n with
  | zero =>
    intro i h
    refine an_b 4 (pc2 := if m.1 6 0 0 1 ≤ i then 32 else 12) (L2 := [some (vR 6 0 0), some (vI a1), some (vI i)]) (st2 := []) (m1 := m) rfl ?_
    have h2 := bd_ge (B := m.1 6 0 0 1) (i := i) (j := 0) h.symm
    rw [nI_0, Int32.add_zero] at h2
    exact an_t h2 (last i)
  | succ n ih =>
    intro i h
    refine an_b 4 (pc2 := if m.1 6 0 0 1 ≤ i then 32 else 12) (L2 := [some (vR 6 0 0), some (vI a1), some (vI i)]) (st2 := []) (m1 := m) rfl ?_
    have h2 := bd_lt (B := m.1 6 0 0 1) (i := i) (j := 0) (by omega)
    rw [nI_0, Int32.add_zero] at h2
    refine an_f h2 ?_
    refine an_b 3 (pc2 := 17) (L2 := [some (vR 6 0 0), some (vI a1), some (vI i)]) (st2 := [vI i, vR 1 11 0]) (m1 := m) rfl ?_
    refine an_call (r_X1_at m 11 0 i) rfl rfl rfl rfl ?_
    refine an_call (r_X3_isDigit m (v_X1_at m 11 0 i)) rfl rfl rfl rfl ?_
    refine an_b 1 (pc2 := if v_X3_isDigit m (v_X1_at m 11 0 i) = 0 then 32 else 26) (L2 := [some (vR 6 0 0), some (vI a1), some (vI i)]) (st2 := []) (m1 := m) rfl ?_
    show An _ _ _ _ _ (.inl (some (vI (i + nI (if v_X3_isDigit m (v_X1_at m 11 0 i) = 0 then 0 else dgc m n (i + 1) + 1))))) _
    by_cases h3 : v_X3_isDigit m (v_X1_at m 11 0 i) = 0
    · rw [if_pos h3, if_pos h3]; exact last i
    · rw [if_neg h3, if_neg h3]
      refine an_b 2 (pc2 := 4) (L2 := [some (vR 6 0 0), some (vI a1), some (vI (i + 1))]) (st2 := []) (m1 := m) rfl ?_
      have e : i + nI (dgc m n (i + 1) + 1) = i + 1 + nI (dgc m n (i + 1)) := by
        rw [← nI_1, Int32.add_assoc, Int32.add_comm 1]
      rw [e]
      exact ih (i + 1) (bd_next h)
/-- a share: zero, or a number with a leading digit, at most one -/
def gsh (x : UInt64) : Prop := x = 0 ∨ (4503599627370496 ≤ x.toNat ∧ x.toNat ≤ 4607182418800017408)
def v_X4_bitsOfShare (_ : PM) (x : UInt64) : Int64 := x.toInt64
theorem r_X4_bitsOfShare (m : PM) (x : UInt64) (hx : gsh x) : Rn MX4_bitsOfShare [vD x] m (some (vL (v_X4_bitsOfShare m x))) m := by
  sorry
theorem gsh_one : gsh FP.dconst1 := Or.inr ⟨by decide, by decide⟩
end
section
def b_X3_numberBetween_1 (m : PM) (a1 : Int32) (a2 : Int32)  (j1 : Nat) (s1 : Int32) : Int32 := (((s1 * (10 : Int32)) + (v_X1_at m 11 0 ((a1 + (1 : Int32)) + nI j1))) - (48 : Int32))
def v_X3_numberBetween (m : PM) (a1 : Int32) (a2 : Int32) : Int32 := (lp (b_X3_numberBetween_1 m a1 a2) (bdist a2 (a1 + (1 : Int32))) 0 (0 : Int32))
set_option maxRecDepth 100000 in
theorem r_X3_numberBetween (m : PM) (a1 : Int32) (a2 : Int32) : Rn MX3_numberBetween [vR 6 0 0, vI a1, vI a2] m (some (vI (v_X3_numberBetween m a1 a2))) m := by
  refine rn_of [some (vR 6 0 0), some (vI a1), some (vI a2), none, none] rfl ?_
  unfold v_X3_numberBetween
  refine an_b 6 (pc2 := 7) (L2 := [some (vR 6 0 0), some (vI a1), some (vI a2), some (vI (0 : Int32)), some (vI (a1 + (1 : Int32)))]) (st2 := []) (m1 := m) rfl ?_
  refine an_cL (K := [some (vR 6 0 0), some (vI a1), some (vI a2), some (vI (0 : Int32)), some (vI ((a1 + (1 : Int32)) + nI 0))]) (by simp only [nI_0, Int32.add_zero]) ?_
  refine re_lp (σ := Int32) (b_X3_numberBetween_1 m a1 a2) (fun j1 s1 => (7, [some (vR 6 0 0), some (vI a1), some (vI a2), some (vI s1), some (vI ((a1 + (1 : Int32)) + nI j1))], [], m)) (bdist a2 (a1 + (1 : Int32))) (fun s1 => (37, [some (vR 6 0 0), some (vI a1), some (vI a2), some (vI s1), none], [], m)) (fun j1 s1 hj1 v9 m9 K1 => ?_) (fun s1 v9 m9 K1 => ?_) (bdist a2 (a1 + (1 : Int32))) 0 (0 : Int32) (Nat.add_zero _) _ _ ?_
  · show An MX3_numberBetween 7 [some (vR 6 0 0), some (vI a1), some (vI a2), some (vI s1), some (vI ((a1 + (1 : Int32)) + nI j1))] [] m v9 m9
    refine an_b 3 (pc2 := if a2 ≤ ((a1 + (1 : Int32)) + nI j1) then 37 else 13) (L2 := [some (vR 6 0 0), some (vI a1), some (vI a2), some (vI s1), some (vI ((a1 + (1 : Int32)) + nI j1))]) (st2 := []) (m1 := m) rfl ?_
    refine an_f (bd_lt hj1) ?_
    refine an_b 6 (pc2 := 23) (L2 := [some (vR 6 0 0), some (vI a1), some (vI a2), some (vI s1), some (vI ((a1 + (1 : Int32)) + nI j1))]) (st2 := [vI ((a1 + (1 : Int32)) + nI j1), vR 1 11 0, vI (s1 * (10 : Int32))]) (m1 := m) rfl ?_
    refine an_call (r_X1_at m 11 0 ((a1 + (1 : Int32)) + nI j1)) rfl rfl rfl rfl ?_
    refine an_b 6 (pc2 := 7) (L2 := [some (vR 6 0 0), some (vI a1), some (vI a2), some (vI (((s1 * (10 : Int32)) + (v_X1_at m 11 0 ((a1 + (1 : Int32)) + nI j1))) - (48 : Int32))), some (vI (((a1 + (1 : Int32)) + nI j1) + (1 : Int32)))]) (st2 := []) (m1 := m) rfl ?_
    refine an_cL (K := [some (vR 6 0 0), some (vI a1), some (vI a2), some (vI (((s1 * (10 : Int32)) + (v_X1_at m 11 0 ((a1 + (1 : Int32)) + nI j1))) - (48 : Int32))), some (vI ((a1 + (1 : Int32)) + nI (j1 + 1)))]) (by simp only [Int32.add_assoc, nI_1]) ?_
    exact K1
  · show An MX3_numberBetween 7 [some (vR 6 0 0), some (vI a1), some (vI a2), some (vI s1), some (vI ((a1 + (1 : Int32)) + nI (bdist a2 (a1 + (1 : Int32)))))] [] m v9 m9
    refine an_b 3 (pc2 := if a2 ≤ ((a1 + (1 : Int32)) + nI (bdist a2 (a1 + (1 : Int32)))) then 37 else 13) (L2 := [some (vR 6 0 0), some (vI a1), some (vI a2), some (vI s1), some (vI ((a1 + (1 : Int32)) + nI (bdist a2 (a1 + (1 : Int32)))))]) (st2 := []) (m1 := m) rfl ?_
    refine an_t (bd_ge rfl) ?_
    refine an_weak (L := [some (vR 6 0 0), some (vI a1), some (vI a2), some (vI s1), none]) (⟨rfl, rfl, rfl, rfl, trivial⟩) ?_
    exact K1
  show An MX3_numberBetween 37 [some (vR 6 0 0), some (vI a1), some (vI a2), some (vI (lp (b_X3_numberBetween_1 m a1 a2) (bdist a2 (a1 + (1 : Int32))) 0 (0 : Int32))), none] [] m _ _
  refine an_b 1 (pc2 := 38) (L2 := [some (vR 6 0 0), some (vI a1), some (vI a2), some (vI (lp (b_X3_numberBetween_1 m a1 a2) (bdist a2 (a1 + (1 : Int32))) 0 (0 : Int32))), none]) (st2 := [vI (lp (b_X3_numberBetween_1 m a1 a2) (bdist a2 (a1 + (1 : Int32))) 0 (0 : Int32))]) (m1 := m) rfl ?_
  exact an_ret rfl rfl rfl rfl rfl
def o_X4_ask (m : PM) (a1 : Int32) (a2 : Int32) (a3 : Int32) : OC := (if (v_X4_isHand m a1) = 0 then (.inr 40) else (if ¬ (v_X4_isRow m a2) = 0 then (if ¬ (v_X4_isMode m a3) = 0 then (if (v_X2_isWaiting m 0 a1) = 0 then (.inl (some (vI (v_X2_takeAsking (w_X0_save m 0) 0 a1 a2 a3)))) else (.inr 58)) else (.inr 50)) else (.inr 40)))
def w_X4_ask (m : PM) (a1 : Int32) (a2 : Int32) (a3 : Int32) : PM := (if (v_X4_isHand m a1) = 0 then m else (if ¬ (v_X4_isRow m a2) = 0 then (if ¬ (v_X4_isMode m a3) = 0 then (if (v_X2_isWaiting m 0 a1) = 0 then (w_X2_takeAsking (w_X0_save m 0) 0 a1 a2 a3) else m) else m) else m))
set_option maxRecDepth 100000 in
theorem t_X4_ask (m : PM) (a1 : Int32) (a2 : Int32) (a3 : Int32) : An MX4_ask 0 [some (vR 3 0 0), some (vI a1), some (vI a2), some (vI a3)] [] m (o_X4_ask m a1 a2 a3) (w_X4_ask m a1 a2 a3) := by
  unfold o_X4_ask w_X4_ask
  refine an_b 1 (pc2 := 1) (L2 := [some (vR 3 0 0), some (vI a1), some (vI a2), some (vI a3)]) (st2 := [vI a1]) (m1 := m) rfl ?_
  refine an_call (r_X4_isHand m a1) rfl rfl rfl rfl ?_
  refine an_b 1 (pc2 := if (v_X4_isHand m a1) = 0 then 14 else 7) (L2 := [some (vR 3 0 0), some (vI a1), some (vI a2), some (vI a3)]) (st2 := []) (m1 := m) rfl ?_
  refine an_ifo (c := (v_X4_isHand m a1) = 0) (fun h1 => ?_) (fun h1 => ?_)
  · exact an_thr rfl rfl rfl rfl rfl
  · refine an_b 1 (pc2 := 8) (L2 := [some (vR 3 0 0), some (vI a1), some (vI a2), some (vI a3)]) (st2 := [vI a2]) (m1 := m) rfl ?_
    refine an_call (r_X4_isRow m a2) rfl rfl rfl rfl ?_
    refine an_b 1 (pc2 := if ¬ (v_X4_isRow m a2) = 0 then 24 else 14) (L2 := [some (vR 3 0 0), some (vI a1), some (vI a2), some (vI a3)]) (st2 := []) (m1 := m) rfl ?_
    refine an_ifo (c := ¬ (v_X4_isRow m a2) = 0) (fun h2 => ?_) (fun h2 => ?_)
    · refine an_b 1 (pc2 := 25) (L2 := [some (vR 3 0 0), some (vI a1), some (vI a2), some (vI a3)]) (st2 := [vI a3]) (m1 := m) rfl ?_
      refine an_call (r_X4_isMode m a3) rfl rfl rfl rfl ?_
      refine an_b 1 (pc2 := if ¬ (v_X4_isMode m a3) = 0 then 41 else 31) (L2 := [some (vR 3 0 0), some (vI a1), some (vI a2), some (vI a3)]) (st2 := []) (m1 := m) rfl ?_
      refine an_ifo (c := ¬ (v_X4_isMode m a3) = 0) (fun h3 => ?_) (fun h3 => ?_)
      · refine an_b 3 (pc2 := 46) (L2 := [some (vR 3 0 0), some (vI a1), some (vI a2), some (vI a3)]) (st2 := [vI a1, vR 0 0 0]) (m1 := m) rfl ?_
        refine an_call (r_X2_isWaiting m 0 a1) rfl rfl rfl rfl ?_
        refine an_b 1 (pc2 := if (v_X2_isWaiting m 0 a1) = 0 then 62 else 52) (L2 := [some (vR 3 0 0), some (vI a1), some (vI a2), some (vI a3)]) (st2 := []) (m1 := m) rfl ?_
        refine an_ifo (c := (v_X2_isWaiting m 0 a1) = 0) (fun h4 => ?_) (fun h4 => ?_)
        · refine an_b 4 (pc2 := 70) (L2 := [some (vR 3 0 0), some (vI a1), some (vI a2), some (vI a3)]) (st2 := [vR 0 0 0, vR 4 0 0]) (m1 := m) rfl ?_
          refine an_call (r_X0_save m 0) rfl rfl rfl rfl ?_
          refine an_b 5 (pc2 := 80) (L2 := [some (vR 3 0 0), some (vI a1), some (vI a2), some (vI a3)]) (st2 := [vI a3, vI a2, vI a1, vR 0 0 0]) (m1 := (w_X0_save m 0)) rfl ?_
          refine an_call (r_X2_takeAsking (w_X0_save m 0) 0 a1 a2 a3) rfl rfl rfl rfl ?_
          exact an_ret rfl rfl rfl rfl rfl
        · exact an_thr rfl rfl rfl rfl rfl
      · exact an_thr rfl rfl rfl rfl rfl
    · exact an_thr rfl rfl rfl rfl rfl
def o_X4_release (m : PM) (a1 : Int32) (a2 : Int32) : OC := (if (v_X4_isHand m a1) = 0 then (.inr 40) else (if ¬ (v_X4_isRow m a2) = 0 then (if ¬ (v_X2_canLetGo m 0 a1 a2) = 0 then (.inl (some (vI (v_X2_letGo (w_X0_save m 0) 0 a1 a2)))) else (.inr 58)) else (.inr 40)))
def w_X4_release (m : PM) (a1 : Int32) (a2 : Int32) : PM := (if (v_X4_isHand m a1) = 0 then m else (if ¬ (v_X4_isRow m a2) = 0 then (if ¬ (v_X2_canLetGo m 0 a1 a2) = 0 then (w_X2_letGo (w_X0_save m 0) 0 a1 a2) else m) else m))
set_option maxRecDepth 100000 in
theorem t_X4_release (m : PM) (a1 : Int32) (a2 : Int32) : An MX4_release 0 [some (vR 3 0 0), some (vI a1), some (vI a2)] [] m (o_X4_release m a1 a2) (w_X4_release m a1 a2) := by
  unfold o_X4_release w_X4_release
  refine an_b 1 (pc2 := 1) (L2 := [some (vR 3 0 0), some (vI a1), some (vI a2)]) (st2 := [vI a1]) (m1 := m) rfl ?_
  refine an_call (r_X4_isHand m a1) rfl rfl rfl rfl ?_
  refine an_b 1 (pc2 := if (v_X4_isHand m a1) = 0 then 14 else 7) (L2 := [some (vR 3 0 0), some (vI a1), some (vI a2)]) (st2 := []) (m1 := m) rfl ?_
  refine an_ifo (c := (v_X4_isHand m a1) = 0) (fun h1 => ?_) (fun h1 => ?_)
  · exact an_thr rfl rfl rfl rfl rfl
  · refine an_b 1 (pc2 := 8) (L2 := [some (vR 3 0 0), some (vI a1), some (vI a2)]) (st2 := [vI a2]) (m1 := m) rfl ?_
    refine an_call (r_X4_isRow m a2) rfl rfl rfl rfl ?_
    refine an_b 1 (pc2 := if ¬ (v_X4_isRow m a2) = 0 then 24 else 14) (L2 := [some (vR 3 0 0), some (vI a1), some (vI a2)]) (st2 := []) (m1 := m) rfl ?_
    refine an_ifo (c := ¬ (v_X4_isRow m a2) = 0) (fun h2 => ?_) (fun h2 => ?_)
    · refine an_b 4 (pc2 := 30) (L2 := [some (vR 3 0 0), some (vI a1), some (vI a2)]) (st2 := [vI a2, vI a1, vR 0 0 0]) (m1 := m) rfl ?_
      refine an_call (r_X2_canLetGo m 0 a1 a2) rfl rfl rfl rfl ?_
      refine an_b 1 (pc2 := if ¬ (v_X2_canLetGo m 0 a1 a2) = 0 then 46 else 36) (L2 := [some (vR 3 0 0), some (vI a1), some (vI a2)]) (st2 := []) (m1 := m) rfl ?_
      refine an_ifo (c := ¬ (v_X2_canLetGo m 0 a1 a2) = 0) (fun h3 => ?_) (fun h3 => ?_)
      · refine an_b 4 (pc2 := 54) (L2 := [some (vR 3 0 0), some (vI a1), some (vI a2)]) (st2 := [vR 0 0 0, vR 4 0 0]) (m1 := m) rfl ?_
        refine an_call (r_X0_save m 0) rfl rfl rfl rfl ?_
        refine an_b 4 (pc2 := 63) (L2 := [some (vR 3 0 0), some (vI a1), some (vI a2)]) (st2 := [vI a2, vI a1, vR 0 0 0]) (m1 := (w_X0_save m 0)) rfl ?_
        refine an_call (r_X2_letGo (w_X0_save m 0) 0 a1 a2) rfl rfl rfl rfl ?_
        exact an_ret rfl rfl rfl rfl rfl
      · exact an_thr rfl rfl rfl rfl rfl
    · exact an_thr rfl rfl rfl rfl rfl
def o_X4_giveUp (m : PM) (a1 : Int32) : OC := (if ¬ (v_X4_isHand m a1) = 0 then (if ¬ (v_X2_isWaiting m 0 a1) = 0 then (.inl (some (vI (v_X2_stopWaiting (w_X0_save m 0) 0 a1)))) else (.inr 58)) else (.inr 40))
def w_X4_giveUp (m : PM) (a1 : Int32) : PM := (if ¬ (v_X4_isHand m a1) = 0 then (if ¬ (v_X2_isWaiting m 0 a1) = 0 then (w_X2_stopWaiting (w_X0_save m 0) 0 a1) else m) else m)
set_option maxRecDepth 100000 in
theorem t_X4_giveUp (m : PM) (a1 : Int32) : An MX4_giveUp 0 [some (vR 3 0 0), some (vI a1)] [] m (o_X4_giveUp m a1) (w_X4_giveUp m a1) := by
  unfold o_X4_giveUp w_X4_giveUp
  refine an_b 1 (pc2 := 1) (L2 := [some (vR 3 0 0), some (vI a1)]) (st2 := [vI a1]) (m1 := m) rfl ?_
  refine an_call (r_X4_isHand m a1) rfl rfl rfl rfl ?_
  refine an_b 1 (pc2 := if ¬ (v_X4_isHand m a1) = 0 then 17 else 7) (L2 := [some (vR 3 0 0), some (vI a1)]) (st2 := []) (m1 := m) rfl ?_
  refine an_ifo (c := ¬ (v_X4_isHand m a1) = 0) (fun h1 => ?_) (fun h1 => ?_)
  · refine an_b 3 (pc2 := 22) (L2 := [some (vR 3 0 0), some (vI a1)]) (st2 := [vI a1, vR 0 0 0]) (m1 := m) rfl ?_
    refine an_call (r_X2_isWaiting m 0 a1) rfl rfl rfl rfl ?_
    refine an_b 1 (pc2 := if ¬ (v_X2_isWaiting m 0 a1) = 0 then 38 else 28) (L2 := [some (vR 3 0 0), some (vI a1)]) (st2 := []) (m1 := m) rfl ?_
    refine an_ifo (c := ¬ (v_X2_isWaiting m 0 a1) = 0) (fun h2 => ?_) (fun h2 => ?_)
    · refine an_b 4 (pc2 := 46) (L2 := [some (vR 3 0 0), some (vI a1)]) (st2 := [vR 0 0 0, vR 4 0 0]) (m1 := m) rfl ?_
      refine an_call (r_X0_save m 0) rfl rfl rfl rfl ?_
      refine an_b 3 (pc2 := 54) (L2 := [some (vR 3 0 0), some (vI a1)]) (st2 := [vI a1, vR 0 0 0]) (m1 := (w_X0_save m 0)) rfl ?_
      refine an_call (r_X2_stopWaiting (w_X0_save m 0) 0 a1) rfl rfl rfl rfl ?_
      exact an_ret rfl rfl rfl rfl rfl
    · exact an_thr rfl rfl rfl rfl rfl
  · exact an_thr rfl rfl rfl rfl rfl
def o_X4_handOn (m : PM) (a1 : Int32) (a2 : Int32) (a3 : Int32) : OC := (if (v_X4_isHand m a1) = 0 then (.inr 40) else (if (v_X4_isRow m a2) = 0 then (.inr 40) else (if ¬ (v_X4_isHand m a3) = 0 then (if ¬ (v_X2_canPassOver m 0 a1 a2 a3) = 0 then (.inl (some (vI (v_X2_passOver (w_X0_save m 0) 0 a1 a2 a3)))) else (.inr 58)) else (.inr 40))))
def w_X4_handOn (m : PM) (a1 : Int32) (a2 : Int32) (a3 : Int32) : PM := (if (v_X4_isHand m a1) = 0 then m else (if (v_X4_isRow m a2) = 0 then m else (if ¬ (v_X4_isHand m a3) = 0 then (if ¬ (v_X2_canPassOver m 0 a1 a2 a3) = 0 then (w_X2_passOver (w_X0_save m 0) 0 a1 a2 a3) else m) else m)))
set_option maxRecDepth 100000 in
theorem t_X4_handOn (m : PM) (a1 : Int32) (a2 : Int32) (a3 : Int32) : An MX4_handOn 0 [some (vR 3 0 0), some (vI a1), some (vI a2), some (vI a3)] [] m (o_X4_handOn m a1 a2 a3) (w_X4_handOn m a1 a2 a3) := by
  unfold o_X4_handOn w_X4_handOn
  refine an_b 1 (pc2 := 1) (L2 := [some (vR 3 0 0), some (vI a1), some (vI a2), some (vI a3)]) (st2 := [vI a1]) (m1 := m) rfl ?_
  refine an_call (r_X4_isHand m a1) rfl rfl rfl rfl ?_
  refine an_b 1 (pc2 := if (v_X4_isHand m a1) = 0 then 21 else 7) (L2 := [some (vR 3 0 0), some (vI a1), some (vI a2), some (vI a3)]) (st2 := []) (m1 := m) rfl ?_
  refine an_ifo (c := (v_X4_isHand m a1) = 0) (fun h1 => ?_) (fun h1 => ?_)
  · exact an_thr rfl rfl rfl rfl rfl
  · refine an_b 1 (pc2 := 8) (L2 := [some (vR 3 0 0), some (vI a1), some (vI a2), some (vI a3)]) (st2 := [vI a2]) (m1 := m) rfl ?_
    refine an_call (r_X4_isRow m a2) rfl rfl rfl rfl ?_
    refine an_b 1 (pc2 := if (v_X4_isRow m a2) = 0 then 21 else 14) (L2 := [some (vR 3 0 0), some (vI a1), some (vI a2), some (vI a3)]) (st2 := []) (m1 := m) rfl ?_
    refine an_ifo (c := (v_X4_isRow m a2) = 0) (fun h2 => ?_) (fun h2 => ?_)
    · exact an_thr rfl rfl rfl rfl rfl
    · refine an_b 1 (pc2 := 15) (L2 := [some (vR 3 0 0), some (vI a1), some (vI a2), some (vI a3)]) (st2 := [vI a3]) (m1 := m) rfl ?_
      refine an_call (r_X4_isHand m a3) rfl rfl rfl rfl ?_
      refine an_b 1 (pc2 := if ¬ (v_X4_isHand m a3) = 0 then 31 else 21) (L2 := [some (vR 3 0 0), some (vI a1), some (vI a2), some (vI a3)]) (st2 := []) (m1 := m) rfl ?_
      refine an_ifo (c := ¬ (v_X4_isHand m a3) = 0) (fun h3 => ?_) (fun h3 => ?_)
      · refine an_b 5 (pc2 := 38) (L2 := [some (vR 3 0 0), some (vI a1), some (vI a2), some (vI a3)]) (st2 := [vI a3, vI a2, vI a1, vR 0 0 0]) (m1 := m) rfl ?_
        refine an_call (r_X2_canPassOver m 0 a1 a2 a3) rfl rfl rfl rfl ?_
        refine an_b 1 (pc2 := if ¬ (v_X2_canPassOver m 0 a1 a2 a3) = 0 then 54 else 44) (L2 := [some (vR 3 0 0), some (vI a1), some (vI a2), some (vI a3)]) (st2 := []) (m1 := m) rfl ?_
        refine an_ifo (c := ¬ (v_X2_canPassOver m 0 a1 a2 a3) = 0) (fun h4 => ?_) (fun h4 => ?_)
        · refine an_b 4 (pc2 := 62) (L2 := [some (vR 3 0 0), some (vI a1), some (vI a2), some (vI a3)]) (st2 := [vR 0 0 0, vR 4 0 0]) (m1 := m) rfl ?_
          refine an_call (r_X0_save m 0) rfl rfl rfl rfl ?_
          refine an_b 5 (pc2 := 72) (L2 := [some (vR 3 0 0), some (vI a1), some (vI a2), some (vI a3)]) (st2 := [vI a3, vI a2, vI a1, vR 0 0 0]) (m1 := (w_X0_save m 0)) rfl ?_
          refine an_call (r_X2_passOver (w_X0_save m 0) 0 a1 a2 a3) rfl rfl rfl rfl ?_
          exact an_ret rfl rfl rfl rfl rfl
        · exact an_thr rfl rfl rfl rfl rfl
      · exact an_thr rfl rfl rfl rfl rfl
def b_X4_pass_1 (m : PM) (a1 : Int32)  (j1 : Nat) (s1 : Int32 × PM) : Int32 × PM := ((s1.1 + (v_X2_tick s1.2 0)), (w_X2_tick s1.2 0))
def o_X4_pass (m : PM) (a1 : Int32) : OC := (if a1 < (1 : Int32) then (.inr 50) else (if a1 ≤ (100 : Int32) then (.inl (some (vI ((lp (b_X4_pass_1 m a1) (a1).toNatClampNeg 0 ((0 : Int32), (w_X0_save m 0))).1)))) else (.inr 50)))
def w_X4_pass (m : PM) (a1 : Int32) : PM := (if a1 < (1 : Int32) then m else (if a1 ≤ (100 : Int32) then (lp (b_X4_pass_1 m a1) (a1).toNatClampNeg 0 ((0 : Int32), (w_X0_save m 0))).2 else m))
set_option maxRecDepth 100000 in
theorem t_X4_pass (m : PM) (a1 : Int32) : An MX4_pass 0 [some (vR 3 0 0), some (vI a1), none, none] [] m (o_X4_pass m a1) (w_X4_pass m a1) := by
  unfold o_X4_pass w_X4_pass
  refine an_b 3 (pc2 := if a1 < (1 : Int32) then 11 else 5) (L2 := [some (vR 3 0 0), some (vI a1), none, none]) (st2 := []) (m1 := m) rfl ?_
  refine an_ifo (c := a1 < (1 : Int32)) (fun h1 => ?_) (fun h1 => ?_)
  · exact an_thr rfl rfl rfl rfl rfl
  · refine an_b 3 (pc2 := if a1 ≤ (100 : Int32) then 21 else 11) (L2 := [some (vR 3 0 0), some (vI a1), none, none]) (st2 := []) (m1 := m) rfl ?_
    refine an_ifo (c := a1 ≤ (100 : Int32)) (fun h2 => ?_) (fun h2 => ?_)
    · refine an_b 4 (pc2 := 29) (L2 := [some (vR 3 0 0), some (vI a1), none, none]) (st2 := [vR 0 0 0, vR 4 0 0]) (m1 := m) rfl ?_
      refine an_call (r_X0_save m 0) rfl rfl rfl rfl ?_
      refine an_b 4 (pc2 := 36) (L2 := [some (vR 3 0 0), some (vI a1), some (vI (0 : Int32)), some (vI (0 : Int32))]) (st2 := []) (m1 := (w_X0_save m 0)) rfl ?_
      refine re_lp (σ := Int32 × PM) (b_X4_pass_1 m a1) (fun j1 s1 => (36, [some (vR 3 0 0), some (vI a1), some (vI s1.1), some (vI (nI j1))], [], s1.2)) (a1).toNatClampNeg (fun s1 => (57, [some (vR 3 0 0), some (vI a1), some (vI s1.1), none], [], s1.2)) (fun j1 s1 hj1 v9 m9 K1 => ?_) (fun s1 v9 m9 K1 => ?_) (a1).toNatClampNeg 0 ((0 : Int32), (w_X0_save m 0)) (Nat.add_zero _) _ _ ?_
      · show An MX4_pass 36 [some (vR 3 0 0), some (vI a1), some (vI s1.1), some (vI (nI j1))] [] s1.2 v9 m9
        refine an_b 3 (pc2 := if a1 ≤ (nI j1) then 57 else 41) (L2 := [some (vR 3 0 0), some (vI a1), some (vI s1.1), some (vI (nI j1))]) (st2 := []) (m1 := s1.2) rfl ?_
        refine an_f (bnd_lt hj1) ?_
        refine an_b 3 (pc2 := 46) (L2 := [some (vR 3 0 0), some (vI a1), some (vI s1.1), some (vI (nI j1))]) (st2 := [vR 0 0 0, vI s1.1]) (m1 := s1.2) rfl ?_
        refine an_call (r_X2_tick s1.2 0) rfl rfl rfl rfl ?_
        refine an_b 4 (pc2 := 36) (L2 := [some (vR 3 0 0), some (vI a1), some (vI (s1.1 + (v_X2_tick s1.2 0))), some (vI ((nI j1) + (1 : Int32)))]) (st2 := []) (m1 := (w_X2_tick s1.2 0)) rfl ?_
        refine an_cL (K := [some (vR 3 0 0), some (vI a1), some (vI (s1.1 + (v_X2_tick s1.2 0))), some (vI (nI (j1 + 1)))]) (by simp only [nI_1]) ?_
        exact K1
      · show An MX4_pass 36 [some (vR 3 0 0), some (vI a1), some (vI s1.1), some (vI (nI ((a1).toNatClampNeg)))] [] s1.2 v9 m9
        refine an_b 3 (pc2 := if a1 ≤ (nI ((a1).toNatClampNeg)) then 57 else 41) (L2 := [some (vR 3 0 0), some (vI a1), some (vI s1.1), some (vI (nI ((a1).toNatClampNeg)))]) (st2 := []) (m1 := s1.2) rfl ?_
        refine an_t (bnd_ge rfl) ?_
        refine an_weak (L := [some (vR 3 0 0), some (vI a1), some (vI s1.1), none]) (⟨rfl, rfl, rfl, trivial⟩) ?_
        exact K1
      show An MX4_pass 57 [some (vR 3 0 0), some (vI a1), some (vI ((lp (b_X4_pass_1 m a1) (a1).toNatClampNeg 0 ((0 : Int32), (w_X0_save m 0))).1)), none] [] (lp (b_X4_pass_1 m a1) (a1).toNatClampNeg 0 ((0 : Int32), (w_X0_save m 0))).2 _ _
      refine an_b 1 (pc2 := 58) (L2 := [some (vR 3 0 0), some (vI a1), some (vI ((lp (b_X4_pass_1 m a1) (a1).toNatClampNeg 0 ((0 : Int32), (w_X0_save m 0))).1)), none]) (st2 := [vI ((lp (b_X4_pass_1 m a1) (a1).toNatClampNeg 0 ((0 : Int32), (w_X0_save m 0))).1)]) (m1 := (lp (b_X4_pass_1 m a1) (a1).toNatClampNeg 0 ((0 : Int32), (w_X0_save m 0))).2) rfl ?_
      exact an_ret rfl rfl rfl rfl rfl
    · exact an_thr rfl rfl rfl rfl rfl
def o_X4_cool (m : PM) (a1 : Int32) : OC := (if ¬ (v_X4_isRow m a1) = 0 then (if (v_X2_holders m 0 a1) = 0 then (.inl (some (vI (v_X1_at (w_X0_save m 0) 4 0 a1)))) else (.inr 58)) else (.inr 40))
def w_X4_cool (m : PM) (a1 : Int32) : PM := (if ¬ (v_X4_isRow m a1) = 0 then (if (v_X2_holders m 0 a1) = 0 then (w_X1_put (w_X0_save m 0) 4 0 a1 (0 : Int32)) else m) else m)
set_option maxRecDepth 100000 in
theorem t_X4_cool (m : PM) (a1 : Int32) : An MX4_cool 0 [some (vR 3 0 0), some (vI a1), none] [] m (o_X4_cool m a1) (w_X4_cool m a1) := by
  unfold o_X4_cool w_X4_cool
  refine an_b 1 (pc2 := 1) (L2 := [some (vR 3 0 0), some (vI a1), none]) (st2 := [vI a1]) (m1 := m) rfl ?_
  refine an_call (r_X4_isRow m a1) rfl rfl rfl rfl ?_
  refine an_b 1 (pc2 := if ¬ (v_X4_isRow m a1) = 0 then 17 else 7) (L2 := [some (vR 3 0 0), some (vI a1), none]) (st2 := []) (m1 := m) rfl ?_
  refine an_ifo (c := ¬ (v_X4_isRow m a1) = 0) (fun h1 => ?_) (fun h1 => ?_)
  · refine an_b 3 (pc2 := 22) (L2 := [some (vR 3 0 0), some (vI a1), none]) (st2 := [vI a1, vR 0 0 0]) (m1 := m) rfl ?_
    refine an_call (r_X2_holders m 0 a1) rfl rfl rfl rfl ?_
    refine an_b 1 (pc2 := if (v_X2_holders m 0 a1) = 0 then 38 else 28) (L2 := [some (vR 3 0 0), some (vI a1), none]) (st2 := []) (m1 := m) rfl ?_
    refine an_ifo (c := (v_X2_holders m 0 a1) = 0) (fun h2 => ?_) (fun h2 => ?_)
    · refine an_b 4 (pc2 := 46) (L2 := [some (vR 3 0 0), some (vI a1), none]) (st2 := [vR 0 0 0, vR 4 0 0]) (m1 := m) rfl ?_
      refine an_call (r_X0_save m 0) rfl rfl rfl rfl ?_
      refine an_b 4 (pc2 := 57) (L2 := [some (vR 3 0 0), some (vI a1), none]) (st2 := [vI a1, vR 1 4 0]) (m1 := (w_X0_save m 0)) rfl ?_
      refine an_call (r_X1_at (w_X0_save m 0) 4 0 a1) rfl rfl rfl rfl ?_
      refine an_b 6 (pc2 := 70) (L2 := [some (vR 3 0 0), some (vI a1), some (vI (v_X1_at (w_X0_save m 0) 4 0 a1))]) (st2 := [vI (0 : Int32), vI a1, vR 1 4 0]) (m1 := (w_X0_save m 0)) rfl ?_
      refine an_call (r_X1_put (w_X0_save m 0) 4 0 a1 (0 : Int32)) rfl rfl rfl rfl ?_
      refine an_b 1 (pc2 := 74) (L2 := [some (vR 3 0 0), some (vI a1), some (vI (v_X1_at (w_X0_save m 0) 4 0 a1))]) (st2 := [vI (v_X1_at (w_X0_save m 0) 4 0 a1)]) (m1 := (w_X1_put (w_X0_save m 0) 4 0 a1 (0 : Int32))) rfl ?_
      exact an_ret rfl rfl rfl rfl rfl
    · exact an_thr rfl rfl rfl rfl rfl
  · exact an_thr rfl rfl rfl rfl rfl
def o_X4_set (m : PM) (a1 : Int32) (a2 : Int32) : OC := (if ¬ (v_X4_isSetting m a1) = 0 then (if a2 < (v_X4_leastValue m a1) then (.inr 50) else (if a2 ≤ (v_X4_greatestValue m a1) then (.inl (some (vI (v_X1_at (w_X0_save m 0) 10 0 a1)))) else (.inr 50))) else (.inr 40))
def w_X4_set (m : PM) (a1 : Int32) (a2 : Int32) : PM := (if ¬ (v_X4_isSetting m a1) = 0 then (if a2 < (v_X4_leastValue m a1) then m else (if a2 ≤ (v_X4_greatestValue m a1) then (w_X1_put (w_X0_save m 0) 10 0 a1 a2) else m)) else m)
set_option maxRecDepth 100000 in
theorem t_X4_set (m : PM) (a1 : Int32) (a2 : Int32) : An MX4_set 0 [some (vR 3 0 0), some (vI a1), some (vI a2), none] [] m (o_X4_set m a1 a2) (w_X4_set m a1 a2) := by
  unfold o_X4_set w_X4_set
  refine an_b 1 (pc2 := 1) (L2 := [some (vR 3 0 0), some (vI a1), some (vI a2), none]) (st2 := [vI a1]) (m1 := m) rfl ?_
  refine an_call (r_X4_isSetting m a1) rfl rfl rfl rfl ?_
  refine an_b 1 (pc2 := if ¬ (v_X4_isSetting m a1) = 0 then 17 else 7) (L2 := [some (vR 3 0 0), some (vI a1), some (vI a2), none]) (st2 := []) (m1 := m) rfl ?_
  refine an_ifo (c := ¬ (v_X4_isSetting m a1) = 0) (fun h1 => ?_) (fun h1 => ?_)
  · refine an_b 2 (pc2 := 19) (L2 := [some (vR 3 0 0), some (vI a1), some (vI a2), none]) (st2 := [vI a1, vI a2]) (m1 := m) rfl ?_
    refine an_call (r_X4_leastValue m a1) rfl rfl rfl rfl ?_
    refine an_b 1 (pc2 := if a2 < (v_X4_leastValue m a1) then 33 else 25) (L2 := [some (vR 3 0 0), some (vI a1), some (vI a2), none]) (st2 := []) (m1 := m) rfl ?_
    refine an_ifo (c := a2 < (v_X4_leastValue m a1)) (fun h2 => ?_) (fun h2 => ?_)
    · exact an_thr rfl rfl rfl rfl rfl
    · refine an_b 2 (pc2 := 27) (L2 := [some (vR 3 0 0), some (vI a1), some (vI a2), none]) (st2 := [vI a1, vI a2]) (m1 := m) rfl ?_
      refine an_call (r_X4_greatestValue m a1) rfl rfl rfl rfl ?_
      refine an_b 1 (pc2 := if a2 ≤ (v_X4_greatestValue m a1) then 43 else 33) (L2 := [some (vR 3 0 0), some (vI a1), some (vI a2), none]) (st2 := []) (m1 := m) rfl ?_
      refine an_ifo (c := a2 ≤ (v_X4_greatestValue m a1)) (fun h3 => ?_) (fun h3 => ?_)
      · refine an_b 4 (pc2 := 51) (L2 := [some (vR 3 0 0), some (vI a1), some (vI a2), none]) (st2 := [vR 0 0 0, vR 4 0 0]) (m1 := m) rfl ?_
        refine an_call (r_X0_save m 0) rfl rfl rfl rfl ?_
        refine an_b 4 (pc2 := 62) (L2 := [some (vR 3 0 0), some (vI a1), some (vI a2), none]) (st2 := [vI a1, vR 1 10 0]) (m1 := (w_X0_save m 0)) rfl ?_
        refine an_call (r_X1_at (w_X0_save m 0) 10 0 a1) rfl rfl rfl rfl ?_
        refine an_b 6 (pc2 := 75) (L2 := [some (vR 3 0 0), some (vI a1), some (vI a2), some (vI (v_X1_at (w_X0_save m 0) 10 0 a1))]) (st2 := [vI a2, vI a1, vR 1 10 0]) (m1 := (w_X0_save m 0)) rfl ?_
        refine an_call (r_X1_put (w_X0_save m 0) 10 0 a1 a2) rfl rfl rfl rfl ?_
        refine an_b 1 (pc2 := 79) (L2 := [some (vR 3 0 0), some (vI a1), some (vI a2), some (vI (v_X1_at (w_X0_save m 0) 10 0 a1))]) (st2 := [vI (v_X1_at (w_X0_save m 0) 10 0 a1)]) (m1 := (w_X1_put (w_X0_save m 0) 10 0 a1 a2)) rfl ?_
        exact an_ret rfl rfl rfl rfl rfl
      · exact an_thr rfl rfl rfl rfl rfl
  · exact an_thr rfl rfl rfl rfl rfl
def o_X4_append (m : PM) (a1 : Int32) : OC := (if a1 < (33 : Int32) then (.inr 50) else (if a1 ≤ (126 : Int32) then (if (m.1 6 0 0 1) < (60 : Int32) then (.inl (some (vI (v_X3_add m a1)))) else (.inr 58)) else (.inr 50)))
def w_X4_append (m : PM) (a1 : Int32) : PM := (if a1 < (33 : Int32) then m else (if a1 ≤ (126 : Int32) then (if (m.1 6 0 0 1) < (60 : Int32) then (w_X3_add m a1) else m) else m))
set_option maxRecDepth 100000 in
theorem t_X4_append (m : PM) (a1 : Int32) : An MX4_append 0 [some (vR 3 0 0), some (vI a1)] [] m (o_X4_append m a1) (w_X4_append m a1) := by
  unfold o_X4_append w_X4_append
  refine an_b 3 (pc2 := if a1 < (33 : Int32) then 12 else 6) (L2 := [some (vR 3 0 0), some (vI a1)]) (st2 := []) (m1 := m) rfl ?_
  refine an_ifo (c := a1 < (33 : Int32)) (fun h1 => ?_) (fun h1 => ?_)
  · exact an_thr rfl rfl rfl rfl rfl
  · refine an_b 3 (pc2 := if a1 ≤ (126 : Int32) then 22 else 12) (L2 := [some (vR 3 0 0), some (vI a1)]) (st2 := []) (m1 := m) rfl ?_
    refine an_ifo (c := a1 ≤ (126 : Int32)) (fun h2 => ?_) (fun h2 => ?_)
    · refine an_b 5 (pc2 := if (m.1 6 0 0 1) < (60 : Int32) then 44 else 34) (L2 := [some (vR 3 0 0), some (vI a1)]) (st2 := []) (m1 := m) rfl ?_
      refine an_ifo (c := (m.1 6 0 0 1) < (60 : Int32)) (fun h3 => ?_) (fun h3 => ?_)
      · refine an_b 3 (pc2 := 49) (L2 := [some (vR 3 0 0), some (vI a1)]) (st2 := [vI a1, vR 6 0 0]) (m1 := m) rfl ?_
        refine an_call (r_X3_add m a1) rfl rfl rfl rfl ?_
        exact an_ret rfl rfl rfl rfl rfl
      · exact an_thr rfl rfl rfl rfl rfl
    · exact an_thr rfl rfl rfl rfl rfl
def v_X4_carryOut (m : PM) (a1 : Int32) (a2 : Int32) : Int32 := (if ¬ (v_X4_modeOf m (v_X1_at m 11 0 a2)) = 0 then (if (v_X2_isWaiting m 0 ((v_X1_at m 11 0 a1) - (97 : Int32))) = 0 then (1 : Int32) else (0 : Int32)) else (if ¬ (v_X2_canLetGo m 0 ((v_X1_at m 11 0 a1) - (97 : Int32)) (v_X3_numberBetween m a1 a2)) = 0 then (1 : Int32) else (0 : Int32)))
def w_X4_carryOut (m : PM) (a1 : Int32) (a2 : Int32) : PM := (if ¬ (v_X4_modeOf m (v_X1_at m 11 0 a2)) = 0 then (if (v_X2_isWaiting m 0 ((v_X1_at m 11 0 a1) - (97 : Int32))) = 0 then (w_X2_takeAsking m 0 ((v_X1_at m 11 0 a1) - (97 : Int32)) (v_X3_numberBetween m a1 a2) (v_X4_modeOf m (v_X1_at m 11 0 a2))) else m) else (if ¬ (v_X2_canLetGo m 0 ((v_X1_at m 11 0 a1) - (97 : Int32)) (v_X3_numberBetween m a1 a2)) = 0 then (w_X2_letGo m 0 ((v_X1_at m 11 0 a1) - (97 : Int32)) (v_X3_numberBetween m a1 a2)) else m))
set_option maxRecDepth 100000 in
theorem r_X4_carryOut (m : PM) (a1 : Int32) (a2 : Int32) : Rn MX4_carryOut [vR 3 0 0, vI a1, vI a2] m (some (vI (v_X4_carryOut m a1 a2))) (w_X4_carryOut m a1 a2) := by
  refine rn_of [some (vR 3 0 0), some (vI a1), some (vI a2), none, none, none] rfl ?_
  unfold v_X4_carryOut w_X4_carryOut
  refine an_b 4 (pc2 := 8) (L2 := [some (vR 3 0 0), some (vI a1), some (vI a2), none, none, none]) (st2 := [vI a1, vR 1 11 0]) (m1 := m) rfl ?_
  refine an_call (r_X1_at m 11 0 a1) rfl rfl rfl rfl ?_
  refine an_b 7 (pc2 := 21) (L2 := [some (vR 3 0 0), some (vI a1), some (vI a2), some (vI ((v_X1_at m 11 0 a1) - (97 : Int32))), none, none]) (st2 := [vI a2, vI a1, vR 6 0 0]) (m1 := m) rfl ?_
  refine an_call (r_X3_numberBetween m a1 a2) rfl rfl rfl rfl ?_
  refine an_b 5 (pc2 := 34) (L2 := [some (vR 3 0 0), some (vI a1), some (vI a2), some (vI ((v_X1_at m 11 0 a1) - (97 : Int32))), some (vI (v_X3_numberBetween m a1 a2)), none]) (st2 := [vI a2, vR 1 11 0]) (m1 := m) rfl ?_
  refine an_call (r_X1_at m 11 0 a2) rfl rfl rfl rfl ?_
  refine an_call (r_X4_modeOf m (v_X1_at m 11 0 a2)) rfl rfl rfl rfl ?_
  refine an_b 3 (pc2 := if ¬ (v_X4_modeOf m (v_X1_at m 11 0 a2)) = 0 then 75 else 47) (L2 := [some (vR 3 0 0), some (vI a1), some (vI a2), some (vI ((v_X1_at m 11 0 a1) - (97 : Int32))), some (vI (v_X3_numberBetween m a1 a2)), some (vI (v_X4_modeOf m (v_X1_at m 11 0 a2)))]) (st2 := []) (m1 := m) rfl ?_
  refine an_ifim (c := ¬ (v_X4_modeOf m (v_X1_at m 11 0 a2)) = 0) (fun h1 => ?_) (fun h1 => ?_)
  · refine an_b 3 (pc2 := 80) (L2 := [some (vR 3 0 0), some (vI a1), some (vI a2), some (vI ((v_X1_at m 11 0 a1) - (97 : Int32))), some (vI (v_X3_numberBetween m a1 a2)), some (vI (v_X4_modeOf m (v_X1_at m 11 0 a2)))]) (st2 := [vI ((v_X1_at m 11 0 a1) - (97 : Int32)), vR 0 0 0]) (m1 := m) rfl ?_
    refine an_call (r_X2_isWaiting m 0 ((v_X1_at m 11 0 a1) - (97 : Int32))) rfl rfl rfl rfl ?_
    refine an_b 1 (pc2 := if (v_X2_isWaiting m 0 ((v_X1_at m 11 0 a1) - (97 : Int32))) = 0 then 88 else 86) (L2 := [some (vR 3 0 0), some (vI a1), some (vI a2), some (vI ((v_X1_at m 11 0 a1) - (97 : Int32))), some (vI (v_X3_numberBetween m a1 a2)), some (vI (v_X4_modeOf m (v_X1_at m 11 0 a2)))]) (st2 := []) (m1 := m) rfl ?_
    refine an_ifim (c := (v_X2_isWaiting m 0 ((v_X1_at m 11 0 a1) - (97 : Int32))) = 0) (fun h2 => ?_) (fun h2 => ?_)
    · refine an_b 5 (pc2 := 97) (L2 := [some (vR 3 0 0), some (vI a1), some (vI a2), some (vI ((v_X1_at m 11 0 a1) - (97 : Int32))), some (vI (v_X3_numberBetween m a1 a2)), some (vI (v_X4_modeOf m (v_X1_at m 11 0 a2)))]) (st2 := [vI (v_X4_modeOf m (v_X1_at m 11 0 a2)), vI (v_X3_numberBetween m a1 a2), vI ((v_X1_at m 11 0 a1) - (97 : Int32)), vR 0 0 0]) (m1 := m) rfl ?_
      refine an_call (r_X2_takeAsking m 0 ((v_X1_at m 11 0 a1) - (97 : Int32)) (v_X3_numberBetween m a1 a2) (v_X4_modeOf m (v_X1_at m 11 0 a2))) rfl rfl rfl rfl ?_
      refine an_b 2 (pc2 := 102) (L2 := [some (vR 3 0 0), some (vI a1), some (vI a2), some (vI ((v_X1_at m 11 0 a1) - (97 : Int32))), some (vI (v_X3_numberBetween m a1 a2)), some (vI (v_X4_modeOf m (v_X1_at m 11 0 a2)))]) (st2 := [vI (1 : Int32)]) (m1 := (w_X2_takeAsking m 0 ((v_X1_at m 11 0 a1) - (97 : Int32)) (v_X3_numberBetween m a1 a2) (v_X4_modeOf m (v_X1_at m 11 0 a2)))) rfl ?_
      exact an_ret rfl rfl rfl rfl rfl
    · refine an_b 1 (pc2 := 87) (L2 := [some (vR 3 0 0), some (vI a1), some (vI a2), some (vI ((v_X1_at m 11 0 a1) - (97 : Int32))), some (vI (v_X3_numberBetween m a1 a2)), some (vI (v_X4_modeOf m (v_X1_at m 11 0 a2)))]) (st2 := [vI (0 : Int32)]) (m1 := m) rfl ?_
      exact an_ret rfl rfl rfl rfl rfl
  · refine an_b 4 (pc2 := 54) (L2 := [some (vR 3 0 0), some (vI a1), some (vI a2), some (vI ((v_X1_at m 11 0 a1) - (97 : Int32))), some (vI (v_X3_numberBetween m a1 a2)), some (vI (v_X4_modeOf m (v_X1_at m 11 0 a2)))]) (st2 := [vI (v_X3_numberBetween m a1 a2), vI ((v_X1_at m 11 0 a1) - (97 : Int32)), vR 0 0 0]) (m1 := m) rfl ?_
    refine an_call (r_X2_canLetGo m 0 ((v_X1_at m 11 0 a1) - (97 : Int32)) (v_X3_numberBetween m a1 a2)) rfl rfl rfl rfl ?_
    refine an_b 1 (pc2 := if ¬ (v_X2_canLetGo m 0 ((v_X1_at m 11 0 a1) - (97 : Int32)) (v_X3_numberBetween m a1 a2)) = 0 then 62 else 60) (L2 := [some (vR 3 0 0), some (vI a1), some (vI a2), some (vI ((v_X1_at m 11 0 a1) - (97 : Int32))), some (vI (v_X3_numberBetween m a1 a2)), some (vI (v_X4_modeOf m (v_X1_at m 11 0 a2)))]) (st2 := []) (m1 := m) rfl ?_
    refine an_ifim (c := ¬ (v_X2_canLetGo m 0 ((v_X1_at m 11 0 a1) - (97 : Int32)) (v_X3_numberBetween m a1 a2)) = 0) (fun h3 => ?_) (fun h3 => ?_)
    · refine an_b 4 (pc2 := 69) (L2 := [some (vR 3 0 0), some (vI a1), some (vI a2), some (vI ((v_X1_at m 11 0 a1) - (97 : Int32))), some (vI (v_X3_numberBetween m a1 a2)), some (vI (v_X4_modeOf m (v_X1_at m 11 0 a2)))]) (st2 := [vI (v_X3_numberBetween m a1 a2), vI ((v_X1_at m 11 0 a1) - (97 : Int32)), vR 0 0 0]) (m1 := m) rfl ?_
      refine an_call (r_X2_letGo m 0 ((v_X1_at m 11 0 a1) - (97 : Int32)) (v_X3_numberBetween m a1 a2)) rfl rfl rfl rfl ?_
      refine an_b 2 (pc2 := 74) (L2 := [some (vR 3 0 0), some (vI a1), some (vI a2), some (vI ((v_X1_at m 11 0 a1) - (97 : Int32))), some (vI (v_X3_numberBetween m a1 a2)), some (vI (v_X4_modeOf m (v_X1_at m 11 0 a2)))]) (st2 := [vI (1 : Int32)]) (m1 := (w_X2_letGo m 0 ((v_X1_at m 11 0 a1) - (97 : Int32)) (v_X3_numberBetween m a1 a2))) rfl ?_
      exact an_ret rfl rfl rfl rfl rfl
    · refine an_b 1 (pc2 := 61) (L2 := [some (vR 3 0 0), some (vI a1), some (vI a2), some (vI ((v_X1_at m 11 0 a1) - (97 : Int32))), some (vI (v_X3_numberBetween m a1 a2)), some (vI (v_X4_modeOf m (v_X1_at m 11 0 a2)))]) (st2 := [vI (0 : Int32)]) (m1 := m) rfl ?_
      exact an_ret rfl rfl rfl rfl rfl
def b_X4_run_1 (m : PM)   (j1 : Nat) (s1 : Int32 × Int32 × PM) : (Int32 × Int32 × PM) ⊕ (Int32 × Int32 × PM) := if (s1.2.2.1 6 0 0 1) ≤ s1.2.1 then .inr (s1.1, s1.2.1, s1.2.2) else if ¬ (v_X4_carryOut s1.2.2 s1.2.1 (v_X3_deedFrom s1.2.2 s1.2.1)) = 0 then .inl (s1.1 + (1 : Int32), ((v_X3_deedFrom s1.2.2 s1.2.1) + (2 : Int32)), (w_X4_carryOut s1.2.2 s1.2.1 (v_X3_deedFrom s1.2.2 s1.2.1))) else .inr (s1.1, s1.2.1, (w_X4_carryOut s1.2.2 s1.2.1 (v_X3_deedFrom s1.2.2 s1.2.1)))
def o_X4_run (m : PM)  : OC := (if ¬ (v_X3_isComplete m) = 0 then (.inl (some (vI ((lqv (lq (b_X4_run_1 m) 60 0 ((0 : Int32), (0 : Int32), (w_X0_save m 0)))).1)))) else (.inr 50))
def w_X4_run (m : PM)  : PM := (if ¬ (v_X3_isComplete m) = 0 then (w_X3_empty ((lqv (lq (b_X4_run_1 m) 60 0 ((0 : Int32), (0 : Int32), (w_X0_save m 0)))).2.2)) else m)
set_option maxRecDepth 100000 in
theorem t_X4_run (m : PM)  : An MX4_run 0 [some (vR 3 0 0), none, none, none, none] [] m (o_X4_run m) (w_X4_run m) := by
  unfold o_X4_run w_X4_run
  refine an_b 2 (pc2 := 4) (L2 := [some (vR 3 0 0), none, none, none, none]) (st2 := [vR 6 0 0]) (m1 := m) rfl ?_
  refine an_call (r_X3_isComplete m) rfl rfl rfl rfl ?_
  refine an_b 1 (pc2 := if ¬ (v_X3_isComplete m) = 0 then 20 else 10) (L2 := [some (vR 3 0 0), none, none, none, none]) (st2 := []) (m1 := m) rfl ?_
  refine an_ifo (c := ¬ (v_X3_isComplete m) = 0) (fun h1 => ?_) (fun h1 => ?_)
  · refine an_b 4 (pc2 := 28) (L2 := [some (vR 3 0 0), none, none, none, none]) (st2 := [vR 0 0 0, vR 4 0 0]) (m1 := m) rfl ?_
    refine an_call (r_X0_save m 0) rfl rfl rfl rfl ?_
    refine an_b 6 (pc2 := 37) (L2 := [some (vR 3 0 0), some (vI (0 : Int32)), some (vI (0 : Int32)), some (vI (0 : Int32)), none]) (st2 := []) (m1 := (w_X0_save m 0)) rfl ?_
    refine re_lq (σ := Int32 × Int32 × PM) (ρ := Int32 × Int32 × PM) (b_X4_run_1 m) (fun j1 s1 => (37, [some (vR 3 0 0), some (vI s1.1), some (vI s1.2.1), some (vI (nI j1)), none], [], s1.2.2)) 60 (fun x9 => (91, [some (vR 3 0 0), some (vI ((lqv x9).1)), none, none, none], [], (lqv x9).2.2)) (fun j1 s1 hj1 v9 m9 hc1 hr1 => ?_) (fun s1 v9 m9 K1 => ?_) 60 0 ((0 : Int32), (0 : Int32), (w_X0_save m 0)) (Nat.add_zero _) _ _ ?_
    · show An MX4_run 37 [some (vR 3 0 0), some (vI s1.1), some (vI s1.2.1), some (vI (nI j1)), none] [] s1.2.2 v9 m9
      refine an_b 3 (pc2 := if (60 : Int32) ≤ (nI j1) then 91 else 43) (L2 := [some (vR 3 0 0), some (vI s1.1), some (vI s1.2.1), some (vI (nI j1)), none]) (st2 := []) (m1 := s1.2.2) rfl ?_
      refine an_f (nI_ge (a := j1) (b := 60) (by omega) (by omega)) ?_
      refine an_b 5 (pc2 := if (s1.2.2.1 6 0 0 1) ≤ s1.2.1 then 91 else 54) (L2 := [some (vR 3 0 0), some (vI s1.1), some (vI s1.2.1), some (vI (nI j1)), none]) (st2 := []) (m1 := s1.2.2) rfl ?_
      refine an_if (c := (s1.2.2.1 6 0 0 1) ≤ s1.2.1) (fun h2 => ?_) (fun h2 => ?_)
      · refine an_weak (L := [some (vR 3 0 0), some (vI s1.1), none, none, none]) (⟨rfl, rfl, trivial⟩) ?_
        exact hr1 _ (by unfold b_X4_run_1; rw [if_pos h2])
      · refine an_b 3 (pc2 := 59) (L2 := [some (vR 3 0 0), some (vI s1.1), some (vI s1.2.1), some (vI (nI j1)), none]) (st2 := [vI s1.2.1, vR 6 0 0]) (m1 := s1.2.2) rfl ?_
        refine an_call (r_X3_deedFrom s1.2.2 s1.2.1) rfl rfl rfl rfl ?_
        refine an_b 4 (pc2 := 68) (L2 := [some (vR 3 0 0), some (vI s1.1), some (vI s1.2.1), some (vI (nI j1)), some (vI (v_X3_deedFrom s1.2.2 s1.2.1))]) (st2 := [vI (v_X3_deedFrom s1.2.2 s1.2.1), vI s1.2.1, vR 3 0 0]) (m1 := s1.2.2) rfl ?_
        refine an_call (r_X4_carryOut s1.2.2 s1.2.1 (v_X3_deedFrom s1.2.2 s1.2.1)) rfl rfl rfl rfl ?_
        refine an_b 1 (pc2 := if ¬ (v_X4_carryOut s1.2.2 s1.2.1 (v_X3_deedFrom s1.2.2 s1.2.1)) = 0 then 77 else 74) (L2 := [some (vR 3 0 0), some (vI s1.1), some (vI s1.2.1), some (vI (nI j1)), some (vI (v_X3_deedFrom s1.2.2 s1.2.1))]) (st2 := []) (m1 := (w_X4_carryOut s1.2.2 s1.2.1 (v_X3_deedFrom s1.2.2 s1.2.1))) rfl ?_
        refine an_if (c := ¬ (v_X4_carryOut s1.2.2 s1.2.1 (v_X3_deedFrom s1.2.2 s1.2.1)) = 0) (fun h3 => ?_) (fun h3 => ?_)
        · refine an_b 7 (pc2 := 37) (L2 := [some (vR 3 0 0), some (vI (s1.1 + (1 : Int32))), some (vI ((v_X3_deedFrom s1.2.2 s1.2.1) + (2 : Int32))), some (vI ((nI j1) + (1 : Int32))), some (vI (v_X3_deedFrom s1.2.2 s1.2.1))]) (st2 := []) (m1 := (w_X4_carryOut s1.2.2 s1.2.1 (v_X3_deedFrom s1.2.2 s1.2.1))) rfl ?_
          refine an_weak (L := [some (vR 3 0 0), some (vI (s1.1 + (1 : Int32))), some (vI ((v_X3_deedFrom s1.2.2 s1.2.1) + (2 : Int32))), some (vI ((nI j1) + (1 : Int32))), none]) (⟨rfl, rfl, rfl, rfl, trivial⟩) ?_
          refine an_cL (K := [some (vR 3 0 0), some (vI (s1.1 + (1 : Int32))), some (vI ((v_X3_deedFrom s1.2.2 s1.2.1) + (2 : Int32))), some (vI (nI (j1 + 1))), none]) (by simp only [nI_1]) ?_
          exact hc1 _ (by unfold b_X4_run_1; rw [if_neg h2, if_pos h3])
        · refine an_b 1 (pc2 := 91) (L2 := [some (vR 3 0 0), some (vI s1.1), some (vI s1.2.1), some (vI (nI j1)), some (vI (v_X3_deedFrom s1.2.2 s1.2.1))]) (st2 := []) (m1 := (w_X4_carryOut s1.2.2 s1.2.1 (v_X3_deedFrom s1.2.2 s1.2.1))) rfl ?_
          refine an_weak (L := [some (vR 3 0 0), some (vI s1.1), none, none, none]) (⟨rfl, rfl, trivial⟩) ?_
          exact hr1 _ (by unfold b_X4_run_1; rw [if_neg h2, if_neg h3])
    · show An MX4_run 37 [some (vR 3 0 0), some (vI s1.1), some (vI s1.2.1), some (vI (nI 60)), none] [] s1.2.2 v9 m9
      refine an_b 3 (pc2 := if (60 : Int32) ≤ (nI 60) then 91 else 43) (L2 := [some (vR 3 0 0), some (vI s1.1), some (vI s1.2.1), some (vI (nI 60)), none]) (st2 := []) (m1 := s1.2.2) rfl ?_
      refine an_t (nI_le (a := 60) (b := 60) (by omega) (by omega)) ?_
      refine an_weak (L := [some (vR 3 0 0), some (vI s1.1), none, none, none]) (⟨rfl, rfl, trivial⟩) ?_
      exact K1
    show An MX4_run 91 [some (vR 3 0 0), some (vI ((lqv (lq (b_X4_run_1 m) 60 0 ((0 : Int32), (0 : Int32), (w_X0_save m 0)))).1)), none, none, none] [] (lqv (lq (b_X4_run_1 m) 60 0 ((0 : Int32), (0 : Int32), (w_X0_save m 0)))).2.2 _ _
    refine an_b 2 (pc2 := 95) (L2 := [some (vR 3 0 0), some (vI ((lqv (lq (b_X4_run_1 m) 60 0 ((0 : Int32), (0 : Int32), (w_X0_save m 0)))).1)), none, none, none]) (st2 := [vR 6 0 0]) (m1 := (lqv (lq (b_X4_run_1 m) 60 0 ((0 : Int32), (0 : Int32), (w_X0_save m 0)))).2.2) rfl ?_
    refine an_call (r_X3_empty ((lqv (lq (b_X4_run_1 m) 60 0 ((0 : Int32), (0 : Int32), (w_X0_save m 0)))).2.2)) rfl rfl rfl rfl ?_
    refine an_b 2 (pc2 := 100) (L2 := [some (vR 3 0 0), some (vI ((lqv (lq (b_X4_run_1 m) 60 0 ((0 : Int32), (0 : Int32), (w_X0_save m 0)))).1)), none, none, none]) (st2 := [vI ((lqv (lq (b_X4_run_1 m) 60 0 ((0 : Int32), (0 : Int32), (w_X0_save m 0)))).1)]) (m1 := (w_X3_empty ((lqv (lq (b_X4_run_1 m) 60 0 ((0 : Int32), (0 : Int32), (w_X0_save m 0)))).2.2))) rfl ?_
    exact an_ret rfl rfl rfl rfl rfl
  · exact an_thr rfl rfl rfl rfl rfl
def o_X4_undo (m : PM)  : OC := (if ¬ (m.1 4 0 0 2) = 0 then (.inl (some (vI (v_X0_restore m 0)))) else (.inr 58))
def w_X4_undo (m : PM)  : PM := (if ¬ (m.1 4 0 0 2) = 0 then (w_X0_restore m 0) else m)
set_option maxRecDepth 100000 in
theorem t_X4_undo (m : PM)  : An MX4_undo 0 [some (vR 3 0 0)] [] m (o_X4_undo m) (w_X4_undo m) := by
  unfold o_X4_undo w_X4_undo
  refine an_b 4 (pc2 := if ¬ (m.1 4 0 0 2) = 0 then 20 else 10) (L2 := [some (vR 3 0 0)]) (st2 := []) (m1 := m) rfl ?_
  refine an_ifo (c := ¬ (m.1 4 0 0 2) = 0) (fun h1 => ?_) (fun h1 => ?_)
  · refine an_b 4 (pc2 := 28) (L2 := [some (vR 3 0 0)]) (st2 := [vR 0 0 0, vR 4 0 0]) (m1 := m) rfl ?_
    refine an_call (r_X0_restore m 0) rfl rfl rfl rfl ?_
    exact an_ret rfl rfl rfl rfl rfl
  · exact an_thr rfl rfl rfl rfl rfl
def o_X4_lock (m : PM) (a1 : Int32) (a2 : Int32) : OC := (if (v_X4_isHand m a1) = 0 then (.inr 40) else (if ¬ (v_X4_isRow m a2) = 0 then (.inl (some (vI (v_X1_at m 0 0 (v_X4_cell m a1 a2))))) else (.inr 40)))
set_option maxRecDepth 100000 in
theorem t_X4_lock (m : PM) (a1 : Int32) (a2 : Int32) : An MX4_lock 0 [some (vR 3 0 0), some (vI a1), some (vI a2)] [] m (o_X4_lock m a1 a2) m := by
  unfold o_X4_lock
  refine an_b 1 (pc2 := 1) (L2 := [some (vR 3 0 0), some (vI a1), some (vI a2)]) (st2 := [vI a1]) (m1 := m) rfl ?_
  refine an_call (r_X4_isHand m a1) rfl rfl rfl rfl ?_
  refine an_b 1 (pc2 := if (v_X4_isHand m a1) = 0 then 14 else 7) (L2 := [some (vR 3 0 0), some (vI a1), some (vI a2)]) (st2 := []) (m1 := m) rfl ?_
  refine an_ifp (c := (v_X4_isHand m a1) = 0) (fun h1 => ?_) (fun h1 => ?_)
  · exact an_thr rfl rfl rfl rfl rfl
  · refine an_b 1 (pc2 := 8) (L2 := [some (vR 3 0 0), some (vI a1), some (vI a2)]) (st2 := [vI a2]) (m1 := m) rfl ?_
    refine an_call (r_X4_isRow m a2) rfl rfl rfl rfl ?_
    refine an_b 1 (pc2 := if ¬ (v_X4_isRow m a2) = 0 then 24 else 14) (L2 := [some (vR 3 0 0), some (vI a1), some (vI a2)]) (st2 := []) (m1 := m) rfl ?_
    refine an_ifp (c := ¬ (v_X4_isRow m a2) = 0) (fun h2 => ?_) (fun h2 => ?_)
    · refine an_b 5 (pc2 := 33) (L2 := [some (vR 3 0 0), some (vI a1), some (vI a2)]) (st2 := [vI a2, vI a1, vR 1 0 0]) (m1 := m) rfl ?_
      refine an_call (r_X4_cell m a1 a2) rfl rfl rfl rfl ?_
      refine an_call (r_X1_at m 0 0 (v_X4_cell m a1 a2)) rfl rfl rfl rfl ?_
      exact an_ret rfl rfl rfl rfl rfl
    · exact an_thr rfl rfl rfl rfl rfl
def o_X4_hand (m : PM) (a1 : Int32) (a2 : Int32) : OC := (if ¬ (v_X4_isHand m a1) = 0 then (if a2 < 0 then (.inr 50) else (if a2 < (9 : Int32) then (.inl (some (vI (v_X2_handPart m 0 a1 a2)))) else (.inr 50))) else (.inr 40))
set_option maxRecDepth 100000 in
theorem t_X4_hand (m : PM) (a1 : Int32) (a2 : Int32) : An MX4_hand 0 [some (vR 3 0 0), some (vI a1), some (vI a2)] [] m (o_X4_hand m a1 a2) m := by
  unfold o_X4_hand
  refine an_b 1 (pc2 := 1) (L2 := [some (vR 3 0 0), some (vI a1), some (vI a2)]) (st2 := [vI a1]) (m1 := m) rfl ?_
  refine an_call (r_X4_isHand m a1) rfl rfl rfl rfl ?_
  refine an_b 1 (pc2 := if ¬ (v_X4_isHand m a1) = 0 then 17 else 7) (L2 := [some (vR 3 0 0), some (vI a1), some (vI a2)]) (st2 := []) (m1 := m) rfl ?_
  refine an_ifp (c := ¬ (v_X4_isHand m a1) = 0) (fun h1 => ?_) (fun h1 => ?_)
  · refine an_b 2 (pc2 := if a2 < 0 then 27 else 21) (L2 := [some (vR 3 0 0), some (vI a1), some (vI a2)]) (st2 := []) (m1 := m) rfl ?_
    refine an_ifp (c := a2 < 0) (fun h2 => ?_) (fun h2 => ?_)
    · exact an_thr rfl rfl rfl rfl rfl
    · refine an_b 3 (pc2 := if a2 < (9 : Int32) then 37 else 27) (L2 := [some (vR 3 0 0), some (vI a1), some (vI a2)]) (st2 := []) (m1 := m) rfl ?_
      refine an_ifp (c := a2 < (9 : Int32)) (fun h3 => ?_) (fun h3 => ?_)
      · refine an_b 4 (pc2 := 43) (L2 := [some (vR 3 0 0), some (vI a1), some (vI a2)]) (st2 := [vI a2, vI a1, vR 0 0 0]) (m1 := m) rfl ?_
        refine an_call (r_X2_handPart m 0 a1 a2) rfl rfl rfl rfl ?_
        exact an_ret rfl rfl rfl rfl rfl
      · exact an_thr rfl rfl rfl rfl rfl
  · exact an_thr rfl rfl rfl rfl rfl
def o_X4_row (m : PM) (a1 : Int32) (a2 : Int32) : OC := (if ¬ (v_X4_isRow m a1) = 0 then (if a2 < 0 then (.inr 50) else (if a2 < (6 : Int32) then (.inl (some (vI (v_X2_rowPart m 0 a1 a2)))) else (.inr 50))) else (.inr 40))
set_option maxRecDepth 100000 in
theorem t_X4_row (m : PM) (a1 : Int32) (a2 : Int32) : An MX4_row 0 [some (vR 3 0 0), some (vI a1), some (vI a2)] [] m (o_X4_row m a1 a2) m := by
  unfold o_X4_row
  refine an_b 1 (pc2 := 1) (L2 := [some (vR 3 0 0), some (vI a1), some (vI a2)]) (st2 := [vI a1]) (m1 := m) rfl ?_
  refine an_call (r_X4_isRow m a1) rfl rfl rfl rfl ?_
  refine an_b 1 (pc2 := if ¬ (v_X4_isRow m a1) = 0 then 17 else 7) (L2 := [some (vR 3 0 0), some (vI a1), some (vI a2)]) (st2 := []) (m1 := m) rfl ?_
  refine an_ifp (c := ¬ (v_X4_isRow m a1) = 0) (fun h1 => ?_) (fun h1 => ?_)
  · refine an_b 2 (pc2 := if a2 < 0 then 27 else 21) (L2 := [some (vR 3 0 0), some (vI a1), some (vI a2)]) (st2 := []) (m1 := m) rfl ?_
    refine an_ifp (c := a2 < 0) (fun h2 => ?_) (fun h2 => ?_)
    · exact an_thr rfl rfl rfl rfl rfl
    · refine an_b 3 (pc2 := if a2 < (6 : Int32) then 37 else 27) (L2 := [some (vR 3 0 0), some (vI a1), some (vI a2)]) (st2 := []) (m1 := m) rfl ?_
      refine an_ifp (c := a2 < (6 : Int32)) (fun h3 => ?_) (fun h3 => ?_)
      · refine an_b 4 (pc2 := 43) (L2 := [some (vR 3 0 0), some (vI a1), some (vI a2)]) (st2 := [vI a2, vI a1, vR 0 0 0]) (m1 := m) rfl ?_
        refine an_call (r_X2_rowPart m 0 a1 a2) rfl rfl rfl rfl ?_
        exact an_ret rfl rfl rfl rfl rfl
      · exact an_thr rfl rfl rfl rfl rfl
  · exact an_thr rfl rfl rfl rfl rfl
def o_X4_request (m : PM) (a1 : Int32) (a2 : Int32) (a3 : Int32) : OC := (if ¬ (v_X4_isRow m a1) = 0 then (if a2 < 0 then (.inr 50) else (if (8 : Int32) ≤ a2 then (.inr 50) else (if a3 < 0 then (.inr 50) else (if a3 < (2 : Int32) then (.inl (some (vI (v_X2_requestPart m 0 a1 a2 a3)))) else (.inr 50))))) else (.inr 40))
set_option maxRecDepth 100000 in
theorem t_X4_request (m : PM) (a1 : Int32) (a2 : Int32) (a3 : Int32) : An MX4_request 0 [some (vR 3 0 0), some (vI a1), some (vI a2), some (vI a3)] [] m (o_X4_request m a1 a2 a3) m := by
  unfold o_X4_request
  refine an_b 1 (pc2 := 1) (L2 := [some (vR 3 0 0), some (vI a1), some (vI a2), some (vI a3)]) (st2 := [vI a1]) (m1 := m) rfl ?_
  refine an_call (r_X4_isRow m a1) rfl rfl rfl rfl ?_
  refine an_b 1 (pc2 := if ¬ (v_X4_isRow m a1) = 0 then 17 else 7) (L2 := [some (vR 3 0 0), some (vI a1), some (vI a2), some (vI a3)]) (st2 := []) (m1 := m) rfl ?_
  refine an_ifp (c := ¬ (v_X4_isRow m a1) = 0) (fun h1 => ?_) (fun h1 => ?_)
  · refine an_b 2 (pc2 := if a2 < 0 then 36 else 21) (L2 := [some (vR 3 0 0), some (vI a1), some (vI a2), some (vI a3)]) (st2 := []) (m1 := m) rfl ?_
    refine an_ifp (c := a2 < 0) (fun h2 => ?_) (fun h2 => ?_)
    · exact an_thr rfl rfl rfl rfl rfl
    · refine an_b 3 (pc2 := if (8 : Int32) ≤ a2 then 36 else 27) (L2 := [some (vR 3 0 0), some (vI a1), some (vI a2), some (vI a3)]) (st2 := []) (m1 := m) rfl ?_
      refine an_ifp (c := (8 : Int32) ≤ a2) (fun h3 => ?_) (fun h3 => ?_)
      · exact an_thr rfl rfl rfl rfl rfl
      · refine an_b 2 (pc2 := if a3 < 0 then 36 else 31) (L2 := [some (vR 3 0 0), some (vI a1), some (vI a2), some (vI a3)]) (st2 := []) (m1 := m) rfl ?_
        refine an_ifp (c := a3 < 0) (fun h4 => ?_) (fun h4 => ?_)
        · exact an_thr rfl rfl rfl rfl rfl
        · refine an_b 3 (pc2 := if a3 < (2 : Int32) then 46 else 36) (L2 := [some (vR 3 0 0), some (vI a1), some (vI a2), some (vI a3)]) (st2 := []) (m1 := m) rfl ?_
          refine an_ifp (c := a3 < (2 : Int32)) (fun h5 => ?_) (fun h5 => ?_)
          · refine an_b 5 (pc2 := 53) (L2 := [some (vR 3 0 0), some (vI a1), some (vI a2), some (vI a3)]) (st2 := [vI a3, vI a2, vI a1, vR 0 0 0]) (m1 := m) rfl ?_
            refine an_call (r_X2_requestPart m 0 a1 a2 a3) rfl rfl rfl rfl ?_
            exact an_ret rfl rfl rfl rfl rfl
          · exact an_thr rfl rfl rfl rfl rfl
  · exact an_thr rfl rfl rfl rfl rfl
def o_X4_count (m : PM) (a1 : Int32) : OC := (if a1 < 0 then (.inr 50) else (if a1 < (10 : Int32) then (.inl (some (vI (v_X4_numberOf m a1)))) else (.inr 50)))
set_option maxRecDepth 100000 in
theorem t_X4_count (m : PM) (a1 : Int32) : An MX4_count 0 [some (vR 3 0 0), some (vI a1)] [] m (o_X4_count m a1) m := by
  unfold o_X4_count
  refine an_b 2 (pc2 := if a1 < 0 then 10 else 4) (L2 := [some (vR 3 0 0), some (vI a1)]) (st2 := []) (m1 := m) rfl ?_
  refine an_ifp (c := a1 < 0) (fun h1 => ?_) (fun h1 => ?_)
  · exact an_thr rfl rfl rfl rfl rfl
  · refine an_b 3 (pc2 := if a1 < (10 : Int32) then 20 else 10) (L2 := [some (vR 3 0 0), some (vI a1)]) (st2 := []) (m1 := m) rfl ?_
    refine an_ifp (c := a1 < (10 : Int32)) (fun h2 => ?_) (fun h2 => ?_)
    · refine an_b 2 (pc2 := 22) (L2 := [some (vR 3 0 0), some (vI a1)]) (st2 := [vI a1, vR 3 0 0]) (m1 := m) rfl ?_
      refine an_call (r_X4_numberOf m a1) rfl rfl rfl rfl ?_
      exact an_ret rfl rfl rfl rfl rfl
    · exact an_thr rfl rfl rfl rfl rfl
def o_X4_setting (m : PM) (a1 : Int32) : OC := (if ¬ (v_X4_isSetting m a1) = 0 then (.inl (some (vI (v_X1_at m 10 0 a1)))) else (.inr 40))
set_option maxRecDepth 100000 in
theorem t_X4_setting (m : PM) (a1 : Int32) : An MX4_setting 0 [some (vR 3 0 0), some (vI a1)] [] m (o_X4_setting m a1) m := by
  unfold o_X4_setting
  refine an_b 1 (pc2 := 1) (L2 := [some (vR 3 0 0), some (vI a1)]) (st2 := [vI a1]) (m1 := m) rfl ?_
  refine an_call (r_X4_isSetting m a1) rfl rfl rfl rfl ?_
  refine an_b 1 (pc2 := if ¬ (v_X4_isSetting m a1) = 0 then 17 else 7) (L2 := [some (vR 3 0 0), some (vI a1)]) (st2 := []) (m1 := m) rfl ?_
  refine an_ifp (c := ¬ (v_X4_isSetting m a1) = 0) (fun h1 => ?_) (fun h1 => ?_)
  · refine an_b 4 (pc2 := 25) (L2 := [some (vR 3 0 0), some (vI a1)]) (st2 := [vI a1, vR 1 10 0]) (m1 := m) rfl ?_
    refine an_call (r_X1_at m 10 0 a1) rfl rfl rfl rfl ?_
    exact an_ret rfl rfl rfl rfl rfl
  · exact an_thr rfl rfl rfl rfl rfl
def o_X4_ifAsked (m : PM) (a1 : Int32) (a2 : Int32) (a3 : Int32) (a4 : Int32) : OC := (if (v_X4_isHand m a1) = 0 then (.inr 40) else (if ¬ (v_X4_isRow m a2) = 0 then (if (v_X4_isMode m a3) = 0 then (.inr 50) else (if a4 < 0 then (.inr 50) else (if a4 < (3 : Int32) then (.inl (some (vI (v_X4_trialPart (w_X4_tryAsking m a1 a2 a3) (v_X4_tryAsking m a1 a2 a3) a4)))) else (.inr 50)))) else (.inr 40)))
def w_X4_ifAsked (m : PM) (a1 : Int32) (a2 : Int32) (a3 : Int32) (a4 : Int32) : PM := (if (v_X4_isHand m a1) = 0 then m else (if ¬ (v_X4_isRow m a2) = 0 then (if (v_X4_isMode m a3) = 0 then m else (if a4 < 0 then m else (if a4 < (3 : Int32) then (w_X4_tryAsking m a1 a2 a3) else m))) else m))
set_option maxRecDepth 100000 in
theorem t_X4_ifAsked (m : PM) (a1 : Int32) (a2 : Int32) (a3 : Int32) (a4 : Int32) : An MX4_ifAsked 0 [some (vR 3 0 0), some (vI a1), some (vI a2), some (vI a3), some (vI a4)] [] m (o_X4_ifAsked m a1 a2 a3 a4) (w_X4_ifAsked m a1 a2 a3 a4) := by
  unfold o_X4_ifAsked w_X4_ifAsked
  refine an_b 1 (pc2 := 1) (L2 := [some (vR 3 0 0), some (vI a1), some (vI a2), some (vI a3), some (vI a4)]) (st2 := [vI a1]) (m1 := m) rfl ?_
  refine an_call (r_X4_isHand m a1) rfl rfl rfl rfl ?_
  refine an_b 1 (pc2 := if (v_X4_isHand m a1) = 0 then 14 else 7) (L2 := [some (vR 3 0 0), some (vI a1), some (vI a2), some (vI a3), some (vI a4)]) (st2 := []) (m1 := m) rfl ?_
  refine an_ifo (c := (v_X4_isHand m a1) = 0) (fun h1 => ?_) (fun h1 => ?_)
  · exact an_thr rfl rfl rfl rfl rfl
  · refine an_b 1 (pc2 := 8) (L2 := [some (vR 3 0 0), some (vI a1), some (vI a2), some (vI a3), some (vI a4)]) (st2 := [vI a2]) (m1 := m) rfl ?_
    refine an_call (r_X4_isRow m a2) rfl rfl rfl rfl ?_
    refine an_b 1 (pc2 := if ¬ (v_X4_isRow m a2) = 0 then 24 else 14) (L2 := [some (vR 3 0 0), some (vI a1), some (vI a2), some (vI a3), some (vI a4)]) (st2 := []) (m1 := m) rfl ?_
    refine an_ifo (c := ¬ (v_X4_isRow m a2) = 0) (fun h2 => ?_) (fun h2 => ?_)
    · refine an_b 1 (pc2 := 25) (L2 := [some (vR 3 0 0), some (vI a1), some (vI a2), some (vI a3), some (vI a4)]) (st2 := [vI a3]) (m1 := m) rfl ?_
      refine an_call (r_X4_isMode m a3) rfl rfl rfl rfl ?_
      refine an_b 1 (pc2 := if (v_X4_isMode m a3) = 0 then 42 else 31) (L2 := [some (vR 3 0 0), some (vI a1), some (vI a2), some (vI a3), some (vI a4)]) (st2 := []) (m1 := m) rfl ?_
      refine an_ifo (c := (v_X4_isMode m a3) = 0) (fun h3 => ?_) (fun h3 => ?_)
      · exact an_thr rfl rfl rfl rfl rfl
      · refine an_b 2 (pc2 := if a4 < 0 then 42 else 36) (L2 := [some (vR 3 0 0), some (vI a1), some (vI a2), some (vI a3), some (vI a4)]) (st2 := []) (m1 := m) rfl ?_
        refine an_ifo (c := a4 < 0) (fun h4 => ?_) (fun h4 => ?_)
        · exact an_thr rfl rfl rfl rfl rfl
        · refine an_b 3 (pc2 := if a4 < (3 : Int32) then 52 else 42) (L2 := [some (vR 3 0 0), some (vI a1), some (vI a2), some (vI a3), some (vI a4)]) (st2 := []) (m1 := m) rfl ?_
          refine an_ifo (c := a4 < (3 : Int32)) (fun h5 => ?_) (fun h5 => ?_)
          · refine an_b 5 (pc2 := 57) (L2 := [some (vR 3 0 0), some (vI a1), some (vI a2), some (vI a3), some (vI a4)]) (st2 := [vI a3, vI a2, vI a1, vR 3 0 0, vR 3 0 0]) (m1 := m) rfl ?_
            refine an_call (r_X4_tryAsking m a1 a2 a3) rfl rfl rfl rfl ?_
            refine an_b 1 (pc2 := 62) (L2 := [some (vR 3 0 0), some (vI a1), some (vI a2), some (vI a3), some (vI a4)]) (st2 := [vI a4, vI (v_X4_tryAsking m a1 a2 a3), vR 3 0 0]) (m1 := (w_X4_tryAsking m a1 a2 a3)) rfl ?_
            refine an_call (r_X4_trialPart (w_X4_tryAsking m a1 a2 a3) (v_X4_tryAsking m a1 a2 a3) a4) rfl rfl rfl rfl ?_
            exact an_ret rfl rfl rfl rfl rfl
          · exact an_thr rfl rfl rfl rfl rfl
    · exact an_thr rfl rfl rfl rfl rfl
def o_X4_takers (m : PM) (a1 : Int32) (a2 : Int32) : OC := (if (v_X4_isHand m a1) = 0 then (.inr 40) else (if ¬ (v_X4_isRow m a2) = 0 then (.inl (some (vI (v_X2_takersOf m 0 a1 a2)))) else (.inr 40)))
set_option maxRecDepth 100000 in
theorem t_X4_takers (m : PM) (a1 : Int32) (a2 : Int32) : An MX4_takers 0 [some (vR 3 0 0), some (vI a1), some (vI a2)] [] m (o_X4_takers m a1 a2) m := by
  unfold o_X4_takers
  refine an_b 1 (pc2 := 1) (L2 := [some (vR 3 0 0), some (vI a1), some (vI a2)]) (st2 := [vI a1]) (m1 := m) rfl ?_
  refine an_call (r_X4_isHand m a1) rfl rfl rfl rfl ?_
  refine an_b 1 (pc2 := if (v_X4_isHand m a1) = 0 then 14 else 7) (L2 := [some (vR 3 0 0), some (vI a1), some (vI a2)]) (st2 := []) (m1 := m) rfl ?_
  refine an_ifp (c := (v_X4_isHand m a1) = 0) (fun h1 => ?_) (fun h1 => ?_)
  · exact an_thr rfl rfl rfl rfl rfl
  · refine an_b 1 (pc2 := 8) (L2 := [some (vR 3 0 0), some (vI a1), some (vI a2)]) (st2 := [vI a2]) (m1 := m) rfl ?_
    refine an_call (r_X4_isRow m a2) rfl rfl rfl rfl ?_
    refine an_b 1 (pc2 := if ¬ (v_X4_isRow m a2) = 0 then 24 else 14) (L2 := [some (vR 3 0 0), some (vI a1), some (vI a2)]) (st2 := []) (m1 := m) rfl ?_
    refine an_ifp (c := ¬ (v_X4_isRow m a2) = 0) (fun h2 => ?_) (fun h2 => ?_)
    · refine an_b 4 (pc2 := 30) (L2 := [some (vR 3 0 0), some (vI a1), some (vI a2)]) (st2 := [vI a2, vI a1, vR 0 0 0]) (m1 := m) rfl ?_
      refine an_call (r_X2_takersOf m 0 a1 a2) rfl rfl rfl rfl ?_
      exact an_ret rfl rfl rfl rfl rfl
    · exact an_thr rfl rfl rfl rfl rfl
def o_X4_burnsIn (m : PM) (a1 : Int32) : OC := (if ¬ (v_X4_isRow m a1) = 0 then (.inl (some (vI (v_X2_ticksToBurn m 0 a1)))) else (.inr 40))
set_option maxRecDepth 100000 in
theorem t_X4_burnsIn (m : PM) (a1 : Int32) : An MX4_burnsIn 0 [some (vR 3 0 0), some (vI a1)] [] m (o_X4_burnsIn m a1) m := by
  unfold o_X4_burnsIn
  refine an_b 1 (pc2 := 1) (L2 := [some (vR 3 0 0), some (vI a1)]) (st2 := [vI a1]) (m1 := m) rfl ?_
  refine an_call (r_X4_isRow m a1) rfl rfl rfl rfl ?_
  refine an_b 1 (pc2 := if ¬ (v_X4_isRow m a1) = 0 then 17 else 7) (L2 := [some (vR 3 0 0), some (vI a1)]) (st2 := []) (m1 := m) rfl ?_
  refine an_ifp (c := ¬ (v_X4_isRow m a1) = 0) (fun h1 => ?_) (fun h1 => ?_)
  · refine an_b 3 (pc2 := 22) (L2 := [some (vR 3 0 0), some (vI a1)]) (st2 := [vI a1, vR 0 0 0]) (m1 := m) rfl ?_
    refine an_call (r_X2_ticksToBurn m 0 a1) rfl rfl rfl rfl ?_
    exact an_ret rfl rfl rfl rfl rfl
  · exact an_thr rfl rfl rfl rfl rfl
def o_X4_waitsFor (m : PM) (a1 : Int32) : OC := (if ¬ (v_X4_isHand m a1) = 0 then (.inl (some (vI (v_X2_reach m 0 a1)))) else (.inr 40))
set_option maxRecDepth 100000 in
theorem t_X4_waitsFor (m : PM) (a1 : Int32) : An MX4_waitsFor 0 [some (vR 3 0 0), some (vI a1)] [] m (o_X4_waitsFor m a1) m := by
  unfold o_X4_waitsFor
  refine an_b 1 (pc2 := 1) (L2 := [some (vR 3 0 0), some (vI a1)]) (st2 := [vI a1]) (m1 := m) rfl ?_
  refine an_call (r_X4_isHand m a1) rfl rfl rfl rfl ?_
  refine an_b 1 (pc2 := if ¬ (v_X4_isHand m a1) = 0 then 17 else 7) (L2 := [some (vR 3 0 0), some (vI a1)]) (st2 := []) (m1 := m) rfl ?_
  refine an_ifp (c := ¬ (v_X4_isHand m a1) = 0) (fun h1 => ?_) (fun h1 => ?_)
  · refine an_b 3 (pc2 := 22) (L2 := [some (vR 3 0 0), some (vI a1)]) (st2 := [vI a1, vR 0 0 0]) (m1 := m) rfl ?_
    refine an_call (r_X2_reach m 0 a1) rfl rfl rfl rfl ?_
    exact an_ret rfl rfl rfl rfl rfl
  · exact an_thr rfl rfl rfl rfl rfl
def v_X4_grantedShare (m : PM)  : UInt64 := (v_X2_shareGranted m 0)
set_option maxRecDepth 100000 in
theorem r_X4_grantedShare (m : PM)  : Rn MX4_grantedShare [vR 3 0 0] m (some (vD (v_X4_grantedShare m))) m := by
  refine rn_of [some (vR 3 0 0)] rfl ?_
  unfold v_X4_grantedShare
  refine an_b 2 (pc2 := 4) (L2 := [some (vR 3 0 0)]) (st2 := [vR 0 0 0]) (m1 := m) rfl ?_
  refine an_call (r_X2_shareGranted m 0) rfl rfl rfl rfl ?_
  exact an_ret rfl rfl rfl rfl rfl
def b_X4_digest_1 (m : PM)   (j1 : Nat) (s1 : Int64) : Int64 := (v_X4_mix m s1 (((v_X4_numberOf m (nI j1))).toInt64))
def b_X4_digest_2 (m : PM)   (j2 : Nat) (s2 : Int64) : Int64 := (v_X4_mix m s2 (((v_X1_at m 10 0 (nI j2))).toInt64))
def b_X4_digest_3 (m : PM)   (j3 : Nat) (s3 : Int64) : Int64 := (v_X4_mixHand m s3 (nI j3))
def b_X4_digest_4 (m : PM)   (j4 : Nat) (s4 : Int64 × PM) : Int64 × PM := ((v_X4_mixRow (w_X4_tryAsking s4.2 (0 : Int32) (nI j4) (3 : Int32)) s4.1 (nI j4) (v_X4_tryAsking s4.2 (0 : Int32) (nI j4) (3 : Int32))), (w_X4_tryAsking s4.2 (0 : Int32) (nI j4) (3 : Int32)))
def b_X4_digest_5 (m : PM)   (j5 : Nat) (s5 : Int64) : Int64 := (v_X4_mix ((lp (b_X4_digest_4 m) 12 0 ((lp (b_X4_digest_3 m) 8 0 (lp (b_X4_digest_2 m) 3 0 (lp (b_X4_digest_1 m) 10 0 (2447 : Int64)))), m)).2) s5 (((v_X1_at ((lp (b_X4_digest_4 m) 12 0 ((lp (b_X4_digest_3 m) 8 0 (lp (b_X4_digest_2 m) 3 0 (lp (b_X4_digest_1 m) 10 0 (2447 : Int64)))), m)).2) 11 0 (nI j5))).toInt64))
def v_X4_digest (m : PM)  : Int64 := (lp (b_X4_digest_5 m) (((lp (b_X4_digest_4 m) 12 0 ((lp (b_X4_digest_3 m) 8 0 (lp (b_X4_digest_2 m) 3 0 (lp (b_X4_digest_1 m) 10 0 (2447 : Int64)))), m)).2.1 6 0 0 1)).toNatClampNeg 0 (v_X4_mix ((lp (b_X4_digest_4 m) 12 0 ((lp (b_X4_digest_3 m) 8 0 (lp (b_X4_digest_2 m) 3 0 (lp (b_X4_digest_1 m) 10 0 (2447 : Int64)))), m)).2) (v_X4_mix ((lp (b_X4_digest_4 m) 12 0 ((lp (b_X4_digest_3 m) 8 0 (lp (b_X4_digest_2 m) 3 0 (lp (b_X4_digest_1 m) 10 0 (2447 : Int64)))), m)).2) (v_X4_mix ((lp (b_X4_digest_4 m) 12 0 ((lp (b_X4_digest_3 m) 8 0 (lp (b_X4_digest_2 m) 3 0 (lp (b_X4_digest_1 m) 10 0 (2447 : Int64)))), m)).2) ((lp (b_X4_digest_4 m) 12 0 ((lp (b_X4_digest_3 m) 8 0 (lp (b_X4_digest_2 m) 3 0 (lp (b_X4_digest_1 m) 10 0 (2447 : Int64)))), m)).1) (((v_X2_mostWaitedFor ((lp (b_X4_digest_4 m) 12 0 ((lp (b_X4_digest_3 m) 8 0 (lp (b_X4_digest_2 m) 3 0 (lp (b_X4_digest_1 m) 10 0 (2447 : Int64)))), m)).2) 0)).toInt64)) (v_X4_bitsOfShare ((lp (b_X4_digest_4 m) 12 0 ((lp (b_X4_digest_3 m) 8 0 (lp (b_X4_digest_2 m) 3 0 (lp (b_X4_digest_1 m) 10 0 (2447 : Int64)))), m)).2) (v_X2_shareGranted ((lp (b_X4_digest_4 m) 12 0 ((lp (b_X4_digest_3 m) 8 0 (lp (b_X4_digest_2 m) 3 0 (lp (b_X4_digest_1 m) 10 0 (2447 : Int64)))), m)).2) 0))) ((((lp (b_X4_digest_4 m) 12 0 ((lp (b_X4_digest_3 m) 8 0 (lp (b_X4_digest_2 m) 3 0 (lp (b_X4_digest_1 m) 10 0 (2447 : Int64)))), m)).2.1 6 0 0 1)).toInt64)))
def w_X4_digest (m : PM)  : PM := (lp (b_X4_digest_4 m) 12 0 ((lp (b_X4_digest_3 m) 8 0 (lp (b_X4_digest_2 m) 3 0 (lp (b_X4_digest_1 m) 10 0 (2447 : Int64)))), m)).2
set_option maxRecDepth 100000 in
theorem r_X4_digest (m : PM)  (hs : gsh (v_X2_shareGranted ((lp (b_X4_digest_4 m) 12 0 ((lp (b_X4_digest_3 m) 8 0 (lp (b_X4_digest_2 m) 3 0 (lp (b_X4_digest_1 m) 10 0 (2447 : Int64)))), m)).2) 0)) : Rn MX4_digest [vR 3 0 0] m (some (vL (v_X4_digest m))) (w_X4_digest m) := by
  refine rn_of [some (vR 3 0 0), none, none, none] rfl ?_
  unfold v_X4_digest w_X4_digest
  refine an_b 4 (pc2 := 6) (L2 := [some (vR 3 0 0), some (vL (2447 : Int64)), none, some (vI (0 : Int32))]) (st2 := []) (m1 := m) rfl ?_
  refine re_lp (σ := Int64) (b_X4_digest_1 m) (fun j1 s1 => (6, [some (vR 3 0 0), some (vL s1), none, some (vI (nI j1))], [], m)) 10 (fun s1 => (29, [some (vR 3 0 0), some (vL s1), none, none], [], m)) (fun j1 s1 hj1 v9 m9 K1 => ?_) (fun s1 v9 m9 K1 => ?_) 10 0 (2447 : Int64) (Nat.add_zero _) _ _ ?_
  · show An MX4_digest 6 [some (vR 3 0 0), some (vL s1), none, some (vI (nI j1))] [] m v9 m9
    refine an_b 3 (pc2 := if (10 : Int32) ≤ (nI j1) then 29 else 12) (L2 := [some (vR 3 0 0), some (vL s1), none, some (vI (nI j1))]) (st2 := []) (m1 := m) rfl ?_
    refine an_f (nI_ge (a := j1) (b := 10) (by omega) (by omega)) ?_
    refine an_b 3 (pc2 := 15) (L2 := [some (vR 3 0 0), some (vL s1), none, some (vI (nI j1))]) (st2 := [vI (nI j1), vR 3 0 0, vL s1]) (m1 := m) rfl ?_
    refine an_call (r_X4_numberOf m (nI j1)) rfl rfl rfl rfl ?_
    refine an_b 1 (pc2 := 19) (L2 := [some (vR 3 0 0), some (vL s1), none, some (vI (nI j1))]) (st2 := [vL (((v_X4_numberOf m (nI j1))).toInt64), vL s1]) (m1 := m) rfl ?_
    refine an_call (r_X4_mix m s1 (((v_X4_numberOf m (nI j1))).toInt64)) rfl rfl rfl rfl ?_
    refine an_b 3 (pc2 := 6) (L2 := [some (vR 3 0 0), some (vL (v_X4_mix m s1 (((v_X4_numberOf m (nI j1))).toInt64))), none, some (vI ((nI j1) + (1 : Int32)))]) (st2 := []) (m1 := m) rfl ?_
    refine an_cL (K := [some (vR 3 0 0), some (vL (v_X4_mix m s1 (((v_X4_numberOf m (nI j1))).toInt64))), none, some (vI (nI (j1 + 1)))]) (by simp only [nI_1]) ?_
    exact K1
  · show An MX4_digest 6 [some (vR 3 0 0), some (vL s1), none, some (vI (nI 10))] [] m v9 m9
    refine an_b 3 (pc2 := if (10 : Int32) ≤ (nI 10) then 29 else 12) (L2 := [some (vR 3 0 0), some (vL s1), none, some (vI (nI 10))]) (st2 := []) (m1 := m) rfl ?_
    refine an_t (nI_le (a := 10) (b := 10) (by omega) (by omega)) ?_
    refine an_weak (L := [some (vR 3 0 0), some (vL s1), none, none]) (⟨rfl, rfl, trivial⟩) ?_
    exact K1
  show An MX4_digest 29 [some (vR 3 0 0), some (vL (lp (b_X4_digest_1 m) 10 0 (2447 : Int64))), none, none] [] m _ _
  refine an_b 2 (pc2 := 31) (L2 := [some (vR 3 0 0), some (vL (lp (b_X4_digest_1 m) 10 0 (2447 : Int64))), none, some (vI (0 : Int32))]) (st2 := []) (m1 := m) rfl ?_
  refine re_lp (σ := Int64) (b_X4_digest_2 m) (fun j2 s2 => (31, [some (vR 3 0 0), some (vL s2), none, some (vI (nI j2))], [], m)) 3 (fun s2 => (59, [some (vR 3 0 0), some (vL s2), none, none], [], m)) (fun j2 s2 hj2 v9 m9 K2 => ?_) (fun s2 v9 m9 K2 => ?_) 3 0 (lp (b_X4_digest_1 m) 10 0 (2447 : Int64)) (Nat.add_zero _) _ _ ?_
  · show An MX4_digest 31 [some (vR 3 0 0), some (vL s2), none, some (vI (nI j2))] [] m v9 m9
    refine an_b 3 (pc2 := if (3 : Int32) ≤ (nI j2) then 59 else 36) (L2 := [some (vR 3 0 0), some (vL s2), none, some (vI (nI j2))]) (st2 := []) (m1 := m) rfl ?_
    refine an_f (nI_ge (a := j2) (b := 3) (by omega) (by omega)) ?_
    refine an_b 5 (pc2 := 45) (L2 := [some (vR 3 0 0), some (vL s2), none, some (vI (nI j2))]) (st2 := [vI (nI j2), vR 1 10 0, vL s2]) (m1 := m) rfl ?_
    refine an_call (r_X1_at m 10 0 (nI j2)) rfl rfl rfl rfl ?_
    refine an_b 1 (pc2 := 49) (L2 := [some (vR 3 0 0), some (vL s2), none, some (vI (nI j2))]) (st2 := [vL (((v_X1_at m 10 0 (nI j2))).toInt64), vL s2]) (m1 := m) rfl ?_
    refine an_call (r_X4_mix m s2 (((v_X1_at m 10 0 (nI j2))).toInt64)) rfl rfl rfl rfl ?_
    refine an_b 3 (pc2 := 31) (L2 := [some (vR 3 0 0), some (vL (v_X4_mix m s2 (((v_X1_at m 10 0 (nI j2))).toInt64))), none, some (vI ((nI j2) + (1 : Int32)))]) (st2 := []) (m1 := m) rfl ?_
    refine an_cL (K := [some (vR 3 0 0), some (vL (v_X4_mix m s2 (((v_X1_at m 10 0 (nI j2))).toInt64))), none, some (vI (nI (j2 + 1)))]) (by simp only [nI_1]) ?_
    exact K2
  · show An MX4_digest 31 [some (vR 3 0 0), some (vL s2), none, some (vI (nI 3))] [] m v9 m9
    refine an_b 3 (pc2 := if (3 : Int32) ≤ (nI 3) then 59 else 36) (L2 := [some (vR 3 0 0), some (vL s2), none, some (vI (nI 3))]) (st2 := []) (m1 := m) rfl ?_
    refine an_t (nI_le (a := 3) (b := 3) (by omega) (by omega)) ?_
    refine an_weak (L := [some (vR 3 0 0), some (vL s2), none, none]) (⟨rfl, rfl, trivial⟩) ?_
    exact K2
  show An MX4_digest 59 [some (vR 3 0 0), some (vL (lp (b_X4_digest_2 m) 3 0 (lp (b_X4_digest_1 m) 10 0 (2447 : Int64)))), none, none] [] m _ _
  refine an_b 2 (pc2 := 61) (L2 := [some (vR 3 0 0), some (vL (lp (b_X4_digest_2 m) 3 0 (lp (b_X4_digest_1 m) 10 0 (2447 : Int64)))), none, some (vI (0 : Int32))]) (st2 := []) (m1 := m) rfl ?_
  refine re_lp (σ := Int64) (b_X4_digest_3 m) (fun j3 s3 => (61, [some (vR 3 0 0), some (vL s3), none, some (vI (nI j3))], [], m)) 8 (fun s3 => (80, [some (vR 3 0 0), some (vL s3), none, none], [], m)) (fun j3 s3 hj3 v9 m9 K3 => ?_) (fun s3 v9 m9 K3 => ?_) 8 0 (lp (b_X4_digest_2 m) 3 0 (lp (b_X4_digest_1 m) 10 0 (2447 : Int64))) (Nat.add_zero _) _ _ ?_
  · show An MX4_digest 61 [some (vR 3 0 0), some (vL s3), none, some (vI (nI j3))] [] m v9 m9
    refine an_b 3 (pc2 := if (8 : Int32) ≤ (nI j3) then 80 else 67) (L2 := [some (vR 3 0 0), some (vL s3), none, some (vI (nI j3))]) (st2 := []) (m1 := m) rfl ?_
    refine an_f (nI_ge (a := j3) (b := 8) (by omega) (by omega)) ?_
    refine an_b 3 (pc2 := 70) (L2 := [some (vR 3 0 0), some (vL s3), none, some (vI (nI j3))]) (st2 := [vI (nI j3), vL s3, vR 3 0 0]) (m1 := m) rfl ?_
    refine an_call (r_X4_mixHand m s3 (nI j3)) rfl rfl rfl rfl ?_
    refine an_b 3 (pc2 := 61) (L2 := [some (vR 3 0 0), some (vL (v_X4_mixHand m s3 (nI j3))), none, some (vI ((nI j3) + (1 : Int32)))]) (st2 := []) (m1 := m) rfl ?_
    refine an_cL (K := [some (vR 3 0 0), some (vL (v_X4_mixHand m s3 (nI j3))), none, some (vI (nI (j3 + 1)))]) (by simp only [nI_1]) ?_
    exact K3
  · show An MX4_digest 61 [some (vR 3 0 0), some (vL s3), none, some (vI (nI 8))] [] m v9 m9
    refine an_b 3 (pc2 := if (8 : Int32) ≤ (nI 8) then 80 else 67) (L2 := [some (vR 3 0 0), some (vL s3), none, some (vI (nI 8))]) (st2 := []) (m1 := m) rfl ?_
    refine an_t (nI_le (a := 8) (b := 8) (by omega) (by omega)) ?_
    refine an_weak (L := [some (vR 3 0 0), some (vL s3), none, none]) (⟨rfl, rfl, trivial⟩) ?_
    exact K3
  show An MX4_digest 80 [some (vR 3 0 0), some (vL (lp (b_X4_digest_3 m) 8 0 (lp (b_X4_digest_2 m) 3 0 (lp (b_X4_digest_1 m) 10 0 (2447 : Int64))))), none, none] [] m _ _
  refine an_b 2 (pc2 := 82) (L2 := [some (vR 3 0 0), some (vL (lp (b_X4_digest_3 m) 8 0 (lp (b_X4_digest_2 m) 3 0 (lp (b_X4_digest_1 m) 10 0 (2447 : Int64))))), none, some (vI (0 : Int32))]) (st2 := []) (m1 := m) rfl ?_
  refine re_lp (σ := Int64 × PM) (b_X4_digest_4 m) (fun j4 s4 => (82, [some (vR 3 0 0), some (vL s4.1), none, some (vI (nI j4))], [], s4.2)) 12 (fun s4 => (108, [some (vR 3 0 0), some (vL s4.1), none, none], [], s4.2)) (fun j4 s4 hj4 v9 m9 K4 => ?_) (fun s4 v9 m9 K4 => ?_) 12 0 ((lp (b_X4_digest_3 m) 8 0 (lp (b_X4_digest_2 m) 3 0 (lp (b_X4_digest_1 m) 10 0 (2447 : Int64)))), m) (Nat.add_zero _) _ _ ?_
  · show An MX4_digest 82 [some (vR 3 0 0), some (vL s4.1), none, some (vI (nI j4))] [] s4.2 v9 m9
    refine an_b 3 (pc2 := if (12 : Int32) ≤ (nI j4) then 108 else 88) (L2 := [some (vR 3 0 0), some (vL s4.1), none, some (vI (nI j4))]) (st2 := []) (m1 := s4.2) rfl ?_
    refine an_f (nI_ge (a := j4) (b := 12) (by omega) (by omega)) ?_
    refine an_b 7 (pc2 := 95) (L2 := [some (vR 3 0 0), some (vL s4.1), none, some (vI (nI j4))]) (st2 := [vI (3 : Int32), vI (nI j4), vI (0 : Int32), vR 3 0 0, vI (nI j4), vL s4.1, vR 3 0 0]) (m1 := s4.2) rfl ?_
    refine an_call (r_X4_tryAsking s4.2 (0 : Int32) (nI j4) (3 : Int32)) rfl rfl rfl rfl ?_
    refine an_call (r_X4_mixRow (w_X4_tryAsking s4.2 (0 : Int32) (nI j4) (3 : Int32)) s4.1 (nI j4) (v_X4_tryAsking s4.2 (0 : Int32) (nI j4) (3 : Int32))) rfl rfl rfl rfl ?_
    refine an_b 3 (pc2 := 82) (L2 := [some (vR 3 0 0), some (vL (v_X4_mixRow (w_X4_tryAsking s4.2 (0 : Int32) (nI j4) (3 : Int32)) s4.1 (nI j4) (v_X4_tryAsking s4.2 (0 : Int32) (nI j4) (3 : Int32)))), none, some (vI ((nI j4) + (1 : Int32)))]) (st2 := []) (m1 := (w_X4_tryAsking s4.2 (0 : Int32) (nI j4) (3 : Int32))) rfl ?_
    refine an_cL (K := [some (vR 3 0 0), some (vL (v_X4_mixRow (w_X4_tryAsking s4.2 (0 : Int32) (nI j4) (3 : Int32)) s4.1 (nI j4) (v_X4_tryAsking s4.2 (0 : Int32) (nI j4) (3 : Int32)))), none, some (vI (nI (j4 + 1)))]) (by simp only [nI_1]) ?_
    exact K4
  · show An MX4_digest 82 [some (vR 3 0 0), some (vL s4.1), none, some (vI (nI 12))] [] s4.2 v9 m9
    refine an_b 3 (pc2 := if (12 : Int32) ≤ (nI 12) then 108 else 88) (L2 := [some (vR 3 0 0), some (vL s4.1), none, some (vI (nI 12))]) (st2 := []) (m1 := s4.2) rfl ?_
    refine an_t (nI_le (a := 12) (b := 12) (by omega) (by omega)) ?_
    refine an_weak (L := [some (vR 3 0 0), some (vL s4.1), none, none]) (⟨rfl, rfl, trivial⟩) ?_
    exact K4
  show An MX4_digest 108 [some (vR 3 0 0), some (vL ((lp (b_X4_digest_4 m) 12 0 ((lp (b_X4_digest_3 m) 8 0 (lp (b_X4_digest_2 m) 3 0 (lp (b_X4_digest_1 m) 10 0 (2447 : Int64)))), m)).1)), none, none] [] (lp (b_X4_digest_4 m) 12 0 ((lp (b_X4_digest_3 m) 8 0 (lp (b_X4_digest_2 m) 3 0 (lp (b_X4_digest_1 m) 10 0 (2447 : Int64)))), m)).2 _ _
  refine an_b 3 (pc2 := 113) (L2 := [some (vR 3 0 0), some (vL ((lp (b_X4_digest_4 m) 12 0 ((lp (b_X4_digest_3 m) 8 0 (lp (b_X4_digest_2 m) 3 0 (lp (b_X4_digest_1 m) 10 0 (2447 : Int64)))), m)).1)), none, none]) (st2 := [vR 0 0 0, vL ((lp (b_X4_digest_4 m) 12 0 ((lp (b_X4_digest_3 m) 8 0 (lp (b_X4_digest_2 m) 3 0 (lp (b_X4_digest_1 m) 10 0 (2447 : Int64)))), m)).1)]) (m1 := (lp (b_X4_digest_4 m) 12 0 ((lp (b_X4_digest_3 m) 8 0 (lp (b_X4_digest_2 m) 3 0 (lp (b_X4_digest_1 m) 10 0 (2447 : Int64)))), m)).2) rfl ?_
  refine an_call (r_X2_mostWaitedFor ((lp (b_X4_digest_4 m) 12 0 ((lp (b_X4_digest_3 m) 8 0 (lp (b_X4_digest_2 m) 3 0 (lp (b_X4_digest_1 m) 10 0 (2447 : Int64)))), m)).2) 0) rfl rfl rfl rfl ?_
  refine an_b 1 (pc2 := 117) (L2 := [some (vR 3 0 0), some (vL ((lp (b_X4_digest_4 m) 12 0 ((lp (b_X4_digest_3 m) 8 0 (lp (b_X4_digest_2 m) 3 0 (lp (b_X4_digest_1 m) 10 0 (2447 : Int64)))), m)).1)), none, none]) (st2 := [vL (((v_X2_mostWaitedFor ((lp (b_X4_digest_4 m) 12 0 ((lp (b_X4_digest_3 m) 8 0 (lp (b_X4_digest_2 m) 3 0 (lp (b_X4_digest_1 m) 10 0 (2447 : Int64)))), m)).2) 0)).toInt64), vL ((lp (b_X4_digest_4 m) 12 0 ((lp (b_X4_digest_3 m) 8 0 (lp (b_X4_digest_2 m) 3 0 (lp (b_X4_digest_1 m) 10 0 (2447 : Int64)))), m)).1)]) (m1 := (lp (b_X4_digest_4 m) 12 0 ((lp (b_X4_digest_3 m) 8 0 (lp (b_X4_digest_2 m) 3 0 (lp (b_X4_digest_1 m) 10 0 (2447 : Int64)))), m)).2) rfl ?_
  refine an_call (r_X4_mix ((lp (b_X4_digest_4 m) 12 0 ((lp (b_X4_digest_3 m) 8 0 (lp (b_X4_digest_2 m) 3 0 (lp (b_X4_digest_1 m) 10 0 (2447 : Int64)))), m)).2) ((lp (b_X4_digest_4 m) 12 0 ((lp (b_X4_digest_3 m) 8 0 (lp (b_X4_digest_2 m) 3 0 (lp (b_X4_digest_1 m) 10 0 (2447 : Int64)))), m)).1) (((v_X2_mostWaitedFor ((lp (b_X4_digest_4 m) 12 0 ((lp (b_X4_digest_3 m) 8 0 (lp (b_X4_digest_2 m) 3 0 (lp (b_X4_digest_1 m) 10 0 (2447 : Int64)))), m)).2) 0)).toInt64)) rfl rfl rfl rfl ?_
  refine an_b 4 (pc2 := 126) (L2 := [some (vR 3 0 0), some (vL (v_X4_mix ((lp (b_X4_digest_4 m) 12 0 ((lp (b_X4_digest_3 m) 8 0 (lp (b_X4_digest_2 m) 3 0 (lp (b_X4_digest_1 m) 10 0 (2447 : Int64)))), m)).2) ((lp (b_X4_digest_4 m) 12 0 ((lp (b_X4_digest_3 m) 8 0 (lp (b_X4_digest_2 m) 3 0 (lp (b_X4_digest_1 m) 10 0 (2447 : Int64)))), m)).1) (((v_X2_mostWaitedFor ((lp (b_X4_digest_4 m) 12 0 ((lp (b_X4_digest_3 m) 8 0 (lp (b_X4_digest_2 m) 3 0 (lp (b_X4_digest_1 m) 10 0 (2447 : Int64)))), m)).2) 0)).toInt64))), none, none]) (st2 := [vR 0 0 0, vL (v_X4_mix ((lp (b_X4_digest_4 m) 12 0 ((lp (b_X4_digest_3 m) 8 0 (lp (b_X4_digest_2 m) 3 0 (lp (b_X4_digest_1 m) 10 0 (2447 : Int64)))), m)).2) ((lp (b_X4_digest_4 m) 12 0 ((lp (b_X4_digest_3 m) 8 0 (lp (b_X4_digest_2 m) 3 0 (lp (b_X4_digest_1 m) 10 0 (2447 : Int64)))), m)).1) (((v_X2_mostWaitedFor ((lp (b_X4_digest_4 m) 12 0 ((lp (b_X4_digest_3 m) 8 0 (lp (b_X4_digest_2 m) 3 0 (lp (b_X4_digest_1 m) 10 0 (2447 : Int64)))), m)).2) 0)).toInt64))]) (m1 := (lp (b_X4_digest_4 m) 12 0 ((lp (b_X4_digest_3 m) 8 0 (lp (b_X4_digest_2 m) 3 0 (lp (b_X4_digest_1 m) 10 0 (2447 : Int64)))), m)).2) rfl ?_
  refine an_call (r_X2_shareGranted ((lp (b_X4_digest_4 m) 12 0 ((lp (b_X4_digest_3 m) 8 0 (lp (b_X4_digest_2 m) 3 0 (lp (b_X4_digest_1 m) 10 0 (2447 : Int64)))), m)).2) 0) rfl rfl rfl rfl ?_
  refine an_call (r_X4_bitsOfShare ((lp (b_X4_digest_4 m) 12 0 ((lp (b_X4_digest_3 m) 8 0 (lp (b_X4_digest_2 m) 3 0 (lp (b_X4_digest_1 m) 10 0 (2447 : Int64)))), m)).2) (v_X2_shareGranted ((lp (b_X4_digest_4 m) 12 0 ((lp (b_X4_digest_3 m) 8 0 (lp (b_X4_digest_2 m) 3 0 (lp (b_X4_digest_1 m) 10 0 (2447 : Int64)))), m)).2) 0) hs) rfl rfl rfl rfl ?_
  refine an_call (r_X4_mix ((lp (b_X4_digest_4 m) 12 0 ((lp (b_X4_digest_3 m) 8 0 (lp (b_X4_digest_2 m) 3 0 (lp (b_X4_digest_1 m) 10 0 (2447 : Int64)))), m)).2) (v_X4_mix ((lp (b_X4_digest_4 m) 12 0 ((lp (b_X4_digest_3 m) 8 0 (lp (b_X4_digest_2 m) 3 0 (lp (b_X4_digest_1 m) 10 0 (2447 : Int64)))), m)).2) ((lp (b_X4_digest_4 m) 12 0 ((lp (b_X4_digest_3 m) 8 0 (lp (b_X4_digest_2 m) 3 0 (lp (b_X4_digest_1 m) 10 0 (2447 : Int64)))), m)).1) (((v_X2_mostWaitedFor ((lp (b_X4_digest_4 m) 12 0 ((lp (b_X4_digest_3 m) 8 0 (lp (b_X4_digest_2 m) 3 0 (lp (b_X4_digest_1 m) 10 0 (2447 : Int64)))), m)).2) 0)).toInt64)) (v_X4_bitsOfShare ((lp (b_X4_digest_4 m) 12 0 ((lp (b_X4_digest_3 m) 8 0 (lp (b_X4_digest_2 m) 3 0 (lp (b_X4_digest_1 m) 10 0 (2447 : Int64)))), m)).2) (v_X2_shareGranted ((lp (b_X4_digest_4 m) 12 0 ((lp (b_X4_digest_3 m) 8 0 (lp (b_X4_digest_2 m) 3 0 (lp (b_X4_digest_1 m) 10 0 (2447 : Int64)))), m)).2) 0))) rfl rfl rfl rfl ?_
  refine an_b 6 (pc2 := 145) (L2 := [some (vR 3 0 0), some (vL (v_X4_mix ((lp (b_X4_digest_4 m) 12 0 ((lp (b_X4_digest_3 m) 8 0 (lp (b_X4_digest_2 m) 3 0 (lp (b_X4_digest_1 m) 10 0 (2447 : Int64)))), m)).2) (v_X4_mix ((lp (b_X4_digest_4 m) 12 0 ((lp (b_X4_digest_3 m) 8 0 (lp (b_X4_digest_2 m) 3 0 (lp (b_X4_digest_1 m) 10 0 (2447 : Int64)))), m)).2) ((lp (b_X4_digest_4 m) 12 0 ((lp (b_X4_digest_3 m) 8 0 (lp (b_X4_digest_2 m) 3 0 (lp (b_X4_digest_1 m) 10 0 (2447 : Int64)))), m)).1) (((v_X2_mostWaitedFor ((lp (b_X4_digest_4 m) 12 0 ((lp (b_X4_digest_3 m) 8 0 (lp (b_X4_digest_2 m) 3 0 (lp (b_X4_digest_1 m) 10 0 (2447 : Int64)))), m)).2) 0)).toInt64)) (v_X4_bitsOfShare ((lp (b_X4_digest_4 m) 12 0 ((lp (b_X4_digest_3 m) 8 0 (lp (b_X4_digest_2 m) 3 0 (lp (b_X4_digest_1 m) 10 0 (2447 : Int64)))), m)).2) (v_X2_shareGranted ((lp (b_X4_digest_4 m) 12 0 ((lp (b_X4_digest_3 m) 8 0 (lp (b_X4_digest_2 m) 3 0 (lp (b_X4_digest_1 m) 10 0 (2447 : Int64)))), m)).2) 0)))), none, none]) (st2 := [vL ((((lp (b_X4_digest_4 m) 12 0 ((lp (b_X4_digest_3 m) 8 0 (lp (b_X4_digest_2 m) 3 0 (lp (b_X4_digest_1 m) 10 0 (2447 : Int64)))), m)).2.1 6 0 0 1)).toInt64), vL (v_X4_mix ((lp (b_X4_digest_4 m) 12 0 ((lp (b_X4_digest_3 m) 8 0 (lp (b_X4_digest_2 m) 3 0 (lp (b_X4_digest_1 m) 10 0 (2447 : Int64)))), m)).2) (v_X4_mix ((lp (b_X4_digest_4 m) 12 0 ((lp (b_X4_digest_3 m) 8 0 (lp (b_X4_digest_2 m) 3 0 (lp (b_X4_digest_1 m) 10 0 (2447 : Int64)))), m)).2) ((lp (b_X4_digest_4 m) 12 0 ((lp (b_X4_digest_3 m) 8 0 (lp (b_X4_digest_2 m) 3 0 (lp (b_X4_digest_1 m) 10 0 (2447 : Int64)))), m)).1) (((v_X2_mostWaitedFor ((lp (b_X4_digest_4 m) 12 0 ((lp (b_X4_digest_3 m) 8 0 (lp (b_X4_digest_2 m) 3 0 (lp (b_X4_digest_1 m) 10 0 (2447 : Int64)))), m)).2) 0)).toInt64)) (v_X4_bitsOfShare ((lp (b_X4_digest_4 m) 12 0 ((lp (b_X4_digest_3 m) 8 0 (lp (b_X4_digest_2 m) 3 0 (lp (b_X4_digest_1 m) 10 0 (2447 : Int64)))), m)).2) (v_X2_shareGranted ((lp (b_X4_digest_4 m) 12 0 ((lp (b_X4_digest_3 m) 8 0 (lp (b_X4_digest_2 m) 3 0 (lp (b_X4_digest_1 m) 10 0 (2447 : Int64)))), m)).2) 0)))]) (m1 := (lp (b_X4_digest_4 m) 12 0 ((lp (b_X4_digest_3 m) 8 0 (lp (b_X4_digest_2 m) 3 0 (lp (b_X4_digest_1 m) 10 0 (2447 : Int64)))), m)).2) rfl ?_
  refine an_call (r_X4_mix ((lp (b_X4_digest_4 m) 12 0 ((lp (b_X4_digest_3 m) 8 0 (lp (b_X4_digest_2 m) 3 0 (lp (b_X4_digest_1 m) 10 0 (2447 : Int64)))), m)).2) (v_X4_mix ((lp (b_X4_digest_4 m) 12 0 ((lp (b_X4_digest_3 m) 8 0 (lp (b_X4_digest_2 m) 3 0 (lp (b_X4_digest_1 m) 10 0 (2447 : Int64)))), m)).2) (v_X4_mix ((lp (b_X4_digest_4 m) 12 0 ((lp (b_X4_digest_3 m) 8 0 (lp (b_X4_digest_2 m) 3 0 (lp (b_X4_digest_1 m) 10 0 (2447 : Int64)))), m)).2) ((lp (b_X4_digest_4 m) 12 0 ((lp (b_X4_digest_3 m) 8 0 (lp (b_X4_digest_2 m) 3 0 (lp (b_X4_digest_1 m) 10 0 (2447 : Int64)))), m)).1) (((v_X2_mostWaitedFor ((lp (b_X4_digest_4 m) 12 0 ((lp (b_X4_digest_3 m) 8 0 (lp (b_X4_digest_2 m) 3 0 (lp (b_X4_digest_1 m) 10 0 (2447 : Int64)))), m)).2) 0)).toInt64)) (v_X4_bitsOfShare ((lp (b_X4_digest_4 m) 12 0 ((lp (b_X4_digest_3 m) 8 0 (lp (b_X4_digest_2 m) 3 0 (lp (b_X4_digest_1 m) 10 0 (2447 : Int64)))), m)).2) (v_X2_shareGranted ((lp (b_X4_digest_4 m) 12 0 ((lp (b_X4_digest_3 m) 8 0 (lp (b_X4_digest_2 m) 3 0 (lp (b_X4_digest_1 m) 10 0 (2447 : Int64)))), m)).2) 0))) ((((lp (b_X4_digest_4 m) 12 0 ((lp (b_X4_digest_3 m) 8 0 (lp (b_X4_digest_2 m) 3 0 (lp (b_X4_digest_1 m) 10 0 (2447 : Int64)))), m)).2.1 6 0 0 1)).toInt64)) rfl rfl rfl rfl ?_
  refine an_b 3 (pc2 := 151) (L2 := [some (vR 3 0 0), some (vL (v_X4_mix ((lp (b_X4_digest_4 m) 12 0 ((lp (b_X4_digest_3 m) 8 0 (lp (b_X4_digest_2 m) 3 0 (lp (b_X4_digest_1 m) 10 0 (2447 : Int64)))), m)).2) (v_X4_mix ((lp (b_X4_digest_4 m) 12 0 ((lp (b_X4_digest_3 m) 8 0 (lp (b_X4_digest_2 m) 3 0 (lp (b_X4_digest_1 m) 10 0 (2447 : Int64)))), m)).2) (v_X4_mix ((lp (b_X4_digest_4 m) 12 0 ((lp (b_X4_digest_3 m) 8 0 (lp (b_X4_digest_2 m) 3 0 (lp (b_X4_digest_1 m) 10 0 (2447 : Int64)))), m)).2) ((lp (b_X4_digest_4 m) 12 0 ((lp (b_X4_digest_3 m) 8 0 (lp (b_X4_digest_2 m) 3 0 (lp (b_X4_digest_1 m) 10 0 (2447 : Int64)))), m)).1) (((v_X2_mostWaitedFor ((lp (b_X4_digest_4 m) 12 0 ((lp (b_X4_digest_3 m) 8 0 (lp (b_X4_digest_2 m) 3 0 (lp (b_X4_digest_1 m) 10 0 (2447 : Int64)))), m)).2) 0)).toInt64)) (v_X4_bitsOfShare ((lp (b_X4_digest_4 m) 12 0 ((lp (b_X4_digest_3 m) 8 0 (lp (b_X4_digest_2 m) 3 0 (lp (b_X4_digest_1 m) 10 0 (2447 : Int64)))), m)).2) (v_X2_shareGranted ((lp (b_X4_digest_4 m) 12 0 ((lp (b_X4_digest_3 m) 8 0 (lp (b_X4_digest_2 m) 3 0 (lp (b_X4_digest_1 m) 10 0 (2447 : Int64)))), m)).2) 0))) ((((lp (b_X4_digest_4 m) 12 0 ((lp (b_X4_digest_3 m) 8 0 (lp (b_X4_digest_2 m) 3 0 (lp (b_X4_digest_1 m) 10 0 (2447 : Int64)))), m)).2.1 6 0 0 1)).toInt64))), none, some (vI (0 : Int32))]) (st2 := []) (m1 := (lp (b_X4_digest_4 m) 12 0 ((lp (b_X4_digest_3 m) 8 0 (lp (b_X4_digest_2 m) 3 0 (lp (b_X4_digest_1 m) 10 0 (2447 : Int64)))), m)).2) rfl ?_
  refine re_lp (σ := Int64) (b_X4_digest_5 m) (fun j5 s5 => (151, [some (vR 3 0 0), some (vL s5), none, some (vI (nI j5))], [], (lp (b_X4_digest_4 m) 12 0 ((lp (b_X4_digest_3 m) 8 0 (lp (b_X4_digest_2 m) 3 0 (lp (b_X4_digest_1 m) 10 0 (2447 : Int64)))), m)).2)) (((lp (b_X4_digest_4 m) 12 0 ((lp (b_X4_digest_3 m) 8 0 (lp (b_X4_digest_2 m) 3 0 (lp (b_X4_digest_1 m) 10 0 (2447 : Int64)))), m)).2.1 6 0 0 1)).toNatClampNeg (fun s5 => (185, [some (vR 3 0 0), some (vL s5), none, none], [], (lp (b_X4_digest_4 m) 12 0 ((lp (b_X4_digest_3 m) 8 0 (lp (b_X4_digest_2 m) 3 0 (lp (b_X4_digest_1 m) 10 0 (2447 : Int64)))), m)).2)) (fun j5 s5 hj5 v9 m9 K5 => ?_) (fun s5 v9 m9 K5 => ?_) (((lp (b_X4_digest_4 m) 12 0 ((lp (b_X4_digest_3 m) 8 0 (lp (b_X4_digest_2 m) 3 0 (lp (b_X4_digest_1 m) 10 0 (2447 : Int64)))), m)).2.1 6 0 0 1)).toNatClampNeg 0 (v_X4_mix ((lp (b_X4_digest_4 m) 12 0 ((lp (b_X4_digest_3 m) 8 0 (lp (b_X4_digest_2 m) 3 0 (lp (b_X4_digest_1 m) 10 0 (2447 : Int64)))), m)).2) (v_X4_mix ((lp (b_X4_digest_4 m) 12 0 ((lp (b_X4_digest_3 m) 8 0 (lp (b_X4_digest_2 m) 3 0 (lp (b_X4_digest_1 m) 10 0 (2447 : Int64)))), m)).2) (v_X4_mix ((lp (b_X4_digest_4 m) 12 0 ((lp (b_X4_digest_3 m) 8 0 (lp (b_X4_digest_2 m) 3 0 (lp (b_X4_digest_1 m) 10 0 (2447 : Int64)))), m)).2) ((lp (b_X4_digest_4 m) 12 0 ((lp (b_X4_digest_3 m) 8 0 (lp (b_X4_digest_2 m) 3 0 (lp (b_X4_digest_1 m) 10 0 (2447 : Int64)))), m)).1) (((v_X2_mostWaitedFor ((lp (b_X4_digest_4 m) 12 0 ((lp (b_X4_digest_3 m) 8 0 (lp (b_X4_digest_2 m) 3 0 (lp (b_X4_digest_1 m) 10 0 (2447 : Int64)))), m)).2) 0)).toInt64)) (v_X4_bitsOfShare ((lp (b_X4_digest_4 m) 12 0 ((lp (b_X4_digest_3 m) 8 0 (lp (b_X4_digest_2 m) 3 0 (lp (b_X4_digest_1 m) 10 0 (2447 : Int64)))), m)).2) (v_X2_shareGranted ((lp (b_X4_digest_4 m) 12 0 ((lp (b_X4_digest_3 m) 8 0 (lp (b_X4_digest_2 m) 3 0 (lp (b_X4_digest_1 m) 10 0 (2447 : Int64)))), m)).2) 0))) ((((lp (b_X4_digest_4 m) 12 0 ((lp (b_X4_digest_3 m) 8 0 (lp (b_X4_digest_2 m) 3 0 (lp (b_X4_digest_1 m) 10 0 (2447 : Int64)))), m)).2.1 6 0 0 1)).toInt64)) (Nat.add_zero _) _ _ ?_
  · show An MX4_digest 151 [some (vR 3 0 0), some (vL s5), none, some (vI (nI j5))] [] (lp (b_X4_digest_4 m) 12 0 ((lp (b_X4_digest_3 m) 8 0 (lp (b_X4_digest_2 m) 3 0 (lp (b_X4_digest_1 m) 10 0 (2447 : Int64)))), m)).2 v9 m9
    refine an_b 5 (pc2 := if ((lp (b_X4_digest_4 m) 12 0 ((lp (b_X4_digest_3 m) 8 0 (lp (b_X4_digest_2 m) 3 0 (lp (b_X4_digest_1 m) 10 0 (2447 : Int64)))), m)).2.1 6 0 0 1) ≤ (nI j5) then 185 else 162) (L2 := [some (vR 3 0 0), some (vL s5), none, some (vI (nI j5))]) (st2 := []) (m1 := (lp (b_X4_digest_4 m) 12 0 ((lp (b_X4_digest_3 m) 8 0 (lp (b_X4_digest_2 m) 3 0 (lp (b_X4_digest_1 m) 10 0 (2447 : Int64)))), m)).2) rfl ?_
    refine an_f (bnd_lt hj5) ?_
    refine an_b 5 (pc2 := 171) (L2 := [some (vR 3 0 0), some (vL s5), none, some (vI (nI j5))]) (st2 := [vI (nI j5), vR 1 11 0, vL s5]) (m1 := (lp (b_X4_digest_4 m) 12 0 ((lp (b_X4_digest_3 m) 8 0 (lp (b_X4_digest_2 m) 3 0 (lp (b_X4_digest_1 m) 10 0 (2447 : Int64)))), m)).2) rfl ?_
    refine an_call (r_X1_at ((lp (b_X4_digest_4 m) 12 0 ((lp (b_X4_digest_3 m) 8 0 (lp (b_X4_digest_2 m) 3 0 (lp (b_X4_digest_1 m) 10 0 (2447 : Int64)))), m)).2) 11 0 (nI j5)) rfl rfl rfl rfl ?_
    refine an_b 1 (pc2 := 175) (L2 := [some (vR 3 0 0), some (vL s5), none, some (vI (nI j5))]) (st2 := [vL (((v_X1_at ((lp (b_X4_digest_4 m) 12 0 ((lp (b_X4_digest_3 m) 8 0 (lp (b_X4_digest_2 m) 3 0 (lp (b_X4_digest_1 m) 10 0 (2447 : Int64)))), m)).2) 11 0 (nI j5))).toInt64), vL s5]) (m1 := (lp (b_X4_digest_4 m) 12 0 ((lp (b_X4_digest_3 m) 8 0 (lp (b_X4_digest_2 m) 3 0 (lp (b_X4_digest_1 m) 10 0 (2447 : Int64)))), m)).2) rfl ?_
    refine an_call (r_X4_mix ((lp (b_X4_digest_4 m) 12 0 ((lp (b_X4_digest_3 m) 8 0 (lp (b_X4_digest_2 m) 3 0 (lp (b_X4_digest_1 m) 10 0 (2447 : Int64)))), m)).2) s5 (((v_X1_at ((lp (b_X4_digest_4 m) 12 0 ((lp (b_X4_digest_3 m) 8 0 (lp (b_X4_digest_2 m) 3 0 (lp (b_X4_digest_1 m) 10 0 (2447 : Int64)))), m)).2) 11 0 (nI j5))).toInt64)) rfl rfl rfl rfl ?_
    refine an_b 3 (pc2 := 151) (L2 := [some (vR 3 0 0), some (vL (v_X4_mix ((lp (b_X4_digest_4 m) 12 0 ((lp (b_X4_digest_3 m) 8 0 (lp (b_X4_digest_2 m) 3 0 (lp (b_X4_digest_1 m) 10 0 (2447 : Int64)))), m)).2) s5 (((v_X1_at ((lp (b_X4_digest_4 m) 12 0 ((lp (b_X4_digest_3 m) 8 0 (lp (b_X4_digest_2 m) 3 0 (lp (b_X4_digest_1 m) 10 0 (2447 : Int64)))), m)).2) 11 0 (nI j5))).toInt64))), none, some (vI ((nI j5) + (1 : Int32)))]) (st2 := []) (m1 := (lp (b_X4_digest_4 m) 12 0 ((lp (b_X4_digest_3 m) 8 0 (lp (b_X4_digest_2 m) 3 0 (lp (b_X4_digest_1 m) 10 0 (2447 : Int64)))), m)).2) rfl ?_
    refine an_cL (K := [some (vR 3 0 0), some (vL (v_X4_mix ((lp (b_X4_digest_4 m) 12 0 ((lp (b_X4_digest_3 m) 8 0 (lp (b_X4_digest_2 m) 3 0 (lp (b_X4_digest_1 m) 10 0 (2447 : Int64)))), m)).2) s5 (((v_X1_at ((lp (b_X4_digest_4 m) 12 0 ((lp (b_X4_digest_3 m) 8 0 (lp (b_X4_digest_2 m) 3 0 (lp (b_X4_digest_1 m) 10 0 (2447 : Int64)))), m)).2) 11 0 (nI j5))).toInt64))), none, some (vI (nI (j5 + 1)))]) (by simp only [nI_1]) ?_
    exact K5
  · show An MX4_digest 151 [some (vR 3 0 0), some (vL s5), none, some (vI (nI ((((lp (b_X4_digest_4 m) 12 0 ((lp (b_X4_digest_3 m) 8 0 (lp (b_X4_digest_2 m) 3 0 (lp (b_X4_digest_1 m) 10 0 (2447 : Int64)))), m)).2.1 6 0 0 1)).toNatClampNeg)))] [] (lp (b_X4_digest_4 m) 12 0 ((lp (b_X4_digest_3 m) 8 0 (lp (b_X4_digest_2 m) 3 0 (lp (b_X4_digest_1 m) 10 0 (2447 : Int64)))), m)).2 v9 m9
    refine an_b 5 (pc2 := if ((lp (b_X4_digest_4 m) 12 0 ((lp (b_X4_digest_3 m) 8 0 (lp (b_X4_digest_2 m) 3 0 (lp (b_X4_digest_1 m) 10 0 (2447 : Int64)))), m)).2.1 6 0 0 1) ≤ (nI ((((lp (b_X4_digest_4 m) 12 0 ((lp (b_X4_digest_3 m) 8 0 (lp (b_X4_digest_2 m) 3 0 (lp (b_X4_digest_1 m) 10 0 (2447 : Int64)))), m)).2.1 6 0 0 1)).toNatClampNeg)) then 185 else 162) (L2 := [some (vR 3 0 0), some (vL s5), none, some (vI (nI ((((lp (b_X4_digest_4 m) 12 0 ((lp (b_X4_digest_3 m) 8 0 (lp (b_X4_digest_2 m) 3 0 (lp (b_X4_digest_1 m) 10 0 (2447 : Int64)))), m)).2.1 6 0 0 1)).toNatClampNeg)))]) (st2 := []) (m1 := (lp (b_X4_digest_4 m) 12 0 ((lp (b_X4_digest_3 m) 8 0 (lp (b_X4_digest_2 m) 3 0 (lp (b_X4_digest_1 m) 10 0 (2447 : Int64)))), m)).2) rfl ?_
    refine an_t (bnd_ge rfl) ?_
    refine an_weak (L := [some (vR 3 0 0), some (vL s5), none, none]) (⟨rfl, rfl, trivial⟩) ?_
    exact K5
  show An MX4_digest 185 [some (vR 3 0 0), some (vL (lp (b_X4_digest_5 m) (((lp (b_X4_digest_4 m) 12 0 ((lp (b_X4_digest_3 m) 8 0 (lp (b_X4_digest_2 m) 3 0 (lp (b_X4_digest_1 m) 10 0 (2447 : Int64)))), m)).2.1 6 0 0 1)).toNatClampNeg 0 (v_X4_mix ((lp (b_X4_digest_4 m) 12 0 ((lp (b_X4_digest_3 m) 8 0 (lp (b_X4_digest_2 m) 3 0 (lp (b_X4_digest_1 m) 10 0 (2447 : Int64)))), m)).2) (v_X4_mix ((lp (b_X4_digest_4 m) 12 0 ((lp (b_X4_digest_3 m) 8 0 (lp (b_X4_digest_2 m) 3 0 (lp (b_X4_digest_1 m) 10 0 (2447 : Int64)))), m)).2) (v_X4_mix ((lp (b_X4_digest_4 m) 12 0 ((lp (b_X4_digest_3 m) 8 0 (lp (b_X4_digest_2 m) 3 0 (lp (b_X4_digest_1 m) 10 0 (2447 : Int64)))), m)).2) ((lp (b_X4_digest_4 m) 12 0 ((lp (b_X4_digest_3 m) 8 0 (lp (b_X4_digest_2 m) 3 0 (lp (b_X4_digest_1 m) 10 0 (2447 : Int64)))), m)).1) (((v_X2_mostWaitedFor ((lp (b_X4_digest_4 m) 12 0 ((lp (b_X4_digest_3 m) 8 0 (lp (b_X4_digest_2 m) 3 0 (lp (b_X4_digest_1 m) 10 0 (2447 : Int64)))), m)).2) 0)).toInt64)) (v_X4_bitsOfShare ((lp (b_X4_digest_4 m) 12 0 ((lp (b_X4_digest_3 m) 8 0 (lp (b_X4_digest_2 m) 3 0 (lp (b_X4_digest_1 m) 10 0 (2447 : Int64)))), m)).2) (v_X2_shareGranted ((lp (b_X4_digest_4 m) 12 0 ((lp (b_X4_digest_3 m) 8 0 (lp (b_X4_digest_2 m) 3 0 (lp (b_X4_digest_1 m) 10 0 (2447 : Int64)))), m)).2) 0))) ((((lp (b_X4_digest_4 m) 12 0 ((lp (b_X4_digest_3 m) 8 0 (lp (b_X4_digest_2 m) 3 0 (lp (b_X4_digest_1 m) 10 0 (2447 : Int64)))), m)).2.1 6 0 0 1)).toInt64)))), none, none] [] (lp (b_X4_digest_4 m) 12 0 ((lp (b_X4_digest_3 m) 8 0 (lp (b_X4_digest_2 m) 3 0 (lp (b_X4_digest_1 m) 10 0 (2447 : Int64)))), m)).2 _ _
  refine an_b 1 (pc2 := 186) (L2 := [some (vR 3 0 0), some (vL (lp (b_X4_digest_5 m) (((lp (b_X4_digest_4 m) 12 0 ((lp (b_X4_digest_3 m) 8 0 (lp (b_X4_digest_2 m) 3 0 (lp (b_X4_digest_1 m) 10 0 (2447 : Int64)))), m)).2.1 6 0 0 1)).toNatClampNeg 0 (v_X4_mix ((lp (b_X4_digest_4 m) 12 0 ((lp (b_X4_digest_3 m) 8 0 (lp (b_X4_digest_2 m) 3 0 (lp (b_X4_digest_1 m) 10 0 (2447 : Int64)))), m)).2) (v_X4_mix ((lp (b_X4_digest_4 m) 12 0 ((lp (b_X4_digest_3 m) 8 0 (lp (b_X4_digest_2 m) 3 0 (lp (b_X4_digest_1 m) 10 0 (2447 : Int64)))), m)).2) (v_X4_mix ((lp (b_X4_digest_4 m) 12 0 ((lp (b_X4_digest_3 m) 8 0 (lp (b_X4_digest_2 m) 3 0 (lp (b_X4_digest_1 m) 10 0 (2447 : Int64)))), m)).2) ((lp (b_X4_digest_4 m) 12 0 ((lp (b_X4_digest_3 m) 8 0 (lp (b_X4_digest_2 m) 3 0 (lp (b_X4_digest_1 m) 10 0 (2447 : Int64)))), m)).1) (((v_X2_mostWaitedFor ((lp (b_X4_digest_4 m) 12 0 ((lp (b_X4_digest_3 m) 8 0 (lp (b_X4_digest_2 m) 3 0 (lp (b_X4_digest_1 m) 10 0 (2447 : Int64)))), m)).2) 0)).toInt64)) (v_X4_bitsOfShare ((lp (b_X4_digest_4 m) 12 0 ((lp (b_X4_digest_3 m) 8 0 (lp (b_X4_digest_2 m) 3 0 (lp (b_X4_digest_1 m) 10 0 (2447 : Int64)))), m)).2) (v_X2_shareGranted ((lp (b_X4_digest_4 m) 12 0 ((lp (b_X4_digest_3 m) 8 0 (lp (b_X4_digest_2 m) 3 0 (lp (b_X4_digest_1 m) 10 0 (2447 : Int64)))), m)).2) 0))) ((((lp (b_X4_digest_4 m) 12 0 ((lp (b_X4_digest_3 m) 8 0 (lp (b_X4_digest_2 m) 3 0 (lp (b_X4_digest_1 m) 10 0 (2447 : Int64)))), m)).2.1 6 0 0 1)).toInt64)))), none, none]) (st2 := [vL (lp (b_X4_digest_5 m) (((lp (b_X4_digest_4 m) 12 0 ((lp (b_X4_digest_3 m) 8 0 (lp (b_X4_digest_2 m) 3 0 (lp (b_X4_digest_1 m) 10 0 (2447 : Int64)))), m)).2.1 6 0 0 1)).toNatClampNeg 0 (v_X4_mix ((lp (b_X4_digest_4 m) 12 0 ((lp (b_X4_digest_3 m) 8 0 (lp (b_X4_digest_2 m) 3 0 (lp (b_X4_digest_1 m) 10 0 (2447 : Int64)))), m)).2) (v_X4_mix ((lp (b_X4_digest_4 m) 12 0 ((lp (b_X4_digest_3 m) 8 0 (lp (b_X4_digest_2 m) 3 0 (lp (b_X4_digest_1 m) 10 0 (2447 : Int64)))), m)).2) (v_X4_mix ((lp (b_X4_digest_4 m) 12 0 ((lp (b_X4_digest_3 m) 8 0 (lp (b_X4_digest_2 m) 3 0 (lp (b_X4_digest_1 m) 10 0 (2447 : Int64)))), m)).2) ((lp (b_X4_digest_4 m) 12 0 ((lp (b_X4_digest_3 m) 8 0 (lp (b_X4_digest_2 m) 3 0 (lp (b_X4_digest_1 m) 10 0 (2447 : Int64)))), m)).1) (((v_X2_mostWaitedFor ((lp (b_X4_digest_4 m) 12 0 ((lp (b_X4_digest_3 m) 8 0 (lp (b_X4_digest_2 m) 3 0 (lp (b_X4_digest_1 m) 10 0 (2447 : Int64)))), m)).2) 0)).toInt64)) (v_X4_bitsOfShare ((lp (b_X4_digest_4 m) 12 0 ((lp (b_X4_digest_3 m) 8 0 (lp (b_X4_digest_2 m) 3 0 (lp (b_X4_digest_1 m) 10 0 (2447 : Int64)))), m)).2) (v_X2_shareGranted ((lp (b_X4_digest_4 m) 12 0 ((lp (b_X4_digest_3 m) 8 0 (lp (b_X4_digest_2 m) 3 0 (lp (b_X4_digest_1 m) 10 0 (2447 : Int64)))), m)).2) 0))) ((((lp (b_X4_digest_4 m) 12 0 ((lp (b_X4_digest_3 m) 8 0 (lp (b_X4_digest_2 m) 3 0 (lp (b_X4_digest_1 m) 10 0 (2447 : Int64)))), m)).2.1 6 0 0 1)).toInt64)))]) (m1 := (lp (b_X4_digest_4 m) 12 0 ((lp (b_X4_digest_3 m) 8 0 (lp (b_X4_digest_2 m) 3 0 (lp (b_X4_digest_1 m) 10 0 (2447 : Int64)))), m)).2) rfl ?_
  exact an_ret rfl rfl rfl rfl rfl
end
section
/-! arrays read and written at known places -/
theorem ix_lit (n : Nat) : (OfNat.ofNat n : Int32) = nI n := rfl
theorem an_ald {M : MI} {pc : Nat} {L : List (Option PV)} {r : List PV} {m m2 : PM} {t k g : Nat} {j : Int32} {v : OC} (E N : Nat) (h : asc (mT M) pc = some (.iaload, 1)) (hN : ilen m t k = some N) (hj : j = nI E) (hE : E < N) (hb : N < 2 ^ 31) (kk : An M (pc + 1) L (vI (m.1 t k g E) :: r) m v m2) : An M pc L (vI j :: vR t k g :: r) m v m2 := by
  subst hj
  refine one_iald N h hN (nI_in hE hb) ?_
  rw [nI_clamp (by omega)]
  exact kk
theorem an_ast {M : MI} {pc : Nat} {L : List (Option PV)} {r : List PV} {m m2 : PM} {t k g : Nat} {j x : Int32} {v : OC} (E N : Nat) (h : asc (mT M) pc = some (.iastore, 1)) (hN : ilen m t k = some N) (ht : ¬ t = 10) (hj : j = nI E) (hE : E < N) (hb : N < 2 ^ 31) (kk : An M (pc + 1) L r (wI m t k g E x) v m2) : An M pc L (vI x :: vI j :: vR t k g :: r) m v m2 := by
  subst hj
  refine one_iast N h hN ht (nI_in hE hb) ?_
  rw [nI_clamp (by omega)]
  exact kk
/-- the model's queues are not longer than they may be -/
def QL (m : PM) : Prop := ∀ r, r < 12 → (m.1 8 0 0 (125 + r)).toNatClampNeg ≤ 8
/-- a boolean answer that is 0 or 1 -/
theorem an_retz {M : MI} {pc : Nat} {L : List (Option PV)} {m : PM} {x : Int32} (hz : x = 0 ∨ x = 1) (h : asc (mT M) pc = some (.ireturn, 1)) (hr : mRet M = some .boolean) : An M pc L [vI x] m (.inl (some (vI x))) m := by
  refine an_ret h rfl rfl rfl ?_
  unfold sm_out
  have e : sm_ret M pc [vI x] = some (some (vI x)) := by
    unfold sm_ret
    rw [h]
    dsimp only
    rw [hr, if_neg (by decide), if_pos rfl]
    rcases hz with rfl | rfl
    · rw [if_pos rfl]; rfl
    · rw [if_neg (by decide), if_pos rfl]; rfl
  rw [e]
end
section
def v_X5_thrown (m : PM)  : Int32 := (m.1 7 0 0 5)
set_option maxRecDepth 100000 in
theorem r_X5_thrown (m : PM)  : Rn MX5_thrown [vR 7 0 0] m (some (vI (v_X5_thrown m))) m := by
  refine rn_of [some (vR 7 0 0)] rfl ?_
  unfold v_X5_thrown
  refine an_b 2 (pc2 := 4) (L2 := [some (vR 7 0 0)]) (st2 := [vI (m.1 7 0 0 5)]) (m1 := m) rfl ?_
  exact an_ret rfl rfl rfl rfl rfl
def v_X5_within (m : PM) (a1 : Int32) (a2 : Int32) (a3 : Int32) : Int32 := (if a1 < a2 then (0 : Int32) else (if a3 < a1 then (0 : Int32) else (1 : Int32)))
theorem z_X5_within (m : PM) (a1 : Int32) (a2 : Int32) (a3 : Int32) : (v_X5_within m a1 a2 a3) = 0 ∨ (v_X5_within m a1 a2 a3) = 1 := by
  unfold v_X5_within
  (repeat' split) <;> first | exact Or.inl rfl | exact Or.inr rfl
set_option maxRecDepth 100000 in
theorem r_X5_within (m : PM) (a1 : Int32) (a2 : Int32) (a3 : Int32) : Rn MX5_within [vI a1, vI a2, vI a3] m (some (vI (v_X5_within m a1 a2 a3))) m := by
  refine rn_of [some (vI a1), some (vI a2), some (vI a3)] rfl ?_
  unfold v_X5_within
  refine an_b 3 (pc2 := if a1 < a2 then 14 else 5) (L2 := [some (vI a1), some (vI a2), some (vI a3)]) (st2 := []) (m1 := m) rfl ?_
  refine an_ifi (c := a1 < a2) (fun h1 => ?_) (fun h1 => ?_)
  · refine an_b 1 (pc2 := 15) (L2 := [some (vI a1), some (vI a2), some (vI a3)]) (st2 := [vI (0 : Int32)]) (m1 := m) rfl ?_
    exact an_ret rfl rfl rfl rfl rfl
  · refine an_b 3 (pc2 := if a3 < a1 then 14 else 10) (L2 := [some (vI a1), some (vI a2), some (vI a3)]) (st2 := []) (m1 := m) rfl ?_
    refine an_ifi (c := a3 < a1) (fun h2 => ?_) (fun h2 => ?_)
    · refine an_b 1 (pc2 := 15) (L2 := [some (vI a1), some (vI a2), some (vI a3)]) (st2 := [vI (0 : Int32)]) (m1 := m) rfl ?_
      exact an_ret rfl rfl rfl rfl rfl
    · refine an_b 2 (pc2 := 15) (L2 := [some (vI a1), some (vI a2), some (vI a3)]) (st2 := [vI (1 : Int32)]) (m1 := m) rfl ?_
      exact an_ret rfl rfl rfl rfl rfl
def v_X5_isHand (m : PM) (a1 : Int32) : Int32 := (v_X5_within m a1 (0 : Int32) (7 : Int32))
theorem z_X5_isHand (m : PM) (a1 : Int32) : (v_X5_isHand m a1) = 0 ∨ (v_X5_isHand m a1) = 1 := by
  unfold v_X5_isHand
  (repeat' split) <;> first | exact Or.inl rfl | exact Or.inr rfl | exact z_X5_within _ _ _ _
set_option maxRecDepth 100000 in
theorem r_X5_isHand (m : PM) (a1 : Int32) : Rn MX5_isHand [vI a1] m (some (vI (v_X5_isHand m a1))) m := by
  refine rn_of [some (vI a1)] rfl ?_
  unfold v_X5_isHand
  refine an_b 3 (pc2 := 4) (L2 := [some (vI a1)]) (st2 := [vI (7 : Int32), vI (0 : Int32), vI a1]) (m1 := m) rfl ?_
  refine an_call (r_X5_within m a1 (0 : Int32) (7 : Int32)) rfl rfl rfl rfl ?_
  exact an_retz (z_X5_within m a1 (0 : Int32) (7 : Int32)) rfl rfl
def v_X5_isRow (m : PM) (a1 : Int32) : Int32 := (v_X5_within m a1 (0 : Int32) (11 : Int32))
theorem z_X5_isRow (m : PM) (a1 : Int32) : (v_X5_isRow m a1) = 0 ∨ (v_X5_isRow m a1) = 1 := by
  unfold v_X5_isRow
  (repeat' split) <;> first | exact Or.inl rfl | exact Or.inr rfl | exact z_X5_within _ _ _ _
set_option maxRecDepth 100000 in
theorem r_X5_isRow (m : PM) (a1 : Int32) : Rn MX5_isRow [vI a1] m (some (vI (v_X5_isRow m a1))) m := by
  refine rn_of [some (vI a1)] rfl ?_
  unfold v_X5_isRow
  refine an_b 3 (pc2 := 4) (L2 := [some (vI a1)]) (st2 := [vI (11 : Int32), vI (0 : Int32), vI a1]) (m1 := m) rfl ?_
  refine an_call (r_X5_within m a1 (0 : Int32) (11 : Int32)) rfl rfl rfl rfl ?_
  exact an_retz (z_X5_within m a1 (0 : Int32) (11 : Int32)) rfl rfl
def v_X5_areThere (m : PM) (a1 : Int32) (a2 : Int32) : Int32 := (if (v_X5_isHand m a1) = 0 then (0 : Int32) else (if (v_X5_isRow m a2) = 0 then (0 : Int32) else (1 : Int32)))
theorem z_X5_areThere (m : PM) (a1 : Int32) (a2 : Int32) : (v_X5_areThere m a1 a2) = 0 ∨ (v_X5_areThere m a1 a2) = 1 := by
  unfold v_X5_areThere
  (repeat' split) <;> first | exact Or.inl rfl | exact Or.inr rfl | exact z_X5_isHand _ _ | exact z_X5_isRow _ _
set_option maxRecDepth 100000 in
theorem r_X5_areThere (m : PM) (a1 : Int32) (a2 : Int32) : Rn MX5_areThere [vI a1, vI a2] m (some (vI (v_X5_areThere m a1 a2))) m := by
  refine rn_of [some (vI a1), some (vI a2)] rfl ?_
  unfold v_X5_areThere
  refine an_b 1 (pc2 := 1) (L2 := [some (vI a1), some (vI a2)]) (st2 := [vI a1]) (m1 := m) rfl ?_
  refine an_call (r_X5_isHand m a1) rfl rfl rfl rfl ?_
  refine an_b 1 (pc2 := if (v_X5_isHand m a1) = 0 then 18 else 7) (L2 := [some (vI a1), some (vI a2)]) (st2 := []) (m1 := m) rfl ?_
  refine an_ifi (c := (v_X5_isHand m a1) = 0) (fun h1 => ?_) (fun h1 => ?_)
  · refine an_b 1 (pc2 := 19) (L2 := [some (vI a1), some (vI a2)]) (st2 := [vI (0 : Int32)]) (m1 := m) rfl ?_
    exact an_ret rfl rfl rfl rfl rfl
  · refine an_b 1 (pc2 := 8) (L2 := [some (vI a1), some (vI a2)]) (st2 := [vI a2]) (m1 := m) rfl ?_
    refine an_call (r_X5_isRow m a2) rfl rfl rfl rfl ?_
    refine an_b 1 (pc2 := if (v_X5_isRow m a2) = 0 then 18 else 14) (L2 := [some (vI a1), some (vI a2)]) (st2 := []) (m1 := m) rfl ?_
    refine an_ifi (c := (v_X5_isRow m a2) = 0) (fun h2 => ?_) (fun h2 => ?_)
    · refine an_b 1 (pc2 := 19) (L2 := [some (vI a1), some (vI a2)]) (st2 := [vI (0 : Int32)]) (m1 := m) rfl ?_
      exact an_ret rfl rfl rfl rfl rfl
    · refine an_b 2 (pc2 := 19) (L2 := [some (vI a1), some (vI a2)]) (st2 := [vI (1 : Int32)]) (m1 := m) rfl ?_
      exact an_ret rfl rfl rfl rfl rfl
def v_X5_lockOf (m : PM) (a1 : Nat) (a2 : Nat) : Int32 := (m.1 8 0 0 ((5 + (12 * a1)) + a2))
set_option maxRecDepth 100000 in
theorem r_X5_lockOf (m : PM) (a1 : Nat) (a2 : Nat) (ha1 : a1 < 8) (ha2 : a2 < 12) : Rn MX5_lockOf [vR 7 0 0, vI (nI a1), vI (nI a2)] m (some (vI (v_X5_lockOf m a1 a2))) m := by
  refine rn_of [some (vR 7 0 0), some (vI (nI a1)), some (vI (nI a2))] rfl ?_
  unfold v_X5_lockOf
  refine an_b 9 (pc2 := 12) (L2 := [some (vR 7 0 0), some (vI (nI a1)), some (vI (nI a2))]) (st2 := [vI (((5 : Int32) + ((12 : Int32) * (nI a1))) + (nI a2)), vR 8 0 0]) (m1 := m) rfl ?_
  refine an_ald ((5 + (12 * a1)) + a2) 361 rfl rfl (by simp only [ix_lit, pk_mul, nI_add]) (by omega) (by omega) ?_
  exact an_ret rfl rfl rfl rfl rfl
def w_X5_setLock (m : PM) (a1 : Nat) (a2 : Nat) (a3 : Int32) : PM := (wI m 8 0 0 ((5 + (12 * a1)) + a2) a3)
set_option maxRecDepth 100000 in
theorem r_X5_setLock (m : PM) (a1 : Nat) (a2 : Nat) (a3 : Int32) (ha1 : a1 < 8) (ha2 : a2 < 12) : Rn MX5_setLock [vR 7 0 0, vI (nI a1), vI (nI a2), vI a3] m none (w_X5_setLock m a1 a2 a3) := by
  refine rn_of [some (vR 7 0 0), some (vI (nI a1)), some (vI (nI a2)), some (vI a3)] rfl ?_
  unfold w_X5_setLock
  refine an_b 10 (pc2 := 13) (L2 := [some (vR 7 0 0), some (vI (nI a1)), some (vI (nI a2)), some (vI a3)]) (st2 := [vI a3, vI (((5 : Int32) + ((12 : Int32) * (nI a1))) + (nI a2)), vR 8 0 0]) (m1 := m) rfl ?_
  refine an_ast ((5 + (12 * a1)) + a2) 361 rfl rfl (by decide) (by simp only [ix_lit, pk_mul, nI_add]) (by omega) (by omega) ?_
  exact an_ret rfl rfl rfl rfl rfl
def v_X5_whoAt (m : PM) (a1 : Nat) (a2 : Nat) : Int32 := (m.1 8 0 0 ((137 + (8 * a1)) + a2))
set_option maxRecDepth 100000 in
theorem r_X5_whoAt (m : PM) (a1 : Nat) (a2 : Nat) (ha1 : a1 < 12) (ha2 : a2 < 8) : Rn MX5_whoAt [vR 7 0 0, vI (nI a1), vI (nI a2)] m (some (vI (v_X5_whoAt m a1 a2))) m := by
  refine rn_of [some (vR 7 0 0), some (vI (nI a1)), some (vI (nI a2))] rfl ?_
  unfold v_X5_whoAt
  refine an_b 9 (pc2 := 14) (L2 := [some (vR 7 0 0), some (vI (nI a1)), some (vI (nI a2))]) (st2 := [vI (((137 : Int32) + ((8 : Int32) * (nI a1))) + (nI a2)), vR 8 0 0]) (m1 := m) rfl ?_
  refine an_ald ((137 + (8 * a1)) + a2) 361 rfl rfl (by simp only [ix_lit, pk_mul, nI_add]) (by omega) (by omega) ?_
  exact an_ret rfl rfl rfl rfl rfl
def v_X5_modeAt (m : PM) (a1 : Nat) (a2 : Nat) : Int32 := (m.1 8 0 0 ((233 + (8 * a1)) + a2))
set_option maxRecDepth 100000 in
theorem r_X5_modeAt (m : PM) (a1 : Nat) (a2 : Nat) (ha1 : a1 < 12) (ha2 : a2 < 8) : Rn MX5_modeAt [vR 7 0 0, vI (nI a1), vI (nI a2)] m (some (vI (v_X5_modeAt m a1 a2))) m := by
  refine rn_of [some (vR 7 0 0), some (vI (nI a1)), some (vI (nI a2))] rfl ?_
  unfold v_X5_modeAt
  refine an_b 9 (pc2 := 14) (L2 := [some (vR 7 0 0), some (vI (nI a1)), some (vI (nI a2))]) (st2 := [vI (((233 : Int32) + ((8 : Int32) * (nI a1))) + (nI a2)), vR 8 0 0]) (m1 := m) rfl ?_
  refine an_ald ((233 + (8 * a1)) + a2) 361 rfl rfl (by simp only [ix_lit, pk_mul, nI_add]) (by omega) (by omega) ?_
  exact an_ret rfl rfl rfl rfl rfl
def b_X5_placeIn_1 (m : PM) (a1 : Int32) (a2 : Nat)  (j1 : Nat) (s1 : Int32) : Int32 := (if ¬ (v_X5_whoAt m a2 j1) = a1 then s1 else (nI j1))
def v_X5_placeIn (m : PM) (a1 : Int32) (a2 : Nat) : Int32 := (lp (b_X5_placeIn_1 m a1 a2) ((m.1 8 0 0 (125 + a2))).toNatClampNeg 0 (-1 : Int32))
set_option maxRecDepth 100000 in
theorem r_X5_placeIn (m : PM) (a1 : Int32) (a2 : Nat) (ha2 : a2 < 12) (hQ : QL m) : Rn MX5_placeIn [vR 7 0 0, vI a1, vI (nI a2)] m (some (vI (v_X5_placeIn m a1 a2))) m := by
  refine rn_of [some (vR 7 0 0), some (vI a1), some (vI (nI a2)), none, none] rfl ?_
  unfold v_X5_placeIn
  refine an_b 4 (pc2 := 5) (L2 := [some (vR 7 0 0), some (vI a1), some (vI (nI a2)), some (vI (-1 : Int32)), some (vI (0 : Int32))]) (st2 := []) (m1 := m) rfl ?_
  refine re_lp (σ := Int32) (b_X5_placeIn_1 m a1 a2) (fun j1 s1 => (5, [some (vR 7 0 0), some (vI a1), some (vI (nI a2)), some (vI s1), some (vI (nI j1))], [], m)) ((m.1 8 0 0 (125 + a2))).toNatClampNeg (fun s1 => (43, [some (vR 7 0 0), some (vI a1), some (vI (nI a2)), some (vI s1), none], [], m)) (fun j1 s1 hj1 v9 m9 K1 => ?_) (fun s1 v9 m9 K1 => ?_) ((m.1 8 0 0 (125 + a2))).toNatClampNeg 0 (-1 : Int32) (Nat.add_zero _) _ _ ?_
  · show An MX5_placeIn 5 [some (vR 7 0 0), some (vI a1), some (vI (nI a2)), some (vI s1), some (vI (nI j1))] [] m v9 m9
    have hq1 := hQ a2 (by omega)
    refine an_b 6 (pc2 := 15) (L2 := [some (vR 7 0 0), some (vI a1), some (vI (nI a2)), some (vI s1), some (vI (nI j1))]) (st2 := [vI ((125 : Int32) + (nI a2)), vR 8 0 0, vI (nI j1)]) (m1 := m) rfl ?_
    refine an_ald (125 + a2) 361 rfl rfl (by simp only [ix_lit, pk_mul, nI_add]) (by omega) (by omega) ?_
    refine an_b 1 (pc2 := if (m.1 8 0 0 (125 + a2)) ≤ (nI j1) then 43 else 19) (L2 := [some (vR 7 0 0), some (vI a1), some (vI (nI a2)), some (vI s1), some (vI (nI j1))]) (st2 := []) (m1 := m) rfl ?_
    refine an_f (bnd_lt hj1) ?_
    refine an_b 3 (pc2 := 23) (L2 := [some (vR 7 0 0), some (vI a1), some (vI (nI a2)), some (vI s1), some (vI (nI j1))]) (st2 := [vI (nI j1), vI (nI a2), vR 7 0 0]) (m1 := m) rfl ?_
    refine an_call (r_X5_whoAt m a2 j1 (by omega) (by omega)) rfl rfl rfl rfl ?_
    refine an_b 2 (pc2 := if ¬ (v_X5_whoAt m a2 j1) = a1 then 35 else 30) (L2 := [some (vR 7 0 0), some (vI a1), some (vI (nI a2)), some (vI s1), some (vI (nI j1))]) (st2 := []) (m1 := m) rfl ?_
    refine re_if1 (c := ¬ (v_X5_whoAt m a2 j1) = a1) (a := s1) (b := (nI j1)) (fun x => (36, [some (vR 7 0 0), some (vI a1), some (vI (nI a2)), some (vI s1), some (vI (nI j1))], [vI x], m)) (fun h1 v9 m9 K2 => ?_) (fun h1 v9 m9 K2 => ?_) _ _ ?_
    · refine an_b 1 (pc2 := 36) (L2 := [some (vR 7 0 0), some (vI a1), some (vI (nI a2)), some (vI s1), some (vI (nI j1))]) (st2 := [vI s1]) (m1 := m) rfl ?_
      exact K2
    · refine an_b 2 (pc2 := 36) (L2 := [some (vR 7 0 0), some (vI a1), some (vI (nI a2)), some (vI s1), some (vI (nI j1))]) (st2 := [vI (nI j1)]) (m1 := m) rfl ?_
      exact K2
    refine an_b 3 (pc2 := 5) (L2 := [some (vR 7 0 0), some (vI a1), some (vI (nI a2)), some (vI (if ¬ (v_X5_whoAt m a2 j1) = a1 then s1 else (nI j1))), some (vI ((nI j1) + (1 : Int32)))]) (st2 := []) (m1 := m) rfl ?_
    refine an_cL (K := [some (vR 7 0 0), some (vI a1), some (vI (nI a2)), some (vI (if ¬ (v_X5_whoAt m a2 j1) = a1 then s1 else (nI j1))), some (vI (nI (j1 + 1)))]) (by simp only [nI_1]) ?_
    exact K1
  · show An MX5_placeIn 5 [some (vR 7 0 0), some (vI a1), some (vI (nI a2)), some (vI s1), some (vI (nI (((m.1 8 0 0 (125 + a2))).toNatClampNeg)))] [] m v9 m9
    refine an_b 6 (pc2 := 15) (L2 := [some (vR 7 0 0), some (vI a1), some (vI (nI a2)), some (vI s1), some (vI (nI (((m.1 8 0 0 (125 + a2))).toNatClampNeg)))]) (st2 := [vI ((125 : Int32) + (nI a2)), vR 8 0 0, vI (nI (((m.1 8 0 0 (125 + a2))).toNatClampNeg))]) (m1 := m) rfl ?_
    refine an_ald (125 + a2) 361 rfl rfl (by simp only [ix_lit, pk_mul, nI_add]) (by omega) (by omega) ?_
    refine an_b 1 (pc2 := if (m.1 8 0 0 (125 + a2)) ≤ (nI (((m.1 8 0 0 (125 + a2))).toNatClampNeg)) then 43 else 19) (L2 := [some (vR 7 0 0), some (vI a1), some (vI (nI a2)), some (vI s1), some (vI (nI (((m.1 8 0 0 (125 + a2))).toNatClampNeg)))]) (st2 := []) (m1 := m) rfl ?_
    refine an_t (bnd_ge rfl) ?_
    refine an_weak (L := [some (vR 7 0 0), some (vI a1), some (vI (nI a2)), some (vI s1), none]) (⟨rfl, rfl, rfl, rfl, trivial⟩) ?_
    exact K1
  show An MX5_placeIn 43 [some (vR 7 0 0), some (vI a1), some (vI (nI a2)), some (vI (lp (b_X5_placeIn_1 m a1 a2) ((m.1 8 0 0 (125 + a2))).toNatClampNeg 0 (-1 : Int32))), none] [] m _ _
  refine an_b 1 (pc2 := 44) (L2 := [some (vR 7 0 0), some (vI a1), some (vI (nI a2)), some (vI (lp (b_X5_placeIn_1 m a1 a2) ((m.1 8 0 0 (125 + a2))).toNatClampNeg 0 (-1 : Int32))), none]) (st2 := [vI (lp (b_X5_placeIn_1 m a1 a2) ((m.1 8 0 0 (125 + a2))).toNatClampNeg 0 (-1 : Int32))]) (m1 := m) rfl ?_
  exact an_ret rfl rfl rfl rfl rfl
def b_X5_rowOf_1 (m : PM) (a1 : Int32)  (j1 : Nat) (s1 : Int32) : Int32 := (if ¬ (v_X5_placeIn m a1 j1) = (-1 : Int32) then (nI j1) else s1)
def v_X5_rowOf (m : PM) (a1 : Int32) : Int32 := (lp (b_X5_rowOf_1 m a1) 12 0 (-1 : Int32))
set_option maxRecDepth 100000 in
theorem r_X5_rowOf (m : PM) (a1 : Int32) (hQ : QL m) : Rn MX5_rowOf [vR 7 0 0, vI a1] m (some (vI (v_X5_rowOf m a1))) m := by
  refine rn_of [some (vR 7 0 0), some (vI a1), none, none] rfl ?_
  unfold v_X5_rowOf
  refine an_b 4 (pc2 := 4) (L2 := [some (vR 7 0 0), some (vI a1), some (vI (-1 : Int32)), some (vI (0 : Int32))]) (st2 := []) (m1 := m) rfl ?_
  refine re_lp (σ := Int32) (b_X5_rowOf_1 m a1) (fun j1 s1 => (4, [some (vR 7 0 0), some (vI a1), some (vI s1), some (vI (nI j1))], [], m)) 12 (fun s1 => (32, [some (vR 7 0 0), some (vI a1), some (vI s1), none], [], m)) (fun j1 s1 hj1 v9 m9 K1 => ?_) (fun s1 v9 m9 K1 => ?_) 12 0 (-1 : Int32) (Nat.add_zero _) _ _ ?_
  · show An MX5_rowOf 4 [some (vR 7 0 0), some (vI a1), some (vI s1), some (vI (nI j1))] [] m v9 m9
    refine an_b 3 (pc2 := if (12 : Int32) ≤ (nI j1) then 32 else 10) (L2 := [some (vR 7 0 0), some (vI a1), some (vI s1), some (vI (nI j1))]) (st2 := []) (m1 := m) rfl ?_
    refine an_f (nI_ge (a := j1) (b := 12) (by omega) (by omega)) ?_
    refine an_b 3 (pc2 := 13) (L2 := [some (vR 7 0 0), some (vI a1), some (vI s1), some (vI (nI j1))]) (st2 := [vI (nI j1), vI a1, vR 7 0 0]) (m1 := m) rfl ?_
    refine an_call (r_X5_placeIn m a1 j1 (by omega) hQ) rfl rfl rfl rfl ?_
    refine an_b 2 (pc2 := if ¬ (v_X5_placeIn m a1 j1) = (-1 : Int32) then 24 else 20) (L2 := [some (vR 7 0 0), some (vI a1), some (vI s1), some (vI (nI j1))]) (st2 := []) (m1 := m) rfl ?_
    refine re_if1 (c := ¬ (v_X5_placeIn m a1 j1) = (-1 : Int32)) (a := (nI j1)) (b := s1) (fun x => (25, [some (vR 7 0 0), some (vI a1), some (vI s1), some (vI (nI j1))], [vI x], m)) (fun h1 v9 m9 K2 => ?_) (fun h1 v9 m9 K2 => ?_) _ _ ?_
    · refine an_b 1 (pc2 := 25) (L2 := [some (vR 7 0 0), some (vI a1), some (vI s1), some (vI (nI j1))]) (st2 := [vI (nI j1)]) (m1 := m) rfl ?_
      exact K2
    · refine an_b 2 (pc2 := 25) (L2 := [some (vR 7 0 0), some (vI a1), some (vI s1), some (vI (nI j1))]) (st2 := [vI s1]) (m1 := m) rfl ?_
      exact K2
    refine an_b 3 (pc2 := 4) (L2 := [some (vR 7 0 0), some (vI a1), some (vI (if ¬ (v_X5_placeIn m a1 j1) = (-1 : Int32) then (nI j1) else s1)), some (vI ((nI j1) + (1 : Int32)))]) (st2 := []) (m1 := m) rfl ?_
    refine an_cL (K := [some (vR 7 0 0), some (vI a1), some (vI (if ¬ (v_X5_placeIn m a1 j1) = (-1 : Int32) then (nI j1) else s1)), some (vI (nI (j1 + 1)))]) (by simp only [nI_1]) ?_
    exact K1
  · show An MX5_rowOf 4 [some (vR 7 0 0), some (vI a1), some (vI s1), some (vI (nI 12))] [] m v9 m9
    refine an_b 3 (pc2 := if (12 : Int32) ≤ (nI 12) then 32 else 10) (L2 := [some (vR 7 0 0), some (vI a1), some (vI s1), some (vI (nI 12))]) (st2 := []) (m1 := m) rfl ?_
    refine an_t (nI_le (a := 12) (b := 12) (by omega) (by omega)) ?_
    refine an_weak (L := [some (vR 7 0 0), some (vI a1), some (vI s1), none]) (⟨rfl, rfl, rfl, trivial⟩) ?_
    exact K1
  show An MX5_rowOf 32 [some (vR 7 0 0), some (vI a1), some (vI (lp (b_X5_rowOf_1 m a1) 12 0 (-1 : Int32))), none] [] m _ _
  refine an_b 1 (pc2 := 33) (L2 := [some (vR 7 0 0), some (vI a1), some (vI (lp (b_X5_rowOf_1 m a1) 12 0 (-1 : Int32))), none]) (st2 := [vI (lp (b_X5_rowOf_1 m a1) 12 0 (-1 : Int32))]) (m1 := m) rfl ?_
  exact an_ret rfl rfl rfl rfl rfl
def v_X5_waits (m : PM) (a1 : Int32) : Int32 := (if (v_X5_rowOf m a1) = (-1 : Int32) then (0 : Int32) else (1 : Int32))
theorem z_X5_waits (m : PM) (a1 : Int32) : (v_X5_waits m a1) = 0 ∨ (v_X5_waits m a1) = 1 := by
  unfold v_X5_waits
  (repeat' split) <;> first | exact Or.inl rfl | exact Or.inr rfl
set_option maxRecDepth 100000 in
theorem r_X5_waits (m : PM) (a1 : Int32) (hQ : QL m) : Rn MX5_waits [vR 7 0 0, vI a1] m (some (vI (v_X5_waits m a1))) m := by
  refine rn_of [some (vR 7 0 0), some (vI a1)] rfl ?_
  unfold v_X5_waits
  refine an_b 2 (pc2 := 2) (L2 := [some (vR 7 0 0), some (vI a1)]) (st2 := [vI a1, vR 7 0 0]) (m1 := m) rfl ?_
  refine an_call (r_X5_rowOf m a1 hQ) rfl rfl rfl rfl ?_
  refine an_b 2 (pc2 := if (v_X5_rowOf m a1) = (-1 : Int32) then 13 else 9) (L2 := [some (vR 7 0 0), some (vI a1)]) (st2 := []) (m1 := m) rfl ?_
  refine an_ifi (c := (v_X5_rowOf m a1) = (-1 : Int32)) (fun h1 => ?_) (fun h1 => ?_)
  · refine an_b 1 (pc2 := 14) (L2 := [some (vR 7 0 0), some (vI a1)]) (st2 := [vI (0 : Int32)]) (m1 := m) rfl ?_
    exact an_ret rfl rfl rfl rfl rfl
  · refine an_b 2 (pc2 := 14) (L2 := [some (vR 7 0 0), some (vI a1)]) (st2 := [vI (1 : Int32)]) (m1 := m) rfl ?_
    exact an_ret rfl rfl rfl rfl rfl
def b_X5_workOf_1 (m : PM) (a1 : Nat)  (j1 : Nat) (s1 : Int32) : Int32 := (s1 + (v_X5_lockOf m a1 j1))
def v_X5_workOf (m : PM) (a1 : Nat) : Int32 := (lp (b_X5_workOf_1 m a1) 12 0 (0 : Int32))
set_option maxRecDepth 100000 in
theorem r_X5_workOf (m : PM) (a1 : Nat) (ha1 : a1 < 8) : Rn MX5_workOf [vR 7 0 0, vI (nI a1)] m (some (vI (v_X5_workOf m a1))) m := by
  refine rn_of [some (vR 7 0 0), some (vI (nI a1)), none, none] rfl ?_
  unfold v_X5_workOf
  refine an_b 4 (pc2 := 4) (L2 := [some (vR 7 0 0), some (vI (nI a1)), some (vI (0 : Int32)), some (vI (0 : Int32))]) (st2 := []) (m1 := m) rfl ?_
  refine re_lp (σ := Int32) (b_X5_workOf_1 m a1) (fun j1 s1 => (4, [some (vR 7 0 0), some (vI (nI a1)), some (vI s1), some (vI (nI j1))], [], m)) 12 (fun s1 => (25, [some (vR 7 0 0), some (vI (nI a1)), some (vI s1), none], [], m)) (fun j1 s1 hj1 v9 m9 K1 => ?_) (fun s1 v9 m9 K1 => ?_) 12 0 (0 : Int32) (Nat.add_zero _) _ _ ?_
  · show An MX5_workOf 4 [some (vR 7 0 0), some (vI (nI a1)), some (vI s1), some (vI (nI j1))] [] m v9 m9
    refine an_b 3 (pc2 := if (12 : Int32) ≤ (nI j1) then 25 else 10) (L2 := [some (vR 7 0 0), some (vI (nI a1)), some (vI s1), some (vI (nI j1))]) (st2 := []) (m1 := m) rfl ?_
    refine an_f (nI_ge (a := j1) (b := 12) (by omega) (by omega)) ?_
    refine an_b 4 (pc2 := 14) (L2 := [some (vR 7 0 0), some (vI (nI a1)), some (vI s1), some (vI (nI j1))]) (st2 := [vI (nI j1), vI (nI a1), vR 7 0 0, vI s1]) (m1 := m) rfl ?_
    refine an_call (r_X5_lockOf m a1 j1 (by omega) (by omega)) rfl rfl rfl rfl ?_
    refine an_b 4 (pc2 := 4) (L2 := [some (vR 7 0 0), some (vI (nI a1)), some (vI (s1 + (v_X5_lockOf m a1 j1))), some (vI ((nI j1) + (1 : Int32)))]) (st2 := []) (m1 := m) rfl ?_
    refine an_cL (K := [some (vR 7 0 0), some (vI (nI a1)), some (vI (s1 + (v_X5_lockOf m a1 j1))), some (vI (nI (j1 + 1)))]) (by simp only [nI_1]) ?_
    exact K1
  · show An MX5_workOf 4 [some (vR 7 0 0), some (vI (nI a1)), some (vI s1), some (vI (nI 12))] [] m v9 m9
    refine an_b 3 (pc2 := if (12 : Int32) ≤ (nI 12) then 25 else 10) (L2 := [some (vR 7 0 0), some (vI (nI a1)), some (vI s1), some (vI (nI 12))]) (st2 := []) (m1 := m) rfl ?_
    refine an_t (nI_le (a := 12) (b := 12) (by omega) (by omega)) ?_
    refine an_weak (L := [some (vR 7 0 0), some (vI (nI a1)), some (vI s1), none]) (⟨rfl, rfl, rfl, trivial⟩) ?_
    exact K1
  show An MX5_workOf 25 [some (vR 7 0 0), some (vI (nI a1)), some (vI (lp (b_X5_workOf_1 m a1) 12 0 (0 : Int32))), none] [] m _ _
  refine an_b 1 (pc2 := 26) (L2 := [some (vR 7 0 0), some (vI (nI a1)), some (vI (lp (b_X5_workOf_1 m a1) 12 0 (0 : Int32))), none]) (st2 := [vI (lp (b_X5_workOf_1 m a1) 12 0 (0 : Int32))]) (m1 := m) rfl ?_
  exact an_ret rfl rfl rfl rfl rfl
def b_X5_holders_1 (m : PM) (a1 : Nat)  (j1 : Nat) (s1 : Int32) : Int32 := (s1 ||| (if (v_X5_lockOf m j1 a1) ≤ 0 then (0 : Int32) else ((1 : Int32) <<< ((nI j1) &&& (31 : Int32)))))
def v_X5_holders (m : PM) (a1 : Nat) : Int32 := (lp (b_X5_holders_1 m a1) 8 0 (0 : Int32))
set_option maxRecDepth 100000 in
theorem r_X5_holders (m : PM) (a1 : Nat) (ha1 : a1 < 12) : Rn MX5_holders [vR 7 0 0, vI (nI a1)] m (some (vI (v_X5_holders m a1))) m := by
  refine rn_of [some (vR 7 0 0), some (vI (nI a1)), none, none] rfl ?_
  unfold v_X5_holders
  refine an_b 4 (pc2 := 4) (L2 := [some (vR 7 0 0), some (vI (nI a1)), some (vI (0 : Int32)), some (vI (0 : Int32))]) (st2 := []) (m1 := m) rfl ?_
  refine re_lp (σ := Int32) (b_X5_holders_1 m a1) (fun j1 s1 => (4, [some (vR 7 0 0), some (vI (nI a1)), some (vI s1), some (vI (nI j1))], [], m)) 8 (fun s1 => (35, [some (vR 7 0 0), some (vI (nI a1)), some (vI s1), none], [], m)) (fun j1 s1 hj1 v9 m9 K1 => ?_) (fun s1 v9 m9 K1 => ?_) 8 0 (0 : Int32) (Nat.add_zero _) _ _ ?_
  · show An MX5_holders 4 [some (vR 7 0 0), some (vI (nI a1)), some (vI s1), some (vI (nI j1))] [] m v9 m9
    refine an_b 3 (pc2 := if (8 : Int32) ≤ (nI j1) then 35 else 10) (L2 := [some (vR 7 0 0), some (vI (nI a1)), some (vI s1), some (vI (nI j1))]) (st2 := []) (m1 := m) rfl ?_
    refine an_f (nI_ge (a := j1) (b := 8) (by omega) (by omega)) ?_
    refine an_b 4 (pc2 := 14) (L2 := [some (vR 7 0 0), some (vI (nI a1)), some (vI s1), some (vI (nI j1))]) (st2 := [vI (nI a1), vI (nI j1), vR 7 0 0, vI s1]) (m1 := m) rfl ?_
    refine an_call (r_X5_lockOf m j1 a1 (by omega) (by omega)) rfl rfl rfl rfl ?_
    refine an_b 1 (pc2 := if (v_X5_lockOf m j1 a1) ≤ 0 then 26 else 20) (L2 := [some (vR 7 0 0), some (vI (nI a1)), some (vI s1), some (vI (nI j1))]) (st2 := [vI s1]) (m1 := m) rfl ?_
    refine re_if1 (c := (v_X5_lockOf m j1 a1) ≤ 0) (a := (0 : Int32)) (b := ((1 : Int32) <<< ((nI j1) &&& (31 : Int32)))) (fun x => (27, [some (vR 7 0 0), some (vI (nI a1)), some (vI s1), some (vI (nI j1))], [vI x, vI s1], m)) (fun h1 v9 m9 K2 => ?_) (fun h1 v9 m9 K2 => ?_) _ _ ?_
    · refine an_b 1 (pc2 := 27) (L2 := [some (vR 7 0 0), some (vI (nI a1)), some (vI s1), some (vI (nI j1))]) (st2 := [vI (0 : Int32), vI s1]) (m1 := m) rfl ?_
      exact K2
    · refine an_b 4 (pc2 := 27) (L2 := [some (vR 7 0 0), some (vI (nI a1)), some (vI s1), some (vI (nI j1))]) (st2 := [vI ((1 : Int32) <<< ((nI j1) &&& (31 : Int32))), vI s1]) (m1 := m) rfl ?_
      exact K2
    refine an_b 4 (pc2 := 4) (L2 := [some (vR 7 0 0), some (vI (nI a1)), some (vI (s1 ||| (if (v_X5_lockOf m j1 a1) ≤ 0 then (0 : Int32) else ((1 : Int32) <<< ((nI j1) &&& (31 : Int32)))))), some (vI ((nI j1) + (1 : Int32)))]) (st2 := []) (m1 := m) rfl ?_
    refine an_cL (K := [some (vR 7 0 0), some (vI (nI a1)), some (vI (s1 ||| (if (v_X5_lockOf m j1 a1) ≤ 0 then (0 : Int32) else ((1 : Int32) <<< ((nI j1) &&& (31 : Int32)))))), some (vI (nI (j1 + 1)))]) (by simp only [nI_1]) ?_
    exact K1
  · show An MX5_holders 4 [some (vR 7 0 0), some (vI (nI a1)), some (vI s1), some (vI (nI 8))] [] m v9 m9
    refine an_b 3 (pc2 := if (8 : Int32) ≤ (nI 8) then 35 else 10) (L2 := [some (vR 7 0 0), some (vI (nI a1)), some (vI s1), some (vI (nI 8))]) (st2 := []) (m1 := m) rfl ?_
    refine an_t (nI_le (a := 8) (b := 8) (by omega) (by omega)) ?_
    refine an_weak (L := [some (vR 7 0 0), some (vI (nI a1)), some (vI s1), none]) (⟨rfl, rfl, rfl, trivial⟩) ?_
    exact K1
  show An MX5_holders 35 [some (vR 7 0 0), some (vI (nI a1)), some (vI (lp (b_X5_holders_1 m a1) 8 0 (0 : Int32))), none] [] m _ _
  refine an_b 1 (pc2 := 36) (L2 := [some (vR 7 0 0), some (vI (nI a1)), some (vI (lp (b_X5_holders_1 m a1) 8 0 (0 : Int32))), none]) (st2 := [vI (lp (b_X5_holders_1 m a1) 8 0 (0 : Int32))]) (m1 := m) rfl ?_
  exact an_ret rfl rfl rfl rfl rfl
def b_X5_greatestOf_1 (m : PM) (a1 : Nat)  (j1 : Nat) (s1 : Int32) : Int32 := (if (v_X5_lockOf m j1 a1) ≤ s1 then s1 else (v_X5_lockOf m j1 a1))
def v_X5_greatestOf (m : PM) (a1 : Nat) : Int32 := (lp (b_X5_greatestOf_1 m a1) 8 0 (0 : Int32))
set_option maxRecDepth 100000 in
theorem r_X5_greatestOf (m : PM) (a1 : Nat) (ha1 : a1 < 12) : Rn MX5_greatestOf [vR 7 0 0, vI (nI a1)] m (some (vI (v_X5_greatestOf m a1))) m := by
  refine rn_of [some (vR 7 0 0), some (vI (nI a1)), none, none] rfl ?_
  unfold v_X5_greatestOf
  refine an_b 4 (pc2 := 4) (L2 := [some (vR 7 0 0), some (vI (nI a1)), some (vI (0 : Int32)), some (vI (0 : Int32))]) (st2 := []) (m1 := m) rfl ?_
  refine re_lp (σ := Int32) (b_X5_greatestOf_1 m a1) (fun j1 s1 => (4, [some (vR 7 0 0), some (vI (nI a1)), some (vI s1), some (vI (nI j1))], [], m)) 8 (fun s1 => (37, [some (vR 7 0 0), some (vI (nI a1)), some (vI s1), none], [], m)) (fun j1 s1 hj1 v9 m9 K1 => ?_) (fun s1 v9 m9 K1 => ?_) 8 0 (0 : Int32) (Nat.add_zero _) _ _ ?_
  · show An MX5_greatestOf 4 [some (vR 7 0 0), some (vI (nI a1)), some (vI s1), some (vI (nI j1))] [] m v9 m9
    refine an_b 3 (pc2 := if (8 : Int32) ≤ (nI j1) then 37 else 10) (L2 := [some (vR 7 0 0), some (vI (nI a1)), some (vI s1), some (vI (nI j1))]) (st2 := []) (m1 := m) rfl ?_
    refine an_f (nI_ge (a := j1) (b := 8) (by omega) (by omega)) ?_
    refine an_b 3 (pc2 := 13) (L2 := [some (vR 7 0 0), some (vI (nI a1)), some (vI s1), some (vI (nI j1))]) (st2 := [vI (nI a1), vI (nI j1), vR 7 0 0]) (m1 := m) rfl ?_
    refine an_call (r_X5_lockOf m j1 a1 (by omega) (by omega)) rfl rfl rfl rfl ?_
    refine an_b 2 (pc2 := if (v_X5_lockOf m j1 a1) ≤ s1 then 29 else 20) (L2 := [some (vR 7 0 0), some (vI (nI a1)), some (vI s1), some (vI (nI j1))]) (st2 := []) (m1 := m) rfl ?_
    refine re_if1 (c := (v_X5_lockOf m j1 a1) ≤ s1) (a := s1) (b := (v_X5_lockOf m j1 a1)) (fun x => (30, [some (vR 7 0 0), some (vI (nI a1)), some (vI s1), some (vI (nI j1))], [vI x], m)) (fun h1 v9 m9 K2 => ?_) (fun h1 v9 m9 K2 => ?_) _ _ ?_
    · refine an_b 1 (pc2 := 30) (L2 := [some (vR 7 0 0), some (vI (nI a1)), some (vI s1), some (vI (nI j1))]) (st2 := [vI s1]) (m1 := m) rfl ?_
      exact K2
    · refine an_b 3 (pc2 := 23) (L2 := [some (vR 7 0 0), some (vI (nI a1)), some (vI s1), some (vI (nI j1))]) (st2 := [vI (nI a1), vI (nI j1), vR 7 0 0]) (m1 := m) rfl ?_
      refine an_call (r_X5_lockOf m j1 a1 (by omega) (by omega)) rfl rfl rfl rfl ?_
      refine an_b 1 (pc2 := 30) (L2 := [some (vR 7 0 0), some (vI (nI a1)), some (vI s1), some (vI (nI j1))]) (st2 := [vI (v_X5_lockOf m j1 a1)]) (m1 := m) rfl ?_
      exact K2
    refine an_b 3 (pc2 := 4) (L2 := [some (vR 7 0 0), some (vI (nI a1)), some (vI (if (v_X5_lockOf m j1 a1) ≤ s1 then s1 else (v_X5_lockOf m j1 a1))), some (vI ((nI j1) + (1 : Int32)))]) (st2 := []) (m1 := m) rfl ?_
    refine an_cL (K := [some (vR 7 0 0), some (vI (nI a1)), some (vI (if (v_X5_lockOf m j1 a1) ≤ s1 then s1 else (v_X5_lockOf m j1 a1))), some (vI (nI (j1 + 1)))]) (by simp only [nI_1]) ?_
    exact K1
  · show An MX5_greatestOf 4 [some (vR 7 0 0), some (vI (nI a1)), some (vI s1), some (vI (nI 8))] [] m v9 m9
    refine an_b 3 (pc2 := if (8 : Int32) ≤ (nI 8) then 37 else 10) (L2 := [some (vR 7 0 0), some (vI (nI a1)), some (vI s1), some (vI (nI 8))]) (st2 := []) (m1 := m) rfl ?_
    refine an_t (nI_le (a := 8) (b := 8) (by omega) (by omega)) ?_
    refine an_weak (L := [some (vR 7 0 0), some (vI (nI a1)), some (vI s1), none]) (⟨rfl, rfl, rfl, trivial⟩) ?_
    exact K1
  show An MX5_greatestOf 37 [some (vR 7 0 0), some (vI (nI a1)), some (vI (lp (b_X5_greatestOf_1 m a1) 8 0 (0 : Int32))), none] [] m _ _
  refine an_b 1 (pc2 := 38) (L2 := [some (vR 7 0 0), some (vI (nI a1)), some (vI (lp (b_X5_greatestOf_1 m a1) 8 0 (0 : Int32))), none]) (st2 := [vI (lp (b_X5_greatestOf_1 m a1) 8 0 (0 : Int32))]) (m1 := m) rfl ?_
  exact an_ret rfl rfl rfl rfl rfl
def b_X5_clashing_1 (m : PM) (a1 : Nat) (a2 : Int32) (a3 : Int32)  (j1 : Nat) (s1 : Int32) : Int32 := (s1 ||| (if (nI j1) = a3 then (0 : Int32) else (if (v_X5_lockOf m j1 a1) ≤ 0 then (0 : Int32) else (if ((v_X5_lockOf m j1 a1) + a2) ≤ (3 : Int32) then (0 : Int32) else ((1 : Int32) <<< ((nI j1) &&& (31 : Int32)))))))
def v_X5_clashing (m : PM) (a1 : Nat) (a2 : Int32) (a3 : Int32) : Int32 := (lp (b_X5_clashing_1 m a1 a2 a3) 8 0 (0 : Int32))
set_option maxRecDepth 100000 in
theorem r_X5_clashing (m : PM) (a1 : Nat) (a2 : Int32) (a3 : Int32) (ha1 : a1 < 12) : Rn MX5_clashing [vR 7 0 0, vI (nI a1), vI a2, vI a3] m (some (vI (v_X5_clashing m a1 a2 a3))) m := by
  refine rn_of [some (vR 7 0 0), some (vI (nI a1)), some (vI a2), some (vI a3), none, none, none] rfl ?_
  unfold v_X5_clashing
  refine an_b 4 (pc2 := 6) (L2 := [some (vR 7 0 0), some (vI (nI a1)), some (vI a2), some (vI a3), some (vI (0 : Int32)), some (vI (0 : Int32)), none]) (st2 := []) (m1 := m) rfl ?_
  refine re_lp (σ := Int32) (b_X5_clashing_1 m a1 a2 a3) (fun j1 s1 => (6, [some (vR 7 0 0), some (vI (nI a1)), some (vI a2), some (vI a3), some (vI s1), some (vI (nI j1)), none], [], m)) 8 (fun s1 => (60, [some (vR 7 0 0), some (vI (nI a1)), some (vI a2), some (vI a3), some (vI s1), none, none], [], m)) (fun j1 s1 hj1 v9 m9 K1 => ?_) (fun s1 v9 m9 K1 => ?_) 8 0 (0 : Int32) (Nat.add_zero _) _ _ ?_
  · show An MX5_clashing 6 [some (vR 7 0 0), some (vI (nI a1)), some (vI a2), some (vI a3), some (vI s1), some (vI (nI j1)), none] [] m v9 m9
    refine an_b 3 (pc2 := if (8 : Int32) ≤ (nI j1) then 60 else 13) (L2 := [some (vR 7 0 0), some (vI (nI a1)), some (vI a2), some (vI a3), some (vI s1), some (vI (nI j1)), none]) (st2 := []) (m1 := m) rfl ?_
    refine an_f (nI_ge (a := j1) (b := 8) (by omega) (by omega)) ?_
    refine an_b 3 (pc2 := 17) (L2 := [some (vR 7 0 0), some (vI (nI a1)), some (vI a2), some (vI a3), some (vI s1), some (vI (nI j1)), none]) (st2 := [vI (nI a1), vI (nI j1), vR 7 0 0]) (m1 := m) rfl ?_
    refine an_call (r_X5_lockOf m j1 a1 (by omega) (by omega)) rfl rfl rfl rfl ?_
    refine an_b 5 (pc2 := if (nI j1) = a3 then 50 else 30) (L2 := [some (vR 7 0 0), some (vI (nI a1)), some (vI a2), some (vI a3), some (vI s1), some (vI (nI j1)), some (vI (v_X5_lockOf m j1 a1))]) (st2 := [vI s1]) (m1 := m) rfl ?_
    refine re_if1 (c := (nI j1) = a3) (a := (0 : Int32)) (b := (if (v_X5_lockOf m j1 a1) ≤ 0 then (0 : Int32) else (if ((v_X5_lockOf m j1 a1) + a2) ≤ (3 : Int32) then (0 : Int32) else ((1 : Int32) <<< ((nI j1) &&& (31 : Int32)))))) (fun x => (51, [some (vR 7 0 0), some (vI (nI a1)), some (vI a2), some (vI a3), some (vI s1), some (vI (nI j1)), some (vI (v_X5_lockOf m j1 a1))], [vI x, vI s1], m)) (fun h1 v9 m9 K6 => ?_) (fun h1 v9 m9 K6 => ?_) _ _ ?_
    · refine an_b 1 (pc2 := 51) (L2 := [some (vR 7 0 0), some (vI (nI a1)), some (vI a2), some (vI a3), some (vI s1), some (vI (nI j1)), some (vI (v_X5_lockOf m j1 a1))]) (st2 := [vI (0 : Int32), vI s1]) (m1 := m) rfl ?_
      exact K6
    · refine an_b 2 (pc2 := if (v_X5_lockOf m j1 a1) ≤ 0 then 50 else 35) (L2 := [some (vR 7 0 0), some (vI (nI a1)), some (vI a2), some (vI a3), some (vI s1), some (vI (nI j1)), some (vI (v_X5_lockOf m j1 a1))]) (st2 := [vI s1]) (m1 := m) rfl ?_
      refine re_if1 (c := (v_X5_lockOf m j1 a1) ≤ 0) (a := (0 : Int32)) (b := (if ((v_X5_lockOf m j1 a1) + a2) ≤ (3 : Int32) then (0 : Int32) else ((1 : Int32) <<< ((nI j1) &&& (31 : Int32))))) (fun x => (51, [some (vR 7 0 0), some (vI (nI a1)), some (vI a2), some (vI a3), some (vI s1), some (vI (nI j1)), some (vI (v_X5_lockOf m j1 a1))], [vI x, vI s1], m)) (fun h2 v9 m9 K5 => ?_) (fun h2 v9 m9 K5 => ?_) _ _ ?_
      · refine an_b 1 (pc2 := 51) (L2 := [some (vR 7 0 0), some (vI (nI a1)), some (vI a2), some (vI a3), some (vI s1), some (vI (nI j1)), some (vI (v_X5_lockOf m j1 a1))]) (st2 := [vI (0 : Int32), vI s1]) (m1 := m) rfl ?_
        exact K5
      · refine an_b 5 (pc2 := if ((v_X5_lockOf m j1 a1) + a2) ≤ (3 : Int32) then 50 else 43) (L2 := [some (vR 7 0 0), some (vI (nI a1)), some (vI a2), some (vI a3), some (vI s1), some (vI (nI j1)), some (vI (v_X5_lockOf m j1 a1))]) (st2 := [vI s1]) (m1 := m) rfl ?_
        refine re_if1 (c := ((v_X5_lockOf m j1 a1) + a2) ≤ (3 : Int32)) (a := (0 : Int32)) (b := ((1 : Int32) <<< ((nI j1) &&& (31 : Int32)))) (fun x => (51, [some (vR 7 0 0), some (vI (nI a1)), some (vI a2), some (vI a3), some (vI s1), some (vI (nI j1)), some (vI (v_X5_lockOf m j1 a1))], [vI x, vI s1], m)) (fun h3 v9 m9 K4 => ?_) (fun h3 v9 m9 K4 => ?_) _ _ ?_
        · refine an_b 1 (pc2 := 51) (L2 := [some (vR 7 0 0), some (vI (nI a1)), some (vI a2), some (vI a3), some (vI s1), some (vI (nI j1)), some (vI (v_X5_lockOf m j1 a1))]) (st2 := [vI (0 : Int32), vI s1]) (m1 := m) rfl ?_
          exact K4
        · refine an_b 4 (pc2 := 51) (L2 := [some (vR 7 0 0), some (vI (nI a1)), some (vI a2), some (vI a3), some (vI s1), some (vI (nI j1)), some (vI (v_X5_lockOf m j1 a1))]) (st2 := [vI ((1 : Int32) <<< ((nI j1) &&& (31 : Int32))), vI s1]) (m1 := m) rfl ?_
          exact K4
        exact K5
      exact K6
    refine an_b 4 (pc2 := 6) (L2 := [some (vR 7 0 0), some (vI (nI a1)), some (vI a2), some (vI a3), some (vI (s1 ||| (if (nI j1) = a3 then (0 : Int32) else (if (v_X5_lockOf m j1 a1) ≤ 0 then (0 : Int32) else (if ((v_X5_lockOf m j1 a1) + a2) ≤ (3 : Int32) then (0 : Int32) else ((1 : Int32) <<< ((nI j1) &&& (31 : Int32)))))))), some (vI ((nI j1) + (1 : Int32))), some (vI (v_X5_lockOf m j1 a1))]) (st2 := []) (m1 := m) rfl ?_
    refine an_weak (L := [some (vR 7 0 0), some (vI (nI a1)), some (vI a2), some (vI a3), some (vI (s1 ||| (if (nI j1) = a3 then (0 : Int32) else (if (v_X5_lockOf m j1 a1) ≤ 0 then (0 : Int32) else (if ((v_X5_lockOf m j1 a1) + a2) ≤ (3 : Int32) then (0 : Int32) else ((1 : Int32) <<< ((nI j1) &&& (31 : Int32)))))))), some (vI ((nI j1) + (1 : Int32))), none]) (⟨rfl, rfl, rfl, rfl, rfl, rfl, trivial⟩) ?_
    refine an_cL (K := [some (vR 7 0 0), some (vI (nI a1)), some (vI a2), some (vI a3), some (vI (s1 ||| (if (nI j1) = a3 then (0 : Int32) else (if (v_X5_lockOf m j1 a1) ≤ 0 then (0 : Int32) else (if ((v_X5_lockOf m j1 a1) + a2) ≤ (3 : Int32) then (0 : Int32) else ((1 : Int32) <<< ((nI j1) &&& (31 : Int32)))))))), some (vI (nI (j1 + 1))), none]) (by simp only [nI_1]) ?_
    exact K1
  · show An MX5_clashing 6 [some (vR 7 0 0), some (vI (nI a1)), some (vI a2), some (vI a3), some (vI s1), some (vI (nI 8)), none] [] m v9 m9
    refine an_b 3 (pc2 := if (8 : Int32) ≤ (nI 8) then 60 else 13) (L2 := [some (vR 7 0 0), some (vI (nI a1)), some (vI a2), some (vI a3), some (vI s1), some (vI (nI 8)), none]) (st2 := []) (m1 := m) rfl ?_
    refine an_t (nI_le (a := 8) (b := 8) (by omega) (by omega)) ?_
    refine an_weak (L := [some (vR 7 0 0), some (vI (nI a1)), some (vI a2), some (vI a3), some (vI s1), none, none]) (⟨rfl, rfl, rfl, rfl, rfl, trivial⟩) ?_
    exact K1
  show An MX5_clashing 60 [some (vR 7 0 0), some (vI (nI a1)), some (vI a2), some (vI a3), some (vI (lp (b_X5_clashing_1 m a1 a2 a3) 8 0 (0 : Int32))), none, none] [] m _ _
  refine an_b 1 (pc2 := 62) (L2 := [some (vR 7 0 0), some (vI (nI a1)), some (vI a2), some (vI a3), some (vI (lp (b_X5_clashing_1 m a1 a2 a3) 8 0 (0 : Int32))), none, none]) (st2 := [vI (lp (b_X5_clashing_1 m a1 a2 a3) 8 0 (0 : Int32))]) (m1 := m) rfl ?_
  exact an_ret rfl rfl rfl rfl rfl
def v_X5_isMode (m : PM) (a1 : Int32) : Int32 := (v_X5_within m a1 (1 : Int32) (3 : Int32))
theorem z_X5_isMode (m : PM) (a1 : Int32) : (v_X5_isMode m a1) = 0 ∨ (v_X5_isMode m a1) = 1 := by
  unfold v_X5_isMode
  (repeat' split) <;> first | exact Or.inl rfl | exact Or.inr rfl | exact z_X5_within _ _ _ _
set_option maxRecDepth 100000 in
theorem r_X5_isMode (m : PM) (a1 : Int32) : Rn MX5_isMode [vI a1] m (some (vI (v_X5_isMode m a1))) m := by
  refine rn_of [some (vI a1)] rfl ?_
  unfold v_X5_isMode
  refine an_b 3 (pc2 := 3) (L2 := [some (vI a1)]) (st2 := [vI (3 : Int32), vI (1 : Int32), vI a1]) (m1 := m) rfl ?_
  refine an_call (r_X5_within m a1 (1 : Int32) (3 : Int32)) rfl rfl rfl rfl ?_
  exact an_retz (z_X5_within m a1 (1 : Int32) (3 : Int32)) rfl rfl
def b_X5_burn_1 (m : PM) (a1 : Nat)  (j1 : Nat) (s1 : Int32 × PM) : Int32 × PM := ((if (v_X5_lockOf s1.2 j1 a1) ≤ 0 then s1.1 else (s1.1 + (1 : Int32))), (if (v_X5_lockOf s1.2 j1 a1) ≤ 0 then s1.2 else (wI (w_X5_setLock s1.2 j1 a1 (0 : Int32)) 8 0 0 (329 + j1) (((w_X5_setLock s1.2 j1 a1 (0 : Int32)).1 8 0 0 (329 + j1)) + (1 : Int32)))))
def v_X5_burn (m : PM) (a1 : Nat) : Int32 := (lp (b_X5_burn_1 m a1) 8 0 ((0 : Int32), m)).1
def w_X5_burn (m : PM) (a1 : Nat) : PM := (wI (lp (b_X5_burn_1 m a1) 8 0 ((0 : Int32), m)).2 8 0 0 4 (((lp (b_X5_burn_1 m a1) 8 0 ((0 : Int32), m)).2.1 8 0 0 4) + ((lp (b_X5_burn_1 m a1) 8 0 ((0 : Int32), m)).1)))
set_option maxRecDepth 100000 in
theorem r_X5_burn (m : PM) (a1 : Nat) (ha1 : a1 < 12) : Rn MX5_burn [vR 7 0 0, vI (nI a1)] m (some (vI (v_X5_burn m a1))) (w_X5_burn m a1) := by
  refine rn_of [some (vR 7 0 0), some (vI (nI a1)), none, none] rfl ?_
  unfold v_X5_burn w_X5_burn
  refine an_b 4 (pc2 := 4) (L2 := [some (vR 7 0 0), some (vI (nI a1)), some (vI (0 : Int32)), some (vI (0 : Int32))]) (st2 := []) (m1 := m) rfl ?_
  refine re_lp (σ := Int32 × PM) (b_X5_burn_1 m a1) (fun j1 s1 => (4, [some (vR 7 0 0), some (vI (nI a1)), some (vI s1.1), some (vI (nI j1))], [], s1.2)) 8 (fun s1 => (49, [some (vR 7 0 0), some (vI (nI a1)), some (vI s1.1), none], [], s1.2)) (fun j1 s1 hj1 v9 m9 K1 => ?_) (fun s1 v9 m9 K1 => ?_) 8 0 ((0 : Int32), m) (Nat.add_zero _) _ _ ?_
  · show An MX5_burn 4 [some (vR 7 0 0), some (vI (nI a1)), some (vI s1.1), some (vI (nI j1))] [] s1.2 v9 m9
    refine an_b 3 (pc2 := if (8 : Int32) ≤ (nI j1) then 49 else 10) (L2 := [some (vR 7 0 0), some (vI (nI a1)), some (vI s1.1), some (vI (nI j1))]) (st2 := []) (m1 := s1.2) rfl ?_
    refine an_f (nI_ge (a := j1) (b := 8) (by omega) (by omega)) ?_
    refine an_b 3 (pc2 := 13) (L2 := [some (vR 7 0 0), some (vI (nI a1)), some (vI s1.1), some (vI (nI j1))]) (st2 := [vI (nI a1), vI (nI j1), vR 7 0 0]) (m1 := s1.2) rfl ?_
    refine an_call (r_X5_lockOf s1.2 j1 a1 (by omega) (by omega)) rfl rfl rfl rfl ?_
    refine an_b 1 (pc2 := if (v_X5_lockOf s1.2 j1 a1) ≤ 0 then 43 else 19) (L2 := [some (vR 7 0 0), some (vI (nI a1)), some (vI s1.1), some (vI (nI j1))]) (st2 := []) (m1 := s1.2) rfl ?_
    refine re_if2 (c := (v_X5_lockOf s1.2 j1 a1) ≤ 0) (a := s1.1) (b := s1.1 + (1 : Int32)) (x := s1.2) (y := (wI (w_X5_setLock s1.2 j1 a1 (0 : Int32)) 8 0 0 (329 + j1) (((w_X5_setLock s1.2 j1 a1 (0 : Int32)).1 8 0 0 (329 + j1)) + (1 : Int32)))) (fun x y => (43, [some (vR 7 0 0), some (vI (nI a1)), some (vI x), some (vI (nI j1))], [], y)) (fun h1 v9 m9 K2 => ?_) (fun h1 v9 m9 K2 => ?_) _ _ ?_
    · exact K2
    · refine an_b 4 (pc2 := 23) (L2 := [some (vR 7 0 0), some (vI (nI a1)), some (vI s1.1), some (vI (nI j1))]) (st2 := [vI (0 : Int32), vI (nI a1), vI (nI j1), vR 7 0 0]) (m1 := s1.2) rfl ?_
      refine an_call (r_X5_setLock s1.2 j1 a1 (0 : Int32) (by omega) (by omega)) rfl rfl rfl rfl ?_
      refine an_b 6 (pc2 := 36) (L2 := [some (vR 7 0 0), some (vI (nI a1)), some (vI s1.1), some (vI (nI j1))]) (st2 := [vI ((329 : Int32) + (nI j1)), vR 8 0 0, vI ((329 : Int32) + (nI j1)), vR 8 0 0]) (m1 := (w_X5_setLock s1.2 j1 a1 (0 : Int32))) rfl ?_
      refine an_ald (329 + j1) 361 rfl rfl (by simp only [ix_lit, pk_mul, nI_add]) (by omega) (by omega) ?_
      refine an_b 2 (pc2 := 39) (L2 := [some (vR 7 0 0), some (vI (nI a1)), some (vI s1.1), some (vI (nI j1))]) (st2 := [vI (((w_X5_setLock s1.2 j1 a1 (0 : Int32)).1 8 0 0 (329 + j1)) + (1 : Int32)), vI ((329 : Int32) + (nI j1)), vR 8 0 0]) (m1 := (w_X5_setLock s1.2 j1 a1 (0 : Int32))) rfl ?_
      refine an_ast (329 + j1) 361 rfl rfl (by decide) (by simp only [ix_lit, pk_mul, nI_add]) (by omega) (by omega) ?_
      refine an_b 1 (pc2 := 43) (L2 := [some (vR 7 0 0), some (vI (nI a1)), some (vI (s1.1 + (1 : Int32))), some (vI (nI j1))]) (st2 := []) (m1 := (wI (w_X5_setLock s1.2 j1 a1 (0 : Int32)) 8 0 0 (329 + j1) (((w_X5_setLock s1.2 j1 a1 (0 : Int32)).1 8 0 0 (329 + j1)) + (1 : Int32)))) rfl ?_
      exact K2
    refine an_b 2 (pc2 := 4) (L2 := [some (vR 7 0 0), some (vI (nI a1)), some (vI (if (v_X5_lockOf s1.2 j1 a1) ≤ 0 then s1.1 else (s1.1 + (1 : Int32)))), some (vI ((nI j1) + (1 : Int32)))]) (st2 := []) (m1 := (if (v_X5_lockOf s1.2 j1 a1) ≤ 0 then s1.2 else (wI (w_X5_setLock s1.2 j1 a1 (0 : Int32)) 8 0 0 (329 + j1) (((w_X5_setLock s1.2 j1 a1 (0 : Int32)).1 8 0 0 (329 + j1)) + (1 : Int32))))) rfl ?_
    refine an_cL (K := [some (vR 7 0 0), some (vI (nI a1)), some (vI (if (v_X5_lockOf s1.2 j1 a1) ≤ 0 then s1.1 else (s1.1 + (1 : Int32)))), some (vI (nI (j1 + 1)))]) (by simp only [nI_1]) ?_
    exact K1
  · show An MX5_burn 4 [some (vR 7 0 0), some (vI (nI a1)), some (vI s1.1), some (vI (nI 8))] [] s1.2 v9 m9
    refine an_b 3 (pc2 := if (8 : Int32) ≤ (nI 8) then 49 else 10) (L2 := [some (vR 7 0 0), some (vI (nI a1)), some (vI s1.1), some (vI (nI 8))]) (st2 := []) (m1 := s1.2) rfl ?_
    refine an_t (nI_le (a := 8) (b := 8) (by omega) (by omega)) ?_
    refine an_weak (L := [some (vR 7 0 0), some (vI (nI a1)), some (vI s1.1), none]) (⟨rfl, rfl, rfl, trivial⟩) ?_
    exact K1
  show An MX5_burn 49 [some (vR 7 0 0), some (vI (nI a1)), some (vI ((lp (b_X5_burn_1 m a1) 8 0 ((0 : Int32), m)).1)), none] [] (lp (b_X5_burn_1 m a1) 8 0 ((0 : Int32), m)).2 _ _
  refine an_b 4 (pc2 := 55) (L2 := [some (vR 7 0 0), some (vI (nI a1)), some (vI ((lp (b_X5_burn_1 m a1) 8 0 ((0 : Int32), m)).1)), none]) (st2 := [vI (4 : Int32), vR 8 0 0, vI (4 : Int32), vR 8 0 0]) (m1 := (lp (b_X5_burn_1 m a1) 8 0 ((0 : Int32), m)).2) rfl ?_
  refine an_ald 4 361 rfl rfl (by simp only [ix_lit, pk_mul, nI_add]) (by omega) (by omega) ?_
  refine an_b 2 (pc2 := 58) (L2 := [some (vR 7 0 0), some (vI (nI a1)), some (vI ((lp (b_X5_burn_1 m a1) 8 0 ((0 : Int32), m)).1)), none]) (st2 := [vI (((lp (b_X5_burn_1 m a1) 8 0 ((0 : Int32), m)).2.1 8 0 0 4) + ((lp (b_X5_burn_1 m a1) 8 0 ((0 : Int32), m)).1)), vI (4 : Int32), vR 8 0 0]) (m1 := (lp (b_X5_burn_1 m a1) 8 0 ((0 : Int32), m)).2) rfl ?_
  refine an_ast 4 361 rfl rfl (by decide) (by simp only [ix_lit, pk_mul, nI_add]) (by omega) (by omega) ?_
  refine an_b 1 (pc2 := 60) (L2 := [some (vR 7 0 0), some (vI (nI a1)), some (vI ((lp (b_X5_burn_1 m a1) 8 0 ((0 : Int32), m)).1)), none]) (st2 := [vI ((lp (b_X5_burn_1 m a1) 8 0 ((0 : Int32), m)).1)]) (m1 := (wI (lp (b_X5_burn_1 m a1) 8 0 ((0 : Int32), m)).2 8 0 0 4 (((lp (b_X5_burn_1 m a1) 8 0 ((0 : Int32), m)).2.1 8 0 0 4) + ((lp (b_X5_burn_1 m a1) 8 0 ((0 : Int32), m)).1)))) rfl ?_
  exact an_ret rfl rfl rfl rfl rfl
def v_X5_isSetting (m : PM) (a1 : Int32) : Int32 := (v_X5_within m a1 (0 : Int32) (2 : Int32))
theorem z_X5_isSetting (m : PM) (a1 : Int32) : (v_X5_isSetting m a1) = 0 ∨ (v_X5_isSetting m a1) = 1 := by
  unfold v_X5_isSetting
  (repeat' split) <;> first | exact Or.inl rfl | exact Or.inr rfl | exact z_X5_within _ _ _ _
set_option maxRecDepth 100000 in
theorem r_X5_isSetting (m : PM) (a1 : Int32) : Rn MX5_isSetting [vI a1] m (some (vI (v_X5_isSetting m a1))) m := by
  refine rn_of [some (vI a1)] rfl ?_
  unfold v_X5_isSetting
  refine an_b 3 (pc2 := 3) (L2 := [some (vI a1)]) (st2 := [vI (2 : Int32), vI (0 : Int32), vI a1]) (m1 := m) rfl ?_
  refine an_call (r_X5_within m a1 (0 : Int32) (2 : Int32)) rfl rfl rfl rfl ?_
  exact an_retz (z_X5_within m a1 (0 : Int32) (2 : Int32)) rfl rfl
def v_X5_isValue (m : PM) (a1 : Int32) (a2 : Int32) : Int32 := (if ¬ a1 = 0 then (if ¬ a1 = (1 : Int32) then (v_X5_within m a2 (0 : Int32) (50 : Int32)) else (v_X5_within m a2 (0 : Int32) (20 : Int32))) else (v_X5_within m a2 (10 : Int32) (900 : Int32)))
theorem z_X5_isValue (m : PM) (a1 : Int32) (a2 : Int32) : (v_X5_isValue m a1 a2) = 0 ∨ (v_X5_isValue m a1 a2) = 1 := by
  unfold v_X5_isValue
  (repeat' split) <;> first | exact Or.inl rfl | exact Or.inr rfl | exact z_X5_within _ _ _ _
set_option maxRecDepth 100000 in
theorem r_X5_isValue (m : PM) (a1 : Int32) (a2 : Int32) : Rn MX5_isValue [vI a1, vI a2] m (some (vI (v_X5_isValue m a1 a2))) m := by
  refine rn_of [some (vI a1), some (vI a2)] rfl ?_
  unfold v_X5_isValue
  refine an_b 2 (pc2 := if ¬ a1 = 0 then 16 else 4) (L2 := [some (vI a1), some (vI a2)]) (st2 := []) (m1 := m) rfl ?_
  refine an_ifi (c := ¬ a1 = 0) (fun h1 => ?_) (fun h1 => ?_)
  · refine an_b 3 (pc2 := if ¬ a1 = (1 : Int32) then 31 else 21) (L2 := [some (vI a1), some (vI a2)]) (st2 := []) (m1 := m) rfl ?_
    refine an_ifi (c := ¬ a1 = (1 : Int32)) (fun h2 => ?_) (fun h2 => ?_)
    · refine an_b 3 (pc2 := 35) (L2 := [some (vI a1), some (vI a2)]) (st2 := [vI (50 : Int32), vI (0 : Int32), vI a2]) (m1 := m) rfl ?_
      refine an_call (r_X5_within m a2 (0 : Int32) (50 : Int32)) rfl rfl rfl rfl ?_
      exact an_retz (z_X5_within m a2 (0 : Int32) (50 : Int32)) rfl rfl
    · refine an_b 3 (pc2 := 25) (L2 := [some (vI a1), some (vI a2)]) (st2 := [vI (20 : Int32), vI (0 : Int32), vI a2]) (m1 := m) rfl ?_
      refine an_call (r_X5_within m a2 (0 : Int32) (20 : Int32)) rfl rfl rfl rfl ?_
      refine an_b 1 (pc2 := 38) (L2 := [some (vI a1), some (vI a2)]) (st2 := [vI (v_X5_within m a2 (0 : Int32) (20 : Int32))]) (m1 := m) rfl ?_
      exact an_retz (z_X5_within m a2 (0 : Int32) (20 : Int32)) rfl rfl
  · refine an_b 3 (pc2 := 10) (L2 := [some (vI a1), some (vI a2)]) (st2 := [vI (900 : Int32), vI (10 : Int32), vI a2]) (m1 := m) rfl ?_
    refine an_call (r_X5_within m a2 (10 : Int32) (900 : Int32)) rfl rfl rfl rfl ?_
    refine an_b 1 (pc2 := 38) (L2 := [some (vI a1), some (vI a2)]) (st2 := [vI (v_X5_within m a2 (10 : Int32) (900 : Int32))]) (m1 := m) rfl ?_
    exact an_retz (z_X5_within m a2 (10 : Int32) (900 : Int32)) rfl rfl
def v_X5_clearBuffer (m : PM)  : Int32 := ((wI m 7 0 0 5 (0 : Int32)).1 7 0 0 3)
def w_X5_clearBuffer (m : PM)  : PM := (wI (wI m 7 0 0 5 (0 : Int32)) 7 0 0 3 (0 : Int32))
set_option maxRecDepth 100000 in
theorem r_X5_clearBuffer (m : PM)  : Rn MX5_clearBuffer [vR 7 0 0] m (some (vI (v_X5_clearBuffer m))) (w_X5_clearBuffer m) := by
  refine rn_of [some (vR 7 0 0), none] rfl ?_
  unfold v_X5_clearBuffer w_X5_clearBuffer
  refine an_b 10 (pc2 := 16) (L2 := [some (vR 7 0 0), some (vI ((wI m 7 0 0 5 (0 : Int32)).1 7 0 0 3))]) (st2 := [vI ((wI m 7 0 0 5 (0 : Int32)).1 7 0 0 3)]) (m1 := (wI (wI m 7 0 0 5 (0 : Int32)) 7 0 0 3 (0 : Int32))) rfl ?_
  exact an_ret rfl rfl rfl rfl rfl
def v_X5_modeOf (m : PM) (a1 : Int32) : Int32 := (if ¬ a1 = (112 : Int32) then (if ¬ a1 = (115 : Int32) then (if ¬ a1 = (104 : Int32) then (if ¬ a1 = (45 : Int32) then (-1 : Int32) else (0 : Int32)) else (3 : Int32)) else (2 : Int32)) else (1 : Int32))
set_option maxRecDepth 100000 in
theorem r_X5_modeOf (m : PM) (a1 : Int32) : Rn MX5_modeOf [vI a1] m (some (vI (v_X5_modeOf m a1))) m := by
  refine rn_of [some (vI a1)] rfl ?_
  unfold v_X5_modeOf
  refine an_b 3 (pc2 := if ¬ a1 = (112 : Int32) then 10 else 6) (L2 := [some (vI a1)]) (st2 := []) (m1 := m) rfl ?_
  refine an_ifi (c := ¬ a1 = (112 : Int32)) (fun h1 => ?_) (fun h1 => ?_)
  · refine an_b 3 (pc2 := if ¬ a1 = (115 : Int32) then 20 else 16) (L2 := [some (vI a1)]) (st2 := []) (m1 := m) rfl ?_
    refine an_ifi (c := ¬ a1 = (115 : Int32)) (fun h2 => ?_) (fun h2 => ?_)
    · refine an_b 3 (pc2 := if ¬ a1 = (104 : Int32) then 30 else 26) (L2 := [some (vI a1)]) (st2 := []) (m1 := m) rfl ?_
      refine an_ifi (c := ¬ a1 = (104 : Int32)) (fun h3 => ?_) (fun h3 => ?_)
      · refine an_b 3 (pc2 := if ¬ a1 = (45 : Int32) then 40 else 36) (L2 := [some (vI a1)]) (st2 := []) (m1 := m) rfl ?_
        refine an_ifi (c := ¬ a1 = (45 : Int32)) (fun h4 => ?_) (fun h4 => ?_)
        · refine an_b 1 (pc2 := 41) (L2 := [some (vI a1)]) (st2 := [vI (-1 : Int32)]) (m1 := m) rfl ?_
          exact an_ret rfl rfl rfl rfl rfl
        · refine an_b 2 (pc2 := 41) (L2 := [some (vI a1)]) (st2 := [vI (0 : Int32)]) (m1 := m) rfl ?_
          exact an_ret rfl rfl rfl rfl rfl
      · refine an_b 2 (pc2 := 41) (L2 := [some (vI a1)]) (st2 := [vI (3 : Int32)]) (m1 := m) rfl ?_
        exact an_ret rfl rfl rfl rfl rfl
    · refine an_b 2 (pc2 := 41) (L2 := [some (vI a1)]) (st2 := [vI (2 : Int32)]) (m1 := m) rfl ?_
      exact an_ret rfl rfl rfl rfl rfl
  · refine an_b 2 (pc2 := 41) (L2 := [some (vI a1)]) (st2 := [vI (1 : Int32)]) (m1 := m) rfl ?_
    exact an_ret rfl rfl rfl rfl rfl
def v_X5_takesDigit (m : PM) (a1 : Int32) : Int32 := (if (v_X5_within m a1 (0 : Int32) (9 : Int32)) = 0 then (0 : Int32) else (if (m.1 7 0 0 8) = 0 then (0 : Int32) else (if (v_X5_isRow m (if ¬ (m.1 7 0 0 8) = (-1 : Int32) then (((10 : Int32) * (m.1 7 0 0 8)) + a1) else a1)) = 0 then (0 : Int32) else (1 : Int32))))
def w_X5_takesDigit (m : PM) (a1 : Int32) : PM := (wI m 7 0 0 8 (if (if (v_X5_within m a1 (0 : Int32) (9 : Int32)) = 0 then (0 : Int32) else (if (m.1 7 0 0 8) = 0 then (0 : Int32) else (if (v_X5_isRow m (if ¬ (m.1 7 0 0 8) = (-1 : Int32) then (((10 : Int32) * (m.1 7 0 0 8)) + a1) else a1)) = 0 then (0 : Int32) else (1 : Int32)))) = 0 then (m.1 7 0 0 8) else (if ¬ (m.1 7 0 0 8) = (-1 : Int32) then (((10 : Int32) * (m.1 7 0 0 8)) + a1) else a1)))
theorem z_X5_takesDigit (m : PM) (a1 : Int32) : (v_X5_takesDigit m a1) = 0 ∨ (v_X5_takesDigit m a1) = 1 := by
  unfold v_X5_takesDigit
  (repeat' split) <;> first | exact Or.inl rfl | exact Or.inr rfl | exact z_X5_isRow _ _ | exact z_X5_within _ _ _ _
set_option maxRecDepth 100000 in
theorem r_X5_takesDigit (m : PM) (a1 : Int32) : Rn MX5_takesDigit [vR 7 0 0, vI a1] m (some (vI (v_X5_takesDigit m a1))) (w_X5_takesDigit m a1) := by
  refine rn_of [some (vR 7 0 0), some (vI a1), none, none] rfl ?_
  unfold v_X5_takesDigit w_X5_takesDigit
  refine an_b 4 (pc2 := if ¬ (m.1 7 0 0 8) = (-1 : Int32) then 12 else 8) (L2 := [some (vR 7 0 0), some (vI a1), none, none]) (st2 := []) (m1 := m) rfl ?_
  refine re_if1 (c := ¬ (m.1 7 0 0 8) = (-1 : Int32)) (a := (((10 : Int32) * (m.1 7 0 0 8)) + a1)) (b := a1) (fun x => (21, [some (vR 7 0 0), some (vI a1), none, none], [vI x], m)) (fun h1 v9 m9 K2 => ?_) (fun h1 v9 m9 K2 => ?_) _ _ ?_
  · refine an_b 6 (pc2 := 21) (L2 := [some (vR 7 0 0), some (vI a1), none, none]) (st2 := [vI (((10 : Int32) * (m.1 7 0 0 8)) + a1)]) (m1 := m) rfl ?_
    exact K2
  · refine an_b 2 (pc2 := 21) (L2 := [some (vR 7 0 0), some (vI a1), none, none]) (st2 := [vI a1]) (m1 := m) rfl ?_
    exact K2
  refine an_b 4 (pc2 := 26) (L2 := [some (vR 7 0 0), some (vI a1), some (vI (if ¬ (m.1 7 0 0 8) = (-1 : Int32) then (((10 : Int32) * (m.1 7 0 0 8)) + a1) else a1)), none]) (st2 := [vI (9 : Int32), vI (0 : Int32), vI a1]) (m1 := m) rfl ?_
  refine an_call (r_X5_within m a1 (0 : Int32) (9 : Int32)) rfl rfl rfl rfl ?_
  refine an_b 1 (pc2 := if (v_X5_within m a1 (0 : Int32) (9 : Int32)) = 0 then 50 else 32) (L2 := [some (vR 7 0 0), some (vI a1), some (vI (if ¬ (m.1 7 0 0 8) = (-1 : Int32) then (((10 : Int32) * (m.1 7 0 0 8)) + a1) else a1)), none]) (st2 := []) (m1 := m) rfl ?_
  refine re_if1 (c := (v_X5_within m a1 (0 : Int32) (9 : Int32)) = 0) (a := (0 : Int32)) (b := (if (m.1 7 0 0 8) = 0 then (0 : Int32) else (if (v_X5_isRow m (if ¬ (m.1 7 0 0 8) = (-1 : Int32) then (((10 : Int32) * (m.1 7 0 0 8)) + a1) else a1)) = 0 then (0 : Int32) else (1 : Int32)))) (fun x => (51, [some (vR 7 0 0), some (vI a1), some (vI (if ¬ (m.1 7 0 0 8) = (-1 : Int32) then (((10 : Int32) * (m.1 7 0 0 8)) + a1) else a1)), none], [vI x], m)) (fun h3 v9 m9 K8 => ?_) (fun h3 v9 m9 K8 => ?_) _ _ ?_
  · refine an_b 1 (pc2 := 51) (L2 := [some (vR 7 0 0), some (vI a1), some (vI (if ¬ (m.1 7 0 0 8) = (-1 : Int32) then (((10 : Int32) * (m.1 7 0 0 8)) + a1) else a1)), none]) (st2 := [vI (0 : Int32)]) (m1 := m) rfl ?_
    exact K8
  · refine an_b 3 (pc2 := if (m.1 7 0 0 8) = 0 then 50 else 39) (L2 := [some (vR 7 0 0), some (vI a1), some (vI (if ¬ (m.1 7 0 0 8) = (-1 : Int32) then (((10 : Int32) * (m.1 7 0 0 8)) + a1) else a1)), none]) (st2 := []) (m1 := m) rfl ?_
    refine re_if1 (c := (m.1 7 0 0 8) = 0) (a := (0 : Int32)) (b := (if (v_X5_isRow m (if ¬ (m.1 7 0 0 8) = (-1 : Int32) then (((10 : Int32) * (m.1 7 0 0 8)) + a1) else a1)) = 0 then (0 : Int32) else (1 : Int32))) (fun x => (51, [some (vR 7 0 0), some (vI a1), some (vI (if ¬ (m.1 7 0 0 8) = (-1 : Int32) then (((10 : Int32) * (m.1 7 0 0 8)) + a1) else a1)), none], [vI x], m)) (fun h4 v9 m9 K7 => ?_) (fun h4 v9 m9 K7 => ?_) _ _ ?_
    · refine an_b 1 (pc2 := 51) (L2 := [some (vR 7 0 0), some (vI a1), some (vI (if ¬ (m.1 7 0 0 8) = (-1 : Int32) then (((10 : Int32) * (m.1 7 0 0 8)) + a1) else a1)), none]) (st2 := [vI (0 : Int32)]) (m1 := m) rfl ?_
      exact K7
    · refine an_b 1 (pc2 := 40) (L2 := [some (vR 7 0 0), some (vI a1), some (vI (if ¬ (m.1 7 0 0 8) = (-1 : Int32) then (((10 : Int32) * (m.1 7 0 0 8)) + a1) else a1)), none]) (st2 := [vI (if ¬ (m.1 7 0 0 8) = (-1 : Int32) then (((10 : Int32) * (m.1 7 0 0 8)) + a1) else a1)]) (m1 := m) rfl ?_
      refine an_call (r_X5_isRow m (if ¬ (m.1 7 0 0 8) = (-1 : Int32) then (((10 : Int32) * (m.1 7 0 0 8)) + a1) else a1)) rfl rfl rfl rfl ?_
      refine an_b 1 (pc2 := if (v_X5_isRow m (if ¬ (m.1 7 0 0 8) = (-1 : Int32) then (((10 : Int32) * (m.1 7 0 0 8)) + a1) else a1)) = 0 then 50 else 46) (L2 := [some (vR 7 0 0), some (vI a1), some (vI (if ¬ (m.1 7 0 0 8) = (-1 : Int32) then (((10 : Int32) * (m.1 7 0 0 8)) + a1) else a1)), none]) (st2 := []) (m1 := m) rfl ?_
      refine re_if1 (c := (v_X5_isRow m (if ¬ (m.1 7 0 0 8) = (-1 : Int32) then (((10 : Int32) * (m.1 7 0 0 8)) + a1) else a1)) = 0) (a := (0 : Int32)) (b := (1 : Int32)) (fun x => (51, [some (vR 7 0 0), some (vI a1), some (vI (if ¬ (m.1 7 0 0 8) = (-1 : Int32) then (((10 : Int32) * (m.1 7 0 0 8)) + a1) else a1)), none], [vI x], m)) (fun h5 v9 m9 K6 => ?_) (fun h5 v9 m9 K6 => ?_) _ _ ?_
      · refine an_b 1 (pc2 := 51) (L2 := [some (vR 7 0 0), some (vI a1), some (vI (if ¬ (m.1 7 0 0 8) = (-1 : Int32) then (((10 : Int32) * (m.1 7 0 0 8)) + a1) else a1)), none]) (st2 := [vI (0 : Int32)]) (m1 := m) rfl ?_
        exact K6
      · refine an_b 2 (pc2 := 51) (L2 := [some (vR 7 0 0), some (vI a1), some (vI (if ¬ (m.1 7 0 0 8) = (-1 : Int32) then (((10 : Int32) * (m.1 7 0 0 8)) + a1) else a1)), none]) (st2 := [vI (1 : Int32)]) (m1 := m) rfl ?_
        exact K6
      exact K7
    exact K8
  refine an_b 4 (pc2 := if (if (v_X5_within m a1 (0 : Int32) (9 : Int32)) = 0 then (0 : Int32) else (if (m.1 7 0 0 8) = 0 then (0 : Int32) else (if (v_X5_isRow m (if ¬ (m.1 7 0 0 8) = (-1 : Int32) then (((10 : Int32) * (m.1 7 0 0 8)) + a1) else a1)) = 0 then (0 : Int32) else (1 : Int32)))) = 0 then 61 else 57) (L2 := [some (vR 7 0 0), some (vI a1), some (vI (if ¬ (m.1 7 0 0 8) = (-1 : Int32) then (((10 : Int32) * (m.1 7 0 0 8)) + a1) else a1)), some (vI (if (v_X5_within m a1 (0 : Int32) (9 : Int32)) = 0 then (0 : Int32) else (if (m.1 7 0 0 8) = 0 then (0 : Int32) else (if (v_X5_isRow m (if ¬ (m.1 7 0 0 8) = (-1 : Int32) then (((10 : Int32) * (m.1 7 0 0 8)) + a1) else a1)) = 0 then (0 : Int32) else (1 : Int32)))))]) (st2 := [vR 7 0 0]) (m1 := m) rfl ?_
  refine re_if1 (c := (if (v_X5_within m a1 (0 : Int32) (9 : Int32)) = 0 then (0 : Int32) else (if (m.1 7 0 0 8) = 0 then (0 : Int32) else (if (v_X5_isRow m (if ¬ (m.1 7 0 0 8) = (-1 : Int32) then (((10 : Int32) * (m.1 7 0 0 8)) + a1) else a1)) = 0 then (0 : Int32) else (1 : Int32)))) = 0) (a := (m.1 7 0 0 8)) (b := (if ¬ (m.1 7 0 0 8) = (-1 : Int32) then (((10 : Int32) * (m.1 7 0 0 8)) + a1) else a1)) (fun x => (65, [some (vR 7 0 0), some (vI a1), some (vI (if ¬ (m.1 7 0 0 8) = (-1 : Int32) then (((10 : Int32) * (m.1 7 0 0 8)) + a1) else a1)), some (vI (if (v_X5_within m a1 (0 : Int32) (9 : Int32)) = 0 then (0 : Int32) else (if (m.1 7 0 0 8) = 0 then (0 : Int32) else (if (v_X5_isRow m (if ¬ (m.1 7 0 0 8) = (-1 : Int32) then (((10 : Int32) * (m.1 7 0 0 8)) + a1) else a1)) = 0 then (0 : Int32) else (1 : Int32)))))], [vI x, vR 7 0 0], m)) (fun h9 v9 m9 K10 => ?_) (fun h9 v9 m9 K10 => ?_) _ _ ?_
  · refine an_b 2 (pc2 := 65) (L2 := [some (vR 7 0 0), some (vI a1), some (vI (if ¬ (m.1 7 0 0 8) = (-1 : Int32) then (((10 : Int32) * (m.1 7 0 0 8)) + a1) else a1)), some (vI (if (v_X5_within m a1 (0 : Int32) (9 : Int32)) = 0 then (0 : Int32) else (if (m.1 7 0 0 8) = 0 then (0 : Int32) else (if (v_X5_isRow m (if ¬ (m.1 7 0 0 8) = (-1 : Int32) then (((10 : Int32) * (m.1 7 0 0 8)) + a1) else a1)) = 0 then (0 : Int32) else (1 : Int32)))))]) (st2 := [vI (m.1 7 0 0 8), vR 7 0 0]) (m1 := m) rfl ?_
    exact K10
  · refine an_b 2 (pc2 := 65) (L2 := [some (vR 7 0 0), some (vI a1), some (vI (if ¬ (m.1 7 0 0 8) = (-1 : Int32) then (((10 : Int32) * (m.1 7 0 0 8)) + a1) else a1)), some (vI (if (v_X5_within m a1 (0 : Int32) (9 : Int32)) = 0 then (0 : Int32) else (if (m.1 7 0 0 8) = 0 then (0 : Int32) else (if (v_X5_isRow m (if ¬ (m.1 7 0 0 8) = (-1 : Int32) then (((10 : Int32) * (m.1 7 0 0 8)) + a1) else a1)) = 0 then (0 : Int32) else (1 : Int32)))))]) (st2 := [vI (if ¬ (m.1 7 0 0 8) = (-1 : Int32) then (((10 : Int32) * (m.1 7 0 0 8)) + a1) else a1), vR 7 0 0]) (m1 := m) rfl ?_
    exact K10
  refine an_b 2 (pc2 := 69) (L2 := [some (vR 7 0 0), some (vI a1), some (vI (if ¬ (m.1 7 0 0 8) = (-1 : Int32) then (((10 : Int32) * (m.1 7 0 0 8)) + a1) else a1)), some (vI (if (v_X5_within m a1 (0 : Int32) (9 : Int32)) = 0 then (0 : Int32) else (if (m.1 7 0 0 8) = 0 then (0 : Int32) else (if (v_X5_isRow m (if ¬ (m.1 7 0 0 8) = (-1 : Int32) then (((10 : Int32) * (m.1 7 0 0 8)) + a1) else a1)) = 0 then (0 : Int32) else (1 : Int32)))))]) (st2 := [vI (if (v_X5_within m a1 (0 : Int32) (9 : Int32)) = 0 then (0 : Int32) else (if (m.1 7 0 0 8) = 0 then (0 : Int32) else (if (v_X5_isRow m (if ¬ (m.1 7 0 0 8) = (-1 : Int32) then (((10 : Int32) * (m.1 7 0 0 8)) + a1) else a1)) = 0 then (0 : Int32) else (1 : Int32))))]) (m1 := (wI m 7 0 0 8 (if (if (v_X5_within m a1 (0 : Int32) (9 : Int32)) = 0 then (0 : Int32) else (if (m.1 7 0 0 8) = 0 then (0 : Int32) else (if (v_X5_isRow m (if ¬ (m.1 7 0 0 8) = (-1 : Int32) then (((10 : Int32) * (m.1 7 0 0 8)) + a1) else a1)) = 0 then (0 : Int32) else (1 : Int32)))) = 0 then (m.1 7 0 0 8) else (if ¬ (m.1 7 0 0 8) = (-1 : Int32) then (((10 : Int32) * (m.1 7 0 0 8)) + a1) else a1)))) rfl ?_
  exact an_retz (by (repeat' split) <;> first | exact Or.inl rfl | exact Or.inr rfl | exact z_X5_isRow _ _ | exact z_X5_within _ _ _ _) rfl rfl
def b_X5_locksOf_1 (m : PM) (a1 : Nat)  (j1 : Nat) (s1 : Int32) : Int32 := (s1 + (if (v_X5_lockOf m a1 j1) ≤ 0 then (0 : Int32) else (1 : Int32)))
def v_X5_locksOf (m : PM) (a1 : Nat) : Int32 := (lp (b_X5_locksOf_1 m a1) 12 0 (0 : Int32))
set_option maxRecDepth 100000 in
theorem r_X5_locksOf (m : PM) (a1 : Nat) (ha1 : a1 < 8) : Rn MX5_locksOf [vR 7 0 0, vI (nI a1)] m (some (vI (v_X5_locksOf m a1))) m := by
  refine rn_of [some (vR 7 0 0), some (vI (nI a1)), none, none] rfl ?_
  unfold v_X5_locksOf
  refine an_b 4 (pc2 := 4) (L2 := [some (vR 7 0 0), some (vI (nI a1)), some (vI (0 : Int32)), some (vI (0 : Int32))]) (st2 := []) (m1 := m) rfl ?_
  refine re_lp (σ := Int32) (b_X5_locksOf_1 m a1) (fun j1 s1 => (4, [some (vR 7 0 0), some (vI (nI a1)), some (vI s1), some (vI (nI j1))], [], m)) 12 (fun s1 => (33, [some (vR 7 0 0), some (vI (nI a1)), some (vI s1), none], [], m)) (fun j1 s1 hj1 v9 m9 K1 => ?_) (fun s1 v9 m9 K1 => ?_) 12 0 (0 : Int32) (Nat.add_zero _) _ _ ?_
  · show An MX5_locksOf 4 [some (vR 7 0 0), some (vI (nI a1)), some (vI s1), some (vI (nI j1))] [] m v9 m9
    refine an_b 3 (pc2 := if (12 : Int32) ≤ (nI j1) then 33 else 10) (L2 := [some (vR 7 0 0), some (vI (nI a1)), some (vI s1), some (vI (nI j1))]) (st2 := []) (m1 := m) rfl ?_
    refine an_f (nI_ge (a := j1) (b := 12) (by omega) (by omega)) ?_
    refine an_b 4 (pc2 := 14) (L2 := [some (vR 7 0 0), some (vI (nI a1)), some (vI s1), some (vI (nI j1))]) (st2 := [vI (nI j1), vI (nI a1), vR 7 0 0, vI s1]) (m1 := m) rfl ?_
    refine an_call (r_X5_lockOf m a1 j1 (by omega) (by omega)) rfl rfl rfl rfl ?_
    refine an_b 1 (pc2 := if (v_X5_lockOf m a1 j1) ≤ 0 then 24 else 20) (L2 := [some (vR 7 0 0), some (vI (nI a1)), some (vI s1), some (vI (nI j1))]) (st2 := [vI s1]) (m1 := m) rfl ?_
    refine re_if1 (c := (v_X5_lockOf m a1 j1) ≤ 0) (a := (0 : Int32)) (b := (1 : Int32)) (fun x => (25, [some (vR 7 0 0), some (vI (nI a1)), some (vI s1), some (vI (nI j1))], [vI x, vI s1], m)) (fun h1 v9 m9 K2 => ?_) (fun h1 v9 m9 K2 => ?_) _ _ ?_
    · refine an_b 1 (pc2 := 25) (L2 := [some (vR 7 0 0), some (vI (nI a1)), some (vI s1), some (vI (nI j1))]) (st2 := [vI (0 : Int32), vI s1]) (m1 := m) rfl ?_
      exact K2
    · refine an_b 2 (pc2 := 25) (L2 := [some (vR 7 0 0), some (vI (nI a1)), some (vI s1), some (vI (nI j1))]) (st2 := [vI (1 : Int32), vI s1]) (m1 := m) rfl ?_
      exact K2
    refine an_b 4 (pc2 := 4) (L2 := [some (vR 7 0 0), some (vI (nI a1)), some (vI (s1 + (if (v_X5_lockOf m a1 j1) ≤ 0 then (0 : Int32) else (1 : Int32)))), some (vI ((nI j1) + (1 : Int32)))]) (st2 := []) (m1 := m) rfl ?_
    refine an_cL (K := [some (vR 7 0 0), some (vI (nI a1)), some (vI (s1 + (if (v_X5_lockOf m a1 j1) ≤ 0 then (0 : Int32) else (1 : Int32)))), some (vI (nI (j1 + 1)))]) (by simp only [nI_1]) ?_
    exact K1
  · show An MX5_locksOf 4 [some (vR 7 0 0), some (vI (nI a1)), some (vI s1), some (vI (nI 12))] [] m v9 m9
    refine an_b 3 (pc2 := if (12 : Int32) ≤ (nI 12) then 33 else 10) (L2 := [some (vR 7 0 0), some (vI (nI a1)), some (vI s1), some (vI (nI 12))]) (st2 := []) (m1 := m) rfl ?_
    refine an_t (nI_le (a := 12) (b := 12) (by omega) (by omega)) ?_
    refine an_weak (L := [some (vR 7 0 0), some (vI (nI a1)), some (vI s1), none]) (⟨rfl, rfl, rfl, trivial⟩) ?_
    exact K1
  show An MX5_locksOf 33 [some (vR 7 0 0), some (vI (nI a1)), some (vI (lp (b_X5_locksOf_1 m a1) 12 0 (0 : Int32))), none] [] m _ _
  refine an_b 1 (pc2 := 34) (L2 := [some (vR 7 0 0), some (vI (nI a1)), some (vI (lp (b_X5_locksOf_1 m a1) 12 0 (0 : Int32))), none]) (st2 := [vI (lp (b_X5_locksOf_1 m a1) 12 0 (0 : Int32))]) (m1 := m) rfl ?_
  exact an_ret rfl rfl rfl rfl rfl
def v_X5_rowNow (m : PM) (a1 : Nat) (a2 : Int32) : Int32 := (if a2 = nI 0 then (m.1 8 0 0 (101 + a1)) else (if a2 = nI 1 then (v_X5_greatestOf m a1) else (if a2 = nI 2 then (v_X5_holders m a1) else (if a2 = nI 3 then (m.1 8 0 0 (125 + a1)) else (if a2 = nI 4 then (m.1 8 0 0 (113 + a1)) else (if ¬ (m.1 8 0 0 (125 + a1)) = 0 then (v_X5_whoAt m a1 0) else (-1 : Int32)))))))
set_option maxRecDepth 100000 in
theorem r_X5_rowNow (m : PM) (a1 : Nat) (a2 : Int32) (ha1 : a1 < 12) : Rn MX5_rowNow [vR 7 0 0, vI (nI a1), vI a2] m (some (vI (v_X5_rowNow m a1 a2))) m := by
  refine rn_of [some (vR 7 0 0), some (vI (nI a1)), some (vI a2)] rfl ?_
  unfold v_X5_rowNow
  refine an_b 1 (pc2 := 1) (L2 := [some (vR 7 0 0), some (vI (nI a1)), some (vI a2)]) (st2 := [vI a2]) (m1 := m) rfl ?_
  refine an_tsw [36, 46, 52, 58, 68] 78 rfl rfl rfl (by decide) ?_
  refine an_ifi (c := a2 = nI 0) (fun h1 => ?_) (fun h1 => ?_)
  · refine an_b 5 (pc2 := 44) (L2 := [some (vR 7 0 0), some (vI (nI a1)), some (vI a2)]) (st2 := [vI ((101 : Int32) + (nI a1)), vR 8 0 0]) (m1 := m) rfl ?_
    refine an_ald (101 + a1) 361 rfl rfl (by simp only [ix_lit, pk_mul, nI_add]) (by omega) (by omega) ?_
    exact an_ret rfl rfl rfl rfl rfl
  · refine an_ifi (c := a2 = nI 1) (fun h2 => ?_) (fun h2 => ?_)
    · refine an_b 2 (pc2 := 48) (L2 := [some (vR 7 0 0), some (vI (nI a1)), some (vI a2)]) (st2 := [vI (nI a1), vR 7 0 0]) (m1 := m) rfl ?_
      refine an_call (r_X5_greatestOf m a1 (by omega)) rfl rfl rfl rfl ?_
      exact an_ret rfl rfl rfl rfl rfl
    · refine an_ifi (c := a2 = nI 2) (fun h3 => ?_) (fun h3 => ?_)
      · refine an_b 2 (pc2 := 54) (L2 := [some (vR 7 0 0), some (vI (nI a1)), some (vI a2)]) (st2 := [vI (nI a1), vR 7 0 0]) (m1 := m) rfl ?_
        refine an_call (r_X5_holders m a1 (by omega)) rfl rfl rfl rfl ?_
        exact an_ret rfl rfl rfl rfl rfl
      · refine an_ifi (c := a2 = nI 3) (fun h4 => ?_) (fun h4 => ?_)
        · refine an_b 5 (pc2 := 66) (L2 := [some (vR 7 0 0), some (vI (nI a1)), some (vI a2)]) (st2 := [vI ((125 : Int32) + (nI a1)), vR 8 0 0]) (m1 := m) rfl ?_
          refine an_ald (125 + a1) 361 rfl rfl (by simp only [ix_lit, pk_mul, nI_add]) (by omega) (by omega) ?_
          exact an_ret rfl rfl rfl rfl rfl
        · refine an_ifi (c := a2 = nI 4) (fun h5 => ?_) (fun h5 => ?_)
          · refine an_b 5 (pc2 := 76) (L2 := [some (vR 7 0 0), some (vI (nI a1)), some (vI a2)]) (st2 := [vI ((113 : Int32) + (nI a1)), vR 8 0 0]) (m1 := m) rfl ?_
            refine an_ald (113 + a1) 361 rfl rfl (by simp only [ix_lit, pk_mul, nI_add]) (by omega) (by omega) ?_
            exact an_ret rfl rfl rfl rfl rfl
          · refine an_b 5 (pc2 := 86) (L2 := [some (vR 7 0 0), some (vI (nI a1)), some (vI a2)]) (st2 := [vI ((125 : Int32) + (nI a1)), vR 8 0 0]) (m1 := m) rfl ?_
            refine an_ald (125 + a1) 361 rfl rfl (by simp only [ix_lit, pk_mul, nI_add]) (by omega) (by omega) ?_
            refine an_b 1 (pc2 := if ¬ (m.1 8 0 0 (125 + a1)) = 0 then 94 else 90) (L2 := [some (vR 7 0 0), some (vI (nI a1)), some (vI a2)]) (st2 := []) (m1 := m) rfl ?_
            refine an_ifi (c := ¬ (m.1 8 0 0 (125 + a1)) = 0) (fun h6 => ?_) (fun h6 => ?_)
            · refine an_b 3 (pc2 := 97) (L2 := [some (vR 7 0 0), some (vI (nI a1)), some (vI a2)]) (st2 := [vI (0 : Int32), vI (nI a1), vR 7 0 0]) (m1 := m) rfl ?_
              refine an_call (r_X5_whoAt m a1 0 (by omega) (by omega)) rfl rfl rfl rfl ?_
              exact an_ret rfl rfl rfl rfl rfl
            · refine an_b 2 (pc2 := 100) (L2 := [some (vR 7 0 0), some (vI (nI a1)), some (vI a2)]) (st2 := [vI (-1 : Int32)]) (m1 := m) rfl ?_
              exact an_ret rfl rfl rfl rfl rfl
def v_X5_requestNow (m : PM) (a1 : Nat) (a2 : Nat) (a3 : Int32) : Int32 := (if (nI a2) < (m.1 8 0 0 (125 + a1)) then (if ¬ a3 = 0 then (v_X5_modeAt m a1 a2) else (v_X5_whoAt m a1 a2)) else (-1 : Int32))
set_option maxRecDepth 100000 in
theorem r_X5_requestNow (m : PM) (a1 : Nat) (a2 : Nat) (a3 : Int32) (ha1 : a1 < 12) (ha2 : a2 < 8) : Rn MX5_requestNow [vR 7 0 0, vI (nI a1), vI (nI a2), vI a3] m (some (vI (v_X5_requestNow m a1 a2 a3))) m := by
  refine rn_of [some (vR 7 0 0), some (vI (nI a1)), some (vI (nI a2)), some (vI a3)] rfl ?_
  unfold v_X5_requestNow
  refine an_b 6 (pc2 := 9) (L2 := [some (vR 7 0 0), some (vI (nI a1)), some (vI (nI a2)), some (vI a3)]) (st2 := [vI ((125 : Int32) + (nI a1)), vR 8 0 0, vI (nI a2)]) (m1 := m) rfl ?_
  refine an_ald (125 + a1) 361 rfl rfl (by simp only [ix_lit, pk_mul, nI_add]) (by omega) (by omega) ?_
  refine an_b 1 (pc2 := if (nI a2) < (m.1 8 0 0 (125 + a1)) then 17 else 13) (L2 := [some (vR 7 0 0), some (vI (nI a1)), some (vI (nI a2)), some (vI a3)]) (st2 := []) (m1 := m) rfl ?_
  refine an_ifi (c := (nI a2) < (m.1 8 0 0 (125 + a1))) (fun h1 => ?_) (fun h1 => ?_)
  · refine an_b 2 (pc2 := if ¬ a3 = 0 then 30 else 21) (L2 := [some (vR 7 0 0), some (vI (nI a1)), some (vI (nI a2)), some (vI a3)]) (st2 := []) (m1 := m) rfl ?_
    refine an_ifi (c := ¬ a3 = 0) (fun h2 => ?_) (fun h2 => ?_)
    · refine an_b 3 (pc2 := 33) (L2 := [some (vR 7 0 0), some (vI (nI a1)), some (vI (nI a2)), some (vI a3)]) (st2 := [vI (nI a2), vI (nI a1), vR 7 0 0]) (m1 := m) rfl ?_
      refine an_call (r_X5_modeAt m a1 a2 (by omega) (by omega)) rfl rfl rfl rfl ?_
      exact an_ret rfl rfl rfl rfl rfl
    · refine an_b 3 (pc2 := 24) (L2 := [some (vR 7 0 0), some (vI (nI a1)), some (vI (nI a2)), some (vI a3)]) (st2 := [vI (nI a2), vI (nI a1), vR 7 0 0]) (m1 := m) rfl ?_
      refine an_call (r_X5_whoAt m a1 a2 (by omega) (by omega)) rfl rfl rfl rfl ?_
      refine an_b 1 (pc2 := 36) (L2 := [some (vR 7 0 0), some (vI (nI a1)), some (vI (nI a2)), some (vI a3)]) (st2 := [vI (v_X5_whoAt m a1 a2)]) (m1 := m) rfl ?_
      exact an_ret rfl rfl rfl rfl rfl
  · refine an_b 2 (pc2 := 36) (L2 := [some (vR 7 0 0), some (vI (nI a1)), some (vI (nI a2)), some (vI a3)]) (st2 := [vI (-1 : Int32)]) (m1 := m) rfl ?_
    exact an_ret rfl rfl rfl rfl rfl
def b_X5_sumFrom_1 (m : PM) (a1 : Nat) (a2 : Nat)  (j1 : Nat) (s1 : Int32) : Int32 := (s1 + (m.1 8 0 0 (a1 + j1)))
def v_X5_sumFrom (m : PM) (a1 : Nat) (a2 : Nat) : Int32 := (lp (b_X5_sumFrom_1 m a1 a2) a2 0 (0 : Int32))
set_option maxRecDepth 100000 in
theorem r_X5_sumFrom (m : PM) (a1 : Nat) (a2 : Nat) (ha1 : a1 < 354) (ha2 : a2 < 9) : Rn MX5_sumFrom [vR 7 0 0, vI (nI a1), vI (nI a2)] m (some (vI (v_X5_sumFrom m a1 a2))) m := by
  refine rn_of [some (vR 7 0 0), some (vI (nI a1)), some (vI (nI a2)), none, none] rfl ?_
  unfold v_X5_sumFrom
  refine an_b 4 (pc2 := 5) (L2 := [some (vR 7 0 0), some (vI (nI a1)), some (vI (nI a2)), some (vI (0 : Int32)), some (vI (0 : Int32))]) (st2 := []) (m1 := m) rfl ?_
  refine re_lp (σ := Int32) (b_X5_sumFrom_1 m a1 a2) (fun j1 s1 => (5, [some (vR 7 0 0), some (vI (nI a1)), some (vI (nI a2)), some (vI s1), some (vI (nI j1))], [], m)) a2 (fun s1 => (29, [some (vR 7 0 0), some (vI (nI a1)), some (vI (nI a2)), some (vI s1), none], [], m)) (fun j1 s1 hj1 v9 m9 K1 => ?_) (fun s1 v9 m9 K1 => ?_) a2 0 (0 : Int32) (Nat.add_zero _) _ _ ?_
  · show An MX5_sumFrom 5 [some (vR 7 0 0), some (vI (nI a1)), some (vI (nI a2)), some (vI s1), some (vI (nI j1))] [] m v9 m9
    refine an_b 3 (pc2 := if (nI a2) ≤ (nI j1) then 29 else 11) (L2 := [some (vR 7 0 0), some (vI (nI a1)), some (vI (nI a2)), some (vI s1), some (vI (nI j1))]) (st2 := []) (m1 := m) rfl ?_
    refine an_f (nI_ge (a := j1) (b := a2) (by omega) (by omega)) ?_
    refine an_b 6 (pc2 := 20) (L2 := [some (vR 7 0 0), some (vI (nI a1)), some (vI (nI a2)), some (vI s1), some (vI (nI j1))]) (st2 := [vI ((nI a1) + (nI j1)), vR 8 0 0, vI s1]) (m1 := m) rfl ?_
    refine an_ald (a1 + j1) 361 rfl rfl (by simp only [ix_lit, pk_mul, nI_add]) (by omega) (by omega) ?_
    refine an_b 4 (pc2 := 5) (L2 := [some (vR 7 0 0), some (vI (nI a1)), some (vI (nI a2)), some (vI (s1 + (m.1 8 0 0 (a1 + j1)))), some (vI ((nI j1) + (1 : Int32)))]) (st2 := []) (m1 := m) rfl ?_
    refine an_cL (K := [some (vR 7 0 0), some (vI (nI a1)), some (vI (nI a2)), some (vI (s1 + (m.1 8 0 0 (a1 + j1)))), some (vI (nI (j1 + 1)))]) (by simp only [nI_1]) ?_
    exact K1
  · show An MX5_sumFrom 5 [some (vR 7 0 0), some (vI (nI a1)), some (vI (nI a2)), some (vI s1), some (vI (nI a2))] [] m v9 m9
    refine an_b 3 (pc2 := if (nI a2) ≤ (nI a2) then 29 else 11) (L2 := [some (vR 7 0 0), some (vI (nI a1)), some (vI (nI a2)), some (vI s1), some (vI (nI a2))]) (st2 := []) (m1 := m) rfl ?_
    refine an_t (nI_le (a := a2) (b := a2) (by omega) (by omega)) ?_
    refine an_weak (L := [some (vR 7 0 0), some (vI (nI a1)), some (vI (nI a2)), some (vI s1), none]) (⟨rfl, rfl, rfl, rfl, trivial⟩) ?_
    exact K1
  show An MX5_sumFrom 29 [some (vR 7 0 0), some (vI (nI a1)), some (vI (nI a2)), some (vI (lp (b_X5_sumFrom_1 m a1 a2) a2 0 (0 : Int32))), none] [] m _ _
  refine an_b 1 (pc2 := 30) (L2 := [some (vR 7 0 0), some (vI (nI a1)), some (vI (nI a2)), some (vI (lp (b_X5_sumFrom_1 m a1 a2) a2 0 (0 : Int32))), none]) (st2 := [vI (lp (b_X5_sumFrom_1 m a1 a2) a2 0 (0 : Int32))]) (m1 := m) rfl ?_
  exact an_ret rfl rfl rfl rfl rfl
def b_X5_allLocks_1 (m : PM)   (j1 : Nat) (s1 : Int32) : Int32 := (s1 + (v_X5_locksOf m j1))
def v_X5_allLocks (m : PM)  : Int32 := (lp (b_X5_allLocks_1 m) 8 0 (0 : Int32))
set_option maxRecDepth 100000 in
theorem r_X5_allLocks (m : PM)  : Rn MX5_allLocks [vR 7 0 0] m (some (vI (v_X5_allLocks m))) m := by
  refine rn_of [some (vR 7 0 0), none, none] rfl ?_
  unfold v_X5_allLocks
  refine an_b 4 (pc2 := 4) (L2 := [some (vR 7 0 0), some (vI (0 : Int32)), some (vI (0 : Int32))]) (st2 := []) (m1 := m) rfl ?_
  refine re_lp (σ := Int32) (b_X5_allLocks_1 m) (fun j1 s1 => (4, [some (vR 7 0 0), some (vI s1), some (vI (nI j1))], [], m)) 8 (fun s1 => (24, [some (vR 7 0 0), some (vI s1), none], [], m)) (fun j1 s1 hj1 v9 m9 K1 => ?_) (fun s1 v9 m9 K1 => ?_) 8 0 (0 : Int32) (Nat.add_zero _) _ _ ?_
  · show An MX5_allLocks 4 [some (vR 7 0 0), some (vI s1), some (vI (nI j1))] [] m v9 m9
    refine an_b 3 (pc2 := if (8 : Int32) ≤ (nI j1) then 24 else 10) (L2 := [some (vR 7 0 0), some (vI s1), some (vI (nI j1))]) (st2 := []) (m1 := m) rfl ?_
    refine an_f (nI_ge (a := j1) (b := 8) (by omega) (by omega)) ?_
    refine an_b 3 (pc2 := 13) (L2 := [some (vR 7 0 0), some (vI s1), some (vI (nI j1))]) (st2 := [vI (nI j1), vR 7 0 0, vI s1]) (m1 := m) rfl ?_
    refine an_call (r_X5_locksOf m j1 (by omega)) rfl rfl rfl rfl ?_
    refine an_b 4 (pc2 := 4) (L2 := [some (vR 7 0 0), some (vI (s1 + (v_X5_locksOf m j1))), some (vI ((nI j1) + (1 : Int32)))]) (st2 := []) (m1 := m) rfl ?_
    refine an_cL (K := [some (vR 7 0 0), some (vI (s1 + (v_X5_locksOf m j1))), some (vI (nI (j1 + 1)))]) (by simp only [nI_1]) ?_
    exact K1
  · show An MX5_allLocks 4 [some (vR 7 0 0), some (vI s1), some (vI (nI 8))] [] m v9 m9
    refine an_b 3 (pc2 := if (8 : Int32) ≤ (nI 8) then 24 else 10) (L2 := [some (vR 7 0 0), some (vI s1), some (vI (nI 8))]) (st2 := []) (m1 := m) rfl ?_
    refine an_t (nI_le (a := 8) (b := 8) (by omega) (by omega)) ?_
    refine an_weak (L := [some (vR 7 0 0), some (vI s1), none]) (⟨rfl, rfl, trivial⟩) ?_
    exact K1
  show An MX5_allLocks 24 [some (vR 7 0 0), some (vI (lp (b_X5_allLocks_1 m) 8 0 (0 : Int32))), none] [] m _ _
  refine an_b 1 (pc2 := 25) (L2 := [some (vR 7 0 0), some (vI (lp (b_X5_allLocks_1 m) 8 0 (0 : Int32))), none]) (st2 := [vI (lp (b_X5_allLocks_1 m) 8 0 (0 : Int32))]) (m1 := m) rfl ?_
  exact an_ret rfl rfl rfl rfl rfl
def b_X5_heldRows_1 (m : PM)   (j1 : Nat) (s1 : Int32) : Int32 := (s1 + (if (v_X5_holders m j1) ≤ 0 then (0 : Int32) else (1 : Int32)))
def v_X5_heldRows (m : PM)  : Int32 := (lp (b_X5_heldRows_1 m) 12 0 (0 : Int32))
set_option maxRecDepth 100000 in
theorem r_X5_heldRows (m : PM)  : Rn MX5_heldRows [vR 7 0 0] m (some (vI (v_X5_heldRows m))) m := by
  refine rn_of [some (vR 7 0 0), none, none] rfl ?_
  unfold v_X5_heldRows
  refine an_b 4 (pc2 := 4) (L2 := [some (vR 7 0 0), some (vI (0 : Int32)), some (vI (0 : Int32))]) (st2 := []) (m1 := m) rfl ?_
  refine re_lp (σ := Int32) (b_X5_heldRows_1 m) (fun j1 s1 => (4, [some (vR 7 0 0), some (vI s1), some (vI (nI j1))], [], m)) 12 (fun s1 => (32, [some (vR 7 0 0), some (vI s1), none], [], m)) (fun j1 s1 hj1 v9 m9 K1 => ?_) (fun s1 v9 m9 K1 => ?_) 12 0 (0 : Int32) (Nat.add_zero _) _ _ ?_
  · show An MX5_heldRows 4 [some (vR 7 0 0), some (vI s1), some (vI (nI j1))] [] m v9 m9
    refine an_b 3 (pc2 := if (12 : Int32) ≤ (nI j1) then 32 else 10) (L2 := [some (vR 7 0 0), some (vI s1), some (vI (nI j1))]) (st2 := []) (m1 := m) rfl ?_
    refine an_f (nI_ge (a := j1) (b := 12) (by omega) (by omega)) ?_
    refine an_b 3 (pc2 := 13) (L2 := [some (vR 7 0 0), some (vI s1), some (vI (nI j1))]) (st2 := [vI (nI j1), vR 7 0 0, vI s1]) (m1 := m) rfl ?_
    refine an_call (r_X5_holders m j1 (by omega)) rfl rfl rfl rfl ?_
    refine an_b 1 (pc2 := if (v_X5_holders m j1) ≤ 0 then 23 else 19) (L2 := [some (vR 7 0 0), some (vI s1), some (vI (nI j1))]) (st2 := [vI s1]) (m1 := m) rfl ?_
    refine re_if1 (c := (v_X5_holders m j1) ≤ 0) (a := (0 : Int32)) (b := (1 : Int32)) (fun x => (24, [some (vR 7 0 0), some (vI s1), some (vI (nI j1))], [vI x, vI s1], m)) (fun h1 v9 m9 K2 => ?_) (fun h1 v9 m9 K2 => ?_) _ _ ?_
    · refine an_b 1 (pc2 := 24) (L2 := [some (vR 7 0 0), some (vI s1), some (vI (nI j1))]) (st2 := [vI (0 : Int32), vI s1]) (m1 := m) rfl ?_
      exact K2
    · refine an_b 2 (pc2 := 24) (L2 := [some (vR 7 0 0), some (vI s1), some (vI (nI j1))]) (st2 := [vI (1 : Int32), vI s1]) (m1 := m) rfl ?_
      exact K2
    refine an_b 4 (pc2 := 4) (L2 := [some (vR 7 0 0), some (vI (s1 + (if (v_X5_holders m j1) ≤ 0 then (0 : Int32) else (1 : Int32)))), some (vI ((nI j1) + (1 : Int32)))]) (st2 := []) (m1 := m) rfl ?_
    refine an_cL (K := [some (vR 7 0 0), some (vI (s1 + (if (v_X5_holders m j1) ≤ 0 then (0 : Int32) else (1 : Int32)))), some (vI (nI (j1 + 1)))]) (by simp only [nI_1]) ?_
    exact K1
  · show An MX5_heldRows 4 [some (vR 7 0 0), some (vI s1), some (vI (nI 12))] [] m v9 m9
    refine an_b 3 (pc2 := if (12 : Int32) ≤ (nI 12) then 32 else 10) (L2 := [some (vR 7 0 0), some (vI s1), some (vI (nI 12))]) (st2 := []) (m1 := m) rfl ?_
    refine an_t (nI_le (a := 12) (b := 12) (by omega) (by omega)) ?_
    refine an_weak (L := [some (vR 7 0 0), some (vI s1), none]) (⟨rfl, rfl, trivial⟩) ?_
    exact K1
  show An MX5_heldRows 32 [some (vR 7 0 0), some (vI (lp (b_X5_heldRows_1 m) 12 0 (0 : Int32))), none] [] m _ _
  refine an_b 1 (pc2 := 33) (L2 := [some (vR 7 0 0), some (vI (lp (b_X5_heldRows_1 m) 12 0 (0 : Int32))), none]) (st2 := [vI (lp (b_X5_heldRows_1 m) 12 0 (0 : Int32))]) (m1 := m) rfl ?_
  exact an_ret rfl rfl rfl rfl rfl
def b_X5_keep_1 (m : PM)   (j1 : Nat) (s1 : PM) : PM := (wI s1 8 4 0 j1 (s1.1 8 0 0 j1))
def w_X5_keep (m : PM)  : PM := (lp (b_X5_keep_1 m) 361 0 m)
set_option maxRecDepth 100000 in
theorem r_X5_keep (m : PM)  : Rn MX5_keep [vR 7 0 0] m none (w_X5_keep m) := by
  refine rn_of [some (vR 7 0 0), none] rfl ?_
  unfold w_X5_keep
  refine an_b 2 (pc2 := 2) (L2 := [some (vR 7 0 0), some (vI (0 : Int32))]) (st2 := []) (m1 := m) rfl ?_
  refine re_lp (σ := PM) (b_X5_keep_1 m) (fun j1 s1 => (2, [some (vR 7 0 0), some (vI (nI j1))], [], s1)) 361 (fun s1 => (27, [some (vR 7 0 0), none], [], s1)) (fun j1 s1 hj1 v9 m9 K1 => ?_) (fun s1 v9 m9 K1 => ?_) 361 0 m (Nat.add_zero _) _ _ ?_
  · show An MX5_keep 2 [some (vR 7 0 0), some (vI (nI j1))] [] s1 v9 m9
    refine an_b 3 (pc2 := if (361 : Int32) ≤ (nI j1) then 27 else 9) (L2 := [some (vR 7 0 0), some (vI (nI j1))]) (st2 := []) (m1 := s1) rfl ?_
    refine an_f (nI_ge (a := j1) (b := 361) (by omega) (by omega)) ?_
    refine an_b 6 (pc2 := 19) (L2 := [some (vR 7 0 0), some (vI (nI j1))]) (st2 := [vI (nI j1), vR 8 0 0, vI (nI j1), vR 8 4 0]) (m1 := s1) rfl ?_
    refine an_ald j1 361 rfl rfl (by simp only [ix_lit, pk_mul, nI_add]) (by omega) (by omega) ?_
    refine an_ast j1 361 rfl rfl (by decide) (by simp only [ix_lit, pk_mul, nI_add]) (by omega) (by omega) ?_
    refine an_b 2 (pc2 := 2) (L2 := [some (vR 7 0 0), some (vI ((nI j1) + (1 : Int32)))]) (st2 := []) (m1 := (wI s1 8 4 0 j1 (s1.1 8 0 0 j1))) rfl ?_
    refine an_cL (K := [some (vR 7 0 0), some (vI (nI (j1 + 1)))]) (by simp only [nI_1]) ?_
    exact K1
  · show An MX5_keep 2 [some (vR 7 0 0), some (vI (nI 361))] [] s1 v9 m9
    refine an_b 3 (pc2 := if (361 : Int32) ≤ (nI 361) then 27 else 9) (L2 := [some (vR 7 0 0), some (vI (nI 361))]) (st2 := []) (m1 := s1) rfl ?_
    refine an_t (nI_le (a := 361) (b := 361) (by omega) (by omega)) ?_
    refine an_weak (L := [some (vR 7 0 0), none]) (⟨rfl, trivial⟩) ?_
    exact K1
  show An MX5_keep 27 [some (vR 7 0 0), none] [] (lp (b_X5_keep_1 m) 361 0 m) _ _
  exact an_ret rfl rfl rfl rfl rfl
def b_X5_layBack_1 (m : PM)   (j1 : Nat) (s1 : PM) : PM := (wI s1 8 0 0 j1 (s1.1 8 4 0 j1))
def w_X5_layBack (m : PM)  : PM := (lp (b_X5_layBack_1 m) 361 0 m)
set_option maxRecDepth 100000 in
theorem r_X5_layBack (m : PM)  : Rn MX5_layBack [vR 7 0 0] m none (w_X5_layBack m) := by
  refine rn_of [some (vR 7 0 0), none] rfl ?_
  unfold w_X5_layBack
  refine an_b 2 (pc2 := 2) (L2 := [some (vR 7 0 0), some (vI (0 : Int32))]) (st2 := []) (m1 := m) rfl ?_
  refine re_lp (σ := PM) (b_X5_layBack_1 m) (fun j1 s1 => (2, [some (vR 7 0 0), some (vI (nI j1))], [], s1)) 361 (fun s1 => (27, [some (vR 7 0 0), none], [], s1)) (fun j1 s1 hj1 v9 m9 K1 => ?_) (fun s1 v9 m9 K1 => ?_) 361 0 m (Nat.add_zero _) _ _ ?_
  · show An MX5_layBack 2 [some (vR 7 0 0), some (vI (nI j1))] [] s1 v9 m9
    refine an_b 3 (pc2 := if (361 : Int32) ≤ (nI j1) then 27 else 9) (L2 := [some (vR 7 0 0), some (vI (nI j1))]) (st2 := []) (m1 := s1) rfl ?_
    refine an_f (nI_ge (a := j1) (b := 361) (by omega) (by omega)) ?_
    refine an_b 6 (pc2 := 19) (L2 := [some (vR 7 0 0), some (vI (nI j1))]) (st2 := [vI (nI j1), vR 8 4 0, vI (nI j1), vR 8 0 0]) (m1 := s1) rfl ?_
    refine an_ald j1 361 rfl rfl (by simp only [ix_lit, pk_mul, nI_add]) (by omega) (by omega) ?_
    refine an_ast j1 361 rfl rfl (by decide) (by simp only [ix_lit, pk_mul, nI_add]) (by omega) (by omega) ?_
    refine an_b 2 (pc2 := 2) (L2 := [some (vR 7 0 0), some (vI ((nI j1) + (1 : Int32)))]) (st2 := []) (m1 := (wI s1 8 0 0 j1 (s1.1 8 4 0 j1))) rfl ?_
    refine an_cL (K := [some (vR 7 0 0), some (vI (nI (j1 + 1)))]) (by simp only [nI_1]) ?_
    exact K1
  · show An MX5_layBack 2 [some (vR 7 0 0), some (vI (nI 361))] [] s1 v9 m9
    refine an_b 3 (pc2 := if (361 : Int32) ≤ (nI 361) then 27 else 9) (L2 := [some (vR 7 0 0), some (vI (nI 361))]) (st2 := []) (m1 := s1) rfl ?_
    refine an_t (nI_le (a := 361) (b := 361) (by omega) (by omega)) ?_
    refine an_weak (L := [some (vR 7 0 0), none]) (⟨rfl, trivial⟩) ?_
    exact K1
  show An MX5_layBack 27 [some (vR 7 0 0), none] [] (lp (b_X5_layBack_1 m) 361 0 m) _ _
  exact an_ret rfl rfl rfl rfl rfl
def w_X5_mix (m : PM) (a1 : Int64) : PM := (wL m 7 0 0 11 (((31 : Int64) * (m.2 7 0 0 11)) + a1))
set_option maxRecDepth 100000 in
theorem r_X5_mix (m : PM) (a1 : Int64) : Rn MX5_mix [vR 7 0 0, vL a1] m none (w_X5_mix m a1) := by
  refine rn_of [some (vR 7 0 0), some (vL a1), none] rfl ?_
  unfold w_X5_mix
  refine an_b 8 (pc2 := 14) (L2 := [some (vR 7 0 0), some (vL a1), none]) (st2 := []) (m1 := (wL m 7 0 0 11 (((31 : Int64) * (m.2 7 0 0 11)) + a1))) rfl ?_
  exact an_ret rfl rfl rfl rfl rfl
end
section
/-! the model's row of numbers, and its queues -/
def zz (m : PM) (i : Nat) : Int32 := m.1 8 0 0 i
def setz (m : PM) (f : Nat → Int32) : PM := (fun t k g i => if t = 8 ∧ k = 0 ∧ g = 0 then f i else m.1 t k g i, m.2)
theorem zz_setz (m : PM) (f : Nat → Int32) : zz (setz m f) = f := by
  funext i
  unfold zz setz
  dsimp only
  rw [if_pos ⟨rfl, rfl, rfl⟩]
theorem zs (m : PM) (f : Nat → Int32) (i : Nat) : (setz m f).1 8 0 0 i = f i := congrFun (zz_setz m f) i
theorem setz_setz (m : PM) (f f2 : Nat → Int32) : setz (setz m f) f2 = setz m f2 := by
  unfold setz
  congr 1
  funext t k g i
  dsimp only
  by_cases h : t = 8 ∧ k = 0 ∧ g = 0
  · rw [if_pos h, if_pos h]
  · rw [if_neg h, if_neg h, if_neg h]
theorem setz_zz (m : PM) : setz m (zz m) = m := by
  obtain ⟨a, b⟩ := m
  unfold setz zz
  congr 1
  funext t k g i
  dsimp only
  by_cases h : t = 8 ∧ k = 0 ∧ g = 0
  · rw [if_pos h]; obtain ⟨rfl, rfl, rfl⟩ := h; rfl
  · rw [if_neg h]
theorem wI_setz (m : PM) (i : Nat) (v : Int32) : wI m 8 0 0 i v = setz m (upd (zz m) i v) := by
  unfold wI setz zz upd
  congr 1
  funext t k g j
  by_cases h : t = 8 ∧ k = 0 ∧ g = 0
  · obtain ⟨rfl, rfl, rfl⟩ := h
    by_cases hj : j = i
    · rw [if_pos ⟨rfl, rfl, rfl, hj⟩, if_pos ⟨rfl, rfl, rfl⟩, if_pos hj]
    · rw [if_neg (fun q => hj q.2.2.2), if_pos ⟨rfl, rfl, rfl⟩, if_neg hj]
  · rw [if_neg (fun q => h ⟨q.1, q.2.1, q.2.2.1⟩), if_neg h]
theorem wI_setz2 (m : PM) (f : Nat → Int32) (i : Nat) (v : Int32) : wI (setz m f) 8 0 0 i v = setz m (upd f i v) := by
  rw [wI_setz, zz_setz, setz_setz]
/-- the queue of row r without its place p, as far as place k is moved; n were in it -/
def uqz (z : Nat → Int32) (r p n k : Nat) (i : Nat) : Int32 := if i = 125 + r then nI (n - 1) else if 137 + 8 * r + p ≤ i ∧ i < 137 + 8 * r + k then z (i + 1) else if 233 + 8 * r + p ≤ i ∧ i < 233 + 8 * r + k then z (i + 1) else z i
theorem uqz_0 (z : Nat → Int32) (r p n : Nat) : uqz z r p n p = upd z (125 + r) (nI (n - 1)) := by
  funext i
  unfold uqz upd
  by_cases h : i = 125 + r
  · rw [if_pos h, if_pos h]
  · rw [if_neg h, if_neg h, if_neg (by omega), if_neg (by omega)]
theorem uqz_s (z : Nat → Int32) (r p n k : Nat) (hr : r < 12) (hp : p ≤ k) (hk : k < 7) : upd (upd (uqz z r p n k) (137 + 8 * r + k) (z (137 + 8 * r + (k + 1)))) (233 + 8 * r + k) (z (233 + 8 * r + (k + 1))) = uqz z r p n (k + 1) := by
  funext i
  unfold uqz upd
  dsimp only
  (repeat' split) <;> first | rfl | (exfalso; omega) | (congr 1; omega)
theorem r_X5_unqueue (m : PM) (r p n : Nat) (hr : r < 12) (hn : zz m (125 + r) = nI n) (hp : p < n) (h8 : n ≤ 8) : Rn MX5_unqueue [vR 7 0 0, vI (nI r), vI (nI p)] m none (setz m (uqz (zz m) r p n (n - 1))) := by
  refine rn_of [some (vR 7 0 0), some (vI (nI r)), some (vI (nI p)), none] rfl ?_
  refine an_b 6 (pc2 := 9) (L2 := [some (vR 7 0 0), some (vI (nI r)), some (vI (nI p)), none]) (st2 := [vI ((125 : Int32) + nI r), vR 8 0 0, vI ((125 : Int32) + nI r), vR 8 0 0]) (m1 := m) rfl ?_
  refine an_ald (125 + r) 361 rfl rfl (by simp only [ix_lit, nI_add]) (by omega) (by omega) ?_
  refine an_b 2 (pc2 := 12) (L2 := [some (vR 7 0 0), some (vI (nI r)), some (vI (nI p)), none]) (st2 := [vI (zz m (125 + r) - 1), vI ((125 : Int32) + nI r), vR 8 0 0]) (m1 := m) rfl ?_
  refine an_ast (125 + r) 361 rfl rfl (by decide) (by simp only [ix_lit, nI_add]) (by omega) (by omega) ?_
  have e1 : zz m (125 + r) - 1 = nI (n - 1) := by
    rw [hn]
    have e2 : n = n - 1 + 1 := by omega
    rw [e2, nI_pred]
    congr 1
  rw [e1, wI_setz, ← uqz_0 (zz m) r p n]
  refine an_b 2 (pc2 := 15) (L2 := [some (vR 7 0 0), some (vI (nI r)), some (vI (nI p)), some (vI (nI p))]) (st2 := []) (m1 := setz m (uqz (zz m) r p n p)) rfl ?_
  suffices K : ∀ d k, p ≤ k → k + d = n - 1 → An MX5_unqueue 15 [some (vR 7 0 0), some (vI (nI r)), some (vI (nI p)), some (vI (nI k))] [] (setz m (uqz (zz m) r p n k)) (.inl none) (setz m (uqz (zz m) r p n (n - 1))) from K (n - 1 - p) p (Nat.le_refl _) (by omega)
  intro d
  induction d with
  | zero =>
    intro k hk hd
    obtain rfl : k = n - 1 := by omega
    refine an_b 6 (pc2 := 24) (L2 := [some (vR 7 0 0), some (vI (nI r)), some (vI (nI p)), some (vI (nI (n - 1)))]) (st2 := [vI ((125 : Int32) + nI r), vR 8 0 0, vI (nI (n - 1))]) (m1 := setz m (uqz (zz m) r p n (n - 1))) rfl ?_
    refine an_ald (125 + r) 361 rfl rfl (by simp only [ix_lit, nI_add]) (by omega) (by omega) ?_
    have e3 : (setz m (uqz (zz m) r p n (n - 1))).1 8 0 0 (125 + r) = nI (n - 1) := by
      rw [zs]
      unfold uqz
      rw [if_pos rfl]
    rw [e3]
    refine an_b 1 (pc2 := if nI (n - 1) ≤ nI (n - 1) then 80 else 28) (L2 := [some (vR 7 0 0), some (vI (nI r)), some (vI (nI p)), some (vI (nI (n - 1)))]) (st2 := []) (m1 := setz m (uqz (zz m) r p n (n - 1))) rfl ?_
    refine an_t (nI_le (Nat.le_refl _) (by omega)) ?_
    exact an_ret rfl rfl rfl rfl rfl
  | succ d ih =>
    intro k hk hd
    refine an_b 6 (pc2 := 24) (L2 := [some (vR 7 0 0), some (vI (nI r)), some (vI (nI p)), some (vI (nI k))]) (st2 := [vI ((125 : Int32) + nI r), vR 8 0 0, vI (nI k)]) (m1 := setz m (uqz (zz m) r p n k)) rfl ?_
    refine an_ald (125 + r) 361 rfl rfl (by simp only [ix_lit, nI_add]) (by omega) (by omega) ?_
    have hz : ∀ i, (setz m (uqz (zz m) r p n k)).1 8 0 0 i = uqz (zz m) r p n k i := fun i => congrFun (zz_setz m (uqz (zz m) r p n k)) i
    have e3 : (setz m (uqz (zz m) r p n k)).1 8 0 0 (125 + r) = nI (n - 1) := by
      rw [hz]
      unfold uqz
      rw [if_pos rfl]
    rw [e3]
    refine an_b 1 (pc2 := if nI (n - 1) ≤ nI k then 80 else 28) (L2 := [some (vR 7 0 0), some (vI (nI r)), some (vI (nI p)), some (vI (nI k))]) (st2 := []) (m1 := setz m (uqz (zz m) r p n k)) rfl ?_
    refine an_f (nI_ge (by omega) (by omega)) ?_
    refine an_b 14 (pc2 := 47) (L2 := [some (vR 7 0 0), some (vI (nI r)), some (vI (nI p)), some (vI (nI k))]) (st2 := [vI (nI k + 1), vI (nI r), vR 7 0 0, vI ((137 : Int32) + (8 : Int32) * nI r + nI k), vR 8 0 0]) (m1 := setz m (uqz (zz m) r p n k)) rfl ?_
    rw [nI_1]
    refine an_call (r_X5_whoAt _ r (k + 1) hr (by omega)) rfl rfl rfl rfl ?_
    have e4 : v_X5_whoAt (setz m (uqz (zz m) r p n k)) r (k + 1) = zz m (137 + 8 * r + (k + 1)) := by
      unfold v_X5_whoAt
      rw [hz]
      unfold uqz
      rw [if_neg (by omega), if_neg (by omega), if_neg (by omega)]
    rw [e4]
    refine an_ast (137 + 8 * r + k) 361 rfl rfl (by decide) (by simp only [ix_lit, pk_mul, nI_add]) (by omega) (by omega) ?_
    rw [wI_setz2]
    refine an_b 14 (pc2 := 70) (L2 := [some (vR 7 0 0), some (vI (nI r)), some (vI (nI p)), some (vI (nI k))]) (st2 := [vI (nI k + 1), vI (nI r), vR 7 0 0, vI ((233 : Int32) + (8 : Int32) * nI r + nI k), vR 8 0 0]) (m1 := setz m (upd (uqz (zz m) r p n k) (137 + 8 * r + k) (zz m (137 + 8 * r + (k + 1))))) rfl ?_
    rw [nI_1]
    refine an_call (r_X5_modeAt _ r (k + 1) hr (by omega)) rfl rfl rfl rfl ?_
    have e5 : v_X5_modeAt (setz m (upd (uqz (zz m) r p n k) (137 + 8 * r + k) (zz m (137 + 8 * r + (k + 1))))) r (k + 1) = zz m (233 + 8 * r + (k + 1)) := by
      unfold v_X5_modeAt
      show zz (setz m _) _ = _
      rw [zz_setz]
      unfold upd uqz
      rw [if_neg (by omega), if_neg (by omega), if_neg (by omega), if_neg (by omega)]
    rw [e5]
    refine an_ast (233 + 8 * r + k) 361 rfl rfl (by decide) (by simp only [ix_lit, pk_mul, nI_add]) (by omega) (by omega) ?_
    rw [wI_setz2, uqz_s (zz m) r p n k hr hk (by omega)]
    refine an_b 2 (pc2 := 15) (L2 := [some (vR 7 0 0), some (vI (nI r)), some (vI (nI p)), some (vI (nI k + 1))]) (st2 := []) (m1 := setz m (uqz (zz m) r p n (k + 1))) rfl ?_
    rw [nI_1]
    exact ih (k + 1) (by omega) (by omega)
/-- a queue's entries are hands -/
def QV (z : Nat → Int32) (r n : Nat) : Prop := z (125 + r) = nI n ∧ n ≤ 8 ∧ ∀ p, p < n → ∃ h, h < 8 ∧ z (137 + 8 * r + p) = nI h
/-- behind a grant of the request at place p, of hand h -/
def grz (z : Nat → Int32) (r p n h : Nat) : Nat → Int32 := uqz (upd (upd z (5 + 12 * h + r) (z (233 + 8 * r + p))) (345 + h) (z (345 + h) + 1)) r p n (n - 1)
theorem r_X5_grant (m : PM) (r p n h : Nat) (hr : r < 12) (hn : zz m (125 + r) = nI n) (hp : p < n) (h8 : n ≤ 8) (hh : h < 8) (hw : zz m (137 + 8 * r + p) = nI h) : Rn MX5_grant [vR 7 0 0, vI (nI r), vI (nI p)] m none (setz m (grz (zz m) r p n h)) := by
  refine rn_of [some (vR 7 0 0), some (vI (nI r)), some (vI (nI p)), none] rfl ?_
  refine an_b 3 (pc2 := 3) (L2 := [some (vR 7 0 0), some (vI (nI r)), some (vI (nI p)), none]) (st2 := [vI (nI p), vI (nI r), vR 7 0 0]) (m1 := m) rfl ?_
  refine an_call (r_X5_whoAt m r p hr (by omega)) rfl rfl rfl rfl ?_
  have e1 : v_X5_whoAt m r p = nI h := hw
  rw [e1]
  refine an_b 7 (pc2 := 13) (L2 := [some (vR 7 0 0), some (vI (nI r)), some (vI (nI p)), some (vI (nI h))]) (st2 := [vI (nI p), vI (nI r), vR 7 0 0, vI (nI r), vI (nI h), vR 7 0 0]) (m1 := m) rfl ?_
  refine an_call (r_X5_modeAt m r p hr (by omega)) rfl rfl rfl rfl ?_
  refine an_call (r_X5_setLock m h r (v_X5_modeAt m r p) hh hr) rfl rfl rfl rfl ?_
  have e2 : w_X5_setLock m h r (v_X5_modeAt m r p) = setz m (upd (zz m) (5 + 12 * h + r) (zz m (233 + 8 * r + p))) := wI_setz _ _ _
  rw [e2]
  refine an_b 6 (pc2 := 29) (L2 := [some (vR 7 0 0), some (vI (nI r)), some (vI (nI p)), some (vI (nI h))]) (st2 := [vI ((345 : Int32) + nI h), vR 8 0 0, vI ((345 : Int32) + nI h), vR 8 0 0]) (m1 := setz m (upd (zz m) (5 + 12 * h + r) (zz m (233 + 8 * r + p)))) rfl ?_
  refine an_ald (345 + h) 361 rfl rfl (by simp only [ix_lit, nI_add]) (by omega) (by omega) ?_
  have e3 : (setz m (upd (zz m) (5 + 12 * h + r) (zz m (233 + 8 * r + p)))).1 8 0 0 (345 + h) = zz m (345 + h) := by
    rw [zs]
    unfold upd
    rw [if_neg (by omega)]
  rw [e3]
  refine an_b 2 (pc2 := 32) (L2 := [some (vR 7 0 0), some (vI (nI r)), some (vI (nI p)), some (vI (nI h))]) (st2 := [vI (zz m (345 + h) + 1), vI ((345 : Int32) + nI h), vR 8 0 0]) (m1 := setz m (upd (zz m) (5 + 12 * h + r) (zz m (233 + 8 * r + p)))) rfl ?_
  refine an_ast (345 + h) 361 rfl rfl (by decide) (by simp only [ix_lit, nI_add]) (by omega) (by omega) ?_
  rw [wI_setz2]
  refine an_b 3 (pc2 := 36) (L2 := [some (vR 7 0 0), some (vI (nI r)), some (vI (nI p)), some (vI (nI h))]) (st2 := [vI (nI p), vI (nI r), vR 7 0 0]) (m1 := setz m (upd (upd (zz m) (5 + 12 * h + r) (zz m (233 + 8 * r + p))) (345 + h) (zz m (345 + h) + 1))) rfl ?_
  have hu := r_X5_unqueue (setz m (upd (upd (zz m) (5 + 12 * h + r) (zz m (233 + 8 * r + p))) (345 + h) (zz m (345 + h) + 1))) r p n hr (by
    rw [zz_setz]
    unfold upd
    rw [if_neg (by omega), if_neg (by omega)]
    exact hn) hp h8
  rw [zz_setz, setz_setz] at hu
  refine an_call hu rfl rfl rfl rfl ?_
  exact an_ret rfl rfl rfl rfl rfl
theorem qv_grz {z : Nat → Int32} {r n h : Nat} (hr : r < 12) (hh : h < 8) (hq : QV z r (n + 1)) : QV (grz z r 0 (n + 1) h) r n := by
  obtain ⟨h1, h2, h3⟩ := hq
  refine ⟨?_, by omega, fun p hp => ?_⟩
  · unfold grz uqz
    rw [if_pos rfl]
    rfl
  · obtain ⟨h0, e1, e2⟩ := h3 (p + 1) (by omega)
    refine ⟨h0, e1, ?_⟩
    unfold grz uqz upd
    rw [if_neg (by omega), if_pos (by omega), if_neg (by omega), if_neg (by omega)]
    exact e2
/-- a memory with this row of numbers -/
def zm (z : Nat → Int32) : PM := setz ((fun _ _ _ _ => 0), (fun _ _ _ _ => 0)) z
def clz (z : Nat → Int32) (r : Nat) (md but : Int32) : Int32 := v_X5_clashing (zm z) r md but
theorem clz_eq (m : PM) (r : Nat) (md but : Int32) : v_X5_clashing m r md but = clz (zz m) r md but := by
  unfold clz v_X5_clashing
  have e : b_X5_clashing_1 m r md but = b_X5_clashing_1 (zm (zz m)) r md but := by
    funext j s
    unfold b_X5_clashing_1 v_X5_lockOf zm
    simp only [zs]
    rfl
  rw [e]
/-- a row is settled: n stand in its queue, c were granted -/
def stz (r : Nat) : Nat → (Nat → Int32) → Int32 → Int32 × (Nat → Int32)
  | 0, z, c => (c, z)
  | n + 1, z, c => if clz z r (z (233 + 8 * r)) (z (137 + 8 * r)) = 0 then stz r n (grz z r 0 (n + 1) (z (137 + 8 * r)).toNatClampNeg) (c + 1) else (c, z)
theorem r_X5_settle (m : PM) (r n : Nat) (hr : r < 12) (hq : QV (zz m) r n) : Rn MX5_settle [vR 7 0 0, vI (nI r)] m (some (vI (stz r n (zz m) 0).1)) (setz m (stz r n (zz m) 0).2) := by
  refine rn_of [some (vR 7 0 0), some (vI (nI r)), none] rfl ?_
  refine an_b 2 (pc2 := 2) (L2 := [some (vR 7 0 0), some (vI (nI r)), some (vI 0)]) (st2 := []) (m1 := m) rfl ?_
  suffices K : ∀ n z c, QV z r n → An MX5_settle 2 [some (vR 7 0 0), some (vI (nI r)), some (vI c)] [] (setz m z) (.inl (some (vI (stz r n z c).1))) (setz m (stz r n z c).2) by
    have k := K n (zz m) 0 hq
    rw [setz_zz] at k
    exact k
  have last : ∀ (z : Nat → Int32) (c : Int32), An MX5_settle 46 [some (vR 7 0 0), some (vI (nI r)), some (vI c)] [] (setz m z) (.inl (some (vI c))) (setz m z) := by
    intro z c
    refine an_b 1 (pc2 := 47) (L2 := [some (vR 7 0 0), some (vI (nI r)), some (vI c)]) (st2 := [vI c]) (m1 := setz m z) rfl ?_
    exact an_ret rfl rfl rfl rfl rfl
  intro n
  induction n with
  | zero =>
    intro z c hz
    refine an_b 5 (pc2 := 10) (L2 := [some (vR 7 0 0), some (vI (nI r)), some (vI c)]) (st2 := [vI ((125 : Int32) + nI r), vR 8 0 0]) (m1 := setz m z) rfl ?_
    refine an_ald (125 + r) 361 rfl rfl (by simp only [ix_lit, nI_add]) (by omega) (by omega) ?_
    rw [zs, hz.1]
    refine an_b 1 (pc2 := if nI 0 ≤ 0 then 46 else 14) (L2 := [some (vR 7 0 0), some (vI (nI r)), some (vI c)]) (st2 := []) (m1 := setz m z) rfl ?_
    exact an_t (by decide) (last z c)
  | succ n ih =>
    intro z c hz
    obtain ⟨z1, z2, z3⟩ := id hz
    refine an_b 5 (pc2 := 10) (L2 := [some (vR 7 0 0), some (vI (nI r)), some (vI c)]) (st2 := [vI ((125 : Int32) + nI r), vR 8 0 0]) (m1 := setz m z) rfl ?_
    refine an_ald (125 + r) 361 rfl rfl (by simp only [ix_lit, nI_add]) (by omega) (by omega) ?_
    rw [zs, z1]
    refine an_b 1 (pc2 := if nI (n + 1) ≤ 0 then 46 else 14) (L2 := [some (vR 7 0 0), some (vI (nI r)), some (vI c)]) (st2 := []) (m1 := setz m z) rfl ?_
    refine an_f (nI_nle (by omega) (by omega)) ?_
    refine an_b 5 (pc2 := 19) (L2 := [some (vR 7 0 0), some (vI (nI r)), some (vI c)]) (st2 := [vI 0, vI (nI r), vR 7 0 0, vI (nI r), vR 7 0 0]) (m1 := setz m z) rfl ?_
    refine an_call (r_X5_modeAt (setz m z) r 0 hr (by omega)) rfl rfl rfl rfl ?_
    refine an_b 3 (pc2 := 25) (L2 := [some (vR 7 0 0), some (vI (nI r)), some (vI c)]) (st2 := [vI 0, vI (nI r), vR 7 0 0, vI (v_X5_modeAt (setz m z) r 0), vI (nI r), vR 7 0 0]) (m1 := setz m z) rfl ?_
    refine an_call (r_X5_whoAt (setz m z) r 0 hr (by omega)) rfl rfl rfl rfl ?_
    refine an_call (r_X5_clashing (setz m z) r (v_X5_modeAt (setz m z) r 0) (v_X5_whoAt (setz m z) r 0) hr) rfl rfl rfl rfl ?_
    have e1 : v_X5_modeAt (setz m z) r 0 = z (233 + 8 * r) := zs m z _
    have e2 : v_X5_whoAt (setz m z) r 0 = z (137 + 8 * r) := zs m z _
    rw [clz_eq, zz_setz, e1, e2]
    refine an_b 1 (pc2 := if ¬ clz z r (z (233 + 8 * r)) (z (137 + 8 * r)) = 0 then 46 else 34) (L2 := [some (vR 7 0 0), some (vI (nI r)), some (vI c)]) (st2 := []) (m1 := setz m z) rfl ?_
    unfold stz
    by_cases hc : clz z r (z (233 + 8 * r)) (z (137 + 8 * r)) = 0
    · rw [if_pos hc]
      refine an_f (fun q => q hc) ?_
      refine an_b 3 (pc2 := 37) (L2 := [some (vR 7 0 0), some (vI (nI r)), some (vI c)]) (st2 := [vI 0, vI (nI r), vR 7 0 0]) (m1 := setz m z) rfl ?_
      obtain ⟨h, hh, eh⟩ := z3 0 (by omega)
      have eh : z (137 + 8 * r) = nI h := eh
      have hg := r_X5_grant (setz m z) r 0 (n + 1) h hr (by rw [zz_setz]; exact z1) (by omega) z2 hh (by rw [zz_setz]; exact eh)
      rw [zz_setz, setz_setz] at hg
      refine an_call hg rfl rfl rfl rfl ?_
      have ecl : (z (137 + 8 * r)).toNatClampNeg = h := by rw [eh]; exact nI_clamp (by omega)
      rw [ecl]
      refine an_b 2 (pc2 := 2) (L2 := [some (vR 7 0 0), some (vI (nI r)), some (vI (c + 1))]) (st2 := []) (m1 := setz m (grz z r 0 (n + 1) h)) rfl ?_
      exact ih _ (c + 1) (qv_grz hr hh hz)
    · rw [if_neg hc]
      exact an_t hc (last z c)
end
section
/-! values of the model that hang on a row or place found -/
theorem lp_inv {σ : Type} (f : Nat → σ → σ) (N : Nat) (P : Nat → σ → Prop) (step : ∀ j s, j < N → P j s → P (j + 1) (f j s)) : ∀ n j s, n + j = N → P j s → P N (lp f n j s) := by
  intro n
  induction n with
  | zero =>
    intro j s h k
    obtain rfl : j = N := by omega
    rw [lp_0]; exact k
  | succ n ih =>
    intro j s h k
    rw [lp_s]
    exact ih (j + 1) _ (by omega) (step j s (by omega) k)
theorem placeIn_or (m : PM) (a : Int32) (r : Nat) : v_X5_placeIn m a r = -1 ∨ ∃ p, p < (zz m (125 + r)).toNatClampNeg ∧ v_X5_placeIn m a r = nI p ∧ zz m (137 + 8 * r + p) = a := by
  unfold v_X5_placeIn
  refine lp_inv (b_X5_placeIn_1 m a r) (zz m (125 + r)).toNatClampNeg (fun _ s => s = -1 ∨ ∃ p, p < (zz m (125 + r)).toNatClampNeg ∧ s = nI p ∧ zz m (137 + 8 * r + p) = a) ?_ _ 0 _ (Nat.add_zero _) (Or.inl rfl)
  intro j s hj hs
  unfold b_X5_placeIn_1
  by_cases hc : v_X5_whoAt m r j = a
  · rw [if_neg (fun q => q hc)]
    exact Or.inr ⟨j, hj, rfl, hc⟩
  · rw [if_pos hc]
    exact hs
theorem rowOf_or (m : PM) (a : Int32) : v_X5_rowOf m a = -1 ∨ ∃ r, r < 12 ∧ v_X5_rowOf m a = nI r ∧ ¬ v_X5_placeIn m a r = -1 := by
  unfold v_X5_rowOf
  refine lp_inv (b_X5_rowOf_1 m a) 12 (fun _ s => s = -1 ∨ ∃ r, r < 12 ∧ s = nI r ∧ ¬ v_X5_placeIn m a r = -1) ?_ 12 0 _ rfl (Or.inl rfl)
  intro j s hj hs
  unfold b_X5_rowOf_1
  by_cases hc : v_X5_placeIn m a j = -1
  · rw [if_neg (fun q => q hc)]
    exact hs
  · rw [if_pos hc]
    exact Or.inr ⟨j, hj, rfl, hc⟩
/-- the place found in the row found, as a number -/
def rowN (m : PM) (a : Int32) : Nat := (v_X5_rowOf m a).toNatClampNeg
def plcN (m : PM) (a : Int32) (r : Nat) : Nat := (v_X5_placeIn m a r).toNatClampNeg
theorem row_N {m : PM} {a : Int32} (h : ¬ v_X5_rowOf m a = -1) : v_X5_rowOf m a = nI (rowN m a) ∧ rowN m a < 12 ∧ ¬ v_X5_placeIn m a (rowN m a) = -1 := by
  rcases rowOf_or m a with h1 | ⟨r, h1, h2, h3⟩
  · exact absurd h1 h
  · have e : rowN m a = r := by unfold rowN; rw [h2]; exact nI_clamp (by omega)
    rw [e]; exact ⟨h2, h1, h3⟩
theorem plc_N {m : PM} {a : Int32} {r : Nat} (hQ : QL m) (hr : r < 12) (h : ¬ v_X5_placeIn m a r = -1) : v_X5_placeIn m a r = nI (plcN m a r) ∧ plcN m a r < 8 ∧ plcN m a r < (zz m (125 + r)).toNatClampNeg ∧ zz m (137 + 8 * r + plcN m a r) = a := by
  have q : (zz m (125 + r)).toNatClampNeg ≤ 8 := hQ r hr
  rcases placeIn_or m a r with h1 | ⟨p, h1, h2, h3⟩
  · exact absurd h1 h
  · have e : plcN m a r = p := by unfold plcN; rw [h2]; exact nI_clamp (by omega)
    rw [e]; exact ⟨h2, by omega, h1, h3⟩
def b_X5_waitsNow_1 (m : PM) (r : Nat) (j : Nat) (s : Int32) : Int32 := s ||| ((1 : Int32) <<< ((v_X5_whoAt m r j) &&& (31 : Int32)))
def v_X5_waitsNow (m : PM) (a : Int32) : Int32 := if v_X5_rowOf m a = -1 then 0 else lp (b_X5_waitsNow_1 m (rowN m a)) (plcN m a (rowN m a)) 0 (v_X5_clashing m (rowN m a) (v_X5_modeAt m (rowN m a) (plcN m a (rowN m a))) a)
theorem r_X5_waitsNow (m : PM) (a1 : Int32) (hQ : QL m) : Rn MX5_waitsNow [vR 7 0 0, vI a1] m (some (vI (v_X5_waitsNow m a1))) m := by
  refine rn_of [some (vR 7 0 0), some (vI a1), none, none, none, none] rfl ?_
  refine an_b 2 (pc2 := 2) (L2 := [some (vR 7 0 0), some (vI a1), none, none, none, none]) (st2 := [vI a1, vR 7 0 0]) (m1 := m) rfl ?_
  refine an_call (r_X5_rowOf m a1 hQ) rfl rfl rfl rfl ?_
  refine an_b 4 (pc2 := if ¬ v_X5_rowOf m a1 = (-1 : Int32) then 13 else 11) (L2 := [some (vR 7 0 0), some (vI a1), some (vI (v_X5_rowOf m a1)), none, none, none]) (st2 := []) (m1 := m) rfl ?_
  unfold v_X5_waitsNow
  by_cases h : v_X5_rowOf m a1 = -1
  · rw [if_pos h]
    refine an_f (fun q => q h) ?_
    refine an_b 1 (pc2 := 12) (L2 := [some (vR 7 0 0), some (vI a1), some (vI (v_X5_rowOf m a1)), none, none, none]) (st2 := [vI (0 : Int32)]) (m1 := m) rfl ?_
    exact an_ret rfl rfl rfl rfl rfl
  · rw [if_neg h]
    refine an_t h ?_
    obtain ⟨e1, hr, hp0⟩ := row_N h
    obtain ⟨e2, hp, _, _⟩ := plc_N hQ hr hp0
    rw [e1]
    generalize rowN m a1 = r at *
    refine an_b 3 (pc2 := 16) (L2 := [some (vR 7 0 0), some (vI a1), some (vI (nI r)), none, none, none]) (st2 := [vI (nI r), vI a1, vR 7 0 0]) (m1 := m) rfl ?_
    refine an_call (r_X5_placeIn m a1 r hr hQ) rfl rfl rfl rfl ?_
    rw [e2]
    generalize plcN m a1 r = p at *
    refine an_b 6 (pc2 := 25) (L2 := [some (vR 7 0 0), some (vI a1), some (vI (nI r)), some (vI (nI p)), none, none]) (st2 := [vI (nI p), vI (nI r), vR 7 0 0, vI (nI r), vR 7 0 0]) (m1 := m) rfl ?_
    refine an_call (r_X5_modeAt m r p hr hp) rfl rfl rfl rfl ?_
    refine an_b 1 (pc2 := 29) (L2 := [some (vR 7 0 0), some (vI a1), some (vI (nI r)), some (vI (nI p)), none, none]) (st2 := [vI a1, vI (v_X5_modeAt m r p), vI (nI r), vR 7 0 0]) (m1 := m) rfl ?_
    refine an_call (r_X5_clashing m r (v_X5_modeAt m r p) a1 hr) rfl rfl rfl rfl ?_
    refine an_b 3 (pc2 := 37) (L2 := [some (vR 7 0 0), some (vI a1), some (vI (nI r)), some (vI (nI p)), some (vI (v_X5_clashing m r (v_X5_modeAt m r p) a1)), some (vI 0)]) (st2 := []) (m1 := m) rfl ?_
    refine re_lp (σ := Int32) (b_X5_waitsNow_1 m r) (fun j s => (37, [some (vR 7 0 0), some (vI a1), some (vI (nI r)), some (vI (nI p)), some (vI s), some (vI (nI j))], [], m)) p (fun s => (63, [some (vR 7 0 0), some (vI a1), some (vI (nI r)), some (vI (nI p)), some (vI s), some (vI (nI p))], [], m)) (fun j s hj v9 m9 K => ?_) (fun s v9 m9 K => ?_) p 0 _ (Nat.add_zero _) _ _ ?_
    · show An MX5_waitsNow 37 [some (vR 7 0 0), some (vI a1), some (vI (nI r)), some (vI (nI p)), some (vI s), some (vI (nI j))] [] m v9 m9
      refine an_b 3 (pc2 := if nI p ≤ nI j then 63 else 43) (L2 := [some (vR 7 0 0), some (vI a1), some (vI (nI r)), some (vI (nI p)), some (vI s), some (vI (nI j))]) (st2 := []) (m1 := m) rfl ?_
      refine an_f (nI_ge (by omega) (by omega)) ?_
      refine an_b 5 (pc2 := 50) (L2 := [some (vR 7 0 0), some (vI a1), some (vI (nI r)), some (vI (nI p)), some (vI s), some (vI (nI j))]) (st2 := [vI (nI j), vI (nI r), vR 7 0 0, vI 1, vI s]) (m1 := m) rfl ?_
      refine an_call (r_X5_whoAt m r j hr (by omega)) rfl rfl rfl rfl ?_
      refine an_b 5 (pc2 := 37) (L2 := [some (vR 7 0 0), some (vI a1), some (vI (nI r)), some (vI (nI p)), some (vI (b_X5_waitsNow_1 m r j s)), some (vI (nI j + 1))]) (st2 := []) (m1 := m) rfl ?_
      rw [nI_1]
      exact K
    · show An MX5_waitsNow 37 [some (vR 7 0 0), some (vI a1), some (vI (nI r)), some (vI (nI p)), some (vI s), some (vI (nI p))] [] m v9 m9
      refine an_b 3 (pc2 := if nI p ≤ nI p then 63 else 43) (L2 := [some (vR 7 0 0), some (vI a1), some (vI (nI r)), some (vI (nI p)), some (vI s), some (vI (nI p))]) (st2 := []) (m1 := m) rfl ?_
      refine an_t (nI_le (Nat.le_refl _) (by omega)) ?_
      exact K
    show An MX5_waitsNow 63 [some (vR 7 0 0), some (vI a1), some (vI (nI r)), some (vI (nI p)), some (vI _), some (vI (nI p))] [] m _ _
    refine an_b 1 (pc2 := 65) (L2 := [some (vR 7 0 0), some (vI a1), some (vI (nI r)), some (vI (nI p)), some (vI _), some (vI (nI p))]) (st2 := [vI _]) (m1 := m) rfl ?_
    exact an_ret rfl rfl rfl rfl rfl
end
section
def b_X5_waitsOver_2 (m : PM) (a1 : Int32) (j1 : Nat) (s1 : Int32) (j2 : Nat) (s2 : Int32) : Int32 := (s2 ||| (if ¬ ((s2 >>> ((nI j2) &&& (31 : Int32))) &&& (1 : Int32)) = (1 : Int32) then (0 : Int32) else (v_X5_waitsNow m (nI j2))))
def b_X5_waitsOver_1 (m : PM) (a1 : Int32)  (j1 : Nat) (s1 : Int32) : Int32 := (lp (b_X5_waitsOver_2 m a1 j1 s1) 8 0 s1)
def v_X5_waitsOver (m : PM) (a1 : Int32) : Int32 := (lp (b_X5_waitsOver_1 m a1) 8 0 (v_X5_waitsNow m a1))
set_option maxRecDepth 100000 in
theorem r_X5_waitsOver (m : PM) (a1 : Int32) (hQ : QL m) : Rn MX5_waitsOver [vR 7 0 0, vI a1] m (some (vI (v_X5_waitsOver m a1))) m := by
  refine rn_of [some (vR 7 0 0), some (vI a1), none, none, none] rfl ?_
  unfold v_X5_waitsOver
  refine an_b 2 (pc2 := 2) (L2 := [some (vR 7 0 0), some (vI a1), none, none, none]) (st2 := [vI a1, vR 7 0 0]) (m1 := m) rfl ?_
  refine an_call (r_X5_waitsNow m a1 hQ) rfl rfl rfl rfl ?_
  refine an_b 3 (pc2 := 8) (L2 := [some (vR 7 0 0), some (vI a1), some (vI (v_X5_waitsNow m a1)), some (vI (0 : Int32)), none]) (st2 := []) (m1 := m) rfl ?_
  refine re_lp (σ := Int32) (b_X5_waitsOver_1 m a1) (fun j1 s1 => (8, [some (vR 7 0 0), some (vI a1), some (vI s1), some (vI (nI j1)), none], [], m)) 8 (fun s1 => (59, [some (vR 7 0 0), some (vI a1), some (vI s1), none, none], [], m)) (fun j1 s1 hj1 v9 m9 K1 => ?_) (fun s1 v9 m9 K1 => ?_) 8 0 (v_X5_waitsNow m a1) (Nat.add_zero _) _ _ ?_
  · show An MX5_waitsOver 8 [some (vR 7 0 0), some (vI a1), some (vI s1), some (vI (nI j1)), none] [] m v9 m9
    refine an_b 3 (pc2 := if (8 : Int32) ≤ (nI j1) then 59 else 14) (L2 := [some (vR 7 0 0), some (vI a1), some (vI s1), some (vI (nI j1)), none]) (st2 := []) (m1 := m) rfl ?_
    refine an_f (nI_ge (a := j1) (b := 8) (by omega) (by omega)) ?_
    refine an_b 2 (pc2 := 17) (L2 := [some (vR 7 0 0), some (vI a1), some (vI s1), some (vI (nI j1)), some (vI (0 : Int32))]) (st2 := []) (m1 := m) rfl ?_
    refine re_lp (σ := Int32) (b_X5_waitsOver_2 m a1 j1 s1) (fun j2 s2 => (17, [some (vR 7 0 0), some (vI a1), some (vI s2), some (vI (nI j1)), some (vI (nI j2))], [], m)) 8 (fun s2 => (53, [some (vR 7 0 0), some (vI a1), some (vI s2), some (vI (nI j1)), none], [], m)) (fun j2 s2 hj2 v9 m9 K2 => ?_) (fun s2 v9 m9 K2 => ?_) 8 0 s1 (Nat.add_zero _) _ _ ?_
    · show An MX5_waitsOver 17 [some (vR 7 0 0), some (vI a1), some (vI s2), some (vI (nI j1)), some (vI (nI j2))] [] m v9 m9
      refine an_b 3 (pc2 := if (8 : Int32) ≤ (nI j2) then 53 else 24) (L2 := [some (vR 7 0 0), some (vI a1), some (vI s2), some (vI (nI j1)), some (vI (nI j2))]) (st2 := []) (m1 := m) rfl ?_
      refine an_f (nI_ge (a := j2) (b := 8) (by omega) (by omega)) ?_
      refine an_b 8 (pc2 := if ¬ ((s2 >>> ((nI j2) &&& (31 : Int32))) &&& (1 : Int32)) = (1 : Int32) then 44 else 35) (L2 := [some (vR 7 0 0), some (vI a1), some (vI s2), some (vI (nI j1)), some (vI (nI j2))]) (st2 := [vI s2]) (m1 := m) rfl ?_
      refine re_if1 (c := ¬ ((s2 >>> ((nI j2) &&& (31 : Int32))) &&& (1 : Int32)) = (1 : Int32)) (a := (0 : Int32)) (b := (v_X5_waitsNow m (nI j2))) (fun x => (45, [some (vR 7 0 0), some (vI a1), some (vI s2), some (vI (nI j1)), some (vI (nI j2))], [vI x, vI s2], m)) (fun h1 v9 m9 K2 => ?_) (fun h1 v9 m9 K2 => ?_) _ _ ?_
      · refine an_b 1 (pc2 := 45) (L2 := [some (vR 7 0 0), some (vI a1), some (vI s2), some (vI (nI j1)), some (vI (nI j2))]) (st2 := [vI (0 : Int32), vI s2]) (m1 := m) rfl ?_
        exact K2
      · refine an_b 2 (pc2 := 38) (L2 := [some (vR 7 0 0), some (vI a1), some (vI s2), some (vI (nI j1)), some (vI (nI j2))]) (st2 := [vI (nI j2), vR 7 0 0, vI s2]) (m1 := m) rfl ?_
        refine an_call (r_X5_waitsNow m (nI j2) hQ) rfl rfl rfl rfl ?_
        refine an_b 1 (pc2 := 45) (L2 := [some (vR 7 0 0), some (vI a1), some (vI s2), some (vI (nI j1)), some (vI (nI j2))]) (st2 := [vI (v_X5_waitsNow m (nI j2)), vI s2]) (m1 := m) rfl ?_
        exact K2
      refine an_b 4 (pc2 := 17) (L2 := [some (vR 7 0 0), some (vI a1), some (vI (s2 ||| (if ¬ ((s2 >>> ((nI j2) &&& (31 : Int32))) &&& (1 : Int32)) = (1 : Int32) then (0 : Int32) else (v_X5_waitsNow m (nI j2))))), some (vI (nI j1)), some (vI ((nI j2) + (1 : Int32)))]) (st2 := []) (m1 := m) rfl ?_
      refine an_cL (K := [some (vR 7 0 0), some (vI a1), some (vI (s2 ||| (if ¬ ((s2 >>> ((nI j2) &&& (31 : Int32))) &&& (1 : Int32)) = (1 : Int32) then (0 : Int32) else (v_X5_waitsNow m (nI j2))))), some (vI (nI j1)), some (vI (nI (j2 + 1)))]) (by simp only [nI_1]) ?_
      exact K2
    · show An MX5_waitsOver 17 [some (vR 7 0 0), some (vI a1), some (vI s2), some (vI (nI j1)), some (vI (nI 8))] [] m v9 m9
      refine an_b 3 (pc2 := if (8 : Int32) ≤ (nI 8) then 53 else 24) (L2 := [some (vR 7 0 0), some (vI a1), some (vI s2), some (vI (nI j1)), some (vI (nI 8))]) (st2 := []) (m1 := m) rfl ?_
      refine an_t (nI_le (a := 8) (b := 8) (by omega) (by omega)) ?_
      refine an_weak (L := [some (vR 7 0 0), some (vI a1), some (vI s2), some (vI (nI j1)), none]) (⟨rfl, rfl, rfl, rfl, trivial⟩) ?_
      exact K2
    show An MX5_waitsOver 53 [some (vR 7 0 0), some (vI a1), some (vI (lp (b_X5_waitsOver_2 m a1 j1 s1) 8 0 s1)), some (vI (nI j1)), none] [] m _ _
    refine an_b 2 (pc2 := 8) (L2 := [some (vR 7 0 0), some (vI a1), some (vI (lp (b_X5_waitsOver_2 m a1 j1 s1) 8 0 s1)), some (vI ((nI j1) + (1 : Int32))), none]) (st2 := []) (m1 := m) rfl ?_
    refine an_cL (K := [some (vR 7 0 0), some (vI a1), some (vI (lp (b_X5_waitsOver_2 m a1 j1 s1) 8 0 s1)), some (vI (nI (j1 + 1))), none]) (by simp only [nI_1]) ?_
    exact K1
  · show An MX5_waitsOver 8 [some (vR 7 0 0), some (vI a1), some (vI s1), some (vI (nI 8)), none] [] m v9 m9
    refine an_b 3 (pc2 := if (8 : Int32) ≤ (nI 8) then 59 else 14) (L2 := [some (vR 7 0 0), some (vI a1), some (vI s1), some (vI (nI 8)), none]) (st2 := []) (m1 := m) rfl ?_
    refine an_t (nI_le (a := 8) (b := 8) (by omega) (by omega)) ?_
    refine an_weak (L := [some (vR 7 0 0), some (vI a1), some (vI s1), none, none]) (⟨rfl, rfl, rfl, trivial⟩) ?_
    exact K1
  show An MX5_waitsOver 59 [some (vR 7 0 0), some (vI a1), some (vI (lp (b_X5_waitsOver_1 m a1) 8 0 (v_X5_waitsNow m a1))), none, none] [] m _ _
  refine an_b 1 (pc2 := 60) (L2 := [some (vR 7 0 0), some (vI a1), some (vI (lp (b_X5_waitsOver_1 m a1) 8 0 (v_X5_waitsNow m a1))), none, none]) (st2 := [vI (lp (b_X5_waitsOver_1 m a1) 8 0 (v_X5_waitsNow m a1))]) (m1 := m) rfl ?_
  exact an_ret rfl rfl rfl rfl rfl
def v_X5_isInRing (m : PM) (a1 : Int32) : Int32 := (if ¬ (((v_X5_waitsOver m a1) >>> (a1 &&& (31 : Int32))) &&& (1 : Int32)) = (1 : Int32) then (0 : Int32) else (1 : Int32))
theorem z_X5_isInRing (m : PM) (a1 : Int32) : (v_X5_isInRing m a1) = 0 ∨ (v_X5_isInRing m a1) = 1 := by
  unfold v_X5_isInRing
  (repeat' split) <;> first | exact Or.inl rfl | exact Or.inr rfl
set_option maxRecDepth 100000 in
theorem r_X5_isInRing (m : PM) (a1 : Int32) (hQ : QL m) : Rn MX5_isInRing [vR 7 0 0, vI a1] m (some (vI (v_X5_isInRing m a1))) m := by
  refine rn_of [some (vR 7 0 0), some (vI a1)] rfl ?_
  unfold v_X5_isInRing
  refine an_b 2 (pc2 := 2) (L2 := [some (vR 7 0 0), some (vI a1)]) (st2 := [vI a1, vR 7 0 0]) (m1 := m) rfl ?_
  refine an_call (r_X5_waitsOver m a1 hQ) rfl rfl rfl rfl ?_
  refine an_b 6 (pc2 := if ¬ (((v_X5_waitsOver m a1) >>> (a1 &&& (31 : Int32))) &&& (1 : Int32)) = (1 : Int32) then 17 else 13) (L2 := [some (vR 7 0 0), some (vI a1)]) (st2 := []) (m1 := m) rfl ?_
  refine an_ifi (c := ¬ (((v_X5_waitsOver m a1) >>> (a1 &&& (31 : Int32))) &&& (1 : Int32)) = (1 : Int32)) (fun h1 => ?_) (fun h1 => ?_)
  · refine an_b 1 (pc2 := 18) (L2 := [some (vR 7 0 0), some (vI a1)]) (st2 := [vI (0 : Int32)]) (m1 := m) rfl ?_
    exact an_ret rfl rfl rfl rfl rfl
  · refine an_b 2 (pc2 := 18) (L2 := [some (vR 7 0 0), some (vI a1)]) (st2 := [vI (1 : Int32)]) (m1 := m) rfl ?_
    exact an_ret rfl rfl rfl rfl rfl
def v_X5_canRelease (m : PM) (a1 : Nat) (a2 : Nat) : Int32 := (if (v_X5_lockOf m a1 a2) ≤ 0 then (0 : Int32) else (if (v_X5_rowOf m (nI a1)) = (nI a2) then (0 : Int32) else (1 : Int32)))
theorem z_X5_canRelease (m : PM) (a1 : Nat) (a2 : Nat) : (v_X5_canRelease m a1 a2) = 0 ∨ (v_X5_canRelease m a1 a2) = 1 := by
  unfold v_X5_canRelease
  (repeat' split) <;> first | exact Or.inl rfl | exact Or.inr rfl
set_option maxRecDepth 100000 in
theorem r_X5_canRelease (m : PM) (a1 : Nat) (a2 : Nat) (ha1 : a1 < 8) (ha2 : a2 < 12) (hQ : QL m) : Rn MX5_canRelease [vR 7 0 0, vI (nI a1), vI (nI a2)] m (some (vI (v_X5_canRelease m a1 a2))) m := by
  refine rn_of [some (vR 7 0 0), some (vI (nI a1)), some (vI (nI a2))] rfl ?_
  unfold v_X5_canRelease
  refine an_b 3 (pc2 := 3) (L2 := [some (vR 7 0 0), some (vI (nI a1)), some (vI (nI a2))]) (st2 := [vI (nI a2), vI (nI a1), vR 7 0 0]) (m1 := m) rfl ?_
  refine an_call (r_X5_lockOf m a1 a2 (by omega) (by omega)) rfl rfl rfl rfl ?_
  refine an_b 1 (pc2 := if (v_X5_lockOf m a1 a2) ≤ 0 then 22 else 9) (L2 := [some (vR 7 0 0), some (vI (nI a1)), some (vI (nI a2))]) (st2 := []) (m1 := m) rfl ?_
  refine an_ifi (c := (v_X5_lockOf m a1 a2) ≤ 0) (fun h1 => ?_) (fun h1 => ?_)
  · refine an_b 1 (pc2 := 23) (L2 := [some (vR 7 0 0), some (vI (nI a1)), some (vI (nI a2))]) (st2 := [vI (0 : Int32)]) (m1 := m) rfl ?_
    exact an_ret rfl rfl rfl rfl rfl
  · refine an_b 2 (pc2 := 11) (L2 := [some (vR 7 0 0), some (vI (nI a1)), some (vI (nI a2))]) (st2 := [vI (nI a1), vR 7 0 0]) (m1 := m) rfl ?_
    refine an_call (r_X5_rowOf m (nI a1) hQ) rfl rfl rfl rfl ?_
    refine an_b 2 (pc2 := if (v_X5_rowOf m (nI a1)) = (nI a2) then 22 else 18) (L2 := [some (vR 7 0 0), some (vI (nI a1)), some (vI (nI a2))]) (st2 := []) (m1 := m) rfl ?_
    refine an_ifi (c := (v_X5_rowOf m (nI a1)) = (nI a2)) (fun h2 => ?_) (fun h2 => ?_)
    · refine an_b 1 (pc2 := 23) (L2 := [some (vR 7 0 0), some (vI (nI a1)), some (vI (nI a2))]) (st2 := [vI (0 : Int32)]) (m1 := m) rfl ?_
      exact an_ret rfl rfl rfl rfl rfl
    · refine an_b 2 (pc2 := 23) (L2 := [some (vR 7 0 0), some (vI (nI a1)), some (vI (nI a2))]) (st2 := [vI (1 : Int32)]) (m1 := m) rfl ?_
      exact an_ret rfl rfl rfl rfl rfl
def b_X5_busiestNow_2 (m : PM)  (j1 : Nat) (s1 : (Int32 × Int32)) (j2 : Nat) (s2 : Int32) : Int32 := (s2 + (((v_X5_waitsOver m (nI j2)) >>> ((nI j1) &&& (31 : Int32))) &&& (1 : Int32)))
def b_X5_busiestNow_1 (m : PM)   (j1 : Nat) (s1 : Int32 × Int32) : Int32 × Int32 := ((if (if ¬ (v_X5_waits m (nI j1)) = 0 then (0 : Int32) else (if (lp (b_X5_busiestNow_2 m j1 s1) 8 0 (0 : Int32)) ≤ s1.2 then (0 : Int32) else (1 : Int32))) = 0 then s1.1 else (nI j1)), (if (if ¬ (v_X5_waits m (nI j1)) = 0 then (0 : Int32) else (if (lp (b_X5_busiestNow_2 m j1 s1) 8 0 (0 : Int32)) ≤ s1.2 then (0 : Int32) else (1 : Int32))) = 0 then s1.2 else (lp (b_X5_busiestNow_2 m j1 s1) 8 0 (0 : Int32))))
def v_X5_busiestNow (m : PM)  : Int32 := (lp (b_X5_busiestNow_1 m) 8 0 ((-1 : Int32), (0 : Int32))).1
set_option maxRecDepth 100000 in
theorem r_X5_busiestNow (m : PM)  (hQ : QL m) : Rn MX5_busiestNow [vR 7 0 0] m (some (vI (v_X5_busiestNow m))) m := by
  refine rn_of [some (vR 7 0 0), none, none, none, none, none] rfl ?_
  unfold v_X5_busiestNow
  refine an_b 6 (pc2 := 6) (L2 := [some (vR 7 0 0), some (vI (-1 : Int32)), some (vI (0 : Int32)), some (vI (0 : Int32)), none, none]) (st2 := []) (m1 := m) rfl ?_
  refine re_lp (σ := Int32 × Int32) (b_X5_busiestNow_1 m) (fun j1 s1 => (6, [some (vR 7 0 0), some (vI s1.1), some (vI s1.2), some (vI (nI j1)), none, none], [], m)) 8 (fun s1 => (96, [some (vR 7 0 0), some (vI s1.1), none, none, none, none], [], m)) (fun j1 s1 hj1 v9 m9 K1 => ?_) (fun s1 v9 m9 K1 => ?_) 8 0 ((-1 : Int32), (0 : Int32)) (Nat.add_zero _) _ _ ?_
  · show An MX5_busiestNow 6 [some (vR 7 0 0), some (vI s1.1), some (vI s1.2), some (vI (nI j1)), none, none] [] m v9 m9
    refine an_b 3 (pc2 := if (8 : Int32) ≤ (nI j1) then 96 else 12) (L2 := [some (vR 7 0 0), some (vI s1.1), some (vI s1.2), some (vI (nI j1)), none, none]) (st2 := []) (m1 := m) rfl ?_
    refine an_f (nI_ge (a := j1) (b := 8) (by omega) (by omega)) ?_
    refine an_b 4 (pc2 := 18) (L2 := [some (vR 7 0 0), some (vI s1.1), some (vI s1.2), some (vI (nI j1)), some (vI (0 : Int32)), some (vI (0 : Int32))]) (st2 := []) (m1 := m) rfl ?_
    refine re_lp (σ := Int32) (b_X5_busiestNow_2 m j1 s1) (fun j2 s2 => (18, [some (vR 7 0 0), some (vI s1.1), some (vI s1.2), some (vI (nI j1)), some (vI s2), some (vI (nI j2))], [], m)) 8 (fun s2 => (46, [some (vR 7 0 0), some (vI s1.1), some (vI s1.2), some (vI (nI j1)), some (vI s2), none], [], m)) (fun j2 s2 hj2 v9 m9 K2 => ?_) (fun s2 v9 m9 K2 => ?_) 8 0 (0 : Int32) (Nat.add_zero _) _ _ ?_
    · show An MX5_busiestNow 18 [some (vR 7 0 0), some (vI s1.1), some (vI s1.2), some (vI (nI j1)), some (vI s2), some (vI (nI j2))] [] m v9 m9
      refine an_b 3 (pc2 := if (8 : Int32) ≤ (nI j2) then 46 else 25) (L2 := [some (vR 7 0 0), some (vI s1.1), some (vI s1.2), some (vI (nI j1)), some (vI s2), some (vI (nI j2))]) (st2 := []) (m1 := m) rfl ?_
      refine an_f (nI_ge (a := j2) (b := 8) (by omega) (by omega)) ?_
      refine an_b 3 (pc2 := 30) (L2 := [some (vR 7 0 0), some (vI s1.1), some (vI s1.2), some (vI (nI j1)), some (vI s2), some (vI (nI j2))]) (st2 := [vI (nI j2), vR 7 0 0, vI s2]) (m1 := m) rfl ?_
      refine an_call (r_X5_waitsOver m (nI j2) hQ) rfl rfl rfl rfl ?_
      refine an_b 8 (pc2 := 18) (L2 := [some (vR 7 0 0), some (vI s1.1), some (vI s1.2), some (vI (nI j1)), some (vI (s2 + (((v_X5_waitsOver m (nI j2)) >>> ((nI j1) &&& (31 : Int32))) &&& (1 : Int32)))), some (vI ((nI j2) + (1 : Int32)))]) (st2 := []) (m1 := m) rfl ?_
      refine an_cL (K := [some (vR 7 0 0), some (vI s1.1), some (vI s1.2), some (vI (nI j1)), some (vI (s2 + (((v_X5_waitsOver m (nI j2)) >>> ((nI j1) &&& (31 : Int32))) &&& (1 : Int32)))), some (vI (nI (j2 + 1)))]) (by simp only [nI_1]) ?_
      exact K2
    · show An MX5_busiestNow 18 [some (vR 7 0 0), some (vI s1.1), some (vI s1.2), some (vI (nI j1)), some (vI s2), some (vI (nI 8))] [] m v9 m9
      refine an_b 3 (pc2 := if (8 : Int32) ≤ (nI 8) then 46 else 25) (L2 := [some (vR 7 0 0), some (vI s1.1), some (vI s1.2), some (vI (nI j1)), some (vI s2), some (vI (nI 8))]) (st2 := []) (m1 := m) rfl ?_
      refine an_t (nI_le (a := 8) (b := 8) (by omega) (by omega)) ?_
      refine an_weak (L := [some (vR 7 0 0), some (vI s1.1), some (vI s1.2), some (vI (nI j1)), some (vI s2), none]) (⟨rfl, rfl, rfl, rfl, rfl, trivial⟩) ?_
      exact K2
    show An MX5_busiestNow 46 [some (vR 7 0 0), some (vI s1.1), some (vI s1.2), some (vI (nI j1)), some (vI (lp (b_X5_busiestNow_2 m j1 s1) 8 0 (0 : Int32))), none] [] m _ _
    refine an_b 2 (pc2 := 48) (L2 := [some (vR 7 0 0), some (vI s1.1), some (vI s1.2), some (vI (nI j1)), some (vI (lp (b_X5_busiestNow_2 m j1 s1) 8 0 (0 : Int32))), none]) (st2 := [vI (nI j1), vR 7 0 0]) (m1 := m) rfl ?_
    refine an_call (r_X5_waits m (nI j1) hQ) rfl rfl rfl rfl ?_
    refine an_b 1 (pc2 := if ¬ (v_X5_waits m (nI j1)) = 0 then 64 else 54) (L2 := [some (vR 7 0 0), some (vI s1.1), some (vI s1.2), some (vI (nI j1)), some (vI (lp (b_X5_busiestNow_2 m j1 s1) 8 0 (0 : Int32))), none]) (st2 := []) (m1 := m) rfl ?_
    refine re_if1 (c := ¬ (v_X5_waits m (nI j1)) = 0) (a := (0 : Int32)) (b := (if (lp (b_X5_busiestNow_2 m j1 s1) 8 0 (0 : Int32)) ≤ s1.2 then (0 : Int32) else (1 : Int32))) (fun x => (65, [some (vR 7 0 0), some (vI s1.1), some (vI s1.2), some (vI (nI j1)), some (vI (lp (b_X5_busiestNow_2 m j1 s1) 8 0 (0 : Int32))), none], [vI x], m)) (fun h1 v9 m9 K4 => ?_) (fun h1 v9 m9 K4 => ?_) _ _ ?_
    · refine an_b 1 (pc2 := 65) (L2 := [some (vR 7 0 0), some (vI s1.1), some (vI s1.2), some (vI (nI j1)), some (vI (lp (b_X5_busiestNow_2 m j1 s1) 8 0 (0 : Int32))), none]) (st2 := [vI (0 : Int32)]) (m1 := m) rfl ?_
      exact K4
    · refine an_b 3 (pc2 := if (lp (b_X5_busiestNow_2 m j1 s1) 8 0 (0 : Int32)) ≤ s1.2 then 64 else 60) (L2 := [some (vR 7 0 0), some (vI s1.1), some (vI s1.2), some (vI (nI j1)), some (vI (lp (b_X5_busiestNow_2 m j1 s1) 8 0 (0 : Int32))), none]) (st2 := []) (m1 := m) rfl ?_
      refine re_if1 (c := (lp (b_X5_busiestNow_2 m j1 s1) 8 0 (0 : Int32)) ≤ s1.2) (a := (0 : Int32)) (b := (1 : Int32)) (fun x => (65, [some (vR 7 0 0), some (vI s1.1), some (vI s1.2), some (vI (nI j1)), some (vI (lp (b_X5_busiestNow_2 m j1 s1) 8 0 (0 : Int32))), none], [vI x], m)) (fun h2 v9 m9 K3 => ?_) (fun h2 v9 m9 K3 => ?_) _ _ ?_
      · refine an_b 1 (pc2 := 65) (L2 := [some (vR 7 0 0), some (vI s1.1), some (vI s1.2), some (vI (nI j1)), some (vI (lp (b_X5_busiestNow_2 m j1 s1) 8 0 (0 : Int32))), none]) (st2 := [vI (0 : Int32)]) (m1 := m) rfl ?_
        exact K3
      · refine an_b 2 (pc2 := 65) (L2 := [some (vR 7 0 0), some (vI s1.1), some (vI s1.2), some (vI (nI j1)), some (vI (lp (b_X5_busiestNow_2 m j1 s1) 8 0 (0 : Int32))), none]) (st2 := [vI (1 : Int32)]) (m1 := m) rfl ?_
        exact K3
      exact K4
    refine an_b 3 (pc2 := if (if ¬ (v_X5_waits m (nI j1)) = 0 then (0 : Int32) else (if (lp (b_X5_busiestNow_2 m j1 s1) 8 0 (0 : Int32)) ≤ s1.2 then (0 : Int32) else (1 : Int32))) = 0 then 76 else 72) (L2 := [some (vR 7 0 0), some (vI s1.1), some (vI s1.2), some (vI (nI j1)), some (vI (lp (b_X5_busiestNow_2 m j1 s1) 8 0 (0 : Int32))), some (vI (if ¬ (v_X5_waits m (nI j1)) = 0 then (0 : Int32) else (if (lp (b_X5_busiestNow_2 m j1 s1) 8 0 (0 : Int32)) ≤ s1.2 then (0 : Int32) else (1 : Int32))))]) (st2 := []) (m1 := m) rfl ?_
    refine re_if1 (c := (if ¬ (v_X5_waits m (nI j1)) = 0 then (0 : Int32) else (if (lp (b_X5_busiestNow_2 m j1 s1) 8 0 (0 : Int32)) ≤ s1.2 then (0 : Int32) else (1 : Int32))) = 0) (a := s1.1) (b := (nI j1)) (fun x => (77, [some (vR 7 0 0), some (vI s1.1), some (vI s1.2), some (vI (nI j1)), some (vI (lp (b_X5_busiestNow_2 m j1 s1) 8 0 (0 : Int32))), some (vI (if ¬ (v_X5_waits m (nI j1)) = 0 then (0 : Int32) else (if (lp (b_X5_busiestNow_2 m j1 s1) 8 0 (0 : Int32)) ≤ s1.2 then (0 : Int32) else (1 : Int32))))], [vI x], m)) (fun h5 v9 m9 K6 => ?_) (fun h5 v9 m9 K6 => ?_) _ _ ?_
    · refine an_b 1 (pc2 := 77) (L2 := [some (vR 7 0 0), some (vI s1.1), some (vI s1.2), some (vI (nI j1)), some (vI (lp (b_X5_busiestNow_2 m j1 s1) 8 0 (0 : Int32))), some (vI (if ¬ (v_X5_waits m (nI j1)) = 0 then (0 : Int32) else (if (lp (b_X5_busiestNow_2 m j1 s1) 8 0 (0 : Int32)) ≤ s1.2 then (0 : Int32) else (1 : Int32))))]) (st2 := [vI s1.1]) (m1 := m) rfl ?_
      exact K6
    · refine an_b 2 (pc2 := 77) (L2 := [some (vR 7 0 0), some (vI s1.1), some (vI s1.2), some (vI (nI j1)), some (vI (lp (b_X5_busiestNow_2 m j1 s1) 8 0 (0 : Int32))), some (vI (if ¬ (v_X5_waits m (nI j1)) = 0 then (0 : Int32) else (if (lp (b_X5_busiestNow_2 m j1 s1) 8 0 (0 : Int32)) ≤ s1.2 then (0 : Int32) else (1 : Int32))))]) (st2 := [vI (nI j1)]) (m1 := m) rfl ?_
      exact K6
    refine an_b 3 (pc2 := if (if ¬ (v_X5_waits m (nI j1)) = 0 then (0 : Int32) else (if (lp (b_X5_busiestNow_2 m j1 s1) 8 0 (0 : Int32)) ≤ s1.2 then (0 : Int32) else (1 : Int32))) = 0 then 88 else 83) (L2 := [some (vR 7 0 0), some (vI (if (if ¬ (v_X5_waits m (nI j1)) = 0 then (0 : Int32) else (if (lp (b_X5_busiestNow_2 m j1 s1) 8 0 (0 : Int32)) ≤ s1.2 then (0 : Int32) else (1 : Int32))) = 0 then s1.1 else (nI j1))), some (vI s1.2), some (vI (nI j1)), some (vI (lp (b_X5_busiestNow_2 m j1 s1) 8 0 (0 : Int32))), some (vI (if ¬ (v_X5_waits m (nI j1)) = 0 then (0 : Int32) else (if (lp (b_X5_busiestNow_2 m j1 s1) 8 0 (0 : Int32)) ≤ s1.2 then (0 : Int32) else (1 : Int32))))]) (st2 := []) (m1 := m) rfl ?_
    refine re_if1 (c := (if ¬ (v_X5_waits m (nI j1)) = 0 then (0 : Int32) else (if (lp (b_X5_busiestNow_2 m j1 s1) 8 0 (0 : Int32)) ≤ s1.2 then (0 : Int32) else (1 : Int32))) = 0) (a := s1.2) (b := (lp (b_X5_busiestNow_2 m j1 s1) 8 0 (0 : Int32))) (fun x => (89, [some (vR 7 0 0), some (vI (if (if ¬ (v_X5_waits m (nI j1)) = 0 then (0 : Int32) else (if (lp (b_X5_busiestNow_2 m j1 s1) 8 0 (0 : Int32)) ≤ s1.2 then (0 : Int32) else (1 : Int32))) = 0 then s1.1 else (nI j1))), some (vI s1.2), some (vI (nI j1)), some (vI (lp (b_X5_busiestNow_2 m j1 s1) 8 0 (0 : Int32))), some (vI (if ¬ (v_X5_waits m (nI j1)) = 0 then (0 : Int32) else (if (lp (b_X5_busiestNow_2 m j1 s1) 8 0 (0 : Int32)) ≤ s1.2 then (0 : Int32) else (1 : Int32))))], [vI x], m)) (fun h7 v9 m9 K8 => ?_) (fun h7 v9 m9 K8 => ?_) _ _ ?_
    · refine an_b 1 (pc2 := 89) (L2 := [some (vR 7 0 0), some (vI (if (if ¬ (v_X5_waits m (nI j1)) = 0 then (0 : Int32) else (if (lp (b_X5_busiestNow_2 m j1 s1) 8 0 (0 : Int32)) ≤ s1.2 then (0 : Int32) else (1 : Int32))) = 0 then s1.1 else (nI j1))), some (vI s1.2), some (vI (nI j1)), some (vI (lp (b_X5_busiestNow_2 m j1 s1) 8 0 (0 : Int32))), some (vI (if ¬ (v_X5_waits m (nI j1)) = 0 then (0 : Int32) else (if (lp (b_X5_busiestNow_2 m j1 s1) 8 0 (0 : Int32)) ≤ s1.2 then (0 : Int32) else (1 : Int32))))]) (st2 := [vI s1.2]) (m1 := m) rfl ?_
      exact K8
    · refine an_b 2 (pc2 := 89) (L2 := [some (vR 7 0 0), some (vI (if (if ¬ (v_X5_waits m (nI j1)) = 0 then (0 : Int32) else (if (lp (b_X5_busiestNow_2 m j1 s1) 8 0 (0 : Int32)) ≤ s1.2 then (0 : Int32) else (1 : Int32))) = 0 then s1.1 else (nI j1))), some (vI s1.2), some (vI (nI j1)), some (vI (lp (b_X5_busiestNow_2 m j1 s1) 8 0 (0 : Int32))), some (vI (if ¬ (v_X5_waits m (nI j1)) = 0 then (0 : Int32) else (if (lp (b_X5_busiestNow_2 m j1 s1) 8 0 (0 : Int32)) ≤ s1.2 then (0 : Int32) else (1 : Int32))))]) (st2 := [vI (lp (b_X5_busiestNow_2 m j1 s1) 8 0 (0 : Int32))]) (m1 := m) rfl ?_
      exact K8
    refine an_b 3 (pc2 := 6) (L2 := [some (vR 7 0 0), some (vI (if (if ¬ (v_X5_waits m (nI j1)) = 0 then (0 : Int32) else (if (lp (b_X5_busiestNow_2 m j1 s1) 8 0 (0 : Int32)) ≤ s1.2 then (0 : Int32) else (1 : Int32))) = 0 then s1.1 else (nI j1))), some (vI (if (if ¬ (v_X5_waits m (nI j1)) = 0 then (0 : Int32) else (if (lp (b_X5_busiestNow_2 m j1 s1) 8 0 (0 : Int32)) ≤ s1.2 then (0 : Int32) else (1 : Int32))) = 0 then s1.2 else (lp (b_X5_busiestNow_2 m j1 s1) 8 0 (0 : Int32)))), some (vI ((nI j1) + (1 : Int32))), some (vI (lp (b_X5_busiestNow_2 m j1 s1) 8 0 (0 : Int32))), some (vI (if ¬ (v_X5_waits m (nI j1)) = 0 then (0 : Int32) else (if (lp (b_X5_busiestNow_2 m j1 s1) 8 0 (0 : Int32)) ≤ s1.2 then (0 : Int32) else (1 : Int32))))]) (st2 := []) (m1 := m) rfl ?_
    refine an_weak (L := [some (vR 7 0 0), some (vI (if (if ¬ (v_X5_waits m (nI j1)) = 0 then (0 : Int32) else (if (lp (b_X5_busiestNow_2 m j1 s1) 8 0 (0 : Int32)) ≤ s1.2 then (0 : Int32) else (1 : Int32))) = 0 then s1.1 else (nI j1))), some (vI (if (if ¬ (v_X5_waits m (nI j1)) = 0 then (0 : Int32) else (if (lp (b_X5_busiestNow_2 m j1 s1) 8 0 (0 : Int32)) ≤ s1.2 then (0 : Int32) else (1 : Int32))) = 0 then s1.2 else (lp (b_X5_busiestNow_2 m j1 s1) 8 0 (0 : Int32)))), some (vI ((nI j1) + (1 : Int32))), none, none]) (⟨rfl, rfl, rfl, rfl, trivial⟩) ?_
    refine an_cL (K := [some (vR 7 0 0), some (vI (if (if ¬ (v_X5_waits m (nI j1)) = 0 then (0 : Int32) else (if (lp (b_X5_busiestNow_2 m j1 s1) 8 0 (0 : Int32)) ≤ s1.2 then (0 : Int32) else (1 : Int32))) = 0 then s1.1 else (nI j1))), some (vI (if (if ¬ (v_X5_waits m (nI j1)) = 0 then (0 : Int32) else (if (lp (b_X5_busiestNow_2 m j1 s1) 8 0 (0 : Int32)) ≤ s1.2 then (0 : Int32) else (1 : Int32))) = 0 then s1.2 else (lp (b_X5_busiestNow_2 m j1 s1) 8 0 (0 : Int32)))), some (vI (nI (j1 + 1))), none, none]) (by simp only [nI_1]) ?_
    exact K1
  · show An MX5_busiestNow 6 [some (vR 7 0 0), some (vI s1.1), some (vI s1.2), some (vI (nI 8)), none, none] [] m v9 m9
    refine an_b 3 (pc2 := if (8 : Int32) ≤ (nI 8) then 96 else 12) (L2 := [some (vR 7 0 0), some (vI s1.1), some (vI s1.2), some (vI (nI 8)), none, none]) (st2 := []) (m1 := m) rfl ?_
    refine an_t (nI_le (a := 8) (b := 8) (by omega) (by omega)) ?_
    refine an_weak (L := [some (vR 7 0 0), some (vI s1.1), none, none, none, none]) (⟨rfl, rfl, trivial⟩) ?_
    exact K1
  show An MX5_busiestNow 96 [some (vR 7 0 0), some (vI ((lp (b_X5_busiestNow_1 m) 8 0 ((-1 : Int32), (0 : Int32))).1)), none, none, none, none] [] m _ _
  refine an_b 1 (pc2 := 97) (L2 := [some (vR 7 0 0), some (vI ((lp (b_X5_busiestNow_1 m) 8 0 ((-1 : Int32), (0 : Int32))).1)), none, none, none, none]) (st2 := [vI ((lp (b_X5_busiestNow_1 m) 8 0 ((-1 : Int32), (0 : Int32))).1)]) (m1 := m) rfl ?_
  exact an_ret rfl rfl rfl rfl rfl
end
section
/-! canHandOn, loserFor -/
theorem re_lpi {σ : Type} {M : MI} (f : Nat → σ → σ) (I : Nat → σ → Prop) (P : Nat → σ → PS) (N : Nat) (E : σ → PS) (hI : ∀ j s, j < N → I j s → I (j + 1) (f j s)) (step : ∀ j s, j < N → I j s → Re M (P j s) (P (j + 1) (f j s))) (exit : ∀ s, I N s → Re M (P N s) (E s)) : ∀ n j s, n + j = N → I j s → Re M (P j s) (E (lp f n j s)) := by
  intro n
  induction n with
  | zero =>
    intro j s h hi
    obtain rfl : j = N := by omega
    rw [lp_0]; exact exit s hi
  | succ n ih =>
    intro j s h hi v m2 k
    rw [lp_s] at k
    exact step j s (by omega) hi v m2 (ih (j + 1) (f j s) (by omega) (hI j s (by omega) hi) v m2 k)
def v_X5_canHandOn (m : PM) (a1 a2 : Nat) (a3 : Int32) : Int32 := if v_X5_canRelease m a1 a2 = 0 then 0 else if nI a1 = a3 then 0 else if ¬ v_X5_placeIn m a3 a2 = (-1 : Int32) then (if ¬ (v_X5_clashing m a2 (v_X5_modeAt m a2 (plcN m a3 a2)) a3) &&& (((1 : Int32) <<< (nI a1 &&& (31 : Int32))) ^^^ (-1 : Int32)) = 0 then 0 else 1) else 0
theorem z_X5_canHandOn (m : PM) (a1 a2 : Nat) (a3 : Int32) : v_X5_canHandOn m a1 a2 a3 = 0 ∨ v_X5_canHandOn m a1 a2 a3 = 1 := by
  unfold v_X5_canHandOn
  (repeat' split) <;> first | exact Or.inl rfl | exact Or.inr rfl
theorem r_X5_canHandOn (m : PM) (a1 a2 : Nat) (a3 : Int32) (h1 : a1 < 8) (h2 : a2 < 12) (hQ : QL m) : Rn MX5_canHandOn [vR 7 0 0, vI (nI a1), vI (nI a2), vI a3] m (some (vI (v_X5_canHandOn m a1 a2 a3))) m := by
  refine rn_of [some (vR 7 0 0), some (vI (nI a1)), some (vI (nI a2)), some (vI a3), none] rfl ?_
  have no : An MX5_canHandOn 24 [some (vR 7 0 0), some (vI (nI a1)), some (vI (nI a2)), some (vI a3), none] [] m (.inl (some (vI 0))) m := by
    refine an_b 1 (pc2 := 25) (L2 := [some (vR 7 0 0), some (vI (nI a1)), some (vI (nI a2)), some (vI a3), none]) (st2 := [vI 0]) (m1 := m) rfl ?_
    exact an_ret rfl rfl rfl rfl rfl
  unfold v_X5_canHandOn
  refine an_b 3 (pc2 := 3) (L2 := [some (vR 7 0 0), some (vI (nI a1)), some (vI (nI a2)), some (vI a3), none]) (st2 := [vI (nI a2), vI (nI a1), vR 7 0 0]) (m1 := m) rfl ?_
  refine an_call (r_X5_canRelease m a1 a2 h1 h2 hQ) rfl rfl rfl rfl ?_
  refine an_b 1 (pc2 := if v_X5_canRelease m a1 a2 = 0 then 24 else 9) (L2 := [some (vR 7 0 0), some (vI (nI a1)), some (vI (nI a2)), some (vI a3), none]) (st2 := []) (m1 := m) rfl ?_
  by_cases c1 : v_X5_canRelease m a1 a2 = 0
  · refine an_t c1 ?_
    rw [if_pos c1]; exact no
  refine an_f c1 ?_
  rw [if_neg c1]
  refine an_b 3 (pc2 := if nI a1 = a3 then 24 else 14) (L2 := [some (vR 7 0 0), some (vI (nI a1)), some (vI (nI a2)), some (vI a3), none]) (st2 := []) (m1 := m) rfl ?_
  by_cases c2 : nI a1 = a3
  · refine an_t c2 ?_
    rw [if_pos c2]; exact no
  refine an_f c2 ?_
  rw [if_neg c2]
  refine an_b 3 (pc2 := 17) (L2 := [some (vR 7 0 0), some (vI (nI a1)), some (vI (nI a2)), some (vI a3), none]) (st2 := [vI (nI a2), vI a3, vR 7 0 0]) (m1 := m) rfl ?_
  refine an_call (r_X5_placeIn m a3 a2 h2 hQ) rfl rfl rfl rfl ?_
  refine an_b 2 (pc2 := if ¬ v_X5_placeIn m a3 a2 = (-1 : Int32) then 26 else 24) (L2 := [some (vR 7 0 0), some (vI (nI a1)), some (vI (nI a2)), some (vI a3), none]) (st2 := []) (m1 := m) rfl ?_
  by_cases c3 : v_X5_placeIn m a3 a2 = -1
  · refine an_f (fun q => q c3) ?_
    rw [if_neg (fun q => q c3)]; exact no
  refine an_t c3 ?_
  rw [if_pos c3]
  obtain ⟨e2, hp, _, _⟩ := plc_N hQ h2 c3
  refine an_b 7 (pc2 := 33) (L2 := [some (vR 7 0 0), some (vI (nI a1)), some (vI (nI a2)), some (vI a3), none]) (st2 := [vI (nI a2), vI a3, vR 7 0 0, vI (nI a2), vR 7 0 0, vI (nI a2), vR 7 0 0]) (m1 := m) rfl ?_
  refine an_call (r_X5_placeIn m a3 a2 h2 hQ) rfl rfl rfl rfl ?_
  rw [e2]
  generalize plcN m a3 a2 = p at *
  refine an_call (r_X5_modeAt m a2 p h2 hp) rfl rfl rfl rfl ?_
  refine an_b 1 (pc2 := 40) (L2 := [some (vR 7 0 0), some (vI (nI a1)), some (vI (nI a2)), some (vI a3), none]) (st2 := [vI a3, vI (v_X5_modeAt m a2 p), vI (nI a2), vR 7 0 0]) (m1 := m) rfl ?_
  refine an_call (r_X5_clashing m a2 (v_X5_modeAt m a2 p) a3 h2) rfl rfl rfl rfl ?_
  refine an_b 9 (pc2 := if ¬ (v_X5_clashing m a2 (v_X5_modeAt m a2 p) a3) &&& (((1 : Int32) <<< (nI a1 &&& (31 : Int32))) ^^^ (-1 : Int32)) = 0 then 60 else 56) (L2 := [some (vR 7 0 0), some (vI (nI a1)), some (vI (nI a2)), some (vI a3), some (vI (v_X5_clashing m a2 (v_X5_modeAt m a2 p) a3))]) (st2 := []) (m1 := m) rfl ?_
  by_cases c4 : (v_X5_clashing m a2 (v_X5_modeAt m a2 p) a3) &&& (((1 : Int32) <<< (nI a1 &&& (31 : Int32))) ^^^ (-1 : Int32)) = 0
  · refine an_f (fun q => q c4) ?_
    rw [if_neg (fun q => q c4)]
    refine an_b 2 (pc2 := 61) (L2 := [some (vR 7 0 0), some (vI (nI a1)), some (vI (nI a2)), some (vI a3), some (vI (v_X5_clashing m a2 (v_X5_modeAt m a2 p) a3))]) (st2 := [vI 1]) (m1 := m) rfl ?_
    exact an_ret rfl rfl rfl rfl rfl
  · refine an_t c4 ?_
    rw [if_pos c4]
    refine an_b 1 (pc2 := 61) (L2 := [some (vR 7 0 0), some (vI (nI a1)), some (vI (nI a2)), some (vI a3), some (vI (v_X5_clashing m a2 (v_X5_modeAt m a2 p) a3))]) (st2 := [vI 0]) (m1 := m) rfl ?_
    exact an_ret rfl rfl rfl rfl rfl
/-- the ring's loser, hand by hand -/
def b_X5_loserFor_1 (m : PM) (a : Int32) (j : Nat) (s : Int32) : Int32 := if (v_X5_waitsOver m a >>> (nI j &&& (31 : Int32))) &&& (1 : Int32) = 1 then (if (v_X5_waitsOver m (nI j) >>> (a &&& (31 : Int32))) &&& (1 : Int32) = 1 then (if s = -1 then nI j else if v_X5_workOf m s.toNatClampNeg < v_X5_workOf m j then s else nI j) else s) else s
def v_X5_loserFor (m : PM) (a : Int32) : Int32 := lp (b_X5_loserFor_1 m a) 8 0 (-1)
theorem loserFor_i (m : PM) (a : Int32) (j : Nat) (s : Int32) (hj : j < 8) (hs : s = -1 ∨ ∃ h, h < 8 ∧ s = nI h) : b_X5_loserFor_1 m a j s = -1 ∨ ∃ h, h < 8 ∧ b_X5_loserFor_1 m a j s = nI h := by
  unfold b_X5_loserFor_1
  (repeat' split) <;> first | exact hs | exact Or.inr ⟨j, hj, rfl⟩
theorem loserFor_or (m : PM) (a : Int32) : v_X5_loserFor m a = -1 ∨ ∃ h, h < 8 ∧ v_X5_loserFor m a = nI h := lp_inv (b_X5_loserFor_1 m a) 8 (fun _ s => s = -1 ∨ ∃ h, h < 8 ∧ s = nI h) (fun j s hj hs => loserFor_i m a j s hj hs) 8 0 _ rfl (Or.inl rfl)
theorem r_X5_loserFor (m : PM) (a : Int32) (hQ : QL m) : Rn MX5_loserFor [vR 7 0 0, vI a] m (some (vI (v_X5_loserFor m a))) m := by
  refine rn_of [some (vR 7 0 0), some (vI a), none, none, none, none] rfl ?_
  refine an_b 2 (pc2 := 2) (L2 := [some (vR 7 0 0), some (vI a), none, none, none, none]) (st2 := [vI a, vR 7 0 0]) (m1 := m) rfl ?_
  refine an_call (r_X5_waitsOver m a hQ) rfl rfl rfl rfl ?_
  refine an_b 5 (pc2 := 11) (L2 := [some (vR 7 0 0), some (vI a), some (vI (v_X5_waitsOver m a)), some (vI (-1)), some (vI 0), none]) (st2 := []) (m1 := m) rfl ?_
  refine re_lpi (σ := Int32) (b_X5_loserFor_1 m a) (fun _ s => s = -1 ∨ ∃ h, h < 8 ∧ s = nI h) (fun j s => (11, [some (vR 7 0 0), some (vI a), some (vI (v_X5_waitsOver m a)), some (vI s), some (vI (nI j)), none], [], m)) 8 (fun s => (86, [some (vR 7 0 0), some (vI a), some (vI (v_X5_waitsOver m a)), some (vI s), some (vI (nI 8)), none], [], m)) (fun j s hj hs => loserFor_i m a j s hj hs) (fun j s hj hs v9 m9 K => ?_) (fun s hs v9 m9 K => ?_) 8 0 _ rfl (Or.inl rfl) _ _ ?_
  · show An MX5_loserFor 11 [some (vR 7 0 0), some (vI a), some (vI (v_X5_waitsOver m a)), some (vI s), some (vI (nI j)), none] [] m v9 m9
    have K : An MX5_loserFor 11 [some (vR 7 0 0), some (vI a), some (vI (v_X5_waitsOver m a)), some (vI (b_X5_loserFor_1 m a j s)), some (vI (nI (j + 1))), none] [] m v9 m9 := K
    refine an_b 3 (pc2 := if (8 : Int32) ≤ nI j then 86 else 18) (L2 := [some (vR 7 0 0), some (vI a), some (vI (v_X5_waitsOver m a)), some (vI s), some (vI (nI j)), none]) (st2 := []) (m1 := m) rfl ?_
    refine an_f (nI_ge (a := j) (b := 8) (by omega) (by omega)) ?_
    have out : ∀ x, b_X5_loserFor_1 m a j s = x → ∀ z : Option PV, An MX5_loserFor 79 [some (vR 7 0 0), some (vI a), some (vI (v_X5_waitsOver m a)), some (vI s), some (vI (nI j)), z] [vI x] m v9 m9 := by
      intro x hx z
      refine an_b 3 (pc2 := 11) (L2 := [some (vR 7 0 0), some (vI a), some (vI (v_X5_waitsOver m a)), some (vI x), some (vI (nI j + 1)), z]) (st2 := []) (m1 := m) rfl ?_
      rw [nI_1, ← hx]
      exact an_weak (L := [some (vR 7 0 0), some (vI a), some (vI (v_X5_waitsOver m a)), some (vI (b_X5_loserFor_1 m a j s)), some (vI (nI (j + 1))), none]) (⟨rfl, rfl, rfl, rfl, rfl, trivial⟩) K
    have no : b_X5_loserFor_1 m a j s = s → An MX5_loserFor 46 [some (vR 7 0 0), some (vI a), some (vI (v_X5_waitsOver m a)), some (vI s), some (vI (nI j)), none] [] m v9 m9 := by
      intro hx
      refine an_b 5 (pc2 := 79) (L2 := [some (vR 7 0 0), some (vI a), some (vI (v_X5_waitsOver m a)), some (vI s), some (vI (nI j)), some (vI 0)]) (st2 := [vI s]) (m1 := m) rfl ?_
      exact out s hx _
    refine an_b 7 (pc2 := if ¬ (v_X5_waitsOver m a >>> (nI j &&& (31 : Int32))) &&& (1 : Int32) = 1 then 46 else 28) (L2 := [some (vR 7 0 0), some (vI a), some (vI (v_X5_waitsOver m a)), some (vI s), some (vI (nI j)), none]) (st2 := []) (m1 := m) rfl ?_
    by_cases c1 : (v_X5_waitsOver m a >>> (nI j &&& (31 : Int32))) &&& (1 : Int32) = 1
    · refine an_f (fun q => q c1) ?_
      refine an_b 2 (pc2 := 31) (L2 := [some (vR 7 0 0), some (vI a), some (vI (v_X5_waitsOver m a)), some (vI s), some (vI (nI j)), none]) (st2 := [vI (nI j), vR 7 0 0]) (m1 := m) rfl ?_
      refine an_call (r_X5_waitsOver m (nI j) hQ) rfl rfl rfl rfl ?_
      refine an_b 6 (pc2 := if ¬ (v_X5_waitsOver m (nI j) >>> (a &&& (31 : Int32))) &&& (1 : Int32) = 1 then 46 else 42) (L2 := [some (vR 7 0 0), some (vI a), some (vI (v_X5_waitsOver m a)), some (vI s), some (vI (nI j)), none]) (st2 := []) (m1 := m) rfl ?_
      by_cases c2 : (v_X5_waitsOver m (nI j) >>> (a &&& (31 : Int32))) &&& (1 : Int32) = 1
      · refine an_f (fun q => q c2) ?_
        refine an_b 8 (pc2 := if s = (-1 : Int32) then 73 else 59) (L2 := [some (vR 7 0 0), some (vI a), some (vI (v_X5_waitsOver m a)), some (vI s), some (vI (nI j)), some (vI 1)]) (st2 := []) (m1 := m) rfl ?_
        have yes : b_X5_loserFor_1 m a j s = nI j → An MX5_loserFor 73 [some (vR 7 0 0), some (vI a), some (vI (v_X5_waitsOver m a)), some (vI s), some (vI (nI j)), some (vI 1)] [] m v9 m9 := by
          intro hx
          refine an_b 2 (pc2 := 79) (L2 := [some (vR 7 0 0), some (vI a), some (vI (v_X5_waitsOver m a)), some (vI s), some (vI (nI j)), some (vI 1)]) (st2 := [vI (nI j)]) (m1 := m) rfl ?_
          exact out _ hx _
        by_cases c3 : s = -1
        · refine an_t c3 (yes ?_)
          unfold b_X5_loserFor_1; rw [if_pos c1, if_pos c2, if_pos c3]
        · refine an_f c3 ?_
          rcases hs with hs | ⟨h, hh, rfl⟩
          · exact absurd hs c3
          refine an_b 2 (pc2 := 62) (L2 := [some (vR 7 0 0), some (vI a), some (vI (v_X5_waitsOver m a)), some (vI (nI h)), some (vI (nI j)), some (vI 1)]) (st2 := [vI (nI j), vR 7 0 0]) (m1 := m) rfl ?_
          refine an_call (r_X5_workOf m j hj) rfl rfl rfl rfl ?_
          refine an_b 2 (pc2 := 67) (L2 := [some (vR 7 0 0), some (vI a), some (vI (v_X5_waitsOver m a)), some (vI (nI h)), some (vI (nI j)), some (vI 1)]) (st2 := [vI (nI h), vR 7 0 0, vI (v_X5_workOf m j)]) (m1 := m) rfl ?_
          refine an_call (r_X5_workOf m h hh) rfl rfl rfl rfl ?_
          refine an_b 1 (pc2 := if v_X5_workOf m h < v_X5_workOf m j then 78 else 73) (L2 := [some (vR 7 0 0), some (vI a), some (vI (v_X5_waitsOver m a)), some (vI (nI h)), some (vI (nI j)), some (vI 1)]) (st2 := []) (m1 := m) rfl ?_
          have eh : (nI h).toNatClampNeg = h := nI_clamp (by omega)
          by_cases c4 : v_X5_workOf m h < v_X5_workOf m j
          · refine an_t c4 ?_
            refine an_b 1 (pc2 := 79) (L2 := [some (vR 7 0 0), some (vI a), some (vI (v_X5_waitsOver m a)), some (vI (nI h)), some (vI (nI j)), some (vI 1)]) (st2 := [vI (nI h)]) (m1 := m) rfl ?_
            refine out _ ?_ _
            unfold b_X5_loserFor_1; rw [if_pos c1, if_pos c2, if_neg c3, eh, if_pos c4]
          · refine an_f c4 (yes ?_)
            unfold b_X5_loserFor_1; rw [if_pos c1, if_pos c2, if_neg c3, eh, if_neg c4]
      · refine an_t c2 (no ?_)
        unfold b_X5_loserFor_1; rw [if_pos c1, if_neg c2]
    · refine an_t c1 (no ?_)
      unfold b_X5_loserFor_1; rw [if_neg c1]
  · show An MX5_loserFor 11 [some (vR 7 0 0), some (vI a), some (vI (v_X5_waitsOver m a)), some (vI s), some (vI (nI 8)), none] [] m v9 m9
    refine an_b 3 (pc2 := if (8 : Int32) ≤ nI 8 then 86 else 18) (L2 := [some (vR 7 0 0), some (vI a), some (vI (v_X5_waitsOver m a)), some (vI s), some (vI (nI 8)), none]) (st2 := []) (m1 := m) rfl ?_
    refine an_t (by decide) ?_
    exact K
  show An MX5_loserFor 86 [some (vR 7 0 0), some (vI a), some (vI (v_X5_waitsOver m a)), some (vI (v_X5_loserFor m a)), some (vI (nI 8)), none] [] m _ _
  refine an_b 1 (pc2 := 87) (L2 := [some (vR 7 0 0), some (vI a), some (vI (v_X5_waitsOver m a)), some (vI (v_X5_loserFor m a)), some (vI (nI 8)), none]) (st2 := [vI (v_X5_loserFor m a)]) (m1 := m) rfl ?_
  exact an_ret rfl rfl rfl rfl rfl
end
section
def b_X5_takersNow_1 (m : PM) (a1 : Nat) (a2 : Nat)  (j1 : Nat) (s1 : Int32) : Int32 := (s1 ||| (if (v_X5_canHandOn m a1 a2 (nI j1)) = 0 then (0 : Int32) else ((1 : Int32) <<< ((nI j1) &&& (31 : Int32)))))
def v_X5_takersNow (m : PM) (a1 : Nat) (a2 : Nat) : Int32 := (lp (b_X5_takersNow_1 m a1 a2) 8 0 (0 : Int32))
set_option maxRecDepth 100000 in
theorem r_X5_takersNow (m : PM) (a1 : Nat) (a2 : Nat) (ha1 : a1 < 8) (ha2 : a2 < 12) (hQ : QL m) : Rn MX5_takersNow [vR 7 0 0, vI (nI a1), vI (nI a2)] m (some (vI (v_X5_takersNow m a1 a2))) m := by
  refine rn_of [some (vR 7 0 0), some (vI (nI a1)), some (vI (nI a2)), none, none] rfl ?_
  unfold v_X5_takersNow
  refine an_b 4 (pc2 := 5) (L2 := [some (vR 7 0 0), some (vI (nI a1)), some (vI (nI a2)), some (vI (0 : Int32)), some (vI (0 : Int32))]) (st2 := []) (m1 := m) rfl ?_
  refine re_lp (σ := Int32) (b_X5_takersNow_1 m a1 a2) (fun j1 s1 => (5, [some (vR 7 0 0), some (vI (nI a1)), some (vI (nI a2)), some (vI s1), some (vI (nI j1))], [], m)) 8 (fun s1 => (40, [some (vR 7 0 0), some (vI (nI a1)), some (vI (nI a2)), some (vI s1), none], [], m)) (fun j1 s1 hj1 v9 m9 K1 => ?_) (fun s1 v9 m9 K1 => ?_) 8 0 (0 : Int32) (Nat.add_zero _) _ _ ?_
  · show An MX5_takersNow 5 [some (vR 7 0 0), some (vI (nI a1)), some (vI (nI a2)), some (vI s1), some (vI (nI j1))] [] m v9 m9
    refine an_b 3 (pc2 := if (8 : Int32) ≤ (nI j1) then 40 else 12) (L2 := [some (vR 7 0 0), some (vI (nI a1)), some (vI (nI a2)), some (vI s1), some (vI (nI j1))]) (st2 := []) (m1 := m) rfl ?_
    refine an_f (nI_ge (a := j1) (b := 8) (by omega) (by omega)) ?_
    refine an_b 5 (pc2 := 18) (L2 := [some (vR 7 0 0), some (vI (nI a1)), some (vI (nI a2)), some (vI s1), some (vI (nI j1))]) (st2 := [vI (nI j1), vI (nI a2), vI (nI a1), vR 7 0 0, vI s1]) (m1 := m) rfl ?_
    refine an_call (r_X5_canHandOn m a1 a2 (nI j1) (by omega) (by omega) hQ) rfl rfl rfl rfl ?_
    refine an_b 1 (pc2 := if (v_X5_canHandOn m a1 a2 (nI j1)) = 0 then 31 else 24) (L2 := [some (vR 7 0 0), some (vI (nI a1)), some (vI (nI a2)), some (vI s1), some (vI (nI j1))]) (st2 := [vI s1]) (m1 := m) rfl ?_
    refine re_if1 (c := (v_X5_canHandOn m a1 a2 (nI j1)) = 0) (a := (0 : Int32)) (b := ((1 : Int32) <<< ((nI j1) &&& (31 : Int32)))) (fun x => (32, [some (vR 7 0 0), some (vI (nI a1)), some (vI (nI a2)), some (vI s1), some (vI (nI j1))], [vI x, vI s1], m)) (fun h1 v9 m9 K2 => ?_) (fun h1 v9 m9 K2 => ?_) _ _ ?_
    · refine an_b 1 (pc2 := 32) (L2 := [some (vR 7 0 0), some (vI (nI a1)), some (vI (nI a2)), some (vI s1), some (vI (nI j1))]) (st2 := [vI (0 : Int32), vI s1]) (m1 := m) rfl ?_
      exact K2
    · refine an_b 4 (pc2 := 32) (L2 := [some (vR 7 0 0), some (vI (nI a1)), some (vI (nI a2)), some (vI s1), some (vI (nI j1))]) (st2 := [vI ((1 : Int32) <<< ((nI j1) &&& (31 : Int32))), vI s1]) (m1 := m) rfl ?_
      exact K2
    refine an_b 4 (pc2 := 5) (L2 := [some (vR 7 0 0), some (vI (nI a1)), some (vI (nI a2)), some (vI (s1 ||| (if (v_X5_canHandOn m a1 a2 (nI j1)) = 0 then (0 : Int32) else ((1 : Int32) <<< ((nI j1) &&& (31 : Int32)))))), some (vI ((nI j1) + (1 : Int32)))]) (st2 := []) (m1 := m) rfl ?_
    refine an_cL (K := [some (vR 7 0 0), some (vI (nI a1)), some (vI (nI a2)), some (vI (s1 ||| (if (v_X5_canHandOn m a1 a2 (nI j1)) = 0 then (0 : Int32) else ((1 : Int32) <<< ((nI j1) &&& (31 : Int32)))))), some (vI (nI (j1 + 1)))]) (by simp only [nI_1]) ?_
    exact K1
  · show An MX5_takersNow 5 [some (vR 7 0 0), some (vI (nI a1)), some (vI (nI a2)), some (vI s1), some (vI (nI 8))] [] m v9 m9
    refine an_b 3 (pc2 := if (8 : Int32) ≤ (nI 8) then 40 else 12) (L2 := [some (vR 7 0 0), some (vI (nI a1)), some (vI (nI a2)), some (vI s1), some (vI (nI 8))]) (st2 := []) (m1 := m) rfl ?_
    refine an_t (nI_le (a := 8) (b := 8) (by omega) (by omega)) ?_
    refine an_weak (L := [some (vR 7 0 0), some (vI (nI a1)), some (vI (nI a2)), some (vI s1), none]) (⟨rfl, rfl, rfl, rfl, trivial⟩) ?_
    exact K1
  show An MX5_takersNow 40 [some (vR 7 0 0), some (vI (nI a1)), some (vI (nI a2)), some (vI (lp (b_X5_takersNow_1 m a1 a2) 8 0 (0 : Int32))), none] [] m _ _
  refine an_b 1 (pc2 := 41) (L2 := [some (vR 7 0 0), some (vI (nI a1)), some (vI (nI a2)), some (vI (lp (b_X5_takersNow_1 m a1 a2) 8 0 (0 : Int32))), none]) (st2 := [vI (lp (b_X5_takersNow_1 m a1 a2) 8 0 (0 : Int32))]) (m1 := m) rfl ?_
  exact an_ret rfl rfl rfl rfl rfl
end
