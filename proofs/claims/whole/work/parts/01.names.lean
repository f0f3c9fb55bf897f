-- ===== PART A: goes FIRST, ahead of the names: the tables' words, and 'selects' of the private methods out of them =====
/-- a private method of a class that the tables say can be made, by its rows of tables_1 -/
def lw_okq (q : MethodName × Nat) : Prop := (q.1.cls ≠ "java/lang/invoke/MethodHandle" ∧ q.1.cls ≠ "java/lang/invoke/VarHandle") ∧ Cond.instantiable q.1.cls q.2 ∈ tables_1 ∧ Cond.privateMethod q.1 ∈ tables_1 ∧ Cond.instanceMethod q.1 ∈ tables_1
theorem lw_p0 : lw_okq (⟨"WellLocks", "makeOn", "(LWellLocks$Shelf;III)I"⟩, 11) := ⟨⟨by decide +kernel, by decide +kernel⟩, List.mem_of_getElem? (i := 18) (by decide +kernel), List.mem_of_getElem? (i := 230) (by decide +kernel), List.mem_of_getElem? (i := 231) (by decide +kernel)⟩
theorem lw_p1 : lw_okq (⟨"WellLocks", "refuse", "(I)I"⟩, 11) := ⟨⟨by decide +kernel, by decide +kernel⟩, List.mem_of_getElem? (i := 18) (by decide +kernel), List.mem_of_getElem? (i := 238) (by decide +kernel), List.mem_of_getElem? (i := 239) (by decide +kernel)⟩
theorem lw_p2 : lw_okq (⟨"WellLocks", "refusalOfPlace", "(LWellLocks$Shelf;II)I"⟩, 11) := ⟨⟨by decide +kernel, by decide +kernel⟩, List.mem_of_getElem? (i := 18) (by decide +kernel), List.mem_of_getElem? (i := 251) (by decide +kernel), List.mem_of_getElem? (i := 252) (by decide +kernel)⟩
theorem lw_p3 : lw_okq (⟨"WellLocks", "refusalOf", "(LWellLocks$Shelf;I)I"⟩, 11) := ⟨⟨by decide +kernel, by decide +kernel⟩, List.mem_of_getElem? (i := 18) (by decide +kernel), List.mem_of_getElem? (i := 255) (by decide +kernel), List.mem_of_getElem? (i := 256) (by decide +kernel)⟩
theorem lw_p4 : lw_okq (⟨"WellLocks$Reader", "skipBlanks", "()V"⟩, 5) := ⟨⟨by decide +kernel, by decide +kernel⟩, List.mem_of_getElem? (i := 49) (by decide +kernel), List.mem_of_getElem? (i := 350) (by decide +kernel), List.mem_of_getElem? (i := 351) (by decide +kernel)⟩
theorem lw_p5 : lw_okq (⟨"WellLocks$Reader", "sign", "()I"⟩, 5) := ⟨⟨by decide +kernel, by decide +kernel⟩, List.mem_of_getElem? (i := 49) (by decide +kernel), List.mem_of_getElem? (i := 354) (by decide +kernel), List.mem_of_getElem? (i := 355) (by decide +kernel)⟩
theorem lw_p6 : lw_okq (⟨"WellLocks$Reader", "readPeace", "()Z"⟩, 5) := ⟨⟨by decide +kernel, by decide +kernel⟩, List.mem_of_getElem? (i := 49) (by decide +kernel), List.mem_of_getElem? (i := 358) (by decide +kernel), List.mem_of_getElem? (i := 359) (by decide +kernel)⟩
theorem lw_p7 : lw_okq (⟨"WellLocks$Reader", "takeFigure", "(II)I"⟩, 5) := ⟨⟨by decide +kernel, by decide +kernel⟩, List.mem_of_getElem? (i := 49) (by decide +kernel), List.mem_of_getElem? (i := 362) (by decide +kernel), List.mem_of_getElem? (i := 363) (by decide +kernel)⟩
theorem lw_p8 : lw_okq (⟨"WellLocks$Reader", "figure", "(II)I"⟩, 5) := ⟨⟨by decide +kernel, by decide +kernel⟩, List.mem_of_getElem? (i := 49) (by decide +kernel), List.mem_of_getElem? (i := 366) (by decide +kernel), List.mem_of_getElem? (i := 367) (by decide +kernel)⟩
theorem lw_p9 : lw_okq (⟨"WellLocks$Reader", "readItem", "()Z"⟩, 5) := ⟨⟨by decide +kernel, by decide +kernel⟩, List.mem_of_getElem? (i := 49) (by decide +kernel), List.mem_of_getElem? (i := 370) (by decide +kernel), List.mem_of_getElem? (i := 371) (by decide +kernel)⟩
theorem lw_p10 : lw_okq (⟨"WellLocks$Reader", "readFeud", "()Z"⟩, 5) := ⟨⟨by decide +kernel, by decide +kernel⟩, List.mem_of_getElem? (i := 49) (by decide +kernel), List.mem_of_getElem? (i := 374) (by decide +kernel), List.mem_of_getElem? (i := 375) (by decide +kernel)⟩
theorem lw_p11 : lw_okq (⟨"WellLocks$Reader", "readHouse", "()Z"⟩, 5) := ⟨⟨by decide +kernel, by decide +kernel⟩, List.mem_of_getElem? (i := 49) (by decide +kernel), List.mem_of_getElem? (i := 385) (by decide +kernel), List.mem_of_getElem? (i := 386) (by decide +kernel)⟩
theorem lw_p12 : lw_okq (⟨"WellLocks$Well", "apply", "(I)I"⟩, 7) := ⟨⟨by decide +kernel, by decide +kernel⟩, List.mem_of_getElem? (i := 118) (by decide +kernel), List.mem_of_getElem? (i := 454) (by decide +kernel), List.mem_of_getElem? (i := 455) (by decide +kernel)⟩
theorem lw_p13 : lw_okq (⟨"WellLocks$Well", "drawInTurn", "(I)I"⟩, 7) := ⟨⟨by decide +kernel, by decide +kernel⟩, List.mem_of_getElem? (i := 118) (by decide +kernel), List.mem_of_getElem? (i := 458) (by decide +kernel), List.mem_of_getElem? (i := 459) (by decide +kernel)⟩
theorem lw_p14 : lw_okq (⟨"WellLocks$Well", "giveKey", "(II)V"⟩, 7) := ⟨⟨by decide +kernel, by decide +kernel⟩, List.mem_of_getElem? (i := 118) (by decide +kernel), List.mem_of_getElem? (i := 475) (by decide +kernel), List.mem_of_getElem? (i := 476) (by decide +kernel)⟩
theorem lw_p15 : lw_okq (⟨"WellLocks$Well", "passDay", "()V"⟩, 7) := ⟨⟨by decide +kernel, by decide +kernel⟩, List.mem_of_getElem? (i := 118) (by decide +kernel), List.mem_of_getElem? (i := 479) (by decide +kernel), List.mem_of_getElem? (i := 480) (by decide +kernel)⟩
def lw_privs_1 : List (MethodName × Nat) := [(⟨"WellLocks", "makeOn", "(LWellLocks$Shelf;III)I"⟩, 11), (⟨"WellLocks", "refuse", "(I)I"⟩, 11), (⟨"WellLocks", "refusalOfPlace", "(LWellLocks$Shelf;II)I"⟩, 11), (⟨"WellLocks", "refusalOf", "(LWellLocks$Shelf;I)I"⟩, 11), (⟨"WellLocks$Reader", "skipBlanks", "()V"⟩, 5), (⟨"WellLocks$Reader", "sign", "()I"⟩, 5), (⟨"WellLocks$Reader", "readPeace", "()Z"⟩, 5), (⟨"WellLocks$Reader", "takeFigure", "(II)I"⟩, 5), (⟨"WellLocks$Reader", "figure", "(II)I"⟩, 5), (⟨"WellLocks$Reader", "readItem", "()Z"⟩, 5), (⟨"WellLocks$Reader", "readFeud", "()Z"⟩, 5), (⟨"WellLocks$Reader", "readHouse", "()Z"⟩, 5), (⟨"WellLocks$Well", "apply", "(I)I"⟩, 7), (⟨"WellLocks$Well", "drawInTurn", "(I)I"⟩, 7), (⟨"WellLocks$Well", "giveKey", "(II)V"⟩, 7), (⟨"WellLocks$Well", "passDay", "()V"⟩, 7)]
theorem lw_r1 : ∀ q ∈ lw_privs_1, lw_okq q := List.forall_mem_cons.mpr ⟨lw_p0, List.forall_mem_cons.mpr ⟨lw_p1, List.forall_mem_cons.mpr ⟨lw_p2, List.forall_mem_cons.mpr ⟨lw_p3, List.forall_mem_cons.mpr ⟨lw_p4, List.forall_mem_cons.mpr ⟨lw_p5, List.forall_mem_cons.mpr ⟨lw_p6, List.forall_mem_cons.mpr ⟨lw_p7, List.forall_mem_cons.mpr ⟨lw_p8, List.forall_mem_cons.mpr ⟨lw_p9, List.forall_mem_cons.mpr ⟨lw_p10, List.forall_mem_cons.mpr ⟨lw_p11, List.forall_mem_cons.mpr ⟨lw_p12, List.forall_mem_cons.mpr ⟨lw_p13, List.forall_mem_cons.mpr ⟨lw_p14, List.forall_mem_cons.mpr ⟨lw_p15, fun _ h => absurd h List.not_mem_nil⟩⟩⟩⟩⟩⟩⟩⟩⟩⟩⟩⟩⟩⟩⟩⟩
theorem lw_p16 : lw_okq (⟨"WellLocks$Well", "othersNeededByAll", "(I)I"⟩, 7) := ⟨⟨by decide +kernel, by decide +kernel⟩, List.mem_of_getElem? (i := 118) (by decide +kernel), List.mem_of_getElem? (i := 513) (by decide +kernel), List.mem_of_getElem? (i := 514) (by decide +kernel)⟩
theorem lw_p17 : lw_okq (⟨"WellLocks$Well", "keysHeldBy", "(I)I"⟩, 7) := ⟨⟨by decide +kernel, by decide +kernel⟩, List.mem_of_getElem? (i := 118) (by decide +kernel), List.mem_of_getElem? (i := 539) (by decide +kernel), List.mem_of_getElem? (i := 540) (by decide +kernel)⟩
theorem lw_p18 : lw_okq (⟨"WellLocks", "setInRow", "(I)I"⟩, 11) := ⟨⟨by decide +kernel, by decide +kernel⟩, List.mem_of_getElem? (i := 18) (by decide +kernel), List.mem_of_getElem? (i := 547) (by decide +kernel), List.mem_of_getElem? (i := 548) (by decide +kernel)⟩
theorem lw_p19 : lw_okq (⟨"WellLocks", "meetingInRow", "(I)I"⟩, 11) := ⟨⟨by decide +kernel, by decide +kernel⟩, List.mem_of_getElem? (i := 18) (by decide +kernel), List.mem_of_getElem? (i := 557) (by decide +kernel), List.mem_of_getElem? (i := 558) (by decide +kernel)⟩
theorem lw_p20 : lw_okq (⟨"WellLocks", "tell", "(JJ)V"⟩, 11) := ⟨⟨by decide +kernel, by decide +kernel⟩, List.mem_of_getElem? (i := 18) (by decide +kernel), List.mem_of_getElem? (i := 625) (by decide +kernel), List.mem_of_getElem? (i := 626) (by decide +kernel)⟩
theorem lw_p21 : lw_okq (⟨"WellLocks$Survey", "fewestToCoverByLesser", "(I)I"⟩, 4) := ⟨⟨by decide +kernel, by decide +kernel⟩, List.mem_of_getElem? (i := 169) (by decide +kernel), List.mem_of_getElem? (i := 688) (by decide +kernel), List.mem_of_getElem? (i := 689) (by decide +kernel)⟩
theorem lw_p22 : lw_okq (⟨"WellLocks$Survey", "leastThatHelps", "(I)I"⟩, 4) := ⟨⟨by decide +kernel, by decide +kernel⟩, List.mem_of_getElem? (i := 169) (by decide +kernel), List.mem_of_getElem? (i := 697) (by decide +kernel), List.mem_of_getElem? (i := 698) (by decide +kernel)⟩
theorem lw_p23 : lw_okq (⟨"WellLocks$Well", "nextBest", "(II)I"⟩, 7) := ⟨⟨by decide +kernel, by decide +kernel⟩, List.mem_of_getElem? (i := 118) (by decide +kernel), List.mem_of_getElem? (i := 712) (by decide +kernel), List.mem_of_getElem? (i := 713) (by decide +kernel)⟩
theorem lw_p24 : lw_okq (⟨"WellLocks", "refusalOfPairs", "(I)I"⟩, 11) := ⟨⟨by decide +kernel, by decide +kernel⟩, List.mem_of_getElem? (i := 18) (by decide +kernel), List.mem_of_getElem? (i := 746) (by decide +kernel), List.mem_of_getElem? (i := 747) (by decide +kernel)⟩
theorem lw_p25 : lw_okq (⟨"WellLocks", "fitsDouble", "(II)Z"⟩, 11) := ⟨⟨by decide +kernel, by decide +kernel⟩, List.mem_of_getElem? (i := 18) (by decide +kernel), List.mem_of_getElem? (i := 750) (by decide +kernel), List.mem_of_getElem? (i := 751) (by decide +kernel)⟩
theorem lw_p26 : lw_okq (⟨"WellLocks", "fitsNeed", "(II)Z"⟩, 11) := ⟨⟨by decide +kernel, by decide +kernel⟩, List.mem_of_getElem? (i := 18) (by decide +kernel), List.mem_of_getElem? (i := 759) (by decide +kernel), List.mem_of_getElem? (i := 760) (by decide +kernel)⟩
theorem lw_p27 : lw_okq (⟨"WellLocks$Survey", "callerWins", "(IIZ)Z"⟩, 4) := ⟨⟨by decide +kernel, by decide +kernel⟩, List.mem_of_getElem? (i := 169) (by decide +kernel), List.mem_of_getElem? (i := 772) (by decide +kernel), List.mem_of_getElem? (i := 773) (by decide +kernel)⟩
theorem lw_p28 : lw_okq (⟨"WellLocks", "refusalOfChance", "(I)I"⟩, 11) := ⟨⟨by decide +kernel, by decide +kernel⟩, List.mem_of_getElem? (i := 18) (by decide +kernel), List.mem_of_getElem? (i := 784) (by decide +kernel), List.mem_of_getElem? (i := 785) (by decide +kernel)⟩
theorem lw_p29 : lw_okq (⟨"WellLocks$Survey", "waysToCome", "(II)J"⟩, 4) := ⟨⟨by decide +kernel, by decide +kernel⟩, List.mem_of_getElem? (i := 169) (by decide +kernel), List.mem_of_getElem? (i := 792) (by decide +kernel), List.mem_of_getElem? (i := 793) (by decide +kernel)⟩
theorem lw_p30 : lw_okq (⟨"WellLocks", "countOf", "(I)I"⟩, 11) := ⟨⟨by decide +kernel, by decide +kernel⟩, List.mem_of_getElem? (i := 18) (by decide +kernel), List.mem_of_getElem? (i := 835) (by decide +kernel), List.mem_of_getElem? (i := 836) (by decide +kernel)⟩
theorem lw_p31 : lw_okq (⟨"WellLocks", "keptWells", "()I"⟩, 11) := ⟨⟨by decide +kernel, by decide +kernel⟩, List.mem_of_getElem? (i := 18) (by decide +kernel), List.mem_of_getElem? (i := 848) (by decide +kernel), List.mem_of_getElem? (i := 849) (by decide +kernel)⟩
def lw_privs_2 : List (MethodName × Nat) := [(⟨"WellLocks$Well", "othersNeededByAll", "(I)I"⟩, 7), (⟨"WellLocks$Well", "keysHeldBy", "(I)I"⟩, 7), (⟨"WellLocks", "setInRow", "(I)I"⟩, 11), (⟨"WellLocks", "meetingInRow", "(I)I"⟩, 11), (⟨"WellLocks", "tell", "(JJ)V"⟩, 11), (⟨"WellLocks$Survey", "fewestToCoverByLesser", "(I)I"⟩, 4), (⟨"WellLocks$Survey", "leastThatHelps", "(I)I"⟩, 4), (⟨"WellLocks$Well", "nextBest", "(II)I"⟩, 7), (⟨"WellLocks", "refusalOfPairs", "(I)I"⟩, 11), (⟨"WellLocks", "fitsDouble", "(II)Z"⟩, 11), (⟨"WellLocks", "fitsNeed", "(II)Z"⟩, 11), (⟨"WellLocks$Survey", "callerWins", "(IIZ)Z"⟩, 4), (⟨"WellLocks", "refusalOfChance", "(I)I"⟩, 11), (⟨"WellLocks$Survey", "waysToCome", "(II)J"⟩, 4), (⟨"WellLocks", "countOf", "(I)I"⟩, 11), (⟨"WellLocks", "keptWells", "()I"⟩, 11)]
theorem lw_r2 : ∀ q ∈ lw_privs_2, lw_okq q := List.forall_mem_cons.mpr ⟨lw_p16, List.forall_mem_cons.mpr ⟨lw_p17, List.forall_mem_cons.mpr ⟨lw_p18, List.forall_mem_cons.mpr ⟨lw_p19, List.forall_mem_cons.mpr ⟨lw_p20, List.forall_mem_cons.mpr ⟨lw_p21, List.forall_mem_cons.mpr ⟨lw_p22, List.forall_mem_cons.mpr ⟨lw_p23, List.forall_mem_cons.mpr ⟨lw_p24, List.forall_mem_cons.mpr ⟨lw_p25, List.forall_mem_cons.mpr ⟨lw_p26, List.forall_mem_cons.mpr ⟨lw_p27, List.forall_mem_cons.mpr ⟨lw_p28, List.forall_mem_cons.mpr ⟨lw_p29, List.forall_mem_cons.mpr ⟨lw_p30, List.forall_mem_cons.mpr ⟨lw_p31, fun _ h => absurd h List.not_mem_nil⟩⟩⟩⟩⟩⟩⟩⟩⟩⟩⟩⟩⟩⟩⟩⟩
theorem lw_p32 : lw_okq (⟨"WellLocksModel", "find", "(I)I"⟩, 30) := ⟨⟨by decide +kernel, by decide +kernel⟩, List.mem_of_getElem? (i := 871) (by decide +kernel), List.mem_of_getElem? (i := 979) (by decide +kernel), List.mem_of_getElem? (i := 980) (by decide +kernel)⟩
theorem lw_p33 : lw_okq (⟨"WellLocksModel", "makeRow", "(II)V"⟩, 30) := ⟨⟨by decide +kernel, by decide +kernel⟩, List.mem_of_getElem? (i := 871) (by decide +kernel), List.mem_of_getElem? (i := 983) (by decide +kernel), List.mem_of_getElem? (i := 984) (by decide +kernel)⟩
theorem lw_p34 : lw_okq (⟨"WellLocksModel", "refused", "(II)I"⟩, 30) := ⟨⟨by decide +kernel, by decide +kernel⟩, List.mem_of_getElem? (i := 871) (by decide +kernel), List.mem_of_getElem? (i := 991) (by decide +kernel), List.mem_of_getElem? (i := 992) (by decide +kernel)⟩
theorem lw_p35 : lw_okq (⟨"WellLocksModel", "tell", "(I)I"⟩, 30) := ⟨⟨by decide +kernel, by decide +kernel⟩, List.mem_of_getElem? (i := 871) (by decide +kernel), List.mem_of_getElem? (i := 995) (by decide +kernel), List.mem_of_getElem? (i := 996) (by decide +kernel)⟩
theorem lw_p36 : lw_okq (⟨"WellLocksModel", "isSpan", "(III)Z"⟩, 30) := ⟨⟨by decide +kernel, by decide +kernel⟩, List.mem_of_getElem? (i := 871) (by decide +kernel), List.mem_of_getElem? (i := 1011) (by decide +kernel), List.mem_of_getElem? (i := 1012) (by decide +kernel)⟩
theorem lw_p37 : lw_okq (⟨"WellLocksModel", "faultOf", "(I)I"⟩, 30) := ⟨⟨by decide +kernel, by decide +kernel⟩, List.mem_of_getElem? (i := 871) (by decide +kernel), List.mem_of_getElem? (i := 1035) (by decide +kernel), List.mem_of_getElem? (i := 1036) (by decide +kernel)⟩
theorem lw_p38 : lw_okq (⟨"WellLocksModel", "readsWell", "()Z"⟩, 30) := ⟨⟨by decide +kernel, by decide +kernel⟩, List.mem_of_getElem? (i := 871) (by decide +kernel), List.mem_of_getElem? (i := 1039) (by decide +kernel), List.mem_of_getElem? (i := 1040) (by decide +kernel)⟩
theorem lw_p39 : lw_okq (⟨"WellLocksModel", "skip", "()V"⟩, 30) := ⟨⟨by decide +kernel, by decide +kernel⟩, List.mem_of_getElem? (i := 871) (by decide +kernel), List.mem_of_getElem? (i := 1043) (by decide +kernel), List.mem_of_getElem? (i := 1044) (by decide +kernel)⟩
theorem lw_p40 : lw_okq (⟨"WellLocksModel", "here", "()I"⟩, 30) := ⟨⟨by decide +kernel, by decide +kernel⟩, List.mem_of_getElem? (i := 871) (by decide +kernel), List.mem_of_getElem? (i := 1047) (by decide +kernel), List.mem_of_getElem? (i := 1048) (by decide +kernel)⟩
theorem lw_p41 : lw_okq (⟨"WellLocksModel", "figure", "(II)I"⟩, 30) := ⟨⟨by decide +kernel, by decide +kernel⟩, List.mem_of_getElem? (i := 871) (by decide +kernel), List.mem_of_getElem? (i := 1051) (by decide +kernel), List.mem_of_getElem? (i := 1052) (by decide +kernel)⟩
theorem lw_p42 : lw_okq (⟨"WellLocksModel", "readsFeud", "()Z"⟩, 30) := ⟨⟨by decide +kernel, by decide +kernel⟩, List.mem_of_getElem? (i := 871) (by decide +kernel), List.mem_of_getElem? (i := 1055) (by decide +kernel), List.mem_of_getElem? (i := 1056) (by decide +kernel)⟩
theorem lw_p43 : lw_okq (⟨"WellLocksModel", "readsHouse", "()Z"⟩, 30) := ⟨⟨by decide +kernel, by decide +kernel⟩, List.mem_of_getElem? (i := 871) (by decide +kernel), List.mem_of_getElem? (i := 1062) (by decide +kernel), List.mem_of_getElem? (i := 1063) (by decide +kernel)⟩
theorem lw_p44 : lw_okq (⟨"WellLocksModel", "isHouse", "(I)Z"⟩, 30) := ⟨⟨by decide +kernel, by decide +kernel⟩, List.mem_of_getElem? (i := 871) (by decide +kernel), List.mem_of_getElem? (i := 1077) (by decide +kernel), List.mem_of_getElem? (i := 1078) (by decide +kernel)⟩
theorem lw_p45 : lw_okq (⟨"WellLocksModel", "toldOf", "(II)I"⟩, 30) := ⟨⟨by decide +kernel, by decide +kernel⟩, List.mem_of_getElem? (i := 871) (by decide +kernel), List.mem_of_getElem? (i := 1082) (by decide +kernel), List.mem_of_getElem? (i := 1083) (by decide +kernel)⟩
theorem lw_p46 : lw_okq (⟨"WellLocksModel", "keyWeight", "(I)I"⟩, 30) := ⟨⟨by decide +kernel, by decide +kernel⟩, List.mem_of_getElem? (i := 871) (by decide +kernel), List.mem_of_getElem? (i := 1086) (by decide +kernel), List.mem_of_getElem? (i := 1087) (by decide +kernel)⟩
theorem lw_p47 : lw_okq (⟨"WellLocksModel", "isOf", "(II)Z"⟩, 30) := ⟨⟨by decide +kernel, by decide +kernel⟩, List.mem_of_getElem? (i := 871) (by decide +kernel), List.mem_of_getElem? (i := 1094) (by decide +kernel), List.mem_of_getElem? (i := 1095) (by decide +kernel)⟩
def lw_privs_3 : List (MethodName × Nat) := [(⟨"WellLocksModel", "find", "(I)I"⟩, 30), (⟨"WellLocksModel", "makeRow", "(II)V"⟩, 30), (⟨"WellLocksModel", "refused", "(II)I"⟩, 30), (⟨"WellLocksModel", "tell", "(I)I"⟩, 30), (⟨"WellLocksModel", "isSpan", "(III)Z"⟩, 30), (⟨"WellLocksModel", "faultOf", "(I)I"⟩, 30), (⟨"WellLocksModel", "readsWell", "()Z"⟩, 30), (⟨"WellLocksModel", "skip", "()V"⟩, 30), (⟨"WellLocksModel", "here", "()I"⟩, 30), (⟨"WellLocksModel", "figure", "(II)I"⟩, 30), (⟨"WellLocksModel", "readsFeud", "()Z"⟩, 30), (⟨"WellLocksModel", "readsHouse", "()Z"⟩, 30), (⟨"WellLocksModel", "isHouse", "(I)Z"⟩, 30), (⟨"WellLocksModel", "toldOf", "(II)I"⟩, 30), (⟨"WellLocksModel", "keyWeight", "(I)I"⟩, 30), (⟨"WellLocksModel", "isOf", "(II)Z"⟩, 30)]
theorem lw_r3 : ∀ q ∈ lw_privs_3, lw_okq q := List.forall_mem_cons.mpr ⟨lw_p32, List.forall_mem_cons.mpr ⟨lw_p33, List.forall_mem_cons.mpr ⟨lw_p34, List.forall_mem_cons.mpr ⟨lw_p35, List.forall_mem_cons.mpr ⟨lw_p36, List.forall_mem_cons.mpr ⟨lw_p37, List.forall_mem_cons.mpr ⟨lw_p38, List.forall_mem_cons.mpr ⟨lw_p39, List.forall_mem_cons.mpr ⟨lw_p40, List.forall_mem_cons.mpr ⟨lw_p41, List.forall_mem_cons.mpr ⟨lw_p42, List.forall_mem_cons.mpr ⟨lw_p43, List.forall_mem_cons.mpr ⟨lw_p44, List.forall_mem_cons.mpr ⟨lw_p45, List.forall_mem_cons.mpr ⟨lw_p46, List.forall_mem_cons.mpr ⟨lw_p47, fun _ h => absurd h List.not_mem_nil⟩⟩⟩⟩⟩⟩⟩⟩⟩⟩⟩⟩⟩⟩⟩⟩
theorem lw_p48 : lw_okq (⟨"WellLocksModel", "needed", "(I)I"⟩, 30) := ⟨⟨by decide +kernel, by decide +kernel⟩, List.mem_of_getElem? (i := 871) (by decide +kernel), List.mem_of_getElem? (i := 1098) (by decide +kernel), List.mem_of_getElem? (i := 1099) (by decide +kernel)⟩
theorem lw_p49 : lw_okq (⟨"WellLocksModel", "all", "()I"⟩, 30) := ⟨⟨by decide +kernel, by decide +kernel⟩, List.mem_of_getElem? (i := 871) (by decide +kernel), List.mem_of_getElem? (i := 1102) (by decide +kernel), List.mem_of_getElem? (i := 1103) (by decide +kernel)⟩
theorem lw_p50 : lw_okq (⟨"WellLocksModel", "isOpen", "(I)Z"⟩, 30) := ⟨⟨by decide +kernel, by decide +kernel⟩, List.mem_of_getElem? (i := 871) (by decide +kernel), List.mem_of_getElem? (i := 1106) (by decide +kernel), List.mem_of_getElem? (i := 1107) (by decide +kernel)⟩
theorem lw_p51 : lw_okq (⟨"WellLocksModel", "weightOf", "(I)I"⟩, 30) := ⟨⟨by decide +kernel, by decide +kernel⟩, List.mem_of_getElem? (i := 871) (by decide +kernel), List.mem_of_getElem? (i := 1110) (by decide +kernel), List.mem_of_getElem? (i := 1111) (by decide +kernel)⟩
theorem lw_p52 : lw_okq (⟨"WellLocksModel", "isPeace", "(I)Z"⟩, 30) := ⟨⟨by decide +kernel, by decide +kernel⟩, List.mem_of_getElem? (i := 871) (by decide +kernel), List.mem_of_getElem? (i := 1114) (by decide +kernel), List.mem_of_getElem? (i := 1115) (by decide +kernel)⟩
theorem lw_p53 : lw_okq (⟨"WellLocksModel", "wants", "(I)I"⟩, 30) := ⟨⟨by decide +kernel, by decide +kernel⟩, List.mem_of_getElem? (i := 871) (by decide +kernel), List.mem_of_getElem? (i := 1118) (by decide +kernel), List.mem_of_getElem? (i := 1119) (by decide +kernel)⟩
theorem lw_p54 : lw_okq (⟨"WellLocksModel", "keysHeld", "(I)I"⟩, 30) := ⟨⟨by decide +kernel, by decide +kernel⟩, List.mem_of_getElem? (i := 871) (by decide +kernel), List.mem_of_getElem? (i := 1122) (by decide +kernel), List.mem_of_getElem? (i := 1123) (by decide +kernel)⟩
theorem lw_p55 : lw_okq (⟨"WellLocksModel", "setOf", "(I)I"⟩, 30) := ⟨⟨by decide +kernel, by decide +kernel⟩, List.mem_of_getElem? (i := 871) (by decide +kernel), List.mem_of_getElem? (i := 1130) (by decide +kernel), List.mem_of_getElem? (i := 1131) (by decide +kernel)⟩
theorem lw_p56 : lw_okq (⟨"WellLocksModel", "keepPast", "()V"⟩, 30) := ⟨⟨by decide +kernel, by decide +kernel⟩, List.mem_of_getElem? (i := 871) (by decide +kernel), List.mem_of_getElem? (i := 1134) (by decide +kernel), List.mem_of_getElem? (i := 1135) (by decide +kernel)⟩
theorem lw_p57 : lw_okq (⟨"WellLocksModel", "draws", "(I)I"⟩, 30) := ⟨⟨by decide +kernel, by decide +kernel⟩, List.mem_of_getElem? (i := 871) (by decide +kernel), List.mem_of_getElem? (i := 1138) (by decide +kernel), List.mem_of_getElem? (i := 1139) (by decide +kernel)⟩
theorem lw_p58 : lw_okq (⟨"WellLocksModel", "wantsYet", "(I)I"⟩, 30) := ⟨⟨by decide +kernel, by decide +kernel⟩, List.mem_of_getElem? (i := 871) (by decide +kernel), List.mem_of_getElem? (i := 1142) (by decide +kernel), List.mem_of_getElem? (i := 1143) (by decide +kernel)⟩
theorem lw_p59 : lw_okq (⟨"WellLocksModel", "doDay", "()I"⟩, 30) := ⟨⟨by decide +kernel, by decide +kernel⟩, List.mem_of_getElem? (i := 871) (by decide +kernel), List.mem_of_getElem? (i := 1154) (by decide +kernel), List.mem_of_getElem? (i := 1155) (by decide +kernel)⟩
theorem lw_p60 : lw_okq (⟨"WellLocksModel", "copyWell", "(II)V"⟩, 30) := ⟨⟨by decide +kernel, by decide +kernel⟩, List.mem_of_getElem? (i := 871) (by decide +kernel), List.mem_of_getElem? (i := 1167) (by decide +kernel), List.mem_of_getElem? (i := 1168) (by decide +kernel)⟩
theorem lw_p61 : lw_okq (⟨"WellLocksModel", "isSet", "(I)Z"⟩, 30) := ⟨⟨by decide +kernel, by decide +kernel⟩, List.mem_of_getElem? (i := 871) (by decide +kernel), List.mem_of_getElem? (i := 1179) (by decide +kernel), List.mem_of_getElem? (i := 1180) (by decide +kernel)⟩
theorem lw_p62 : lw_okq (⟨"WellLocksModel", "tellMany", "(J)I"⟩, 30) := ⟨⟨by decide +kernel, by decide +kernel⟩, List.mem_of_getElem? (i := 871) (by decide +kernel), List.mem_of_getElem? (i := 1190) (by decide +kernel), List.mem_of_getElem? (i := 1191) (by decide +kernel)⟩
theorem lw_p63 : lw_okq (⟨"WellLocksModel", "tellParts", "(JJ)I"⟩, 30) := ⟨⟨by decide +kernel, by decide +kernel⟩, List.mem_of_getElem? (i := 871) (by decide +kernel), List.mem_of_getElem? (i := 1209) (by decide +kernel), List.mem_of_getElem? (i := 1210) (by decide +kernel)⟩
def lw_privs_4 : List (MethodName × Nat) := [(⟨"WellLocksModel", "needed", "(I)I"⟩, 30), (⟨"WellLocksModel", "all", "()I"⟩, 30), (⟨"WellLocksModel", "isOpen", "(I)Z"⟩, 30), (⟨"WellLocksModel", "weightOf", "(I)I"⟩, 30), (⟨"WellLocksModel", "isPeace", "(I)Z"⟩, 30), (⟨"WellLocksModel", "wants", "(I)I"⟩, 30), (⟨"WellLocksModel", "keysHeld", "(I)I"⟩, 30), (⟨"WellLocksModel", "setOf", "(I)I"⟩, 30), (⟨"WellLocksModel", "keepPast", "()V"⟩, 30), (⟨"WellLocksModel", "draws", "(I)I"⟩, 30), (⟨"WellLocksModel", "wantsYet", "(I)I"⟩, 30), (⟨"WellLocksModel", "doDay", "()I"⟩, 30), (⟨"WellLocksModel", "copyWell", "(II)V"⟩, 30), (⟨"WellLocksModel", "isSet", "(I)Z"⟩, 30), (⟨"WellLocksModel", "tellMany", "(J)I"⟩, 30), (⟨"WellLocksModel", "tellParts", "(JJ)I"⟩, 30)]
theorem lw_r4 : ∀ q ∈ lw_privs_4, lw_okq q := List.forall_mem_cons.mpr ⟨lw_p48, List.forall_mem_cons.mpr ⟨lw_p49, List.forall_mem_cons.mpr ⟨lw_p50, List.forall_mem_cons.mpr ⟨lw_p51, List.forall_mem_cons.mpr ⟨lw_p52, List.forall_mem_cons.mpr ⟨lw_p53, List.forall_mem_cons.mpr ⟨lw_p54, List.forall_mem_cons.mpr ⟨lw_p55, List.forall_mem_cons.mpr ⟨lw_p56, List.forall_mem_cons.mpr ⟨lw_p57, List.forall_mem_cons.mpr ⟨lw_p58, List.forall_mem_cons.mpr ⟨lw_p59, List.forall_mem_cons.mpr ⟨lw_p60, List.forall_mem_cons.mpr ⟨lw_p61, List.forall_mem_cons.mpr ⟨lw_p62, List.forall_mem_cons.mpr ⟨lw_p63, fun _ h => absurd h List.not_mem_nil⟩⟩⟩⟩⟩⟩⟩⟩⟩⟩⟩⟩⟩⟩⟩⟩
theorem lw_p64 : lw_okq (⟨"WellLocksModel", "layMeetings", "()V"⟩, 30) := ⟨⟨by decide +kernel, by decide +kernel⟩, List.mem_of_getElem? (i := 871) (by decide +kernel), List.mem_of_getElem? (i := 1217) (by decide +kernel), List.mem_of_getElem? (i := 1218) (by decide +kernel)⟩
theorem lw_p65 : lw_okq (⟨"WellLocksModel", "thirsty", "()I"⟩, 30) := ⟨⟨by decide +kernel, by decide +kernel⟩, List.mem_of_getElem? (i := 871) (by decide +kernel), List.mem_of_getElem? (i := 1221) (by decide +kernel), List.mem_of_getElem? (i := 1222) (by decide +kernel)⟩
theorem lw_p66 : lw_okq (⟨"WellLocksModel", "with", "(II)I"⟩, 30) := ⟨⟨by decide +kernel, by decide +kernel⟩, List.mem_of_getElem? (i := 871) (by decide +kernel), List.mem_of_getElem? (i := 1225) (by decide +kernel), List.mem_of_getElem? (i := 1226) (by decide +kernel)⟩
theorem lw_p67 : lw_okq (⟨"WellLocksModel", "served", "(I)I"⟩, 30) := ⟨⟨by decide +kernel, by decide +kernel⟩, List.mem_of_getElem? (i := 871) (by decide +kernel), List.mem_of_getElem? (i := 1233) (by decide +kernel), List.mem_of_getElem? (i := 1234) (by decide +kernel)⟩
theorem lw_p68 : lw_okq (⟨"WellLocksModel", "nextOrder", "(I)Z"⟩, 30) := ⟨⟨by decide +kernel, by decide +kernel⟩, List.mem_of_getElem? (i := 871) (by decide +kernel), List.mem_of_getElem? (i := 1237) (by decide +kernel), List.mem_of_getElem? (i := 1238) (by decide +kernel)⟩
theorem lw_p69 : lw_okq (⟨"WellLocksModel", "drawnBy", "(I)I"⟩, 30) := ⟨⟨by decide +kernel, by decide +kernel⟩, List.mem_of_getElem? (i := 871) (by decide +kernel), List.mem_of_getElem? (i := 1245) (by decide +kernel), List.mem_of_getElem? (i := 1246) (by decide +kernel)⟩
theorem lw_p70 : lw_okq (⟨"WellLocksModel", "drawnOf", "(I)I"⟩, 30) := ⟨⟨by decide +kernel, by decide +kernel⟩, List.mem_of_getElem? (i := 871) (by decide +kernel), List.mem_of_getElem? (i := 1254) (by decide +kernel), List.mem_of_getElem? (i := 1255) (by decide +kernel)⟩
theorem lw_p71 : lw_okq (⟨"WellLocksModel", "noPairs", "(I)I"⟩, 30) := ⟨⟨by decide +kernel, by decide +kernel⟩, List.mem_of_getElem? (i := 871) (by decide +kernel), List.mem_of_getElem? (i := 1262) (by decide +kernel), List.mem_of_getElem? (i := 1263) (by decide +kernel)⟩
theorem lw_p72 : lw_okq (⟨"WellLocksModel", "layWins", "()V"⟩, 30) := ⟨⟨by decide +kernel, by decide +kernel⟩, List.mem_of_getElem? (i := 871) (by decide +kernel), List.mem_of_getElem? (i := 1274) (by decide +kernel), List.mem_of_getElem? (i := 1275) (by decide +kernel)⟩
theorem lw_p73 : lw_okq (⟨"WellLocksModel", "tellChance", "(IZ)I"⟩, 30) := ⟨⟨by decide +kernel, by decide +kernel⟩, List.mem_of_getElem? (i := 871) (by decide +kernel), List.mem_of_getElem? (i := 1290) (by decide +kernel), List.mem_of_getElem? (i := 1291) (by decide +kernel)⟩
theorem lw_p74 : lw_okq (⟨"WellLocksModel", "doLot", "(I)I"⟩, 30) := ⟨⟨by decide +kernel, by decide +kernel⟩, List.mem_of_getElem? (i := 871) (by decide +kernel), List.mem_of_getElem? (i := 1307) (by decide +kernel), List.mem_of_getElem? (i := 1308) (by decide +kernel)⟩
theorem lw_p75 : lw_okq (⟨"WellLocksModel", "countOf", "(I)I"⟩, 30) := ⟨⟨by decide +kernel, by decide +kernel⟩, List.mem_of_getElem? (i := 871) (by decide +kernel), List.mem_of_getElem? (i := 1328) (by decide +kernel), List.mem_of_getElem? (i := 1329) (by decide +kernel)⟩
theorem lw_p76 : lw_okq (⟨"WellLocksModel", "kindMany", "(I)I"⟩, 30) := ⟨⟨by decide +kernel, by decide +kernel⟩, List.mem_of_getElem? (i := 871) (by decide +kernel), List.mem_of_getElem? (i := 1332) (by decide +kernel), List.mem_of_getElem? (i := 1333) (by decide +kernel)⟩
theorem lw_p77 : lw_okq (⟨"WellLocksModel", "thereOf", "(I)I"⟩, 30) := ⟨⟨by decide +kernel, by decide +kernel⟩, List.mem_of_getElem? (i := 871) (by decide +kernel), List.mem_of_getElem? (i := 1336) (by decide +kernel), List.mem_of_getElem? (i := 1337) (by decide +kernel)⟩
def lw_privs_5 : List (MethodName × Nat) := [(⟨"WellLocksModel", "layMeetings", "()V"⟩, 30), (⟨"WellLocksModel", "thirsty", "()I"⟩, 30), (⟨"WellLocksModel", "with", "(II)I"⟩, 30), (⟨"WellLocksModel", "served", "(I)I"⟩, 30), (⟨"WellLocksModel", "nextOrder", "(I)Z"⟩, 30), (⟨"WellLocksModel", "drawnBy", "(I)I"⟩, 30), (⟨"WellLocksModel", "drawnOf", "(I)I"⟩, 30), (⟨"WellLocksModel", "noPairs", "(I)I"⟩, 30), (⟨"WellLocksModel", "layWins", "()V"⟩, 30), (⟨"WellLocksModel", "tellChance", "(IZ)I"⟩, 30), (⟨"WellLocksModel", "doLot", "(I)I"⟩, 30), (⟨"WellLocksModel", "countOf", "(I)I"⟩, 30), (⟨"WellLocksModel", "kindMany", "(I)I"⟩, 30), (⟨"WellLocksModel", "thereOf", "(I)I"⟩, 30)]
theorem lw_r5 : ∀ q ∈ lw_privs_5, lw_okq q := List.forall_mem_cons.mpr ⟨lw_p64, List.forall_mem_cons.mpr ⟨lw_p65, List.forall_mem_cons.mpr ⟨lw_p66, List.forall_mem_cons.mpr ⟨lw_p67, List.forall_mem_cons.mpr ⟨lw_p68, List.forall_mem_cons.mpr ⟨lw_p69, List.forall_mem_cons.mpr ⟨lw_p70, List.forall_mem_cons.mpr ⟨lw_p71, List.forall_mem_cons.mpr ⟨lw_p72, List.forall_mem_cons.mpr ⟨lw_p73, List.forall_mem_cons.mpr ⟨lw_p74, List.forall_mem_cons.mpr ⟨lw_p75, List.forall_mem_cons.mpr ⟨lw_p76, List.forall_mem_cons.mpr ⟨lw_p77, fun _ h => absurd h List.not_mem_nil⟩⟩⟩⟩⟩⟩⟩⟩⟩⟩⟩⟩⟩⟩
def lw_privs : List (MethodName × Nat) := lw_privs_1 ++ (lw_privs_2 ++ (lw_privs_3 ++ (lw_privs_4 ++ (lw_privs_5))))
def lw_tbl : List Cond := k2_sels lw_privs ++ tables_1
theorem lw_privs_ok : ∀ q ∈ lw_privs, lw_okq q := by
  show ∀ q ∈ lw_privs_1 ++ (lw_privs_2 ++ (lw_privs_3 ++ (lw_privs_4 ++ (lw_privs_5)))), lw_okq q
  exact List.forall_mem_append.mpr ⟨lw_r1, List.forall_mem_append.mpr ⟨lw_r2, List.forall_mem_append.mpr ⟨lw_r3, List.forall_mem_append.mpr ⟨lw_r4, lw_r5⟩⟩⟩⟩

/-! ===== BEGIN printed: names, fields, word lists, decode rows ===== -/
def RX0 : String := "WellLocks$Charter"
def TX0 : u_T := fun k => match k with
  | 0 => ("WellLocks$Charter", "need", "I", false)
  | 1 => ("WellLocks$Charter", "firstWater", "I", false)
  | 2 => ("WellLocks$Charter", "comesEachDay", "I", false)
  | 3 => ("WellLocks$Charter", "houses", "I", false)
  | 4 => ("WellLocks$Charter", "feudCount", "I", false)
  | 5 => ("WellLocks$Charter", "kinds", "[I", true)
  | 6 => ("WellLocks$Charter", "heads", "[I", true)
  | _ => ("WellLocks$Charter", "feuds", "[I", true)
def tyX0 : Nat → FieldType := fun k => match k with
  | 0 => .int
  | 1 => .int
  | 2 => .int
  | 3 => .int
  | 4 => .int
  | 5 => .array .int
  | 6 => .array .int
  | _ => .array .int
abbrev wsX00 : List Cond := u_ws RX0 TX0 8
theorem nmX0 : ∀ a, a < 8 → ∀ b, b < 8 → a ≠ b → (TX0 a).2.1 ≠ (TX0 b).2.1 := by decide +kernel
theorem tyX0_ok : ∀ k, k < 8 → parseFieldDescriptor (TX0 k).2.2.1 = some (tyX0 k) := by decide +kernel
abbrev cX0_init : ByteArray := prog_2_method_1_code
def yX0_init : MethodName := ⟨RX0, "<init>", "()V"⟩
abbrev cX0_clear : ByteArray := prog_2_method_2_code
def yX0_clear : MethodName := ⟨RX0, "clear", "()V"⟩
abbrev cX0_addHouse : ByteArray := prog_2_method_3_code
def yX0_addHouse : MethodName := ⟨RX0, "addHouse", "(II)V"⟩
abbrev cX0_addFeud : ByteArray := prog_2_method_4_code
def yX0_addFeud : MethodName := ⟨RX0, "addFeud", "(II)V"⟩
abbrev cX0_isPeaceful : ByteArray := prog_2_method_5_code
def yX0_isPeaceful : MethodName := ⟨RX0, "isPeaceful", "(I)Z"⟩
abbrev cX0_wants : ByteArray := prog_2_method_6_code
def yX0_wants : MethodName := ⟨RX0, "wants", "(I)I"⟩
abbrev cX0_howManyOf : ByteArray := prog_2_method_7_code
def yX0_howManyOf : MethodName := ⟨RX0, "howManyOf", "(I)I"⟩
def RX1 : String := "WellLocks$Deeds"
def TX1 : u_T := fun k => match k with
  | 0 => ("WellLocks$Deeds", "done", "[I", true)
  | _ => ("WellLocks$Deeds", "size", "I", false)
def tyX1 : Nat → FieldType := fun k => match k with
  | 0 => .array .int
  | _ => .int
abbrev wsX10 : List Cond := u_ws RX1 TX1 2
theorem nmX1 : ∀ a, a < 2 → ∀ b, b < 2 → a ≠ b → (TX1 a).2.1 ≠ (TX1 b).2.1 := by decide +kernel
theorem tyX1_ok : ∀ k, k < 2 → parseFieldDescriptor (TX1 k).2.2.1 = some (tyX1 k) := by decide +kernel
abbrev cX1_init : ByteArray := prog_3_method_1_code
def yX1_init : MethodName := ⟨RX1, "<init>", "(I)V"⟩
abbrev cX1_isFull : ByteArray := prog_3_method_2_code
def yX1_isFull : MethodName := ⟨RX1, "isFull", "(I)Z"⟩
abbrev cX1_add : ByteArray := prog_3_method_3_code
def yX1_add : MethodName := ⟨RX1, "add", "(I)V"⟩
abbrev cX1_take : ByteArray := prog_3_method_4_code
def yX1_take : MethodName := ⟨RX1, "take", "(LWellLocks$Deeds;)V"⟩
def RX2 : String := "WellLocks$Reader"
def TX2 : u_T := fun k => match k with
  | 0 => ("WellLocks$Reader", "texts", "LWellLocks$Shelf;", true)
  | 1 => ("WellLocks$Reader", "signs", "[I", true)
  | 2 => ("WellLocks$Reader", "charter", "LWellLocks$Charter;", false)
  | 3 => ("WellLocks$Reader", "size", "I", false)
  | _ => ("WellLocks$Reader", "place", "I", false)
def tyX2 : Nat → FieldType := fun k => match k with
  | 0 => .object "WellLocks$Shelf"
  | 1 => .array .int
  | 2 => .object "WellLocks$Charter"
  | 3 => .int
  | _ => .int
abbrev wsX20 : List Cond := u_ws RX2 TX2 5
theorem nmX2 : ∀ a, a < 5 → ∀ b, b < 5 → a ≠ b → (TX2 a).2.1 ≠ (TX2 b).2.1 := by decide +kernel
theorem tyX2_ok : ∀ k, k < 5 → parseFieldDescriptor (TX2 k).2.2.1 = some (tyX2 k) := by decide +kernel
abbrev cX2_init : ByteArray := prog_4_method_1_code
def yX2_init : MethodName := ⟨RX2, "<init>", "(LWellLocks$Shelf;)V"⟩
abbrev cX2_handOver : ByteArray := prog_4_method_2_code
def yX2_handOver : MethodName := ⟨RX2, "handOver", "(LWellLocks$Charter;)LWellLocks$Charter;"⟩
abbrev cX2_read : ByteArray := prog_4_method_3_code
def yX2_read : MethodName := ⟨RX2, "read", "(I)I"⟩
abbrev cX2_sign : ByteArray := prog_4_method_4_code
def yX2_sign : MethodName := ⟨RX2, "sign", "()I"⟩
abbrev cX2_skipBlanks : ByteArray := prog_4_method_5_code
def yX2_skipBlanks : MethodName := ⟨RX2, "skipBlanks", "()V"⟩
abbrev cX2_figure : ByteArray := prog_4_method_6_code
def yX2_figure : MethodName := ⟨RX2, "figure", "(II)I"⟩
abbrev cX2_takeFigure : ByteArray := prog_4_method_7_code
def yX2_takeFigure : MethodName := ⟨RX2, "takeFigure", "(II)I"⟩
abbrev cX2_readPeace : ByteArray := prog_4_method_8_code
def yX2_readPeace : MethodName := ⟨RX2, "readPeace", "()Z"⟩
abbrev cX2_readItem : ByteArray := prog_4_method_9_code
def yX2_readItem : MethodName := ⟨RX2, "readItem", "()Z"⟩
abbrev cX2_readHouse : ByteArray := prog_4_method_10_code
def yX2_readHouse : MethodName := ⟨RX2, "readHouse", "()Z"⟩
abbrev cX2_readFeud : ByteArray := prog_4_method_11_code
def yX2_readFeud : MethodName := ⟨RX2, "readFeud", "()Z"⟩
abbrev cX2_kindOf : ByteArray := prog_4_method_12_code
def yX2_kindOf : MethodName := ⟨RX2, "kindOf", "(I)I"⟩
def RX3 : String := "WellLocks$Shelf"
def TX3 : u_T := fun k => match k with
  | 0 => ("WellLocks$Shelf", "most", "I", true)
  | 1 => ("WellLocks$Shelf", "cells", "[[I", true)
  | _ => ("WellLocks$Shelf", "sizes", "[I", true)
def tyX3 : Nat → FieldType := fun k => match k with
  | 0 => .int
  | 1 => .array (.array .int)
  | _ => .array .int
abbrev wsX30 : List Cond := u_ws RX3 TX3 3
theorem nmX3 : ∀ a, a < 3 → ∀ b, b < 3 → a ≠ b → (TX3 a).2.1 ≠ (TX3 b).2.1 := by decide +kernel
theorem tyX3_ok : ∀ k, k < 3 → parseFieldDescriptor (TX3 k).2.2.1 = some (tyX3 k) := by decide +kernel
abbrev cX3_init : ByteArray := prog_5_method_1_code
def yX3_init : MethodName := ⟨RX3, "<init>", "(II)V"⟩
abbrev cX3_isNumber : ByteArray := prog_5_method_2_code
def yX3_isNumber : MethodName := ⟨RX3, "isNumber", "(I)Z"⟩
abbrev cX3_isThere : ByteArray := prog_5_method_3_code
def yX3_isThere : MethodName := ⟨RX3, "isThere", "(I)Z"⟩
abbrev cX3_isPlace : ByteArray := prog_5_method_4_code
def yX3_isPlace : MethodName := ⟨RX3, "isPlace", "(II)Z"⟩
abbrev cX3_hasRun : ByteArray := prog_5_method_5_code
def yX3_hasRun : MethodName := ⟨RX3, "hasRun", "(III)Z"⟩
abbrev cX3_sizeOf : ByteArray := prog_5_method_6_code
def yX3_sizeOf : MethodName := ⟨RX3, "sizeOf", "(I)I"⟩
abbrev cX3_get : ByteArray := prog_5_method_7_code
def yX3_get : MethodName := ⟨RX3, "get", "(II)I"⟩
abbrev cX3_set : ByteArray := prog_5_method_8_code
def yX3_set : MethodName := ⟨RX3, "set", "(III)V"⟩
abbrev cX3_make : ByteArray := prog_5_method_9_code
def yX3_make : MethodName := ⟨RX3, "make", "(III)V"⟩
abbrev cX3_drop : ByteArray := prog_5_method_10_code
def yX3_drop : MethodName := ⟨RX3, "drop", "(I)V"⟩
abbrev cX3_move : ByteArray := prog_5_method_11_code
def yX3_move : MethodName := ⟨RX3, "move", "(IIIII)V"⟩
abbrev cX3_copyInto : ByteArray := prog_5_method_12_code
def yX3_copyInto : MethodName := ⟨RX3, "copyInto", "(I[I)I"⟩
abbrev cX3_sumOf : ByteArray := prog_5_method_13_code
def yX3_sumOf : MethodName := ⟨RX3, "sumOf", "(I)J"⟩
abbrev cX3_howManyThere : ByteArray := prog_5_method_14_code
def yX3_howManyThere : MethodName := ⟨RX3, "howManyThere", "()I"⟩
abbrev cX3_fold : ByteArray := prog_5_method_15_code
def yX3_fold : MethodName := ⟨RX3, "fold", "(J)J"⟩
def RX4 : String := "WellLocks$Survey"
def TX4 : u_T := fun k => match k with
  | 0 => ("WellLocks$Survey", "open", "[Z", true)
  | 1 => ("WellLocks$Survey", "meetingsFor", "[I", true)
  | 2 => ("WellLocks$Survey", "well", "LWellLocks$Well;", true)
  | _ => ("WellLocks$Survey", "sets", "I", false)
def tyX4 : Nat → FieldType := fun k => match k with
  | 0 => .array .boolean
  | 1 => .array .int
  | 2 => .object "WellLocks$Well"
  | _ => .int
abbrev wsX40 : List Cond := u_ws RX4 TX4 4
theorem nmX4 : ∀ a, a < 4 → ∀ b, b < 4 → a ≠ b → (TX4 a).2.1 ≠ (TX4 b).2.1 := by decide +kernel
theorem tyX4_ok : ∀ k, k < 4 → parseFieldDescriptor (TX4 k).2.2.1 = some (tyX4 k) := by decide +kernel
abbrev cX4_init : ByteArray := prog_6_method_1_code
def yX4_init : MethodName := ⟨RX4, "<init>", "(LWellLocks$Well;)V"⟩
abbrev cX4_look : ByteArray := prog_6_method_2_code
def yX4_look : MethodName := ⟨RX4, "look", "()V"⟩
abbrev cX4_keepThoseWhoDraw : ByteArray := prog_6_method_3_code
def yX4_keepThoseWhoDraw : MethodName := ⟨RX4, "keepThoseWhoDraw", "(I)V"⟩
abbrev cX4_howManyOpen : ByteArray := prog_6_method_4_code
def yX4_howManyOpen : MethodName := ⟨RX4, "howManyOpen", "()I"⟩
abbrev cX4_fewest : ByteArray := prog_6_method_5_code
def yX4_fewest : MethodName := ⟨RX4, "fewest", "()I"⟩
abbrev cX4_inAll : ByteArray := prog_6_method_6_code
def yX4_inAll : MethodName := ⟨RX4, "inAll", "()I"⟩
abbrev cX4_inAny : ByteArray := prog_6_method_7_code
def yX4_inAny : MethodName := ⟨RX4, "inAny", "()I"⟩
abbrev cX4_decidedBy : ByteArray := prog_6_method_8_code
def yX4_decidedBy : MethodName := ⟨RX4, "decidedBy", "(I)I"⟩
abbrev cX4_fewestToCover : ByteArray := prog_6_method_9_code
def yX4_fewestToCover : MethodName := ⟨RX4, "fewestToCover", "(I)I"⟩
abbrev cX4_fewestToCoverByLesser : ByteArray := prog_6_method_10_code
def yX4_fewestToCoverByLesser : MethodName := ⟨RX4, "fewestToCoverByLesser", "(I)I"⟩
abbrev cX4_layCover : ByteArray := prog_6_method_11_code
def yX4_layCover : MethodName := ⟨RX4, "layCover", "(ILWellLocks$Shelf;I)V"⟩
abbrev cX4_leastThatHelps : ByteArray := prog_6_method_12_code
def yX4_leastThatHelps : MethodName := ⟨RX4, "leastThatHelps", "(I)I"⟩
abbrev cX4_winningCall : ByteArray := prog_6_method_13_code
def yX4_winningCall : MethodName := ⟨RX4, "winningCall", "()I"⟩
abbrev cX4_callerWins : ByteArray := prog_6_method_14_code
def yX4_callerWins : MethodName := ⟨RX4, "callerWins", "(IIZ)Z"⟩
abbrev cX4_waysToCome : ByteArray := prog_6_method_15_code
def yX4_waysToCome : MethodName := ⟨RX4, "waysToCome", "(II)J"⟩
abbrev cX4_waysToOpen : ByteArray := prog_6_method_16_code
def yX4_waysToOpen : MethodName := ⟨RX4, "waysToOpen", "(I)J"⟩
abbrev cX4_bucketsInAllWays : ByteArray := prog_6_method_17_code
def yX4_bucketsInAllWays : MethodName := ⟨RX4, "bucketsInAllWays", "(I)J"⟩
def RX5 : String := "WellLocks$Well"
def TX5 : u_T := fun k => match k with
  | 0 => ("WellLocks$Well", "charter", "LWellLocks$Charter;", false)
  | 1 => ("WellLocks$Well", "deeds", "LWellLocks$Deeds;", true)
  | 2 => ("WellLocks$Well", "holders", "[I", true)
  | 3 => ("WellLocks$Well", "drawnToday", "[I", true)
  | 4 => ("WellLocks$Well", "drawnInAll", "[I", true)
  | 5 => ("WellLocks$Well", "water", "I", false)
  | _ => ("WellLocks$Well", "dayNumber", "I", false)
def tyX5 : Nat → FieldType := fun k => match k with
  | 0 => .object "WellLocks$Charter"
  | 1 => .object "WellLocks$Deeds"
  | 2 => .array .int
  | 3 => .array .int
  | 4 => .array .int
  | 5 => .int
  | _ => .int
abbrev wsX50 : List Cond := u_ws RX5 TX5 7
theorem nmX5 : ∀ a, a < 7 → ∀ b, b < 7 → a ≠ b → (TX5 a).2.1 ≠ (TX5 b).2.1 := by decide +kernel
theorem tyX5_ok : ∀ k, k < 7 → parseFieldDescriptor (TX5 k).2.2.1 = some (tyX5 k) := by decide +kernel
abbrev cX5_init : ByteArray := prog_7_method_1_code
def yX5_init : MethodName := ⟨RX5, "<init>", "()V"⟩
abbrev cX5_begin : ByteArray := prog_7_method_2_code
def yX5_begin : MethodName := ⟨RX5, "begin", "(LWellLocks$Charter;)V"⟩
abbrev cX5_replay : ByteArray := prog_7_method_3_code
def yX5_replay : MethodName := ⟨RX5, "replay", "()V"⟩
abbrev cX5_perform : ByteArray := prog_7_method_4_code
def yX5_perform : MethodName := ⟨RX5, "perform", "(I)I"⟩
abbrev cX5_apply : ByteArray := prog_7_method_5_code
def yX5_apply : MethodName := ⟨RX5, "apply", "(I)I"⟩
abbrev cX5_drawInTurn : ByteArray := prog_7_method_6_code
def yX5_drawInTurn : MethodName := ⟨RX5, "drawInTurn", "(I)I"⟩
abbrev cX5_giveKey : ByteArray := prog_7_method_7_code
def yX5_giveKey : MethodName := ⟨RX5, "giveKey", "(II)V"⟩
abbrev cX5_passDay : ByteArray := prog_7_method_8_code
def yX5_passDay : MethodName := ⟨RX5, "passDay", "()V"⟩
abbrev cX5_houses : ByteArray := prog_7_method_9_code
def yX5_houses : MethodName := ⟨RX5, "houses", "()I"⟩
abbrev cX5_sets : ByteArray := prog_7_method_10_code
def yX5_sets : MethodName := ⟨RX5, "sets", "()I"⟩
abbrev cX5_isHouse : ByteArray := prog_7_method_11_code
def yX5_isHouse : MethodName := ⟨RX5, "isHouse", "(I)Z"⟩
abbrev cX5_isSet : ByteArray := prog_7_method_12_code
def yX5_isSet : MethodName := ⟨RX5, "isSet", "(I)Z"⟩
abbrev cX5_keyWeight : ByteArray := prog_7_method_13_code
def yX5_keyWeight : MethodName := ⟨RX5, "keyWeight", "(I)I"⟩
abbrev cX5_weightOf : ByteArray := prog_7_method_14_code
def yX5_weightOf : MethodName := ⟨RX5, "weightOf", "(I)I"⟩
abbrev cX5_wouldOpen : ByteArray := prog_7_method_15_code
def yX5_wouldOpen : MethodName := ⟨RX5, "wouldOpen", "(III)Z"⟩
abbrev cX5_isOpenTo : ByteArray := prog_7_method_16_code
def yX5_isOpenTo : MethodName := ⟨RX5, "isOpenTo", "(I)Z"⟩
abbrev cX5_factOf : ByteArray := prog_7_method_17_code
def yX5_factOf : MethodName := ⟨RX5, "factOf", "(II)I"⟩
abbrev cX5_markOf : ByteArray := prog_7_method_18_code
def yX5_markOf : MethodName := ⟨RX5, "markOf", "(II)I"⟩
abbrev cX5_othersNeededByAll : ByteArray := prog_7_method_19_code
def yX5_othersNeededByAll : MethodName := ⟨RX5, "othersNeededByAll", "(I)I"⟩
abbrev cX5_keysHeldBy : ByteArray := prog_7_method_20_code
def yX5_keysHeldBy : MethodName := ⟨RX5, "keysHeldBy", "(I)I"⟩
abbrev cX5_ordersDecidedBy : ByteArray := prog_7_method_21_code
def yX5_ordersDecidedBy : MethodName := ⟨RX5, "ordersDecidedBy", "(I)J"⟩
abbrev cX5_wantsYet : ByteArray := prog_7_method_22_code
def yX5_wantsYet : MethodName := ⟨RX5, "wantsYet", "(I)I"⟩
abbrev cX5_thirsty : ByteArray := prog_7_method_23_code
def yX5_thirsty : MethodName := ⟨RX5, "thirsty", "()I"⟩
abbrev cX5_drawnBy : ByteArray := prog_7_method_24_code
def yX5_drawnBy : MethodName := ⟨RX5, "drawnBy", "(I)I"⟩
abbrev cX5_drawnByShares : ByteArray := prog_7_method_25_code
def yX5_drawnByShares : MethodName := ⟨RX5, "drawnByShares", "(I)I"⟩
abbrev cX5_mostServed : ByteArray := prog_7_method_26_code
def yX5_mostServed : MethodName := ⟨RX5, "mostServed", "(II)I"⟩
abbrev cX5_layBestOrder : ByteArray := prog_7_method_27_code
def yX5_layBestOrder : MethodName := ⟨RX5, "layBestOrder", "(ILWellLocks$Shelf;I)V"⟩
abbrev cX5_nextBest : ByteArray := prog_7_method_28_code
def yX5_nextBest : MethodName := ⟨RX5, "nextBest", "(II)I"⟩
def RX6 : String := "WellLocks"
def TX6 : u_T := fun k => match k with
  | 0 => ("WellLocks", "rows", "LWellLocks$Shelf;", true)
  | 1 => ("WellLocks", "texts", "LWellLocks$Shelf;", true)
  | 2 => ("WellLocks", "reader", "LWellLocks$Reader;", true)
  | 3 => ("WellLocks", "well", "LWellLocks$Well;", true)
  | 4 => ("WellLocks", "survey", "LWellLocks$Survey;", true)
  | 5 => ("WellLocks", "kept", "[LWellLocks$Deeds;", true)
  | 6 => ("WellLocks", "findingCounts", "[I", true)
  | 7 => ("WellLocks", "latestFinding", "I", false)
  | 8 => ("WellLocks", "lastAsked", "I", false)
  | 9 => ("WellLocks", "lastUpper", "J", false)
  | _ => ("WellLocks", "lastLower", "J", false)
def tyX6 : Nat → FieldType := fun k => match k with
  | 0 => .object "WellLocks$Shelf"
  | 1 => .object "WellLocks$Shelf"
  | 2 => .object "WellLocks$Reader"
  | 3 => .object "WellLocks$Well"
  | 4 => .object "WellLocks$Survey"
  | 5 => .array (.object "WellLocks$Deeds")
  | 6 => .array .int
  | 7 => .int
  | 8 => .int
  | 9 => .long
  | _ => .long
abbrev wsX60 : List Cond := u_ws RX6 TX6 11
theorem nmX6 : ∀ a, a < 11 → ∀ b, b < 11 → a ≠ b → (TX6 a).2.1 ≠ (TX6 b).2.1 := by decide +kernel
theorem tyX6_ok : ∀ k, k < 11 → parseFieldDescriptor (TX6 k).2.2.1 = some (tyX6 k) := by decide +kernel
abbrev cX6_init : ByteArray := prog_1_method_1_code
def yX6_init : MethodName := ⟨RX6, "<init>", "()V"⟩
abbrev cX6_row : ByteArray := prog_1_method_2_code
def yX6_row : MethodName := ⟨RX6, "row", "(II)I"⟩
abbrev cX6_lay : ByteArray := prog_1_method_3_code
def yX6_lay : MethodName := ⟨RX6, "lay", "(III)I"⟩
abbrev cX6_at : ByteArray := prog_1_method_4_code
def yX6_at : MethodName := ⟨RX6, "at", "(II)I"⟩
abbrev cX6_tear : ByteArray := prog_1_method_5_code
def yX6_tear : MethodName := ⟨RX6, "tear", "(I)I"⟩
abbrev cX6_copy : ByteArray := prog_1_method_6_code
def yX6_copy : MethodName := ⟨RX6, "copy", "(IIIII)I"⟩
abbrev cX6_mean : ByteArray := prog_1_method_7_code
def yX6_mean : MethodName := ⟨RX6, "mean", "(I)I"⟩
abbrev cX6_text : ByteArray := prog_1_method_8_code
def yX6_text : MethodName := ⟨RX6, "text", "(II)I"⟩
abbrev cX6_put : ByteArray := prog_1_method_9_code
def yX6_put : MethodName := ⟨RX6, "put", "(III)I"⟩
abbrev cX6_fault : ByteArray := prog_1_method_10_code
def yX6_fault : MethodName := ⟨RX6, "fault", "(I)I"⟩
abbrev cX6_well : ByteArray := prog_1_method_11_code
def yX6_well : MethodName := ⟨RX6, "well", "(I)I"⟩
abbrev cX6_house : ByteArray := prog_1_method_12_code
def yX6_house : MethodName := ⟨RX6, "house", "(II)I"⟩
abbrev cX6_mark : ByteArray := prog_1_method_13_code
def yX6_mark : MethodName := ⟨RX6, "mark", "(II)I"⟩
abbrev cX6_meet : ByteArray := prog_1_method_14_code
def yX6_meet : MethodName := ⟨RX6, "meet", "(I)I"⟩
abbrev cX6_pledge : ByteArray := prog_1_method_15_code
def yX6_pledge : MethodName := ⟨RX6, "pledge", "(II)I"⟩
abbrev cX6_day : ByteArray := prog_1_method_16_code
def yX6_day : MethodName := ⟨RX6, "day", "()I"⟩
abbrev cX6_undo : ByteArray := prog_1_method_17_code
def yX6_undo : MethodName := ⟨RX6, "undo", "(I)I"⟩
abbrev cX6_keep : ByteArray := prog_1_method_18_code
def yX6_keep : MethodName := ⟨RX6, "keep", "(I)I"⟩
abbrev cX6_on : ByteArray := prog_1_method_19_code
def yX6_on : MethodName := ⟨RX6, "on", "(I)I"⟩
abbrev cX6_weight : ByteArray := prog_1_method_20_code
def yX6_weight : MethodName := ⟨RX6, "weight", "(I)I"⟩
abbrev cX6_opens : ByteArray := prog_1_method_21_code
def yX6_opens : MethodName := ⟨RX6, "opens", "()I"⟩
abbrev cX6_must : ByteArray := prog_1_method_22_code
def yX6_must : MethodName := ⟨RX6, "must", "()I"⟩
abbrev cX6_holds : ByteArray := prog_1_method_23_code
def yX6_holds : MethodName := ⟨RX6, "holds", "(I)I"⟩
abbrev cX6_part : ByteArray := prog_1_method_24_code
def yX6_part : MethodName := ⟨RX6, "part", "(I)I"⟩
abbrev cX6_drink : ByteArray := prog_1_method_25_code
def yX6_drink : MethodName := ⟨RX6, "drink", "(I)I"⟩
abbrev cX6_best : ByteArray := prog_1_method_26_code
def yX6_best : MethodName := ⟨RX6, "best", "(II)I"⟩
abbrev cX6_ration : ByteArray := prog_1_method_27_code
def yX6_ration : MethodName := ⟨RX6, "ration", "()I"⟩
abbrev cX6_frogs : ByteArray := prog_1_method_28_code
def yX6_frogs : MethodName := ⟨RX6, "frogs", "(I)I"⟩
abbrev cX6_twice : ByteArray := prog_1_method_29_code
def yX6_twice : MethodName := ⟨RX6, "twice", "(I)I"⟩
abbrev cX6_quorum : ByteArray := prog_1_method_30_code
def yX6_quorum : MethodName := ⟨RX6, "quorum", "(I)I"⟩
abbrev cX6_call : ByteArray := prog_1_method_31_code
def yX6_call : MethodName := ⟨RX6, "call", "()I"⟩
abbrev cX6_first : ByteArray := prog_1_method_32_code
def yX6_first : MethodName := ⟨RX6, "first", "()I"⟩
abbrev cX6_odds : ByteArray := prog_1_method_33_code
def yX6_odds : MethodName := ⟨RX6, "odds", "(I)I"⟩
abbrev cX6_mid : ByteArray := prog_1_method_34_code
def yX6_mid : MethodName := ⟨RX6, "mid", "(I)I"⟩
abbrev cX6_lots : ByteArray := prog_1_method_35_code
def yX6_lots : MethodName := ⟨RX6, "lots", "(II)I"⟩
abbrev cX6_asked : ByteArray := prog_1_method_36_code
def yX6_asked : MethodName := ⟨RX6, "asked", "()I"⟩
abbrev cX6_upper : ByteArray := prog_1_method_37_code
def yX6_upper : MethodName := ⟨RX6, "upper", "()J"⟩
abbrev cX6_lower : ByteArray := prog_1_method_38_code
def yX6_lower : MethodName := ⟨RX6, "lower", "()J"⟩
abbrev cX6_count : ByteArray := prog_1_method_39_code
def yX6_count : MethodName := ⟨RX6, "count", "(I)I"⟩
abbrev cX6_finding : ByteArray := prog_1_method_40_code
def yX6_finding : MethodName := ⟨RX6, "finding", "()I"⟩
abbrev cX6_findings : ByteArray := prog_1_method_41_code
def yX6_findings : MethodName := ⟨RX6, "findings", "(I)I"⟩
abbrev cX6_digest : ByteArray := prog_1_method_42_code
def yX6_digest : MethodName := ⟨RX6, "digest", "()J"⟩
abbrev cX6_refuse : ByteArray := prog_1_method_43_code
def yX6_refuse : MethodName := ⟨RX6, "refuse", "(I)I"⟩
abbrev cX6_refusalOf : ByteArray := prog_1_method_44_code
def yX6_refusalOf : MethodName := ⟨RX6, "refusalOf", "(LWellLocks$Shelf;I)I"⟩
abbrev cX6_refusalOfPlace : ByteArray := prog_1_method_45_code
def yX6_refusalOfPlace : MethodName := ⟨RX6, "refusalOfPlace", "(LWellLocks$Shelf;II)I"⟩
abbrev cX6_refusalOfPairs : ByteArray := prog_1_method_46_code
def yX6_refusalOfPairs : MethodName := ⟨RX6, "refusalOfPairs", "(I)I"⟩
abbrev cX6_refusalOfChance : ByteArray := prog_1_method_47_code
def yX6_refusalOfChance : MethodName := ⟨RX6, "refusalOfChance", "(I)I"⟩
abbrev cX6_makeOn : ByteArray := prog_1_method_48_code
def yX6_makeOn : MethodName := ⟨RX6, "makeOn", "(LWellLocks$Shelf;III)I"⟩
abbrev cX6_tell : ByteArray := prog_1_method_49_code
def yX6_tell : MethodName := ⟨RX6, "tell", "(JJ)V"⟩
abbrev cX6_countOf : ByteArray := prog_1_method_50_code
def yX6_countOf : MethodName := ⟨RX6, "countOf", "(I)I"⟩
abbrev cX6_keptWells : ByteArray := prog_1_method_51_code
def yX6_keptWells : MethodName := ⟨RX6, "keptWells", "()I"⟩
abbrev cX6_setInRow : ByteArray := prog_1_method_52_code
def yX6_setInRow : MethodName := ⟨RX6, "setInRow", "(I)I"⟩
abbrev cX6_meetingInRow : ByteArray := prog_1_method_53_code
def yX6_meetingInRow : MethodName := ⟨RX6, "meetingInRow", "(I)I"⟩
abbrev cX6_fitsDouble : ByteArray := prog_1_method_54_code
def yX6_fitsDouble : MethodName := ⟨RX6, "fitsDouble", "(II)Z"⟩
abbrev cX6_fitsNeed : ByteArray := prog_1_method_55_code
def yX6_fitsNeed : MethodName := ⟨RX6, "fitsNeed", "(II)Z"⟩
abbrev cX6_isIn : ByteArray := prog_1_method_56_code
def yX6_isIn : MethodName := ⟨RX6, "isIn", "(II)Z"⟩
abbrev cX6_isOfKind : ByteArray := prog_1_method_57_code
def yX6_isOfKind : MethodName := ⟨RX6, "isOfKind", "(II)Z"⟩
abbrev cX6_pledgeDeed : ByteArray := prog_1_method_58_code
def yX6_pledgeDeed : MethodName := ⟨RX6, "pledgeDeed", "(II)I"⟩
abbrev cX6_joinMeeting : ByteArray := prog_1_method_59_code
def yX6_joinMeeting : MethodName := ⟨RX6, "joinMeeting", "(II)I"⟩
abbrev cX6_meetingRising : ByteArray := prog_1_method_60_code
def yX6_meetingRising : MethodName := ⟨RX6, "meetingRising", "(I)I"⟩
abbrev cX6_factorial : ByteArray := prog_1_method_61_code
def yX6_factorial : MethodName := ⟨RX6, "factorial", "(I)J"⟩
abbrev cX6_power : ByteArray := prog_1_method_62_code
def yX6_power : MethodName := ⟨RX6, "power", "(II)J"⟩
abbrev cX6_greatestDivisor : ByteArray := prog_1_method_63_code
def yX6_greatestDivisor : MethodName := ⟨RX6, "greatestDivisor", "(JJ)J"⟩
def RX7 : String := "WellLocksModel"
def TX7 : u_T := fun k => match k with
  | 0 => ("WellLocksModel", "row", "[I", true)
  | 1 => ("WellLocksModel", "due", "I", false)
  | 2 => ("WellLocksModel", "comes", "I", false)
  | 3 => ("WellLocksModel", "houses", "I", false)
  | 4 => ("WellLocksModel", "kinds", "[I", true)
  | 5 => ("WellLocksModel", "heads", "[I", true)
  | 6 => ("WellLocksModel", "feuds", "[I", true)
  | 7 => ("WellLocksModel", "feudMany", "I", false)
  | 8 => ("WellLocksModel", "sizes", "[I", true)
  | 9 => ("WellLocksModel", "items", "[I", true)
  | 10 => ("WellLocksModel", "lengths", "[I", true)
  | 11 => ("WellLocksModel", "bytes", "[I", true)
  | 12 => ("WellLocksModel", "asked", "I", false)
  | 13 => ("WellLocksModel", "upper", "J", false)
  | 14 => ("WellLocksModel", "lower", "J", false)
  | 15 => ("WellLocksModel", "finding", "I", false)
  | 16 => ("WellLocksModel", "findings", "[I", true)
  | 17 => ("WellLocksModel", "from", "I", false)
  | 18 => ("WellLocksModel", "place", "I", false)
  | 19 => ("WellLocksModel", "end", "I", false)
  | 20 => ("WellLocksModel", "readDue", "I", false)
  | 21 => ("WellLocksModel", "readWater", "I", false)
  | 22 => ("WellLocksModel", "readComes", "I", false)
  | 23 => ("WellLocksModel", "readHouses", "[I", true)
  | 24 => ("WellLocksModel", "readMany", "I", false)
  | 25 => ("WellLocksModel", "readFeuds", "[I", true)
  | 26 => ("WellLocksModel", "readFeudMany", "I", false)
  | 27 => ("WellLocksModel", "meetings", "[I", true)
  | 28 => ("WellLocksModel", "order", "[I", true)
  | _ => ("WellLocksModel", "wins", "[Z", true)
def tyX7 : Nat → FieldType := fun k => match k with
  | 0 => .array .int
  | 1 => .int
  | 2 => .int
  | 3 => .int
  | 4 => .array .int
  | 5 => .array .int
  | 6 => .array .int
  | 7 => .int
  | 8 => .array .int
  | 9 => .array .int
  | 10 => .array .int
  | 11 => .array .int
  | 12 => .int
  | 13 => .long
  | 14 => .long
  | 15 => .int
  | 16 => .array .int
  | 17 => .int
  | 18 => .int
  | 19 => .int
  | 20 => .int
  | 21 => .int
  | 22 => .int
  | 23 => .array .int
  | 24 => .int
  | 25 => .array .int
  | 26 => .int
  | 27 => .array .int
  | 28 => .array .int
  | _ => .array .boolean
abbrev wsX70 : List Cond := u_ws RX7 TX7 30
theorem nmX7 : ∀ a, a < 30 → ∀ b, b < 30 → a ≠ b → (TX7 a).2.1 ≠ (TX7 b).2.1 := by decide +kernel
theorem tyX7_ok : ∀ k, k < 30 → parseFieldDescriptor (TX7 k).2.2.1 = some (tyX7 k) := by decide +kernel
abbrev cX7_init : ByteArray := prog_9_method_1_code
def yX7_init : MethodName := ⟨RX7, "<init>", "()V"⟩
abbrev cX7_bits : ByteArray := prog_9_method_2_code
def yX7_bits : MethodName := ⟨RX7, "bits", "(I)I"⟩
abbrev cX7_in : ByteArray := prog_9_method_3_code
def yX7_in : MethodName := ⟨RX7, "in", "(JJJ)Z"⟩
abbrev cX7_has : ByteArray := prog_9_method_4_code
def yX7_has : MethodName := ⟨RX7, "has", "(II)Z"⟩
abbrev cX7_find : ByteArray := prog_9_method_5_code
def yX7_find : MethodName := ⟨RX7, "find", "(I)I"⟩
abbrev cX7_tell : ByteArray := prog_9_method_6_code
def yX7_tell : MethodName := ⟨RX7, "tell", "(I)I"⟩
abbrev cX7_isRow : ByteArray := prog_9_method_7_code
def yX7_isRow : MethodName := ⟨RX7, "isRow", "(I)Z"⟩
abbrev cX7_isText : ByteArray := prog_9_method_8_code
def yX7_isText : MethodName := ⟨RX7, "isText", "(I)Z"⟩
abbrev cX7_row : ByteArray := prog_9_method_9_code
def yX7_row : MethodName := ⟨RX7, "row", "(II)I"⟩
abbrev cX7_makeRow : ByteArray := prog_9_method_10_code
def yX7_makeRow : MethodName := ⟨RX7, "makeRow", "(II)V"⟩
abbrev cX7_refused : ByteArray := prog_9_method_11_code
def yX7_refused : MethodName := ⟨RX7, "refused", "(II)I"⟩
abbrev cX7_lay : ByteArray := prog_9_method_12_code
def yX7_lay : MethodName := ⟨RX7, "lay", "(III)I"⟩
abbrev cX7_at : ByteArray := prog_9_method_13_code
def yX7_at : MethodName := ⟨RX7, "at", "(II)I"⟩
abbrev cX7_tear : ByteArray := prog_9_method_14_code
def yX7_tear : MethodName := ⟨RX7, "tear", "(I)I"⟩
abbrev cX7_isSpan : ByteArray := prog_9_method_15_code
def yX7_isSpan : MethodName := ⟨RX7, "isSpan", "(III)Z"⟩
abbrev cX7_copy : ByteArray := prog_9_method_16_code
def yX7_copy : MethodName := ⟨RX7, "copy", "(IIIII)I"⟩
abbrev cX7_mean : ByteArray := prog_9_method_17_code
def yX7_mean : MethodName := ⟨RX7, "mean", "(I)I"⟩
abbrev cX7_text : ByteArray := prog_9_method_18_code
def yX7_text : MethodName := ⟨RX7, "text", "(II)I"⟩
abbrev cX7_put : ByteArray := prog_9_method_19_code
def yX7_put : MethodName := ⟨RX7, "put", "(III)I"⟩
abbrev cX7_here : ByteArray := prog_9_method_20_code
def yX7_here : MethodName := ⟨RX7, "here", "()I"⟩
abbrev cX7_skip : ByteArray := prog_9_method_21_code
def yX7_skip : MethodName := ⟨RX7, "skip", "()V"⟩
abbrev cX7_figure : ByteArray := prog_9_method_22_code
def yX7_figure : MethodName := ⟨RX7, "figure", "(II)I"⟩
abbrev cX7_readsWell : ByteArray := prog_9_method_23_code
def yX7_readsWell : MethodName := ⟨RX7, "readsWell", "()Z"⟩
abbrev cX7_kindOfLetter : ByteArray := prog_9_method_24_code
def yX7_kindOfLetter : MethodName := ⟨RX7, "kindOfLetter", "(I)I"⟩
abbrev cX7_readsHouse : ByteArray := prog_9_method_25_code
def yX7_readsHouse : MethodName := ⟨RX7, "readsHouse", "()Z"⟩
abbrev cX7_readsFeud : ByteArray := prog_9_method_26_code
def yX7_readsFeud : MethodName := ⟨RX7, "readsFeud", "()Z"⟩
abbrev cX7_faultOf : ByteArray := prog_9_method_27_code
def yX7_faultOf : MethodName := ⟨RX7, "faultOf", "(I)I"⟩
abbrev cX7_fault : ByteArray := prog_9_method_28_code
def yX7_fault : MethodName := ⟨RX7, "fault", "(I)I"⟩
abbrev cX7_well : ByteArray := prog_9_method_29_code
def yX7_well : MethodName := ⟨RX7, "well", "(I)I"⟩
abbrev cX7_isHouse : ByteArray := prog_9_method_30_code
def yX7_isHouse : MethodName := ⟨RX7, "isHouse", "(I)Z"⟩
abbrev cX7_all : ByteArray := prog_9_method_31_code
def yX7_all : MethodName := ⟨RX7, "all", "()I"⟩
abbrev cX7_isSet : ByteArray := prog_9_method_32_code
def yX7_isSet : MethodName := ⟨RX7, "isSet", "(I)Z"⟩
abbrev cX7_keyWeight : ByteArray := prog_9_method_33_code
def yX7_keyWeight : MethodName := ⟨RX7, "keyWeight", "(I)I"⟩
abbrev cX7_weightOf : ByteArray := prog_9_method_34_code
def yX7_weightOf : MethodName := ⟨RX7, "weightOf", "(I)I"⟩
abbrev cX7_isPeace : ByteArray := prog_9_method_35_code
def yX7_isPeace : MethodName := ⟨RX7, "isPeace", "(I)Z"⟩
abbrev cX7_isOpen : ByteArray := prog_9_method_36_code
def yX7_isOpen : MethodName := ⟨RX7, "isOpen", "(I)Z"⟩
abbrev cX7_wants : ByteArray := prog_9_method_37_code
def yX7_wants : MethodName := ⟨RX7, "wants", "(I)I"⟩
abbrev cX7_wantsYet : ByteArray := prog_9_method_38_code
def yX7_wantsYet : MethodName := ⟨RX7, "wantsYet", "(I)I"⟩
abbrev cX7_toldOf : ByteArray := prog_9_method_39_code
def yX7_toldOf : MethodName := ⟨RX7, "toldOf", "(II)I"⟩
abbrev cX7_house : ByteArray := prog_9_method_40_code
def yX7_house : MethodName := ⟨RX7, "house", "(II)I"⟩
abbrev cX7_isOf : ByteArray := prog_9_method_41_code
def yX7_isOf : MethodName := ⟨RX7, "isOf", "(II)Z"⟩
abbrev cX7_needed : ByteArray := prog_9_method_42_code
def yX7_needed : MethodName := ⟨RX7, "needed", "(I)I"⟩
abbrev cX7_keysHeld : ByteArray := prog_9_method_43_code
def yX7_keysHeld : MethodName := ⟨RX7, "keysHeld", "(I)I"⟩
abbrev cX7_mark : ByteArray := prog_9_method_44_code
def yX7_mark : MethodName := ⟨RX7, "mark", "(II)I"⟩
abbrev cX7_keepPast : ByteArray := prog_9_method_45_code
def yX7_keepPast : MethodName := ⟨RX7, "keepPast", "()V"⟩
abbrev cX7_draws : ByteArray := prog_9_method_46_code
def yX7_draws : MethodName := ⟨RX7, "draws", "(I)I"⟩
abbrev cX7_setOf : ByteArray := prog_9_method_47_code
def yX7_setOf : MethodName := ⟨RX7, "setOf", "(I)I"⟩
abbrev cX7_meet : ByteArray := prog_9_method_48_code
def yX7_meet : MethodName := ⟨RX7, "meet", "(I)I"⟩
abbrev cX7_pledge : ByteArray := prog_9_method_49_code
def yX7_pledge : MethodName := ⟨RX7, "pledge", "(II)I"⟩
abbrev cX7_doDay : ByteArray := prog_9_method_50_code
def yX7_doDay : MethodName := ⟨RX7, "doDay", "()I"⟩
abbrev cX7_day : ByteArray := prog_9_method_51_code
def yX7_day : MethodName := ⟨RX7, "day", "()I"⟩
abbrev cX7_undo : ByteArray := prog_9_method_52_code
def yX7_undo : MethodName := ⟨RX7, "undo", "(I)I"⟩
abbrev cX7_copyWell : ByteArray := prog_9_method_53_code
def yX7_copyWell : MethodName := ⟨RX7, "copyWell", "(II)V"⟩
abbrev cX7_keep : ByteArray := prog_9_method_54_code
def yX7_keep : MethodName := ⟨RX7, "keep", "(I)I"⟩
abbrev cX7_on : ByteArray := prog_9_method_55_code
def yX7_on : MethodName := ⟨RX7, "on", "(I)I"⟩
abbrev cX7_weight : ByteArray := prog_9_method_56_code
def yX7_weight : MethodName := ⟨RX7, "weight", "(I)I"⟩
abbrev cX7_tellMany : ByteArray := prog_9_method_57_code
def yX7_tellMany : MethodName := ⟨RX7, "tellMany", "(J)I"⟩
abbrev cX7_opens : ByteArray := prog_9_method_58_code
def yX7_opens : MethodName := ⟨RX7, "opens", "()I"⟩
abbrev cX7_must : ByteArray := prog_9_method_59_code
def yX7_must : MethodName := ⟨RX7, "must", "()I"⟩
abbrev cX7_holds : ByteArray := prog_9_method_60_code
def yX7_holds : MethodName := ⟨RX7, "holds", "(I)I"⟩
abbrev cX7_orders : ByteArray := prog_9_method_61_code
def yX7_orders : MethodName := ⟨RX7, "orders", "(I)I"⟩
abbrev cX7_tellParts : ByteArray := prog_9_method_62_code
def yX7_tellParts : MethodName := ⟨RX7, "tellParts", "(JJ)I"⟩
abbrev cX7_part : ByteArray := prog_9_method_63_code
def yX7_part : MethodName := ⟨RX7, "part", "(I)I"⟩
abbrev cX7_thirsty : ByteArray := prog_9_method_64_code
def yX7_thirsty : MethodName := ⟨RX7, "thirsty", "()I"⟩
abbrev cX7_with : ByteArray := prog_9_method_65_code
def yX7_with : MethodName := ⟨RX7, "with", "(II)I"⟩
abbrev cX7_layMeetings : ByteArray := prog_9_method_66_code
def yX7_layMeetings : MethodName := ⟨RX7, "layMeetings", "()V"⟩
abbrev cX7_drink : ByteArray := prog_9_method_67_code
def yX7_drink : MethodName := ⟨RX7, "drink", "(I)I"⟩
abbrev cX7_nextOrder : ByteArray := prog_9_method_68_code
def yX7_nextOrder : MethodName := ⟨RX7, "nextOrder", "(I)Z"⟩
abbrev cX7_served : ByteArray := prog_9_method_69_code
def yX7_served : MethodName := ⟨RX7, "served", "(I)I"⟩
abbrev cX7_best : ByteArray := prog_9_method_70_code
def yX7_best : MethodName := ⟨RX7, "best", "(II)I"⟩
abbrev cX7_drawnBy : ByteArray := prog_9_method_71_code
def yX7_drawnBy : MethodName := ⟨RX7, "drawnBy", "(I)I"⟩
abbrev cX7_ration : ByteArray := prog_9_method_72_code
def yX7_ration : MethodName := ⟨RX7, "ration", "()I"⟩
abbrev cX7_drawnOf : ByteArray := prog_9_method_73_code
def yX7_drawnOf : MethodName := ⟨RX7, "drawnOf", "(I)I"⟩
abbrev cX7_frogs : ByteArray := prog_9_method_74_code
def yX7_frogs : MethodName := ⟨RX7, "frogs", "(I)I"⟩
abbrev cX7_noPairs : ByteArray := prog_9_method_75_code
def yX7_noPairs : MethodName := ⟨RX7, "noPairs", "(I)I"⟩
abbrev cX7_twice : ByteArray := prog_9_method_76_code
def yX7_twice : MethodName := ⟨RX7, "twice", "(I)I"⟩
abbrev cX7_quorum : ByteArray := prog_9_method_77_code
def yX7_quorum : MethodName := ⟨RX7, "quorum", "(I)I"⟩
abbrev cX7_power : ByteArray := prog_9_method_78_code
def yX7_power : MethodName := ⟨RX7, "power", "(I)I"⟩
abbrev cX7_layWins : ByteArray := prog_9_method_79_code
def yX7_layWins : MethodName := ⟨RX7, "layWins", "()V"⟩
abbrev cX7_call : ByteArray := prog_9_method_80_code
def yX7_call : MethodName := ⟨RX7, "call", "()I"⟩
abbrev cX7_first : ByteArray := prog_9_method_81_code
def yX7_first : MethodName := ⟨RX7, "first", "()I"⟩
abbrev cX7_tellChance : ByteArray := prog_9_method_82_code
def yX7_tellChance : MethodName := ⟨RX7, "tellChance", "(IZ)I"⟩
abbrev cX7_odds : ByteArray := prog_9_method_83_code
def yX7_odds : MethodName := ⟨RX7, "odds", "(I)I"⟩
abbrev cX7_mid : ByteArray := prog_9_method_84_code
def yX7_mid : MethodName := ⟨RX7, "mid", "(I)I"⟩
abbrev cX7_doLot : ByteArray := prog_9_method_85_code
def yX7_doLot : MethodName := ⟨RX7, "doLot", "(I)I"⟩
abbrev cX7_lots : ByteArray := prog_9_method_86_code
def yX7_lots : MethodName := ⟨RX7, "lots", "(II)I"⟩
abbrev cX7_asked : ByteArray := prog_9_method_87_code
def yX7_asked : MethodName := ⟨RX7, "asked", "()I"⟩
abbrev cX7_upper : ByteArray := prog_9_method_88_code
def yX7_upper : MethodName := ⟨RX7, "upper", "()J"⟩
abbrev cX7_lower : ByteArray := prog_9_method_89_code
def yX7_lower : MethodName := ⟨RX7, "lower", "()J"⟩
abbrev cX7_kindMany : ByteArray := prog_9_method_90_code
def yX7_kindMany : MethodName := ⟨RX7, "kindMany", "(I)I"⟩
abbrev cX7_thereOf : ByteArray := prog_9_method_91_code
def yX7_thereOf : MethodName := ⟨RX7, "thereOf", "(I)I"⟩
abbrev cX7_countOf : ByteArray := prog_9_method_92_code
def yX7_countOf : MethodName := ⟨RX7, "countOf", "(I)I"⟩
abbrev cX7_count : ByteArray := prog_9_method_93_code
def yX7_count : MethodName := ⟨RX7, "count", "(I)I"⟩
abbrev cX7_finding : ByteArray := prog_9_method_94_code
def yX7_finding : MethodName := ⟨RX7, "finding", "()I"⟩
abbrev cX7_findings : ByteArray := prog_9_method_95_code
def yX7_findings : MethodName := ⟨RX7, "findings", "(I)I"⟩
abbrev cX7_digest : ByteArray := prog_9_method_96_code
def yX7_digest : MethodName := ⟨RX7, "digest", "()J"⟩
def RJx145de : String := "java/io/Serializable"
def TJx145de : u_T := fun k => match k with
  | _ => ("", "", "", false)
def tyJx145de : Nat → FieldType := fun k => match k with
  | _ => .int
theorem nmJx145de : ∀ a, a < 0 → ∀ b, b < 0 → a ≠ b → (TJx145de a).2.1 ≠ (TJx145de b).2.1 := by decide +kernel
theorem tyJx145de_ok : ∀ k, k < 0 → parseFieldDescriptor (TJx145de k).2.2.1 = some (tyJx145de k) := by decide +kernel
def RJx9f9b0 : String := "java/lang/CharSequence"
def TJx9f9b0 : u_T := fun k => match k with
  | _ => ("", "", "", false)
def tyJx9f9b0 : Nat → FieldType := fun k => match k with
  | _ => .int
theorem nmJx9f9b0 : ∀ a, a < 0 → ∀ b, b < 0 → a ≠ b → (TJx9f9b0 a).2.1 ≠ (TJx9f9b0 b).2.1 := by decide +kernel
theorem tyJx9f9b0_ok : ∀ k, k < 0 → parseFieldDescriptor (TJx9f9b0 k).2.2.1 = some (tyJx9f9b0 k) := by decide +kernel
def RJxb160c : String := "java/lang/Comparable"
def TJxb160c : u_T := fun k => match k with
  | _ => ("", "", "", false)
def tyJxb160c : Nat → FieldType := fun k => match k with
  | _ => .int
theorem nmJxb160c : ∀ a, a < 0 → ∀ b, b < 0 → a ≠ b → (TJxb160c a).2.1 ≠ (TJxb160c b).2.1 := by decide +kernel
theorem tyJxb160c_ok : ∀ k, k < 0 → parseFieldDescriptor (TJxb160c k).2.2.1 = some (tyJxb160c k) := by decide +kernel
def RJ6 : String := "java/lang/Integer"
def TJ6 : u_T := fun k => match k with
  | _ => ("", "", "", false)
def tyJ6 : Nat → FieldType := fun k => match k with
  | _ => .int
theorem nmJ6 : ∀ a, a < 0 → ∀ b, b < 0 → a ≠ b → (TJ6 a).2.1 ≠ (TJ6 b).2.1 := by decide +kernel
theorem tyJ6_ok : ∀ k, k < 0 → parseFieldDescriptor (TJ6 k).2.2.1 = some (tyJ6 k) := by decide +kernel
abbrev cJ6_bitCount_0f7a4 : ByteArray := prog_10_method_49_code
def yJ6_bitCount_0f7a4 : MethodName := ⟨RJ6, "bitCount", "(I)I"⟩
def RJ9 : String := "java/lang/Math"
def TJ9 : u_T := fun k => match k with
  | _ => ("", "", "", false)
def tyJ9 : Nat → FieldType := fun k => match k with
  | _ => .int
theorem nmJ9 : ∀ a, a < 0 → ∀ b, b < 0 → a ≠ b → (TJ9 a).2.1 ≠ (TJ9 b).2.1 := by decide +kernel
theorem tyJ9_ok : ∀ k, k < 0 → parseFieldDescriptor (TJ9 k).2.2.1 = some (tyJ9 k) := by decide +kernel
abbrev cJ9_max_7cf53 : ByteArray := prog_11_method_65_code
def yJ9_max_7cf53 : MethodName := ⟨RJ9, "max", "(II)I"⟩
abbrev cJ9_min_7cf53 : ByteArray := prog_11_method_69_code
def yJ9_min_7cf53 : MethodName := ⟨RJ9, "min", "(II)I"⟩
def RJ0 : String := "java/lang/String"
def TJ0 : u_T := fun k => match k with
  | _ => ("", "", "", false)
def tyJ0 : Nat → FieldType := fun k => match k with
  | _ => .int
theorem nmJ0 : ∀ a, a < 0 → ∀ b, b < 0 → a ≠ b → (TJ0 a).2.1 ≠ (TJ0 b).2.1 := by decide +kernel
theorem tyJ0_ok : ∀ k, k < 0 → parseFieldDescriptor (TJ0 k).2.2.1 = some (tyJ0 k) := by decide +kernel
abbrev cJ0_charAt_5068e : ByteArray := prog_12_method_56_code
def yJ0_charAt_5068e : MethodName := ⟨RJ0, "charAt", "(I)C"⟩
abbrev cJ0_isLatin1_aae02 : ByteArray := prog_12_method_154_code
def yJ0_isLatin1_aae02 : MethodName := ⟨RJ0, "isLatin1", "()Z"⟩
abbrev cJ0_checkIndex_df160 : ByteArray := prog_12_method_155_code
def yJ0_checkIndex_df160 : MethodName := ⟨RJ0, "checkIndex", "(II)V"⟩
def RJ1 : String := "java/lang/StringLatin1"
def TJ1 : u_T := fun k => match k with
  | _ => ("", "", "", false)
def tyJ1 : Nat → FieldType := fun k => match k with
  | _ => .int
theorem nmJ1 : ∀ a, a < 0 → ∀ b, b < 0 → a ≠ b → (TJ1 a).2.1 ≠ (TJ1 b).2.1 := by decide +kernel
theorem tyJ1_ok : ∀ k, k < 0 → parseFieldDescriptor (TJ1 k).2.2.1 = some (tyJ1 k) := by decide +kernel
abbrev cJ1_charAt_3b067 : ByteArray := prog_13_method_2_code
def yJ1_charAt_3b067 : MethodName := ⟨RJ1, "charAt", "([BI)C"⟩
def RJ2 : String := "java/lang/StringUTF16"
def TJ2 : u_T := fun k => match k with
  | _ => ("", "", "", false)
def tyJ2 : Nat → FieldType := fun k => match k with
  | _ => .int
theorem nmJ2 : ∀ a, a < 0 → ∀ b, b < 0 → a ≠ b → (TJ2 a).2.1 ≠ (TJ2 b).2.1 := by decide +kernel
theorem tyJ2_ok : ∀ k, k < 0 → parseFieldDescriptor (TJ2 k).2.2.1 = some (tyJ2 k) := by decide +kernel
abbrev cJ2_getChar_3b067 : ByteArray := prog_14_method_5_code
def yJ2_getChar_3b067 : MethodName := ⟨RJ2, "getChar", "([BI)C"⟩
abbrev cJ2_length_9d52b : ByteArray := prog_14_method_6_code
def yJ2_length_9d52b : MethodName := ⟨RJ2, "length", "([B)I"⟩
abbrev cJ2_charAt_3b067 : ByteArray := prog_14_method_83_code
def yJ2_charAt_3b067 : MethodName := ⟨RJ2, "charAt", "([BI)C"⟩
abbrev cJ2_checkIndex_2214a : ByteArray := prog_14_method_91_code
def yJ2_checkIndex_2214a : MethodName := ⟨RJ2, "checkIndex", "(I[B)V"⟩
def RJ10 : String := "java/lang/System"
def TJ10 : u_T := fun k => match k with
  | _ => ("", "", "", false)
def tyJ10 : Nat → FieldType := fun k => match k with
  | _ => .int
theorem nmJ10 : ∀ a, a < 0 → ∀ b, b < 0 → a ≠ b → (TJ10 a).2.1 ≠ (TJ10 b).2.1 := by decide +kernel
theorem tyJ10_ok : ∀ k, k < 0 → parseFieldDescriptor (TJ10 k).2.2.1 = some (tyJ10 k) := by decide +kernel
def RJxfd54e : String := "java/lang/constant/Constable"
def TJxfd54e : u_T := fun k => match k with
  | _ => ("", "", "", false)
def tyJxfd54e : Nat → FieldType := fun k => match k with
  | _ => .int
theorem nmJxfd54e : ∀ a, a < 0 → ∀ b, b < 0 → a ≠ b → (TJxfd54e a).2.1 ≠ (TJxfd54e b).2.1 := by decide +kernel
theorem tyJxfd54e_ok : ∀ k, k < 0 → parseFieldDescriptor (TJxfd54e k).2.2.1 = some (tyJxfd54e k) := by decide +kernel
def RJx3cf43 : String := "java/lang/constant/ConstantDesc"
def TJx3cf43 : u_T := fun k => match k with
  | _ => ("", "", "", false)
def tyJx3cf43 : Nat → FieldType := fun k => match k with
  | _ => .int
theorem nmJx3cf43 : ∀ a, a < 0 → ∀ b, b < 0 → a ≠ b → (TJx3cf43 a).2.1 ≠ (TJx3cf43 b).2.1 := by decide +kernel
theorem tyJx3cf43_ok : ∀ k, k < 0 → parseFieldDescriptor (TJx3cf43 k).2.2.1 = some (tyJx3cf43 k) := by decide +kernel
def RJ7 : String := "java/util/Arrays"
def TJ7 : u_T := fun k => match k with
  | _ => ("", "", "", false)
def tyJ7 : Nat → FieldType := fun k => match k with
  | _ => .int
theorem nmJ7 : ∀ a, a < 0 → ∀ b, b < 0 → a ≠ b → (TJ7 a).2.1 ≠ (TJ7 b).2.1 := by decide +kernel
theorem tyJ7_ok : ∀ k, k < 0 → parseFieldDescriptor (TJ7 k).2.2.1 = some (tyJ7 k) := by decide +kernel
abbrev cJ7_fill_53178 : ByteArray := prog_16_method_103_code
def yJ7_fill_53178 : MethodName := ⟨RJ7, "fill", "([II)V"⟩
def RJ3 : String := "jdk/internal/util/Preconditions"
def TJ3 : u_T := fun k => match k with
  | _ => ("", "", "", false)
def tyJ3 : Nat → FieldType := fun k => match k with
  | _ => .int
theorem nmJ3 : ∀ a, a < 0 → ∀ b, b < 0 → a ≠ b → (TJ3 a).2.1 ≠ (TJ3 b).2.1 := by decide +kernel
theorem tyJ3_ok : ∀ k, k < 0 → parseFieldDescriptor (TJ3 k).2.2.1 = some (tyJ3 k) := by decide +kernel
abbrev cJ3_checkIndex_8e157 : ByteArray := prog_17_method_11_code
def yJ3_checkIndex_8e157 : MethodName := ⟨RJ3, "checkIndex", "(IILjava/util/function/BiFunction;)I"⟩
def RL : String := "WellLocksLaw"
abbrev cL_law : ByteArray := code
def yL_law : MethodName := ⟨RL, "law", "([I)Z"⟩
abbrev vwCl : List vw_C := [(RX0, TX0, 8), (RX1, TX1, 2), (RX2, TX2, 5), (RX3, TX3, 3), (RX4, TX4, 4), (RX5, TX5, 7), (RX6, TX6, 11), (RX7, TX7, 30)]
