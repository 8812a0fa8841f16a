-- ===== PART A: goes FIRST, ahead of the names: the tables' words, and 'selects' of the private methods out of them =====
/-- a private method of a class that the tables say can be made, by its rows of tables_1 -/
def lw_okq (q : MethodName × Nat) : Prop := (q.1.cls ≠ "java/lang/invoke/MethodHandle" ∧ q.1.cls ≠ "java/lang/invoke/VarHandle") ∧ Cond.instantiable q.1.cls q.2 ∈ tables_1 ∧ Cond.privateMethod q.1 ∈ tables_1 ∧ Cond.instanceMethod q.1 ∈ tables_1
theorem lw_p0 : lw_okq (⟨"HeedClock", "found", "(I)I"⟩, 9) := ⟨⟨by decide +kernel, by decide +kernel⟩, List.mem_of_getElem? (i := 17) (by decide +kernel), List.mem_of_getElem? (i := 253) (by decide +kernel), List.mem_of_getElem? (i := 254) (by decide +kernel)⟩
theorem lw_p1 : lw_okq (⟨"HeedClock", "foundNothing", "(I)I"⟩, 9) := ⟨⟨by decide +kernel, by decide +kernel⟩, List.mem_of_getElem? (i := 17) (by decide +kernel), List.mem_of_getElem? (i := 268) (by decide +kernel), List.mem_of_getElem? (i := 269) (by decide +kernel)⟩
theorem lw_p2 : lw_okq (⟨"HeedClock$Rows", "hasPlaces", "(III)Z"⟩, 3) := ⟨⟨by decide +kernel, by decide +kernel⟩, List.mem_of_getElem? (i := 25) (by decide +kernel), List.mem_of_getElem? (i := 284) (by decide +kernel), List.mem_of_getElem? (i := 285) (by decide +kernel)⟩
theorem lw_p3 : lw_okq (⟨"HeedClock$Tape", "readHouse", "()V"⟩, 9) := ⟨⟨by decide +kernel, by decide +kernel⟩, List.mem_of_getElem? (i := 45) (by decide +kernel), List.mem_of_getElem? (i := 339) (by decide +kernel), List.mem_of_getElem? (i := 340) (by decide +kernel)⟩
theorem lw_p4 : lw_okq (⟨"HeedClock$Tape", "byteHere", "()I"⟩, 9) := ⟨⟨by decide +kernel, by decide +kernel⟩, List.mem_of_getElem? (i := 45) (by decide +kernel), List.mem_of_getElem? (i := 343) (by decide +kernel), List.mem_of_getElem? (i := 344) (by decide +kernel)⟩
theorem lw_p5 : lw_okq (⟨"HeedClock$Tape", "readNumbers", "([I[I)V"⟩, 9) := ⟨⟨by decide +kernel, by decide +kernel⟩, List.mem_of_getElem? (i := 45) (by decide +kernel), List.mem_of_getElem? (i := 352) (by decide +kernel), List.mem_of_getElem? (i := 353) (by decide +kernel)⟩
theorem lw_p6 : lw_okq (⟨"HeedClock$Tape", "readNumber", "(II)V"⟩, 9) := ⟨⟨by decide +kernel, by decide +kernel⟩, List.mem_of_getElem? (i := 45) (by decide +kernel), List.mem_of_getElem? (i := 356) (by decide +kernel), List.mem_of_getElem? (i := 357) (by decide +kernel)⟩
theorem lw_p7 : lw_okq (⟨"HeedClock$Tape", "figuresHere", "()I"⟩, 9) := ⟨⟨by decide +kernel, by decide +kernel⟩, List.mem_of_getElem? (i := 45) (by decide +kernel), List.mem_of_getElem? (i := 360) (by decide +kernel), List.mem_of_getElem? (i := 361) (by decide +kernel)⟩
theorem lw_p8 : lw_okq (⟨"HeedClock$Tape", "readSign", "(C)V"⟩, 9) := ⟨⟨by decide +kernel, by decide +kernel⟩, List.mem_of_getElem? (i := 45) (by decide +kernel), List.mem_of_getElem? (i := 364) (by decide +kernel), List.mem_of_getElem? (i := 365) (by decide +kernel)⟩
theorem lw_p9 : lw_okq (⟨"HeedClock$Tape", "readEar", "(I)V"⟩, 9) := ⟨⟨by decide +kernel, by decide +kernel⟩, List.mem_of_getElem? (i := 45) (by decide +kernel), List.mem_of_getElem? (i := 371) (by decide +kernel), List.mem_of_getElem? (i := 372) (by decide +kernel)⟩
theorem lw_p10 : lw_okq (⟨"HeedClock$Tape", "readDoing", "()V"⟩, 9) := ⟨⟨by decide +kernel, by decide +kernel⟩, List.mem_of_getElem? (i := 45) (by decide +kernel), List.mem_of_getElem? (i := 379) (by decide +kernel), List.mem_of_getElem? (i := 380) (by decide +kernel)⟩
theorem lw_p11 : lw_okq (⟨"HeedClock$House", "settleEars", "(LHeedClock$Tape;)V"⟩, 17) := ⟨⟨by decide +kernel, by decide +kernel⟩, List.mem_of_getElem? (i := 84) (by decide +kernel), List.mem_of_getElem? (i := 397) (by decide +kernel), List.mem_of_getElem? (i := 398) (by decide +kernel)⟩
theorem lw_p12 : lw_okq (⟨"HeedClock$House", "settleDoings", "(LHeedClock$Tape;)V"⟩, 17) := ⟨⟨by decide +kernel, by decide +kernel⟩, List.mem_of_getElem? (i := 84) (by decide +kernel), List.mem_of_getElem? (i := 405) (by decide +kernel), List.mem_of_getElem? (i := 406) (by decide +kernel)⟩
theorem lw_p13 : lw_okq (⟨"HeedClock$House", "hasItsTime", "(II)Z"⟩, 17) := ⟨⟨by decide +kernel, by decide +kernel⟩, List.mem_of_getElem? (i := 84) (by decide +kernel), List.mem_of_getElem? (i := 450) (by decide +kernel), List.mem_of_getElem? (i := 451) (by decide +kernel)⟩
theorem lw_p14 : lw_okq (⟨"HeedClock$House", "giftOf", "(I)I"⟩, 17) := ⟨⟨by decide +kernel, by decide +kernel⟩, List.mem_of_getElem? (i := 84) (by decide +kernel), List.mem_of_getElem? (i := 454) (by decide +kernel), List.mem_of_getElem? (i := 455) (by decide +kernel)⟩
theorem lw_p15 : lw_okq (⟨"HeedClock$House", "growOlder", "(II)V"⟩, 17) := ⟨⟨by decide +kernel, by decide +kernel⟩, List.mem_of_getElem? (i := 84) (by decide +kernel), List.mem_of_getElem? (i := 458) (by decide +kernel), List.mem_of_getElem? (i := 459) (by decide +kernel)⟩
def lw_privs_1 : List (MethodName × Nat) := [(⟨"HeedClock", "found", "(I)I"⟩, 9), (⟨"HeedClock", "foundNothing", "(I)I"⟩, 9), (⟨"HeedClock$Rows", "hasPlaces", "(III)Z"⟩, 3), (⟨"HeedClock$Tape", "readHouse", "()V"⟩, 9), (⟨"HeedClock$Tape", "byteHere", "()I"⟩, 9), (⟨"HeedClock$Tape", "readNumbers", "([I[I)V"⟩, 9), (⟨"HeedClock$Tape", "readNumber", "(II)V"⟩, 9), (⟨"HeedClock$Tape", "figuresHere", "()I"⟩, 9), (⟨"HeedClock$Tape", "readSign", "(C)V"⟩, 9), (⟨"HeedClock$Tape", "readEar", "(I)V"⟩, 9), (⟨"HeedClock$Tape", "readDoing", "()V"⟩, 9), (⟨"HeedClock$House", "settleEars", "(LHeedClock$Tape;)V"⟩, 17), (⟨"HeedClock$House", "settleDoings", "(LHeedClock$Tape;)V"⟩, 17), (⟨"HeedClock$House", "hasItsTime", "(II)Z"⟩, 17), (⟨"HeedClock$House", "giftOf", "(I)I"⟩, 17), (⟨"HeedClock$House", "growOlder", "(II)V"⟩, 17)]
theorem lw_r1 : ∀ q ∈ lw_privs_1, lw_okq q := List.forall_mem_cons.mpr ⟨lw_p0, List.forall_mem_cons.mpr ⟨lw_p1, List.forall_mem_cons.mpr ⟨lw_p2, List.forall_mem_cons.mpr ⟨lw_p3, List.forall_mem_cons.mpr ⟨lw_p4, List.forall_mem_cons.mpr ⟨lw_p5, List.forall_mem_cons.mpr ⟨lw_p6, List.forall_mem_cons.mpr ⟨lw_p7, List.forall_mem_cons.mpr ⟨lw_p8, List.forall_mem_cons.mpr ⟨lw_p9, List.forall_mem_cons.mpr ⟨lw_p10, List.forall_mem_cons.mpr ⟨lw_p11, List.forall_mem_cons.mpr ⟨lw_p12, List.forall_mem_cons.mpr ⟨lw_p13, List.forall_mem_cons.mpr ⟨lw_p14, List.forall_mem_cons.mpr ⟨lw_p15, fun _ h => absurd h List.not_mem_nil⟩⟩⟩⟩⟩⟩⟩⟩⟩⟩⟩⟩⟩⟩⟩⟩
theorem lw_p16 : lw_okq (⟨"HeedClock$Acts", "forgetOldest", "()V"⟩, 4) := ⟨⟨by decide +kernel, by decide +kernel⟩, List.mem_of_getElem? (i := 167) (by decide +kernel), List.mem_of_getElem? (i := 466) (by decide +kernel), List.mem_of_getElem? (i := 467) (by decide +kernel)⟩
theorem lw_p17 : lw_okq (⟨"HeedClock$House", "areWidowersSilenced", "()Z"⟩, 17) := ⟨⟨by decide +kernel, by decide +kernel⟩, List.mem_of_getElem? (i := 84) (by decide +kernel), List.mem_of_getElem? (i := 527) (by decide +kernel), List.mem_of_getElem? (i := 528) (by decide +kernel)⟩
theorem lw_p18 : lw_okq (⟨"HeedClock$House", "widowers", "()I"⟩, 17) := ⟨⟨by decide +kernel, by decide +kernel⟩, List.mem_of_getElem? (i := 84) (by decide +kernel), List.mem_of_getElem? (i := 531) (by decide +kernel), List.mem_of_getElem? (i := 532) (by decide +kernel)⟩
theorem lw_p19 : lw_okq (⟨"HeedClock", "imageAt", "(I)LHeedClock$House;"⟩, 9) := ⟨⟨by decide +kernel, by decide +kernel⟩, List.mem_of_getElem? (i := 17) (by decide +kernel), List.mem_of_getElem? (i := 698) (by decide +kernel), List.mem_of_getElem? (i := 699) (by decide +kernel)⟩
theorem lw_p20 : lw_okq (⟨"HeedClock$Asks", "begin", "(II)I"⟩, 6) := ⟨⟨by decide +kernel, by decide +kernel⟩, List.mem_of_getElem? (i := 187) (by decide +kernel), List.mem_of_getElem? (i := 739) (by decide +kernel), List.mem_of_getElem? (i := 740) (by decide +kernel)⟩
theorem lw_p21 : lw_okq (⟨"HeedClock$Asks", "run", "(II)I"⟩, 6) := ⟨⟨by decide +kernel, by decide +kernel⟩, List.mem_of_getElem? (i := 187) (by decide +kernel), List.mem_of_getElem? (i := 752) (by decide +kernel), List.mem_of_getElem? (i := 753) (by decide +kernel)⟩
theorem lw_p22 : lw_okq (⟨"HeedClock$Asks", "leaveTrace", "(I)V"⟩, 6) := ⟨⟨by decide +kernel, by decide +kernel⟩, List.mem_of_getElem? (i := 187) (by decide +kernel), List.mem_of_getElem? (i := 756) (by decide +kernel), List.mem_of_getElem? (i := 757) (by decide +kernel)⟩
theorem lw_p23 : lw_okq (⟨"HeedClockModel", "found", "(I)I"⟩, 23) := ⟨⟨by decide +kernel, by decide +kernel⟩, List.mem_of_getElem? (i := 777) (by decide +kernel), List.mem_of_getElem? (i := 866) (by decide +kernel), List.mem_of_getElem? (i := 867) (by decide +kernel)⟩
theorem lw_p24 : lw_okq (⟨"HeedClockModel", "well", "(I)I"⟩, 23) := ⟨⟨by decide +kernel, by decide +kernel⟩, List.mem_of_getElem? (i := 777) (by decide +kernel), List.mem_of_getElem? (i := 871) (by decide +kernel), List.mem_of_getElem? (i := 872) (by decide +kernel)⟩
theorem lw_p25 : lw_okq (⟨"HeedClockModel", "isMissing", "(I)Z"⟩, 23) := ⟨⟨by decide +kernel, by decide +kernel⟩, List.mem_of_getElem? (i := 777) (by decide +kernel), List.mem_of_getElem? (i := 879) (by decide +kernel), List.mem_of_getElem? (i := 880) (by decide +kernel)⟩
theorem lw_p26 : lw_okq (⟨"HeedClockModel", "isPart", "(III)Z"⟩, 23) := ⟨⟨by decide +kernel, by decide +kernel⟩, List.mem_of_getElem? (i := 777) (by decide +kernel), List.mem_of_getElem? (i := 890) (by decide +kernel), List.mem_of_getElem? (i := 891) (by decide +kernel)⟩
theorem lw_p27 : lw_okq (⟨"HeedClockModel", "advances", "()V"⟩, 23) := ⟨⟨by decide +kernel, by decide +kernel⟩, List.mem_of_getElem? (i := 777) (by decide +kernel), List.mem_of_getElem? (i := 907) (by decide +kernel), List.mem_of_getElem? (i := 908) (by decide +kernel)⟩
theorem lw_p28 : lw_okq (⟨"HeedClockModel", "byteAt", "(I)I"⟩, 23) := ⟨⟨by decide +kernel, by decide +kernel⟩, List.mem_of_getElem? (i := 777) (by decide +kernel), List.mem_of_getElem? (i := 911) (by decide +kernel), List.mem_of_getElem? (i := 912) (by decide +kernel)⟩
theorem lw_p29 : lw_okq (⟨"HeedClockModel", "takes", "(ZI)I"⟩, 23) := ⟨⟨by decide +kernel, by decide +kernel⟩, List.mem_of_getElem? (i := 777) (by decide +kernel), List.mem_of_getElem? (i := 915) (by decide +kernel), List.mem_of_getElem? (i := 916) (by decide +kernel)⟩
theorem lw_p30 : lw_okq (⟨"HeedClockModel", "isWell", "()Z"⟩, 23) := ⟨⟨by decide +kernel, by decide +kernel⟩, List.mem_of_getElem? (i := 777) (by decide +kernel), List.mem_of_getElem? (i := 919) (by decide +kernel), List.mem_of_getElem? (i := 920) (by decide +kernel)⟩
theorem lw_p31 : lw_okq (⟨"HeedClockModel", "figure", "(II)I"⟩, 23) := ⟨⟨by decide +kernel, by decide +kernel⟩, List.mem_of_getElem? (i := 777) (by decide +kernel), List.mem_of_getElem? (i := 923) (by decide +kernel), List.mem_of_getElem? (i := 924) (by decide +kernel)⟩
def lw_privs_2 : List (MethodName × Nat) := [(⟨"HeedClock$Acts", "forgetOldest", "()V"⟩, 4), (⟨"HeedClock$House", "areWidowersSilenced", "()Z"⟩, 17), (⟨"HeedClock$House", "widowers", "()I"⟩, 17), (⟨"HeedClock", "imageAt", "(I)LHeedClock$House;"⟩, 9), (⟨"HeedClock$Asks", "begin", "(II)I"⟩, 6), (⟨"HeedClock$Asks", "run", "(II)I"⟩, 6), (⟨"HeedClock$Asks", "leaveTrace", "(I)V"⟩, 6), (⟨"HeedClockModel", "found", "(I)I"⟩, 23), (⟨"HeedClockModel", "well", "(I)I"⟩, 23), (⟨"HeedClockModel", "isMissing", "(I)Z"⟩, 23), (⟨"HeedClockModel", "isPart", "(III)Z"⟩, 23), (⟨"HeedClockModel", "advances", "()V"⟩, 23), (⟨"HeedClockModel", "byteAt", "(I)I"⟩, 23), (⟨"HeedClockModel", "takes", "(ZI)I"⟩, 23), (⟨"HeedClockModel", "isWell", "()Z"⟩, 23), (⟨"HeedClockModel", "figure", "(II)I"⟩, 23)]
theorem lw_r2 : ∀ q ∈ lw_privs_2, lw_okq q := List.forall_mem_cons.mpr ⟨lw_p16, List.forall_mem_cons.mpr ⟨lw_p17, List.forall_mem_cons.mpr ⟨lw_p18, List.forall_mem_cons.mpr ⟨lw_p19, List.forall_mem_cons.mpr ⟨lw_p20, List.forall_mem_cons.mpr ⟨lw_p21, List.forall_mem_cons.mpr ⟨lw_p22, List.forall_mem_cons.mpr ⟨lw_p23, List.forall_mem_cons.mpr ⟨lw_p24, List.forall_mem_cons.mpr ⟨lw_p25, List.forall_mem_cons.mpr ⟨lw_p26, List.forall_mem_cons.mpr ⟨lw_p27, List.forall_mem_cons.mpr ⟨lw_p28, List.forall_mem_cons.mpr ⟨lw_p29, List.forall_mem_cons.mpr ⟨lw_p30, List.forall_mem_cons.mpr ⟨lw_p31, fun _ h => absurd h List.not_mem_nil⟩⟩⟩⟩⟩⟩⟩⟩⟩⟩⟩⟩⟩⟩⟩⟩
theorem lw_p32 : lw_okq (⟨"HeedClockModel", "readsEar", "()V"⟩, 23) := ⟨⟨by decide +kernel, by decide +kernel⟩, List.mem_of_getElem? (i := 777) (by decide +kernel), List.mem_of_getElem? (i := 930) (by decide +kernel), List.mem_of_getElem? (i := 931) (by decide +kernel)⟩
theorem lw_p33 : lw_okq (⟨"HeedClockModel", "next", "(II)I"⟩, 23) := ⟨⟨by decide +kernel, by decide +kernel⟩, List.mem_of_getElem? (i := 777) (by decide +kernel), List.mem_of_getElem? (i := 934) (by decide +kernel), List.mem_of_getElem? (i := 935) (by decide +kernel)⟩
theorem lw_p34 : lw_okq (⟨"HeedClockModel", "readsDoing", "()V"⟩, 23) := ⟨⟨by decide +kernel, by decide +kernel⟩, List.mem_of_getElem? (i := 777) (by decide +kernel), List.mem_of_getElem? (i := 938) (by decide +kernel), List.mem_of_getElem? (i := 939) (by decide +kernel)⟩
theorem lw_p35 : lw_okq (⟨"HeedClockModel", "isHouse", "()Z"⟩, 23) := ⟨⟨by decide +kernel, by decide +kernel⟩, List.mem_of_getElem? (i := 777) (by decide +kernel), List.mem_of_getElem? (i := 954) (by decide +kernel), List.mem_of_getElem? (i := 955) (by decide +kernel)⟩
theorem lw_p36 : lw_okq (⟨"HeedClockModel", "notes", "()V"⟩, 23) := ⟨⟨by decide +kernel, by decide +kernel⟩, List.mem_of_getElem? (i := 777) (by decide +kernel), List.mem_of_getElem? (i := 959) (by decide +kernel), List.mem_of_getElem? (i := 960) (by decide +kernel)⟩
theorem lw_p37 : lw_okq (⟨"HeedClockModel", "isEar", "(I)Z"⟩, 23) := ⟨⟨by decide +kernel, by decide +kernel⟩, List.mem_of_getElem? (i := 777) (by decide +kernel), List.mem_of_getElem? (i := 991) (by decide +kernel), List.mem_of_getElem? (i := 992) (by decide +kernel)⟩
theorem lw_p38 : lw_okq (⟨"HeedClockModel", "hushed", "()I"⟩, 23) := ⟨⟨by decide +kernel, by decide +kernel⟩, List.mem_of_getElem? (i := 777) (by decide +kernel), List.mem_of_getElem? (i := 999) (by decide +kernel), List.mem_of_getElem? (i := 1000) (by decide +kernel)⟩
theorem lw_p39 : lw_okq (⟨"HeedClockModel", "givesNow", "(I)I"⟩, 23) := ⟨⟨by decide +kernel, by decide +kernel⟩, List.mem_of_getElem? (i := 777) (by decide +kernel), List.mem_of_getElem? (i := 1015) (by decide +kernel), List.mem_of_getElem? (i := 1016) (by decide +kernel)⟩
theorem lw_p40 : lw_okq (⟨"HeedClockModel", "partsIn", "(I)I"⟩, 23) := ⟨⟨by decide +kernel, by decide +kernel⟩, List.mem_of_getElem? (i := 777) (by decide +kernel), List.mem_of_getElem? (i := 1027) (by decide +kernel), List.mem_of_getElem? (i := 1028) (by decide +kernel)⟩
theorem lw_p41 : lw_okq (⟨"HeedClockModel", "lays", "()V"⟩, 23) := ⟨⟨by decide +kernel, by decide +kernel⟩, List.mem_of_getElem? (i := 777) (by decide +kernel), List.mem_of_getElem? (i := 1035) (by decide +kernel), List.mem_of_getElem? (i := 1036) (by decide +kernel)⟩
theorem lw_p42 : lw_okq (⟨"HeedClockModel", "isDoing", "(I)Z"⟩, 23) := ⟨⟨by decide +kernel, by decide +kernel⟩, List.mem_of_getElem? (i := 777) (by decide +kernel), List.mem_of_getElem? (i := 1043) (by decide +kernel), List.mem_of_getElem? (i := 1044) (by decide +kernel)⟩
theorem lw_p43 : lw_okq (⟨"HeedClockModel", "told", "(II)I"⟩, 23) := ⟨⟨by decide +kernel, by decide +kernel⟩, List.mem_of_getElem? (i := 777) (by decide +kernel), List.mem_of_getElem? (i := 1062) (by decide +kernel), List.mem_of_getElem? (i := 1063) (by decide +kernel)⟩
theorem lw_p44 : lw_okq (⟨"HeedClockModel", "goesSo", "(II)Z"⟩, 23) := ⟨⟨by decide +kernel, by decide +kernel⟩, List.mem_of_getElem? (i := 777) (by decide +kernel), List.mem_of_getElem? (i := 1074) (by decide +kernel), List.mem_of_getElem? (i := 1075) (by decide +kernel)⟩
theorem lw_p45 : lw_okq (⟨"HeedClockModel", "kindIn", "(I)I"⟩, 23) := ⟨⟨by decide +kernel, by decide +kernel⟩, List.mem_of_getElem? (i := 777) (by decide +kernel), List.mem_of_getElem? (i := 1102) (by decide +kernel), List.mem_of_getElem? (i := 1103) (by decide +kernel)⟩
theorem lw_p46 : lw_okq (⟨"HeedClockModel", "catSize", "(I)I"⟩, 23) := ⟨⟨by decide +kernel, by decide +kernel⟩, List.mem_of_getElem? (i := 777) (by decide +kernel), List.mem_of_getElem? (i := 1114) (by decide +kernel), List.mem_of_getElem? (i := 1115) (by decide +kernel)⟩
theorem lw_p47 : lw_okq (⟨"HeedClockModel", "begins", "(I)V"⟩, 23) := ⟨⟨by decide +kernel, by decide +kernel⟩, List.mem_of_getElem? (i := 777) (by decide +kernel), List.mem_of_getElem? (i := 1118) (by decide +kernel), List.mem_of_getElem? (i := 1119) (by decide +kernel)⟩
def lw_privs_3 : List (MethodName × Nat) := [(⟨"HeedClockModel", "readsEar", "()V"⟩, 23), (⟨"HeedClockModel", "next", "(II)I"⟩, 23), (⟨"HeedClockModel", "readsDoing", "()V"⟩, 23), (⟨"HeedClockModel", "isHouse", "()Z"⟩, 23), (⟨"HeedClockModel", "notes", "()V"⟩, 23), (⟨"HeedClockModel", "isEar", "(I)Z"⟩, 23), (⟨"HeedClockModel", "hushed", "()I"⟩, 23), (⟨"HeedClockModel", "givesNow", "(I)I"⟩, 23), (⟨"HeedClockModel", "partsIn", "(I)I"⟩, 23), (⟨"HeedClockModel", "lays", "()V"⟩, 23), (⟨"HeedClockModel", "isDoing", "(I)Z"⟩, 23), (⟨"HeedClockModel", "told", "(II)I"⟩, 23), (⟨"HeedClockModel", "goesSo", "(II)Z"⟩, 23), (⟨"HeedClockModel", "kindIn", "(I)I"⟩, 23), (⟨"HeedClockModel", "catSize", "(I)I"⟩, 23), (⟨"HeedClockModel", "begins", "(I)V"⟩, 23)]
theorem lw_r3 : ∀ q ∈ lw_privs_3, lw_okq q := List.forall_mem_cons.mpr ⟨lw_p32, List.forall_mem_cons.mpr ⟨lw_p33, List.forall_mem_cons.mpr ⟨lw_p34, List.forall_mem_cons.mpr ⟨lw_p35, List.forall_mem_cons.mpr ⟨lw_p36, List.forall_mem_cons.mpr ⟨lw_p37, List.forall_mem_cons.mpr ⟨lw_p38, List.forall_mem_cons.mpr ⟨lw_p39, List.forall_mem_cons.mpr ⟨lw_p40, List.forall_mem_cons.mpr ⟨lw_p41, List.forall_mem_cons.mpr ⟨lw_p42, List.forall_mem_cons.mpr ⟨lw_p43, List.forall_mem_cons.mpr ⟨lw_p44, List.forall_mem_cons.mpr ⟨lw_p45, List.forall_mem_cons.mpr ⟨lw_p46, List.forall_mem_cons.mpr ⟨lw_p47, fun _ h => absurd h List.not_mem_nil⟩⟩⟩⟩⟩⟩⟩⟩⟩⟩⟩⟩⟩⟩⟩⟩
theorem lw_p48 : lw_okq (⟨"HeedClockModel", "personSize", "(I)I"⟩, 23) := ⟨⟨by decide +kernel, by decide +kernel⟩, List.mem_of_getElem? (i := 777) (by decide +kernel), List.mem_of_getElem? (i := 1122) (by decide +kernel), List.mem_of_getElem? (i := 1123) (by decide +kernel)⟩
theorem lw_p49 : lw_okq (⟨"HeedClockModel", "personMark", "(I)I"⟩, 23) := ⟨⟨by decide +kernel, by decide +kernel⟩, List.mem_of_getElem? (i := 777) (by decide +kernel), List.mem_of_getElem? (i := 1126) (by decide +kernel), List.mem_of_getElem? (i := 1127) (by decide +kernel)⟩
theorem lw_p50 : lw_okq (⟨"HeedClockModel", "catMark", "(I)I"⟩, 23) := ⟨⟨by decide +kernel, by decide +kernel⟩, List.mem_of_getElem? (i := 777) (by decide +kernel), List.mem_of_getElem? (i := 1130) (by decide +kernel), List.mem_of_getElem? (i := 1131) (by decide +kernel)⟩
def lw_privs_4 : List (MethodName × Nat) := [(⟨"HeedClockModel", "personSize", "(I)I"⟩, 23), (⟨"HeedClockModel", "personMark", "(I)I"⟩, 23), (⟨"HeedClockModel", "catMark", "(I)I"⟩, 23)]
theorem lw_r4 : ∀ q ∈ lw_privs_4, lw_okq q := List.forall_mem_cons.mpr ⟨lw_p48, List.forall_mem_cons.mpr ⟨lw_p49, List.forall_mem_cons.mpr ⟨lw_p50, fun _ h => absurd h List.not_mem_nil⟩⟩⟩
def lw_privs : List (MethodName × Nat) := lw_privs_1 ++ (lw_privs_2 ++ (lw_privs_3 ++ (lw_privs_4)))
def lw_tbl : List Cond := k2_sels lw_privs ++ tables_1
theorem lw_privs_ok : ∀ q ∈ lw_privs, lw_okq q := by
  show ∀ q ∈ lw_privs_1 ++ (lw_privs_2 ++ (lw_privs_3 ++ (lw_privs_4))), lw_okq q
  exact List.forall_mem_append.mpr ⟨lw_r1, List.forall_mem_append.mpr ⟨lw_r2, List.forall_mem_append.mpr ⟨lw_r3, lw_r4⟩⟩⟩

def RX0 : String := "HeedClock$Acts"
def TX0 : u_T := fun k => match k with
  | 0 => ("HeedClock$Acts", "deeds", "[I", true)
  | 1 => ("HeedClock$Acts", "whose", "[I", true)
  | 2 => ("HeedClock$Acts", "befores", "[I", true)
  | _ => ("HeedClock$Acts", "kept", "I", false)
def tyX0 : Nat → FieldType := fun k => match k with
  | 0 => .array .int
  | 1 => .array .int
  | 2 => .array .int
  | _ => .int
abbrev wsX00 : List Cond := u_ws RX0 TX0 4
theorem nmX0 : ∀ a, a < 4 → ∀ b, b < 4 → a ≠ b → (TX0 a).2.1 ≠ (TX0 b).2.1 := by decide +kernel
theorem tyX0_ok : ∀ k, k < 4 → parseFieldDescriptor (TX0 k).2.2.1 = some (tyX0 k) := by decide +kernel
abbrev cX0_init : ByteArray := prog_2_method_1_code
def yX0_init : MethodName := ⟨RX0, "<init>", "()V"⟩
abbrev cX0_forgetAll : ByteArray := prog_2_method_2_code
def yX0_forgetAll : MethodName := ⟨RX0, "forgetAll", "()V"⟩
abbrev cX0_keep : ByteArray := prog_2_method_3_code
def yX0_keep : MethodName := ⟨RX0, "keep", "(III)V"⟩
abbrev cX0_forgetOldest : ByteArray := prog_2_method_4_code
def yX0_forgetOldest : MethodName := ⟨RX0, "forgetOldest", "()V"⟩
abbrev cX0_takeBackLatest : ByteArray := prog_2_method_5_code
def yX0_takeBackLatest : MethodName := ⟨RX0, "takeBackLatest", "(LHeedClock$House;)V"⟩
def RX1 : String := "HeedClock$Asks"
def TX1 : u_T := fun k => match k with
  | 0 => ("HeedClock$Asks", "bodies", "[I", true)
  | 1 => ("HeedClock$Asks", "begun", "I", false)
  | 2 => ("HeedClock$Asks", "number", "I", false)
  | 3 => ("HeedClock$Asks", "kindAsked", "I", false)
  | 4 => ("HeedClock$Asks", "heedAsked", "I", false)
  | _ => ("HeedClock$Asks", "livedAsked", "I", false)
def tyX1 : Nat → FieldType := fun k => match k with
  | 0 => .array .int
  | 1 => .int
  | 2 => .int
  | 3 => .int
  | 4 => .int
  | _ => .int
abbrev wsX10 : List Cond := u_ws RX1 TX1 6
theorem nmX1 : ∀ a, a < 6 → ∀ b, b < 6 → a ≠ b → (TX1 a).2.1 ≠ (TX1 b).2.1 := by decide +kernel
theorem tyX1_ok : ∀ k, k < 6 → parseFieldDescriptor (TX1 k).2.2.1 = some (tyX1 k) := by decide +kernel
abbrev cX1_init : ByteArray := prog_3_method_1_code
def yX1_init : MethodName := ⟨RX1, "<init>", "()V"⟩
abbrev cX1_answer : ByteArray := prog_3_method_2_code
def yX1_answer : MethodName := ⟨RX1, "answer", "(LHeedClock$House;II)I"⟩
abbrev cX1_begin : ByteArray := prog_3_method_3_code
def yX1_begin : MethodName := ⟨RX1, "begin", "(II)I"⟩
abbrev cX1_bodyFor : ByteArray := prog_3_method_4_code
def yX1_bodyFor : MethodName := ⟨RX1, "bodyFor", "(II)I"⟩
abbrev cX1_run : ByteArray := prog_3_method_5_code
def yX1_run : MethodName := ⟨RX1, "run", "(II)I"⟩
abbrev cX1_leaveTrace : ByteArray := prog_3_method_6_code
def yX1_leaveTrace : MethodName := ⟨RX1, "leaveTrace", "(I)V"⟩
def RX2 : String := "HeedClock$Foresight"
def TX2 : u_T := fun k => match k with
  | _ => ("", "", "", false)
def tyX2 : Nat → FieldType := fun k => match k with
  | _ => .int
abbrev wsX20 : List Cond := u_ws RX2 TX2 0
theorem nmX2 : ∀ a, a < 0 → ∀ b, b < 0 → a ≠ b → (TX2 a).2.1 ≠ (TX2 b).2.1 := by decide +kernel
theorem tyX2_ok : ∀ k, k < 0 → parseFieldDescriptor (TX2 k).2.2.1 = some (tyX2 k) := by decide +kernel
abbrev cX2_partsAfter : ByteArray := prog_4_method_2_code
def yX2_partsAfter : MethodName := ⟨RX2, "partsAfter", "(LHeedClock$House;II)I"⟩
abbrev cX2_shownAfter : ByteArray := prog_4_method_3_code
def yX2_shownAfter : MethodName := ⟨RX2, "shownAfter", "(LHeedClock$House;II)I"⟩
abbrev cX2_quartersTillShown : ByteArray := prog_4_method_4_code
def yX2_quartersTillShown : MethodName := ⟨RX2, "quartersTillShown", "(LHeedClock$House;I)I"⟩
abbrev cX2_partsNeeded : ByteArray := prog_4_method_5_code
def yX2_partsNeeded : MethodName := ⟨RX2, "partsNeeded", "(LHeedClock$House;I)I"⟩
abbrev cX2_doneOn : ByteArray := prog_4_method_6_code
def yX2_doneOn : MethodName := ⟨RX2, "doneOn", "(LHeedClock$House;I)I"⟩
abbrev cX2_lateDoings : ByteArray := prog_4_method_7_code
def yX2_lateDoings : MethodName := ⟨RX2, "lateDoings", "(LHeedClock$House;)I"⟩
abbrev cX2_latestBegin : ByteArray := prog_4_method_8_code
def yX2_latestBegin : MethodName := ⟨RX2, "latestBegin", "(LHeedClock$House;I)I"⟩
abbrev cX2_fewestToBeHushed : ByteArray := prog_4_method_9_code
def yX2_fewestToBeHushed : MethodName := ⟨RX2, "fewestToBeHushed", "(LHeedClock$House;II)I"⟩
abbrev cX2_fewestToBeCalled : ByteArray := prog_4_method_10_code
def yX2_fewestToBeCalled : MethodName := ⟨RX2, "fewestToBeCalled", "(LHeedClock$House;II)I"⟩
abbrev cX2_isFewer : ByteArray := prog_4_method_11_code
def yX2_isFewer : MethodName := ⟨RX2, "isFewer", "(II)Z"⟩
abbrev cX2_goesSo : ByteArray := prog_4_method_12_code
def yX2_goesSo : MethodName := ⟨RX2, "goesSo", "(LHeedClock$House;ILHeedClock$Rows;III)Z"⟩
abbrev cX2_setsThatGoSo : ByteArray := prog_4_method_13_code
def yX2_setsThatGoSo : MethodName := ⟨RX2, "setsThatGoSo", "(LHeedClock$House;LHeedClock$Rows;III)J"⟩
abbrev cX2_heedsThatGoSo : ByteArray := prog_4_method_14_code
def yX2_heedsThatGoSo : MethodName := ⟨RX2, "heedsThatGoSo", "(LHeedClock$House;ILHeedClock$Rows;III)I"⟩
abbrev cX2_livedAfter : ByteArray := prog_4_method_15_code
def yX2_livedAfter : MethodName := ⟨RX2, "livedAfter", "(LHeedClock$House;II)I"⟩
abbrev cX2_chancesToGo : ByteArray := prog_4_method_16_code
def yX2_chancesToGo : MethodName := ⟨RX2, "chancesToGo", "(LHeedClock$House;II)I"⟩
abbrev cX2_chancesInAll : ByteArray := prog_4_method_17_code
def yX2_chancesInAll : MethodName := ⟨RX2, "chancesInAll", "(LHeedClock$House;)I"⟩
abbrev cX2_power : ByteArray := prog_4_method_18_code
def yX2_power : MethodName := ⟨RX2, "power", "(II)I"⟩
def RX3 : String := "HeedClock$House"
def TX3 : u_T := fun k => match k with
  | 0 => ("HeedClock$House", "stands", "Z", false)
  | 1 => ("HeedClock$House", "wool", "I", false)
  | 2 => ("HeedClock$House", "quarter", "I", false)
  | 3 => ("HeedClock$House", "parts", "I", false)
  | 4 => ("HeedClock$House", "hushed", "I", false)
  | 5 => ("HeedClock$House", "ears", "I", false)
  | 6 => ("HeedClock$House", "doings", "I", false)
  | 7 => ("HeedClock$House", "kinds", "[I", true)
  | 8 => ("HeedClock$House", "heeds", "[I", true)
  | 9 => ("HeedClock$House", "rooms", "[I", true)
  | 10 => ("HeedClock$House", "froms", "[I", true)
  | 11 => ("HeedClock$House", "longs", "[I", true)
  | 12 => ("HeedClock$House", "lived", "[I", true)
  | 13 => ("HeedClock$House", "begins", "[I", true)
  | 14 => ("HeedClock$House", "needs", "[I", true)
  | 15 => ("HeedClock$House", "dues", "[I", true)
  | _ => ("HeedClock$House", "goneBy", "[I", true)
def tyX3 : Nat → FieldType := fun k => match k with
  | 0 => .boolean
  | 1 => .int
  | 2 => .int
  | 3 => .int
  | 4 => .int
  | 5 => .int
  | 6 => .int
  | 7 => .array .int
  | 8 => .array .int
  | 9 => .array .int
  | 10 => .array .int
  | 11 => .array .int
  | 12 => .array .int
  | 13 => .array .int
  | 14 => .array .int
  | 15 => .array .int
  | _ => .array .int
abbrev wsX30 : List Cond := u_ws RX3 TX3 17
theorem nmX3 : ∀ a, a < 17 → ∀ b, b < 17 → a ≠ b → (TX3 a).2.1 ≠ (TX3 b).2.1 := by decide +kernel
theorem tyX3_ok : ∀ k, k < 17 → parseFieldDescriptor (TX3 k).2.2.1 = some (tyX3 k) := by decide +kernel
abbrev cX3_init : ByteArray := prog_5_method_1_code
def yX3_init : MethodName := ⟨RX3, "<init>", "()V"⟩
abbrev cX3_hasEar : ByteArray := prog_5_method_2_code
def yX3_hasEar : MethodName := ⟨RX3, "hasEar", "(I)Z"⟩
abbrev cX3_hasDoing : ByteArray := prog_5_method_3_code
def yX3_hasDoing : MethodName := ⟨RX3, "hasDoing", "(I)Z"⟩
abbrev cX3_settle : ByteArray := prog_5_method_4_code
def yX3_settle : MethodName := ⟨RX3, "settle", "(LHeedClock$Tape;)V"⟩
abbrev cX3_settleEars : ByteArray := prog_5_method_5_code
def yX3_settleEars : MethodName := ⟨RX3, "settleEars", "(LHeedClock$Tape;)V"⟩
abbrev cX3_settleDoings : ByteArray := prog_5_method_6_code
def yX3_settleDoings : MethodName := ⟨RX3, "settleDoings", "(LHeedClock$Tape;)V"⟩
abbrev cX3_becomeLike : ByteArray := prog_5_method_7_code
def yX3_becomeLike : MethodName := ⟨RX3, "becomeLike", "(LHeedClock$House;)V"⟩
abbrev cX3_isHushed : ByteArray := prog_5_method_8_code
def yX3_isHushed : MethodName := ⟨RX3, "isHushed", "(I)Z"⟩
abbrev cX3_setHushed : ByteArray := prog_5_method_9_code
def yX3_setHushed : MethodName := ⟨RX3, "setHushed", "(IZ)V"⟩
abbrev cX3_isInClockRoom : ByteArray := prog_5_method_10_code
def yX3_isInClockRoom : MethodName := ⟨RX3, "isInClockRoom", "(I)Z"⟩
abbrev cX3_inClockRoom : ByteArray := prog_5_method_11_code
def yX3_inClockRoom : MethodName := ⟨RX3, "inClockRoom", "()I"⟩
abbrev cX3_attending : ByteArray := prog_5_method_12_code
def yX3_attending : MethodName := ⟨RX3, "attending", "()I"⟩
abbrev cX3_allSets : ByteArray := prog_5_method_13_code
def yX3_allSets : MethodName := ⟨RX3, "allSets", "()I"⟩
abbrev cX3_isIn : ByteArray := prog_5_method_14_code
def yX3_isIn : MethodName := ⟨RX3, "isIn", "(II)Z"⟩
abbrev cX3_hasItsTime : ByteArray := prog_5_method_15_code
def yX3_hasItsTime : MethodName := ⟨RX3, "hasItsTime", "(II)Z"⟩
abbrev cX3_listensNow : ByteArray := prog_5_method_16_code
def yX3_listensNow : MethodName := ⟨RX3, "listensNow", "(I)Z"⟩
abbrev cX3_listeningNow : ByteArray := prog_5_method_17_code
def yX3_listeningNow : MethodName := ⟨RX3, "listeningNow", "()I"⟩
abbrev cX3_giftOf : ByteArray := prog_5_method_18_code
def yX3_giftOf : MethodName := ⟨RX3, "giftOf", "(I)I"⟩
abbrev cX3_partsOf : ByteArray := prog_5_method_19_code
def yX3_partsOf : MethodName := ⟨RX3, "partsOf", "(II)I"⟩
abbrev cX3_widowers : ByteArray := prog_5_method_20_code
def yX3_widowers : MethodName := ⟨RX3, "widowers", "()I"⟩
abbrev cX3_areWidowersSilenced : ByteArray := prog_5_method_21_code
def yX3_areWidowersSilenced : MethodName := ⟨RX3, "areWidowersSilenced", "()Z"⟩
abbrev cX3_givesNow : ByteArray := prog_5_method_22_code
def yX3_givesNow : MethodName := ⟨RX3, "givesNow", "(I)I"⟩
abbrev cX3_passQuarter : ByteArray := prog_5_method_23_code
def yX3_passQuarter : MethodName := ⟨RX3, "passQuarter", "()V"⟩
abbrev cX3_takeQuarterBack : ByteArray := prog_5_method_24_code
def yX3_takeQuarterBack : MethodName := ⟨RX3, "takeQuarterBack", "()V"⟩
abbrev cX3_growOlder : ByteArray := prog_5_method_25_code
def yX3_growOlder : MethodName := ⟨RX3, "growOlder", "(II)V"⟩
abbrev cX3_isOver : ByteArray := prog_5_method_26_code
def yX3_isOver : MethodName := ⟨RX3, "isOver", "(I)Z"⟩
abbrev cX3_partsGoneIn : ByteArray := prog_5_method_27_code
def yX3_partsGoneIn : MethodName := ⟨RX3, "partsGoneIn", "(I)I"⟩
def RX4 : String := "HeedClock$Kinds"
def TX4 : u_T := fun k => match k with
  | _ => ("", "", "", false)
def tyX4 : Nat → FieldType := fun k => match k with
  | _ => .int
abbrev wsX40 : List Cond := u_ws RX4 TX4 0
theorem nmX4 : ∀ a, a < 0 → ∀ b, b < 0 → a ≠ b → (TX4 a).2.1 ≠ (TX4 b).2.1 := by decide +kernel
theorem tyX4_ok : ∀ k, k < 0 → parseFieldDescriptor (TX4 k).2.2.1 = some (tyX4 k) := by decide +kernel
abbrev cX4_isKind : ByteArray := prog_6_method_2_code
def yX4_isKind : MethodName := ⟨RX4, "isKind", "(I)Z"⟩
abbrev cX4_ofLetter : ByteArray := prog_6_method_3_code
def yX4_ofLetter : MethodName := ⟨RX4, "ofLetter", "(I)I"⟩
abbrev cX4_nearest : ByteArray := prog_6_method_4_code
def yX4_nearest : MethodName := ⟨RX4, "nearest", "(I)I"⟩
abbrev cX4_isOneOf : ByteArray := prog_6_method_5_code
def yX4_isOneOf : MethodName := ⟨RX4, "isOneOf", "(II)Z"⟩
def RX5 : String := "HeedClock$Rows"
def TX5 : u_T := fun k => match k with
  | 0 => ("HeedClock$Rows", "lanes", "[I", true)
  | 1 => ("HeedClock$Rows", "sizes", "[I", true)
  | _ => ("HeedClock$Rows", "items", "[I", true)
def tyX5 : Nat → FieldType := fun k => match k with
  | 0 => .array .int
  | 1 => .array .int
  | _ => .array .int
abbrev wsX50 : List Cond := u_ws RX5 TX5 3
theorem nmX5 : ∀ a, a < 3 → ∀ b, b < 3 → a ≠ b → (TX5 a).2.1 ≠ (TX5 b).2.1 := by decide +kernel
theorem tyX5_ok : ∀ k, k < 3 → parseFieldDescriptor (TX5 k).2.2.1 = some (tyX5 k) := by decide +kernel
abbrev cX5_init : ByteArray := prog_7_method_1_code
def yX5_init : MethodName := ⟨RX5, "<init>", "()V"⟩
abbrev cX5_isRow : ByteArray := prog_7_method_2_code
def yX5_isRow : MethodName := ⟨RX5, "isRow", "(I)Z"⟩
abbrev cX5_isLane : ByteArray := prog_7_method_3_code
def yX5_isLane : MethodName := ⟨RX5, "isLane", "(I)Z"⟩
abbrev cX5_isMissing : ByteArray := prog_7_method_4_code
def yX5_isMissing : MethodName := ⟨RX5, "isMissing", "(I)Z"⟩
abbrev cX5_findingOf : ByteArray := prog_7_method_5_code
def yX5_findingOf : MethodName := ⟨RX5, "findingOf", "(III)I"⟩
abbrev cX5_findingOfCopy : ByteArray := prog_7_method_6_code
def yX5_findingOfCopy : MethodName := ⟨RX5, "findingOfCopy", "(IIIII)I"⟩
abbrev cX5_hasPlaces : ByteArray := prog_7_method_7_code
def yX5_hasPlaces : MethodName := ⟨RX5, "hasPlaces", "(III)Z"⟩
abbrev cX5_make : ByteArray := prog_7_method_8_code
def yX5_make : MethodName := ⟨RX5, "make", "(III)V"⟩
abbrev cX5_remove : ByteArray := prog_7_method_9_code
def yX5_remove : MethodName := ⟨RX5, "remove", "(I)I"⟩
abbrev cX5_put : ByteArray := prog_7_method_10_code
def yX5_put : MethodName := ⟨RX5, "put", "(III)I"⟩
abbrev cX5_cutToLane : ByteArray := prog_7_method_11_code
def yX5_cutToLane : MethodName := ⟨RX5, "cutToLane", "(II)I"⟩
abbrev cX5_item : ByteArray := prog_7_method_12_code
def yX5_item : MethodName := ⟨RX5, "item", "(II)I"⟩
abbrev cX5_move : ByteArray := prog_7_method_13_code
def yX5_move : MethodName := ⟨RX5, "move", "(IIIII)V"⟩
abbrev cX5_present : ByteArray := prog_7_method_14_code
def yX5_present : MethodName := ⟨RX5, "present", "()I"⟩
def RX6 : String := "HeedClock$Tape"
def TX6 : u_T := fun k => match k with
  | 0 => ("HeedClock$Tape", "bytes", "[I", true)
  | 1 => ("HeedClock$Tape", "length", "I", false)
  | 2 => ("HeedClock$Tape", "fault", "I", false)
  | 3 => ("HeedClock$Tape", "at", "I", false)
  | 4 => ("HeedClock$Tape", "kinds", "[I", true)
  | 5 => ("HeedClock$Tape", "ears", "I", false)
  | 6 => ("HeedClock$Tape", "doings", "I", false)
  | 7 => ("HeedClock$Tape", "numbers", "[I", true)
  | _ => ("HeedClock$Tape", "told", "I", false)
def tyX6 : Nat → FieldType := fun k => match k with
  | 0 => .array .int
  | 1 => .int
  | 2 => .int
  | 3 => .int
  | 4 => .array .int
  | 5 => .int
  | 6 => .int
  | 7 => .array .int
  | _ => .int
abbrev wsX60 : List Cond := u_ws RX6 TX6 9
theorem nmX6 : ∀ a, a < 9 → ∀ b, b < 9 → a ≠ b → (TX6 a).2.1 ≠ (TX6 b).2.1 := by decide +kernel
theorem tyX6_ok : ∀ k, k < 9 → parseFieldDescriptor (TX6 k).2.2.1 = some (tyX6 k) := by decide +kernel
abbrev cX6_init : ByteArray := prog_8_method_1_code
def yX6_init : MethodName := ⟨RX6, "<init>", "()V"⟩
abbrev cX6_append : ByteArray := prog_8_method_2_code
def yX6_append : MethodName := ⟨RX6, "append", "(I)I"⟩
abbrev cX6_read : ByteArray := prog_8_method_3_code
def yX6_read : MethodName := ⟨RX6, "read", "()I"⟩
abbrev cX6_readHouse : ByteArray := prog_8_method_4_code
def yX6_readHouse : MethodName := ⟨RX6, "readHouse", "()V"⟩
abbrev cX6_byteHere : ByteArray := prog_8_method_5_code
def yX6_byteHere : MethodName := ⟨RX6, "byteHere", "()I"⟩
abbrev cX6_readEar : ByteArray := prog_8_method_6_code
def yX6_readEar : MethodName := ⟨RX6, "readEar", "(I)V"⟩
abbrev cX6_readDoing : ByteArray := prog_8_method_7_code
def yX6_readDoing : MethodName := ⟨RX6, "readDoing", "()V"⟩
abbrev cX6_readNumbers : ByteArray := prog_8_method_8_code
def yX6_readNumbers : MethodName := ⟨RX6, "readNumbers", "([I[I)V"⟩
abbrev cX6_readNumber : ByteArray := prog_8_method_9_code
def yX6_readNumber : MethodName := ⟨RX6, "readNumber", "(II)V"⟩
abbrev cX6_figuresHere : ByteArray := prog_8_method_10_code
def yX6_figuresHere : MethodName := ⟨RX6, "figuresHere", "()I"⟩
abbrev cX6_readSign : ByteArray := prog_8_method_11_code
def yX6_readSign : MethodName := ⟨RX6, "readSign", "(C)V"⟩
abbrev cX6_toldWool : ByteArray := prog_8_method_12_code
def yX6_toldWool : MethodName := ⟨RX6, "toldWool", "()I"⟩
abbrev cX6_toldOfEar : ByteArray := prog_8_method_13_code
def yX6_toldOfEar : MethodName := ⟨RX6, "toldOfEar", "(II)I"⟩
abbrev cX6_toldOfDoing : ByteArray := prog_8_method_14_code
def yX6_toldOfDoing : MethodName := ⟨RX6, "toldOfDoing", "(II)I"⟩
def RX7 : String := "HeedClock"
def TX7 : u_T := fun k => match k with
  | 0 => ("HeedClock", "rows", "LHeedClock$Rows;", true)
  | 1 => ("HeedClock", "tape", "LHeedClock$Tape;", true)
  | 2 => ("HeedClock", "now", "LHeedClock$House;", true)
  | 3 => ("HeedClock", "firstImage", "LHeedClock$House;", true)
  | 4 => ("HeedClock", "secondImage", "LHeedClock$House;", true)
  | 5 => ("HeedClock", "acts", "LHeedClock$Acts;", true)
  | 6 => ("HeedClock", "asks", "LHeedClock$Asks;", true)
  | 7 => ("HeedClock", "latestFault", "I", false)
  | _ => ("HeedClock", "latestFinding", "I", false)
def tyX7 : Nat → FieldType := fun k => match k with
  | 0 => .object "HeedClock$Rows"
  | 1 => .object "HeedClock$Tape"
  | 2 => .object "HeedClock$House"
  | 3 => .object "HeedClock$House"
  | 4 => .object "HeedClock$House"
  | 5 => .object "HeedClock$Acts"
  | 6 => .object "HeedClock$Asks"
  | 7 => .int
  | _ => .int
abbrev wsX70 : List Cond := u_ws RX7 TX7 9
theorem nmX7 : ∀ a, a < 9 → ∀ b, b < 9 → a ≠ b → (TX7 a).2.1 ≠ (TX7 b).2.1 := by decide +kernel
theorem tyX7_ok : ∀ k, k < 9 → parseFieldDescriptor (TX7 k).2.2.1 = some (tyX7 k) := by decide +kernel
abbrev cX7_init : ByteArray := prog_1_method_1_code
def yX7_init : MethodName := ⟨RX7, "<init>", "()V"⟩
abbrev cX7_row : ByteArray := prog_1_method_2_code
def yX7_row : MethodName := ⟨RX7, "row", "(III)I"⟩
abbrev cX7_set : ByteArray := prog_1_method_3_code
def yX7_set : MethodName := ⟨RX7, "set", "(III)I"⟩
abbrev cX7_copy : ByteArray := prog_1_method_4_code
def yX7_copy : MethodName := ⟨RX7, "copy", "(IIIII)I"⟩
abbrev cX7_drop : ByteArray := prog_1_method_5_code
def yX7_drop : MethodName := ⟨RX7, "drop", "(I)I"⟩
abbrev cX7_feed : ByteArray := prog_1_method_6_code
def yX7_feed : MethodName := ⟨RX7, "feed", "(I)I"⟩
abbrev cX7_house : ByteArray := prog_1_method_7_code
def yX7_house : MethodName := ⟨RX7, "house", "()I"⟩
abbrev cX7_fault : ByteArray := prog_1_method_8_code
def yX7_fault : MethodName := ⟨RX7, "fault", "()I"⟩
abbrev cX7_quarters : ByteArray := prog_1_method_9_code
def yX7_quarters : MethodName := ⟨RX7, "quarters", "(I)I"⟩
abbrev cX7_go : ByteArray := prog_1_method_10_code
def yX7_go : MethodName := ⟨RX7, "go", "(II)I"⟩
abbrev cX7_hush : ByteArray := prog_1_method_11_code
def yX7_hush : MethodName := ⟨RX7, "hush", "(II)I"⟩
abbrev cX7_wool : ByteArray := prog_1_method_12_code
def yX7_wool : MethodName := ⟨RX7, "wool", "(I)I"⟩
abbrev cX7_undo : ByteArray := prog_1_method_13_code
def yX7_undo : MethodName := ⟨RX7, "undo", "()I"⟩
abbrev cX7_ear : ByteArray := prog_1_method_14_code
def yX7_ear : MethodName := ⟨RX7, "ear", "(II)I"⟩
abbrev cX7_clock : ByteArray := prog_1_method_15_code
def yX7_clock : MethodName := ⟨RX7, "clock", "(I)I"⟩
abbrev cX7_ahead : ByteArray := prog_1_method_16_code
def yX7_ahead : MethodName := ⟨RX7, "ahead", "(I)I"⟩
abbrev cX7_whenShows : ByteArray := prog_1_method_17_code
def yX7_whenShows : MethodName := ⟨RX7, "whenShows", "(I)I"⟩
abbrev cX7_done : ByteArray := prog_1_method_18_code
def yX7_done : MethodName := ⟨RX7, "done", "(I)I"⟩
abbrev cX7_late : ByteArray := prog_1_method_19_code
def yX7_late : MethodName := ⟨RX7, "late", "()I"⟩
abbrev cX7_latest : ByteArray := prog_1_method_20_code
def yX7_latest : MethodName := ⟨RX7, "latest", "(I)I"⟩
abbrev cX7_toHush : ByteArray := prog_1_method_21_code
def yX7_toHush : MethodName := ⟨RX7, "toHush", "(III)I"⟩
abbrev cX7_toCall : ByteArray := prog_1_method_22_code
def yX7_toCall : MethodName := ⟨RX7, "toCall", "(III)I"⟩
abbrev cX7_who : ByteArray := prog_1_method_23_code
def yX7_who : MethodName := ⟨RX7, "who", "(IIII)I"⟩
abbrev cX7_heed : ByteArray := prog_1_method_24_code
def yX7_heed : MethodName := ⟨RX7, "heed", "(IIII)I"⟩
abbrev cX7_older : ByteArray := prog_1_method_25_code
def yX7_older : MethodName := ⟨RX7, "older", "(III)I"⟩
abbrev cX7_odds : ByteArray := prog_1_method_26_code
def yX7_odds : MethodName := ⟨RX7, "odds", "(III)I"⟩
abbrev cX7_image : ByteArray := prog_1_method_27_code
def yX7_image : MethodName := ⟨RX7, "image", "(I)I"⟩
abbrev cX7_restore : ByteArray := prog_1_method_28_code
def yX7_restore : MethodName := ⟨RX7, "restore", "(I)I"⟩
abbrev cX7_kind : ByteArray := prog_1_method_29_code
def yX7_kind : MethodName := ⟨RX7, "kind", "(I)I"⟩
abbrev cX7_as : ByteArray := prog_1_method_30_code
def yX7_as : MethodName := ⟨RX7, "as", "(II)I"⟩
abbrev cX7_ask : ByteArray := prog_1_method_31_code
def yX7_ask : MethodName := ⟨RX7, "ask", "(II)I"⟩
abbrev cX7_trace : ByteArray := prog_1_method_32_code
def yX7_trace : MethodName := ⟨RX7, "trace", "(I)I"⟩
abbrev cX7_count : ByteArray := prog_1_method_33_code
def yX7_count : MethodName := ⟨RX7, "count", "(I)I"⟩
abbrev cX7_status : ByteArray := prog_1_method_34_code
def yX7_status : MethodName := ⟨RX7, "status", "()I"⟩
abbrev cX7_found : ByteArray := prog_1_method_35_code
def yX7_found : MethodName := ⟨RX7, "found", "(I)I"⟩
abbrev cX7_foundNothing : ByteArray := prog_1_method_36_code
def yX7_foundNothing : MethodName := ⟨RX7, "foundNothing", "(I)I"⟩
abbrev cX7_imageAt : ByteArray := prog_1_method_37_code
def yX7_imageAt : MethodName := ⟨RX7, "imageAt", "(I)LHeedClock$House;"⟩
abbrev cX7_isWithin : ByteArray := prog_1_method_38_code
def yX7_isWithin : MethodName := ⟨RX7, "isWithin", "(III)Z"⟩
abbrev cX7_isGoal : ByteArray := prog_1_method_39_code
def yX7_isGoal : MethodName := ⟨RX7, "isGoal", "(III)Z"⟩
abbrev cX7_manyOrWhich : ByteArray := prog_1_method_40_code
def yX7_manyOrWhich : MethodName := ⟨RX7, "manyOrWhich", "(II)I"⟩
abbrev cX7_greatestDivisor : ByteArray := prog_1_method_41_code
def yX7_greatestDivisor : MethodName := ⟨RX7, "greatestDivisor", "(II)I"⟩
def RX8 : String := "HeedClockModel"
def TX8 : u_T := fun k => match k with
  | 0 => ("HeedClockModel", "lane", "[I", true)
  | 1 => ("HeedClockModel", "many", "[I", true)
  | 2 => ("HeedClockModel", "items", "[I", true)
  | 3 => ("HeedClockModel", "spare", "[I", true)
  | 4 => ("HeedClockModel", "status", "I", false)
  | 5 => ("HeedClockModel", "tape", "[I", true)
  | 6 => ("HeedClockModel", "taped", "I", false)
  | 7 => ("HeedClockModel", "faultKind", "I", false)
  | 8 => ("HeedClockModel", "faultPlace", "I", false)
  | 9 => ("HeedClockModel", "at", "I", false)
  | 10 => ("HeedClockModel", "start", "I", false)
  | 11 => ("HeedClockModel", "token", "I", false)
  | 12 => ("HeedClockModel", "value", "I", false)
  | 13 => ("HeedClockModel", "now", "[I", true)
  | 14 => ("HeedClockModel", "draft", "[I", true)
  | 15 => ("HeedClockModel", "past", "[I", true)
  | 16 => ("HeedClockModel", "acts", "I", false)
  | 17 => ("HeedClockModel", "images", "[I", true)
  | 18 => ("HeedClockModel", "kept", "[Z", true)
  | 19 => ("HeedClockModel", "tried", "[I", true)
  | 20 => ("HeedClockModel", "course", "[I", true)
  | 21 => ("HeedClockModel", "trace", "[I", true)
  | _ => ("HeedClockModel", "traced", "I", false)
def tyX8 : Nat → FieldType := fun k => match k with
  | 0 => .array .int
  | 1 => .array .int
  | 2 => .array .int
  | 3 => .array .int
  | 4 => .int
  | 5 => .array .int
  | 6 => .int
  | 7 => .int
  | 8 => .int
  | 9 => .int
  | 10 => .int
  | 11 => .int
  | 12 => .int
  | 13 => .array .int
  | 14 => .array .int
  | 15 => .array .int
  | 16 => .int
  | 17 => .array .int
  | 18 => .array .boolean
  | 19 => .array .int
  | 20 => .array .int
  | 21 => .array .int
  | _ => .int
abbrev wsX80 : List Cond := u_ws RX8 TX8 23
theorem nmX8 : ∀ a, a < 23 → ∀ b, b < 23 → a ≠ b → (TX8 a).2.1 ≠ (TX8 b).2.1 := by decide +kernel
theorem tyX8_ok : ∀ k, k < 23 → parseFieldDescriptor (TX8 k).2.2.1 = some (tyX8 k) := by decide +kernel
abbrev cX8_init : ByteArray := prog_10_method_1_code
def yX8_init : MethodName := ⟨RX8, "<init>", "()V"⟩
abbrev cX8_in : ByteArray := prog_10_method_3_code
def yX8_in : MethodName := ⟨RX8, "in", "(III)Z"⟩
abbrev cX8_has : ByteArray := prog_10_method_4_code
def yX8_has : MethodName := ⟨RX8, "has", "(II)Z"⟩
abbrev cX8_ones : ByteArray := prog_10_method_5_code
def yX8_ones : MethodName := ⟨RX8, "ones", "(I)I"⟩
abbrev cX8_found : ByteArray := prog_10_method_6_code
def yX8_found : MethodName := ⟨RX8, "found", "(I)I"⟩
abbrev cX8_well : ByteArray := prog_10_method_7_code
def yX8_well : MethodName := ⟨RX8, "well", "(I)I"⟩
abbrev cX8_copies : ByteArray := prog_10_method_8_code
def yX8_copies : MethodName := ⟨RX8, "copies", "([II[II)V"⟩
abbrev cX8_isRow : ByteArray := prog_10_method_9_code
def yX8_isRow : MethodName := ⟨RX8, "isRow", "(I)Z"⟩
abbrev cX8_isMissing : ByteArray := prog_10_method_10_code
def yX8_isMissing : MethodName := ⟨RX8, "isMissing", "(I)Z"⟩
abbrev cX8_cut : ByteArray := prog_10_method_11_code
def yX8_cut : MethodName := ⟨RX8, "cut", "(II)I"⟩
abbrev cX8_row : ByteArray := prog_10_method_12_code
def yX8_row : MethodName := ⟨RX8, "row", "(III)I"⟩
abbrev cX8_set : ByteArray := prog_10_method_13_code
def yX8_set : MethodName := ⟨RX8, "set", "(III)I"⟩
abbrev cX8_isPart : ByteArray := prog_10_method_14_code
def yX8_isPart : MethodName := ⟨RX8, "isPart", "(III)Z"⟩
abbrev cX8_copy : ByteArray := prog_10_method_15_code
def yX8_copy : MethodName := ⟨RX8, "copy", "(IIIII)I"⟩
abbrev cX8_drop : ByteArray := prog_10_method_16_code
def yX8_drop : MethodName := ⟨RX8, "drop", "(I)I"⟩
abbrev cX8_feed : ByteArray := prog_10_method_17_code
def yX8_feed : MethodName := ⟨RX8, "feed", "(I)I"⟩
abbrev cX8_byteAt : ByteArray := prog_10_method_18_code
def yX8_byteAt : MethodName := ⟨RX8, "byteAt", "(I)I"⟩
abbrev cX8_advances : ByteArray := prog_10_method_19_code
def yX8_advances : MethodName := ⟨RX8, "advances", "()V"⟩
abbrev cX8_isWell : ByteArray := prog_10_method_20_code
def yX8_isWell : MethodName := ⟨RX8, "isWell", "()Z"⟩
abbrev cX8_takes : ByteArray := prog_10_method_21_code
def yX8_takes : MethodName := ⟨RX8, "takes", "(ZI)I"⟩
abbrev cX8_figure : ByteArray := prog_10_method_22_code
def yX8_figure : MethodName := ⟨RX8, "figure", "(II)I"⟩
abbrev cX8_kindOf : ByteArray := prog_10_method_23_code
def yX8_kindOf : MethodName := ⟨RX8, "kindOf", "(I)I"⟩
abbrev cX8_next : ByteArray := prog_10_method_24_code
def yX8_next : MethodName := ⟨RX8, "next", "(II)I"⟩
abbrev cX8_readsEar : ByteArray := prog_10_method_25_code
def yX8_readsEar : MethodName := ⟨RX8, "readsEar", "()V"⟩
abbrev cX8_readsDoing : ByteArray := prog_10_method_26_code
def yX8_readsDoing : MethodName := ⟨RX8, "readsDoing", "()V"⟩
abbrev cX8_house : ByteArray := prog_10_method_27_code
def yX8_house : MethodName := ⟨RX8, "house", "()I"⟩
abbrev cX8_fault : ByteArray := prog_10_method_28_code
def yX8_fault : MethodName := ⟨RX8, "fault", "()I"⟩
abbrev cX8_isHouse : ByteArray := prog_10_method_29_code
def yX8_isHouse : MethodName := ⟨RX8, "isHouse", "()Z"⟩
abbrev cX8_isEar : ByteArray := prog_10_method_30_code
def yX8_isEar : MethodName := ⟨RX8, "isEar", "(I)Z"⟩
abbrev cX8_isDoing : ByteArray := prog_10_method_31_code
def yX8_isDoing : MethodName := ⟨RX8, "isDoing", "(I)Z"⟩
abbrev cX8_listens : ByteArray := prog_10_method_32_code
def yX8_listens : MethodName := ⟨RX8, "listens", "([II)Z"⟩
abbrev cX8_listening : ByteArray := prog_10_method_33_code
def yX8_listening : MethodName := ⟨RX8, "listening", "([I)I"⟩
abbrev cX8_heedOf : ByteArray := prog_10_method_34_code
def yX8_heedOf : MethodName := ⟨RX8, "heedOf", "([II)I"⟩
abbrev cX8_given : ByteArray := prog_10_method_35_code
def yX8_given : MethodName := ⟨RX8, "given", "([IIZ)I"⟩
abbrev cX8_goesBy : ByteArray := prog_10_method_36_code
def yX8_goesBy : MethodName := ⟨RX8, "goesBy", "([II)I"⟩
abbrev cX8_goes : ByteArray := prog_10_method_37_code
def yX8_goes : MethodName := ⟨RX8, "goes", "([I)I"⟩
abbrev cX8_passes : ByteArray := prog_10_method_38_code
def yX8_passes : MethodName := ⟨RX8, "passes", "([I)V"⟩
abbrev cX8_partsIn : ByteArray := prog_10_method_39_code
def yX8_partsIn : MethodName := ⟨RX8, "partsIn", "(I)I"⟩
abbrev cX8_notes : ByteArray := prog_10_method_40_code
def yX8_notes : MethodName := ⟨RX8, "notes", "()V"⟩
abbrev cX8_quarters : ByteArray := prog_10_method_41_code
def yX8_quarters : MethodName := ⟨RX8, "quarters", "(I)I"⟩
abbrev cX8_go : ByteArray := prog_10_method_42_code
def yX8_go : MethodName := ⟨RX8, "go", "(II)I"⟩
abbrev cX8_hushed : ByteArray := prog_10_method_43_code
def yX8_hushed : MethodName := ⟨RX8, "hushed", "()I"⟩
abbrev cX8_hush : ByteArray := prog_10_method_44_code
def yX8_hush : MethodName := ⟨RX8, "hush", "(II)I"⟩
abbrev cX8_wool : ByteArray := prog_10_method_45_code
def yX8_wool : MethodName := ⟨RX8, "wool", "(I)I"⟩
abbrev cX8_undo : ByteArray := prog_10_method_46_code
def yX8_undo : MethodName := ⟨RX8, "undo", "()I"⟩
abbrev cX8_givesNow : ByteArray := prog_10_method_47_code
def yX8_givesNow : MethodName := ⟨RX8, "givesNow", "(I)I"⟩
abbrev cX8_ear : ByteArray := prog_10_method_48_code
def yX8_ear : MethodName := ⟨RX8, "ear", "(II)I"⟩
abbrev cX8_clock : ByteArray := prog_10_method_49_code
def yX8_clock : MethodName := ⟨RX8, "clock", "(I)I"⟩
abbrev cX8_ahead : ByteArray := prog_10_method_50_code
def yX8_ahead : MethodName := ⟨RX8, "ahead", "(I)I"⟩
abbrev cX8_lays : ByteArray := prog_10_method_51_code
def yX8_lays : MethodName := ⟨RX8, "lays", "()V"⟩
abbrev cX8_whenShows : ByteArray := prog_10_method_52_code
def yX8_whenShows : MethodName := ⟨RX8, "whenShows", "(I)I"⟩
abbrev cX8_done : ByteArray := prog_10_method_53_code
def yX8_done : MethodName := ⟨RX8, "done", "(I)I"⟩
abbrev cX8_late : ByteArray := prog_10_method_54_code
def yX8_late : MethodName := ⟨RX8, "late", "()I"⟩
abbrev cX8_latest : ByteArray := prog_10_method_55_code
def yX8_latest : MethodName := ⟨RX8, "latest", "(I)I"⟩
abbrev cX8_told : ByteArray := prog_10_method_56_code
def yX8_told : MethodName := ⟨RX8, "told", "(II)I"⟩
abbrev cX8_toHush : ByteArray := prog_10_method_57_code
def yX8_toHush : MethodName := ⟨RX8, "toHush", "(III)I"⟩
abbrev cX8_toCall : ByteArray := prog_10_method_58_code
def yX8_toCall : MethodName := ⟨RX8, "toCall", "(III)I"⟩
abbrev cX8_goesSo : ByteArray := prog_10_method_59_code
def yX8_goesSo : MethodName := ⟨RX8, "goesSo", "(II)Z"⟩
abbrev cX8_who : ByteArray := prog_10_method_60_code
def yX8_who : MethodName := ⟨RX8, "who", "(IIII)I"⟩
abbrev cX8_heed : ByteArray := prog_10_method_61_code
def yX8_heed : MethodName := ⟨RX8, "heed", "(IIII)I"⟩
abbrev cX8_older : ByteArray := prog_10_method_62_code
def yX8_older : MethodName := ⟨RX8, "older", "(III)I"⟩
abbrev cX8_odds : ByteArray := prog_10_method_63_code
def yX8_odds : MethodName := ⟨RX8, "odds", "(III)I"⟩
abbrev cX8_image : ByteArray := prog_10_method_64_code
def yX8_image : MethodName := ⟨RX8, "image", "(I)I"⟩
abbrev cX8_restore : ByteArray := prog_10_method_65_code
def yX8_restore : MethodName := ⟨RX8, "restore", "(I)I"⟩
abbrev cX8_kindIn : ByteArray := prog_10_method_66_code
def yX8_kindIn : MethodName := ⟨RX8, "kindIn", "(I)I"⟩
abbrev cX8_kind : ByteArray := prog_10_method_67_code
def yX8_kind : MethodName := ⟨RX8, "kind", "(I)I"⟩
abbrev cX8_as : ByteArray := prog_10_method_68_code
def yX8_as : MethodName := ⟨RX8, "as", "(II)I"⟩
abbrev cX8_begins : ByteArray := prog_10_method_69_code
def yX8_begins : MethodName := ⟨RX8, "begins", "(I)V"⟩
abbrev cX8_personMark : ByteArray := prog_10_method_70_code
def yX8_personMark : MethodName := ⟨RX8, "personMark", "(I)I"⟩
abbrev cX8_catSize : ByteArray := prog_10_method_71_code
def yX8_catSize : MethodName := ⟨RX8, "catSize", "(I)I"⟩
abbrev cX8_personSize : ByteArray := prog_10_method_72_code
def yX8_personSize : MethodName := ⟨RX8, "personSize", "(I)I"⟩
abbrev cX8_catMark : ByteArray := prog_10_method_73_code
def yX8_catMark : MethodName := ⟨RX8, "catMark", "(I)I"⟩
abbrev cX8_ask : ByteArray := prog_10_method_74_code
def yX8_ask : MethodName := ⟨RX8, "ask", "(II)I"⟩
abbrev cX8_trace : ByteArray := prog_10_method_75_code
def yX8_trace : MethodName := ⟨RX8, "trace", "(I)I"⟩
abbrev cX8_count : ByteArray := prog_10_method_76_code
def yX8_count : MethodName := ⟨RX8, "count", "(I)I"⟩
abbrev cX8_status : ByteArray := prog_10_method_77_code
def yX8_status : MethodName := ⟨RX8, "status", "()I"⟩
def RJx145de : String := "java/io/Serializable"
def RJxb160c : String := "java/lang/Comparable"
def RJ6 : String := "java/lang/Integer"
abbrev cJ6_numberOfTrailingZeros_0f7a4 : ByteArray := prog_11_method_48_code
def yJ6_numberOfTrailingZeros_0f7a4 : MethodName := ⟨RJ6, "numberOfTrailingZeros", "(I)I"⟩
abbrev cJ6_bitCount_0f7a4 : ByteArray := prog_11_method_49_code
def yJ6_bitCount_0f7a4 : MethodName := ⟨RJ6, "bitCount", "(I)I"⟩
def RJ13 : String := "java/lang/Long"
abbrev cJ13_numberOfTrailingZeros_95d88 : ByteArray := prog_12_method_49_code
def yJ13_numberOfTrailingZeros_95d88 : MethodName := ⟨RJ13, "numberOfTrailingZeros", "(J)I"⟩
abbrev cJ13_bitCount_95d88 : ByteArray := prog_12_method_50_code
def yJ13_bitCount_95d88 : MethodName := ⟨RJ13, "bitCount", "(J)I"⟩
def RJ9 : String := "java/lang/Math"
abbrev cJ9_max_7cf53 : ByteArray := prog_13_method_65_code
def yJ9_max_7cf53 : MethodName := ⟨RJ9, "max", "(II)I"⟩
def RJxd2413 : String := "java/lang/Number"
def RJ10 : String := "java/lang/System"
def RJxfd54e : String := "java/lang/constant/Constable"
def RJx3cf43 : String := "java/lang/constant/ConstantDesc"
def RJ7 : String := "java/util/Arrays"
abbrev cJ7_rangeCheck_23922 : ByteArray := prog_16_method_30_code
def yJ7_rangeCheck_23922 : MethodName := ⟨RJ7, "rangeCheck", "(III)V"⟩
abbrev cJ7_fill_53178 : ByteArray := prog_16_method_103_code
def yJ7_fill_53178 : MethodName := ⟨RJ7, "fill", "([II)V"⟩
abbrev cJ7_fill_fda19 : ByteArray := prog_16_method_104_code
def yJ7_fill_fda19 : MethodName := ⟨RJ7, "fill", "([IIII)V"⟩
def RL : String := "HeedClockLaw"
abbrev cL_law : ByteArray := code
set_option maxRecDepth 20000 in
theorem inX0 : ∀ w ∈ wsX00, w ∈ lw_tbl := by decide +kernel
set_option maxRecDepth 20000 in
theorem inX1 : ∀ w ∈ wsX10, w ∈ lw_tbl := by decide +kernel
set_option maxRecDepth 20000 in
theorem inX2 : ∀ w ∈ wsX20, w ∈ lw_tbl := by decide +kernel
set_option maxRecDepth 20000 in
theorem inX3 : ∀ w ∈ wsX30, w ∈ lw_tbl := by decide +kernel
set_option maxRecDepth 20000 in
theorem inX4 : ∀ w ∈ wsX40, w ∈ lw_tbl := by decide +kernel
set_option maxRecDepth 20000 in
theorem inX5 : ∀ w ∈ wsX50, w ∈ lw_tbl := by decide +kernel
set_option maxRecDepth 20000 in
theorem inX6 : ∀ w ∈ wsX60, w ∈ lw_tbl := by decide +kernel
set_option maxRecDepth 20000 in
theorem inX7 : ∀ w ∈ wsX70, w ∈ lw_tbl := by decide +kernel
set_option maxRecDepth 20000 in
theorem inX8 : ∀ w ∈ wsX80, w ∈ lw_tbl := by decide +kernel
abbrev vwCl : List vw_C := [(RX0, TX0, 4), (RX1, TX1, 6), (RX3, TX3, 17), (RX5, TX5, 3), (RX6, TX6, 9), (RX7, TX7, 9), (RX8, TX8, 23)]
